def bgP (b : Nat → Nat → Nat) (u s : Int32) (m : Nat) : Bool := decide (nI (b 9 m) = u) && decide (nI (b 10 m) = s)
def bgB (g : Nat → Nat) (b : Nat → Nat → Nat) (u s : Int32) : Bool := exB (bgP b u s) (g 5) 0
def mst (g : Nat → Nat) (b : Nat → Nat → Nat) (m : Nat) : Nat := if 0 < g 2 ∧ g 2 < max 1 (b 11 m) then g 2 else max 1 (b 11 m)
def eof (g : Nat → Nat) (b : Nat → Nat → Nat) (m : Nat) : Nat := if mst g b m < b 11 m then 2 else 0
/-- what every state of the reference keeps -/
def IvM (g : Nat → Nat) (b : Nat → Nat → Nat) : Prop :=
  (∀ j, b 0 j < 6) ∧ (∀ j, b 4 j < 6) ∧ (∀ j, b 8 j < 6) ∧ (∀ j, b 9 j < 20) ∧ (∀ j, b 10 j < 10000) ∧ (∀ j, b 11 j < 100) ∧ (∀ j, b 12 j < 10) ∧ (∀ j, b 13 j < 6) ∧ (∀ j, b 14 j < 2) ∧ (∀ j, b 15 j = NONE ∨ b 15 j < 60) ∧ (∀ j, b 16 j < 10000) ∧ (∀ j, b 17 j < 10) ∧ g 1 ≤ 1000 ∧ g 2 ≤ 1000 ∧ g 3 ≤ 20 ∧ g 4 ≤ 8 ∧ g 5 ≤ 60
theorem n_lt {x : Nat} {P Q : Prop} (hx : x = NONE ∨ x < 60) (f : x = NONE → P) (h : x < 60 → Q) : (k_cnd .lt (nI x) 0 → P) ∧ (k_cnf .lt (nI x) 0 → Q) := by
  rcases hx with h1 | h1
  · refine ⟨fun _ => f h1, fun q => ?_⟩
    exfalso
    apply q
    rw [h1, ← neg1]
    decide
  · exact z_lt (by omega) (h h1)
theorem n_ge {x : Nat} {P Q : Prop} (hx : x = NONE ∨ x < 60) (f : x < 60 → P) (h : x = NONE → Q) : (k_cnd .ge (nI x) 0 → P) ∧ (k_cnf .ge (nI x) 0 → Q) := by
  rcases hx with h1 | h1
  · refine ⟨fun q => ?_, fun _ => h h1⟩
    exfalso
    have q2 : (0 : Int32) ≤ nI x := q
    rw [h1, ← neg1] at q2
    exact absurd q2 (by decide)
  · exact z_ge (by omega) (f h1)
section ME5
variable {g : Nat → Nat} {b : Nat → Nat → Nat} {F : Nat → Int32} {A : Nat → Nat → Int32} {o : Nat → Int64} {x y z w v : Int32}
theorem m3_isNear : k_Met Y3_isNear [.int x, .int y, .int z, .int w, .int v] (hY g b F A o) (.inl (some (.int (bB (decide ((x - z) * (x - z) + (y - w) * (y - w) ≤ v * v))))), hY g b F A o, 0, 0) := by
  refine k_intro (by decide +kernel) rfl rfl rfl ?_
  refine k_go 99 [] T3_isNear_ok (fun K hK => ?_)
  refine k_eq rfl ?_
  refine k_eq rfl ?_
  refine k_eq rfl ?_
  refine k_eq rfl ?_
  refine k_eq rfl ?_
  refine k_eq rfl ?_
  refine k_eq rfl ?_
  refine k_eq rfl ?_
  refine And.intro (fun h => ?_) (fun h => ?_)
  · refine hK _ ?_
    exact k_ireturn d3_isNear_28 rfl rfl (rbB (b := false) (decide_eq_false (Int32.not_le.mpr h))) rfl (Nat.le_of_ble_eq_true rfl) (Nat.le_of_ble_eq_true rfl)
  · refine hK _ ?_
    exact k_ireturn d3_isNear_28 rfl rfl (rbB (b := true) (decide_eq_true (Int32.not_lt.mp h))) rfl (Nat.le_of_ble_eq_true rfl) (Nat.le_of_ble_eq_true rfl)
theorem m3_begins_loop (h5 : g 5 ≤ 60) : ∀ (n i : Nat), g 5 - i = n → i ≤ g 5 → ∀ (r : Bool), r = exB (bgP b x y) n i →
    k_W Y3_begins none (.inl (some (.int (bB r))), hY g b F A o, 0, 0) (2, [(3, .int (nI i)), (0, .ref 24), (1, .int x), (2, .int y)], [], hY g b F A o, 0, 0) := by
  intro n
  induction n with
  | zero =>
    intro i hn hi r hr
    refine k_go 99 [2] T3_begins_ok (fun K hK => ?_)
    refine b_ge (a := i) (b := g 5) (by omega) (by omega) (fun h => ?_) (fun h => absurd h (by omega))
    refine hK _ ?_
    exact k_ireturn d3_begins_39 rfl rfl (rbB (b := false) hr) rfl (Nat.le_of_ble_eq_true rfl) (Nat.le_of_ble_eq_true rfl)
  | succ n ih =>
    intro i hn hi r hr
    have hr2 : r = (bgP b x y i || exB (bgP b x y) n (i + 1)) := hr
    have next : bgP b x y i = false → r = exB (bgP b x y) n (i + 1) := fun e => by rw [hr2, e, Bool.false_or]
    refine k_go 99 [2] T3_begins_ok (fun K hK => ?_)
    refine b_ge (a := i) (b := g 5) (by omega) (by omega) (fun h => absurd h (by omega)) (fun h => ?_)
    refine k_at (j := i) (by omega) ?_
    refine And.intro (fun h1 => ?_) (fun h1 => ?_)
    · have h1 : ¬ nI (b 9 i) = x := h1
      refine k_eq (z := nI (i + 1)) (nI_add i 1) ?_
      refine hK _ ?_
      exact ih (i + 1) (by omega) (by omega) r (next (by unfold bgP; rw [decide_eq_false h1]; rfl))
    · have h1 : nI (b 9 i) = x := h1
      refine k_at (j := i) (by omega) ?_
      refine And.intro (fun h2 => ?_) (fun h2 => ?_)
      · have h2 : ¬ nI (b 10 i) = y := h2
        refine k_eq (z := nI (i + 1)) (nI_add i 1) ?_
        refine hK _ ?_
        exact ih (i + 1) (by omega) (by omega) r (next (by unfold bgP; rw [decide_eq_false h2]; simp))
      · have h2 : nI (b 10 i) = y := h2
        refine hK _ ?_
        have e : bgP b x y i = true := by unfold bgP; rw [decide_eq_true h1, decide_eq_true h2]; rfl
        exact k_ireturn d3_begins_31 rfl rfl (rbB (b := true) (by rw [hr2, e]; rfl)) rfl (Nat.le_of_ble_eq_true rfl) (Nat.le_of_ble_eq_true rfl)
theorem m3_begins (h5 : g 5 ≤ 60) : k_Met Y3_begins [.ref 24, .int x, .int y] (hY g b F A o) (.inl (some (.int (bB (bgB g b x y)))), hY g b F A o, 0, 0) := by
  refine k_intro (by decide +kernel) rfl rfl rfl ?_
  refine k_go 99 [2] T3_begins_ok (fun K hK => ?_)
  refine hK _ ?_
  exact m3_begins_loop h5 (g 5) 0 (by omega) (by omega) _ rfl
def adB (g : Nat → Nat) (b : Nat → Nat → Nat) (u s n r : Nat) : Nat → Nat → Nat := up2 (up2 (up2 (up2 (up2 b 9 (g 5) u) 10 (g 5) s) 11 (g 5) n) 12 (g 5) r) 13 (g 5) (b 4 u)
theorem m3_add {u s n r : Nat} (hu : u < 20) (h5 : g 5 < 60) : k_Met Y3_add [.ref 24, .int (nI u), .int (nI s), .int (nI n), .int (nI r)] (hY g b F A o) (.inl (some (.int (nI (g 5)))), hY (up1 g 5 (g 5 + 1)) (adB g b u s n r) F A o, 0, 0) := by
  refine k_intro (by decide +kernel) rfl rfl rfl ?_
  refine k_go 99 [] T3_add_ok (fun K hK => ?_)
  refine k_at h5 ?_
  refine k_at h5 ?_
  refine k_at h5 ?_
  refine k_at h5 ?_
  refine k_at (j := u) hu ?_
  refine k_at h5 ?_
  refine k_eq (z := nI (g 5 + 1)) (nI_add _ 1) ?_
  refine k_eq (z := nI (g 5)) (nI_pred _) ?_
  refine hK _ ?_
  exact k_ireturn d3_add_72 rfl rfl rfl (hY_eq (cF_up' (f := g) rfl) (cA_up' (cA_up' (cA_up' (cA_up' (cA_up' (a := b) rfl rfl) rfl) rfl) rfl) rfl)).symm (Nat.le_of_ble_eq_true rfl) (Nat.le_of_ble_eq_true rfl)
theorem m3_most (I : IvM g b) {m : Nat} (hm : m < 60) : k_Met Y3_most [.ref 24, .int (nI m)] (hY g b F A o) (.inl (some (.int (nI (mst g b m)))), hY g b F A o, 0, 0) := by
  have h11 := I.2.2.2.2.2.1 m
  have h2 := I.2.2.2.2.2.2.2.2.2.2.2.2.2.1
  have tail : ∀ n : Nat, n = max 1 (b 11 m) → k_W Y3_most none (.inl (some (.int (nI (mst g b m)))), hY g b F A o, 0, 0) (19, [(0, .ref 24), (1, .int (nI m))], [.int (nI n)], hY g b F A o, 0, 0) := by
    intro n hn
    have e0 : ¬ (0 < g 2 ∧ g 2 < max 1 (b 11 m)) → mst g b m = n := fun h => by rw [hn]; exact if_neg h
    have e1 : 0 < g 2 ∧ g 2 < max 1 (b 11 m) → mst g b m = g 2 := fun h => if_pos h
    generalize mst g b m = r at e0 e1
    refine k_go 99 [] T3_most_ok (fun K hK => ?_)
    refine z_le (a := g 2) (by omega) (fun h => ?_) (fun h => ?_)
    · refine hK _ ?_
      exact k_ireturn d3_most_43 rfl rfl (rnN (e0 (by omega))) rfl (Nat.le_of_ble_eq_true rfl) (Nat.le_of_ble_eq_true rfl)
    · refine b_ge (a := g 2) (b := n) (by omega) (by omega) (fun h3 => ?_) (fun h3 => ?_)
      · refine hK _ ?_
        exact k_ireturn d3_most_43 rfl rfl (rnN (e0 (by omega))) rfl (Nat.le_of_ble_eq_true rfl) (Nat.le_of_ble_eq_true rfl)
      · refine hK _ ?_
        exact k_ireturn d3_most_43 rfl rfl (rnN (e1 (by omega))) rfl (Nat.le_of_ble_eq_true rfl) (Nat.le_of_ble_eq_true rfl)
  refine k_intro (by decide +kernel) rfl rfl rfl ?_
  refine k_go 99 [19] T3_most_ok (fun K hK => ?_)
  refine k_at hm ?_
  refine z_le (a := b 11 m) (by omega) (fun h => ?_) (fun h => ?_)
  · refine hK _ ?_
    exact tail 1 (by omega)
  · refine k_at hm ?_
    refine hK _ ?_
    exact tail (b 11 m) (by omega)
theorem mst_lt (I : IvM g b) (m : Nat) : mst g b m < 10000 := by
  have h11 := I.2.2.2.2.2.1 m
  have h2 := I.2.2.2.2.2.2.2.2.2.2.2.2.2.1
  unfold mst
  split <;> omega
theorem m3_endOf (I : IvM g b) {m : Nat} (hm : m < 60) : k_Met Y3_endOf [.ref 24, .int (nI m)] (hY g b F A o) (.inl (some (.int (nI (eof g b m)))), hY g b F A o, 0, 0) := by
  have h11 := I.2.2.2.2.2.1 m
  have h1 := mst_lt I m
  refine k_intro (by decide +kernel) rfl rfl rfl ?_
  refine k_go 99 [] T3_endOf_ok (fun K hK => ?_)
  refine hK _ ?_
  refine k_callV (Y' := Y3_most) (as := [.int (nI m)]) (st := []) (m3_most I hm) rfl c3_122 rfl rfl rfl d3_endOf_2 (Nat.le_of_ble_eq_true rfl) (Nat.le_of_ble_eq_true rfl) rfl rfl ?_
  refine k_go 99 [] T3_endOf_ok (fun K hK => ?_)
  refine k_at hm ?_
  refine b_ge (a := mst g b m) (b := b 11 m) (by omega) (by omega) (fun h => ?_) (fun h => ?_)
  · refine hK _ ?_
    exact k_ireturn d3_endOf_19 rfl rfl (rnN (b := 0) (by unfold eof; rw [if_neg (by omega)])) rfl (Nat.le_of_ble_eq_true rfl) (Nat.le_of_ble_eq_true rfl)
  · refine hK _ ?_
    exact k_ireturn d3_endOf_19 rfl rfl (rnN (b := 2) (by unfold eof; rw [if_pos h])) rfl (Nat.le_of_ble_eq_true rfl) (Nat.le_of_ble_eq_true rfl)
def rrP (b : Nat → Nat → Nat) (s u c r : Nat) : Bool := decide (b 0 (b 8 r) = c) && decide (nearI (b 1 s) (b 2 s) (b 5 r) (b 6 r) (b 3 s)) && decide (nearI (b 5 r) (b 6 r) (b 1 u) (b 2 u) (b 7 r))
def rrB (g : Nat → Nat) (b : Nat → Nat → Nat) (s u c : Nat) : Bool := decide (nearI (b 1 s) (b 2 s) (b 1 u) (b 2 u) (b 3 s)) || exB (rrP b s u c) (g 4) 0
theorem m3_reaches_loop (I : IvM g b) {s u c : Nat} (hs : s < 20) (hu : u < 20) (hc : c < 10000) : ∀ (n i : Nat), g 4 - i = n → i ≤ g 4 → ∀ (r : Bool), r = exB (rrP b s u c) n i →
    k_W Y3_reaches none (.inl (some (.int (bB r))), hY g b F A o, 0, 0) (41, [(4, .int (nI i)), (0, .ref 24), (1, .int (nI s)), (2, .int (nI u)), (3, .int (nI c))], [], hY g b F A o, 0, 0) := by
  have h4 := I.2.2.2.2.2.2.2.2.2.2.2.2.2.2.2.1
  intro n
  induction n with
  | zero =>
    intro i hn hi r hr
    refine k_go 99 [41] T3_reaches_ok (fun K hK => ?_)
    refine b_ge (a := i) (b := g 4) (by omega) (by omega) (fun h => ?_) (fun h => absurd h (by omega))
    refine hK _ ?_
    exact k_ireturn d3_reaches_155 rfl rfl (rbB (b := false) hr) rfl (Nat.le_of_ble_eq_true rfl) (Nat.le_of_ble_eq_true rfl)
  | succ n ih =>
    intro i hn hi r hr
    have hr2 : r = (rrP b s u c i || exB (rrP b s u c) n (i + 1)) := hr
    have h0 := I.1 (b 8 i)
    have next : rrP b s u c i = false → k_W Y3_reaches none (.inl (some (.int (bB r))), hY g b F A o, 0, 0) (148, [(4, .int (nI i)), (0, .ref 24), (1, .int (nI s)), (2, .int (nI u)), (3, .int (nI c))], [], hY g b F A o, 0, 0) := by
      intro e
      rw [e, Bool.false_or] at hr2
      refine k_go 99 [41] T3_reaches_ok (fun K hK => ?_)
      refine k_eq (z := nI (i + 1)) (nI_add i 1) ?_
      refine hK _ ?_
      exact ih (i + 1) (by omega) (by omega) r hr2
    refine k_go 99 [41, 148] T3_reaches_ok (fun K hK => ?_)
    refine b_ge (a := i) (b := g 4) (by omega) (by omega) (fun h => absurd h (by omega)) (fun h => ?_)
    refine k_at (j := i) (by omega) ?_
    refine k_at (j := b 8 i) (I.2.2.1 i) ?_
    refine b_ne (a := b 0 (b 8 i)) (b := c) (by omega) (by omega) (fun h1 => ?_) (fun h1 => ?_)
    · refine hK _ ?_
      exact next (by simp [rrP, h1])
    · refine k_at (j := s) hs ?_
      refine k_at (j := s) hs ?_
      refine k_at (j := i) (by omega) ?_
      refine k_at (j := i) (by omega) ?_
      refine k_at (j := s) hs ?_
      refine hK _ ?_
      refine k_callS (Y' := Y3_isNear) (as := [.int (nI (b 1 s)), .int (nI (b 2 s)), .int (nI (b 5 i)), .int (nI (b 6 i)), .int (nI (b 3 s))]) (st := []) (m3_isNear) rfl c3_133 rfl rfl d3_reaches_98 (Nat.le_of_ble_eq_true rfl) (Nat.le_of_ble_eq_true rfl) rfl rfl ?_
      refine k_go 99 [41, 148] T3_reaches_ok (fun K hK => ?_)
      refine q_ne (fun h2 => ?_) (fun h2 => ?_)
      · refine k_at (j := i) (by omega) ?_
        refine k_at (j := i) (by omega) ?_
        refine k_at (j := u) hu ?_
        refine k_at (j := u) hu ?_
        refine k_at (j := i) (by omega) ?_
        refine hK _ ?_
        refine k_callS (Y' := Y3_isNear) (as := [.int (nI (b 5 i)), .int (nI (b 6 i)), .int (nI (b 1 u)), .int (nI (b 2 u)), .int (nI (b 7 i))]) (st := []) (m3_isNear) rfl c3_133 rfl rfl d3_reaches_140 (Nat.le_of_ble_eq_true rfl) (Nat.le_of_ble_eq_true rfl) rfl rfl ?_
        refine k_go 99 [41, 148] T3_reaches_ok (fun K hK => ?_)
        refine q_eq (fun h5 => ?_) (fun h5 => ?_)
        · refine hK _ ?_
          exact next (by unfold rrP; rw [h5]; simp)
        · refine hK _ ?_
          have e : rrP b s u c i = true := by unfold rrP; rw [decide_eq_true h1, h2, h5]; rfl
          exact k_ireturn d3_reaches_147 rfl rfl (rbB (b := true) (by rw [hr2, e]; rfl)) rfl (Nat.le_of_ble_eq_true rfl) (Nat.le_of_ble_eq_true rfl)
      · refine hK _ ?_
        exact next (by unfold rrP; rw [h2]; simp)
theorem m3_reaches (I : IvM g b) {s u c : Nat} (hs : s < 20) (hu : u < 20) (hc : c < 10000) : k_Met Y3_reaches [.ref 24, .int (nI s), .int (nI u), .int (nI c)] (hY g b F A o) (.inl (some (.int (bB (rrB g b s u c)))), hY g b F A o, 0, 0) := by
  refine k_intro (by decide +kernel) rfl rfl rfl ?_
  refine k_go 99 [41] T3_reaches_ok (fun K hK => ?_)
  refine k_at (j := s) hs ?_
  refine k_at (j := s) hs ?_
  refine k_at (j := u) hu ?_
  refine k_at (j := u) hu ?_
  refine k_at (j := s) hs ?_
  refine hK _ ?_
  refine k_callS (Y' := Y3_isNear) (as := [.int (nI (b 1 s)), .int (nI (b 2 s)), .int (nI (b 1 u)), .int (nI (b 2 u)), .int (nI (b 3 s))]) (st := []) (m3_isNear) rfl c3_133 rfl rfl d3_reaches_30 (Nat.le_of_ble_eq_true rfl) (Nat.le_of_ble_eq_true rfl) rfl rfl ?_
  refine k_go 99 [41] T3_reaches_ok (fun K hK => ?_)
  refine q_eq (fun h => ?_) (fun h => ?_)
  · refine hK _ ?_
    exact m3_reaches_loop I hs hu hc (g 4) 0 (by omega) (by omega) _ (by unfold rrB; rw [h]; rfl)
  · refine hK _ ?_
    exact k_ireturn d3_reaches_37 rfl rfl (rbB (b := true) (by unfold rrB; rw [h]; rfl)) rfl (Nat.le_of_ble_eq_true rfl) (Nat.le_of_ble_eq_true rfl)
end ME5
