theorem k_sub7 {Y : k_Y} {sc : k_Sc} {G : k_G} {pc : Nat} {ls : List (Nat × Value)} {st : List Value} {h : List k_O} {nc ns : Nat} {i1 i2 i3 i4 i5 i6 i7 : Nat} {v1 v2 v3 v4 v5 v6 v7 : Value} (e1 : k_lk ls i1 = some v1) (e2 : k_lk ls i2 = some v2) (e3 : k_lk ls i3 = some v3) (e4 : k_lk ls i4 = some v4) (e5 : k_lk ls i5 = some v5) (e6 : k_lk ls i6 = some v6) (e7 : k_lk ls i7 = some v7) (k : k_W Y sc G (pc, [(i1, v1), (i2, v2), (i3, v3), (i4, v4), (i5, v5), (i6, v6), (i7, v7)], st, h, nc, ns)) : k_W Y sc G (pc, ls, st, h, nc, ns) := by
  refine k_perm (fun q hq => ?_) k
  simp only [List.mem_cons, List.not_mem_nil, or_false] at hq
  rcases hq with rfl | rfl | rfl | rfl | rfl | rfl | rfl
  · exact k_lk_mem e1
  · exact k_lk_mem e2
  · exact k_lk_mem e3
  · exact k_lk_mem e4
  · exact k_lk_mem e5
  · exact k_lk_mem e6
  · exact k_lk_mem e7
theorem stB_18 {g : Nat → Nat} {b : Nat → Nat → Nat} {s on N : Nat} {cuts : Bool} (h : ∀ j, b 18 j ≤ N) : ∀ j, (stB g b s on cuts).1 18 j ≤ N + 1 := by
  intro j
  unfold stB
  split
  · exact Nat.le_succ_of_le (h j)
  · show up1 (b 18) on (b 18 on + 1) j ≤ N + 1
    unfold up1
    split
    · have := h on; omega
    · exact Nat.le_succ_of_le (h j)
theorem some1 : some (Value.int (-1)) = some (Value.int (nI NONE)) := congrArg (fun v => some (Value.int v)) neg1
section DZ2
variable {g : Nat → Nat} {F : Nat → Int32} {A : Nat → Nat → Int32} {o : Nat → Int64}
theorem m3_day0_loop {c : Nat} (hc : c < 10000) : ∀ (n s : Nat) (b : Nat → Nat → Nat) (on nx : Nat), g 1 - s = n → s ≤ g 1 → IvM g b → okN on → okN nx → (∀ j, b 18 j ≤ 1000 + s) → ∀ (r : (Nat → Nat → Nat) × Nat × Nat), r = d0N g c n s (b, on, nx) →
    k_W Y3_day0 none (.inl none, hY g r.1 F A o, 0, 0) (7, [(4, .int (nI s)), (3, .int (nI nx)), (2, .int (nI on)), (0, .ref 24), (1, .int (nI c))], [], hY g b F A o, 0, 0) := by
  intro n
  induction n with
  | zero =>
    intro s b on nx hn hs I ho hx h18 r hr
    have h1 := I.2.2.2.2.2.2.2.2.2.2.2.2.1
    have hr1 : r = (b, on, nx) := hr
    have eb : r.1 = b := by rw [hr1]
    rw [eb]
    refine k_go 99 [7] T3_day0_ok (fun K hK => ?_)
    refine b_ge (a := s) (b := g 1) (by omega) (by omega) (fun h => ?_) (fun h => absurd h (by omega))
    refine hK _ ?_
    exact k_return d3_day0_211 rfl rfl rfl (Nat.le_of_ble_eq_true rfl) (Nat.le_of_ble_eq_true rfl)
  | succ n ih =>
    intro s b on nx hn hs I ho hx h18 r hr
    have h1 := I.2.2.2.2.2.2.2.2.2.2.2.2.1
    have h5 := I.2.2.2.2.2.2.2.2.2.2.2.2.2.2.2.2
    have hr1 : r = d0N g c n (s + 1) (d0s g c s (b, on, nx)) := hr
    have mid : ∀ (on1 : Nat) (v : Int32), on1 = (if nx = NONE then on else nx) → okN on1 → k_W Y3_day0 none (.inl none, hY g r.1 F A o, 0, 0) (22, [(4, .int (nI s)), (3, .int v), (2, .int (nI on1)), (0, .ref 24), (1, .int (nI c))], [], hY g b F A o, 0, 0) := by
      intro on1 v e1 hon1
      obtain ⟨I1, hc1⟩ := clN_ok (g := g) (c := c) (s := s) (g 5) 0 (b, NONE, true) I (by omega) (Or.inl rfl)
      have hcc : okN (clC (clr0 g b c s)) := by
        unfold clC
        split
        · exact hc1
        · exact Or.inl rfl
      have h181 := clN_18 (c := c) (s := s) (g 5) 0 (b, NONE, true) h18
      have step : ∀ (b2 : Nat → Nat → Nat) (on2 nx2 : Nat) (cuts : Bool), stA (clr0 g b c s).1 on1 (clC (clr0 g b c s)) = (b2, on2, nx2, cuts) → r = d0N g c n (s + 1) ((stB g b2 s on2 cuts).1, (stB g b2 s on2 cuts).2, nx2) := by
        intro b2 on2 nx2 cuts et
        rw [hr1]
        congr 1
        unfold d0s
        dsimp only
        rw [← e1, et]
      have I1 : IvM g (clr0 g b c s).1 := I1
      have h181 : ∀ j, (clr0 g b c s).1 18 j ≤ 1000 + s := h181
      have mcall : k_Met Y3_caller [.ref 24, .int (nI c), .int (nI s)] (hY g b F A o) (.inl (some (.int (nI (clC (clr0 g b c s))))), hY g (clr0 g b c s).1 F A o, 0, 0) := m3_caller I hc (by omega)
      generalize hq0 : clC (clr0 g b c s) = cc at hcc step mcall
      generalize hq1 : (clr0 g b c s).1 = b1 at I1 h181 step mcall
      have toB : ∀ (b2 : Nat → Nat → Nat) (on2 nx2 : Nat) (cuts : Bool), stA b1 on1 cc = (b2, on2, nx2, cuts) → IvM g b2 → okN on2 → okN nx2 → (∀ j, b2 18 j ≤ 1000 + s) → k_W Y3_day0 none (.inl none, hY g r.1 F A o, 0, 0) (86, [(6, .int (bB cuts)), (5, .int (nI cc)), (3, .int (nI nx2)), (2, .int (nI on2)), (4, .int (nI s)), (0, .ref 24), (1, .int (nI c))], [], hY g b2 F A o, 0, 0) := by
        intro b2 on2 nx2 cuts et I2 ho2 hn2 hb2
        have h9 : on2 ≠ NONE → b2 18 on2 < 9999 := fun _ => by have := hb2 on2; omega
        obtain ⟨I3, ho3⟩ := stB_ok (s := s) (cuts := cuts) I2 ho2 h9
        refine m3_day0_B I2 (by omega) ho2 h9 ?_ _ rfl
        exact ih (s + 1) _ _ nx2 (by omega) (by omega) I3 ho3 hn2 (stB_18 hb2) r (step b2 on2 nx2 cuts et)
      have hrk := I1.2.2.2.2.2.2.1
      have a1 : cc = NONE → stA b1 on1 cc = (b1, on1, NONE, false) := fun h => if_pos h
      have a2 : ¬ cc = NONE → on1 = NONE → stA b1 on1 cc = (b1, cc, NONE, false) := fun h h' => (if_neg h).trans (if_pos h')
      have a3 : ¬ cc = NONE → ¬ on1 = NONE → b1 12 on1 < b1 12 cc → stA b1 on1 cc = (up2 b1 17 cc 4, on1, cc, true) := fun h h' h'' => (if_neg h).trans ((if_neg h').trans (if_pos h''))
      have a4 : ¬ cc = NONE → ¬ on1 = NONE → ¬ b1 12 on1 < b1 12 cc → stA b1 on1 cc = (b1, on1, NONE, false) := fun h h' h'' => (if_neg h).trans ((if_neg h').trans (if_neg h''))
      have n60 : ∀ {x : Nat}, x < 60 → ¬ x = NONE := fun h q => by rw [q] at h; exact absurd h (by decide)
      clear step ih
      generalize ((.inl none, hY g r.1 F A o, 0, 0) : k_G) = G9 at toB ⊢
      refine k_go 99 [86] T3_day0_ok (fun K hK => ?_)
      refine hK _ ?_
      refine k_callV (Y' := Y3_caller) (as := [.int (nI c), .int (nI s)]) (st := []) (mcall) rfl c3_126 rfl rfl rfl d3_day0_28 (Nat.zero_le _) (Nat.zero_le _) rfl rfl ?_
      refine k_go 99 [86] T3_day0_ok (fun K hK => ?_)
      refine n_lt hcc (fun hn1 => ?_) (fun hn1 => ?_)
      · refine n_lt hcc (fun _ => ?_) (fun q => absurd hn1 (n60 q))
        refine hK _ ?_
        refine k_sub7 (i1 := 6) (i2 := 5) (i3 := 3) (i4 := 2) (i5 := 4) (i6 := 0) (i7 := 1) rfl rfl some1 rfl rfl rfl rfl ?_
        exact toB b1 on1 NONE false (a1 hn1) I1 hon1 (Or.inl rfl) h181
      · refine n_ge hon1 (fun hn2 => ?_) (fun hn2 => ?_)
        · refine n_lt hcc (fun q => absurd q (n60 hn1)) (fun _ => ?_)
          have r1 := hrk on1
          have r2 := hrk cc
          refine k_at (j := on1) hn2 ?_
          refine k_at (j := cc) hn1 ?_
          refine b_ge (a := b1 12 on1) (b := b1 12 cc) (by omega) (by omega) (fun h3 => ?_) (fun h3 => ?_)
          · refine hK _ ?_
            refine k_sub7 (i1 := 6) (i2 := 5) (i3 := 3) (i4 := 2) (i5 := 4) (i6 := 0) (i7 := 1) rfl rfl some1 rfl rfl rfl rfl ?_
            exact toB b1 on1 NONE false (a4 (n60 hn1) (n60 hn2) (by omega)) I1 hon1 (Or.inl rfl) h181
          · refine k_at (j := cc) hn1 ?_
            refine hK _ (k_heq (hY_eq rfl (cA_up b1 17 cc 4)) ?_)
            refine k_sub7 (i1 := 6) (i2 := 5) (i3 := 3) (i4 := 2) (i5 := 4) (i6 := 0) (i7 := 1) rfl rfl rfl rfl rfl rfl rfl ?_
            exact toB (up2 b1 17 cc 4) on1 cc true (a3 (n60 hn1) (n60 hn2) h3) (IvM_17 I1 (by omega)) hon1 hcc h181
        · refine hK _ ?_
          refine k_sub7 (i1 := 6) (i2 := 5) (i3 := 3) (i4 := 2) (i5 := 4) (i6 := 0) (i7 := 1) rfl rfl some1 rfl rfl rfl rfl ?_
          exact toB b1 cc NONE false (a2 (n60 hn1) hn2) I1 hcc (Or.inl rfl) h181
    clear ih hr hr1
    generalize ((.inl none, hY g r.1 F A o, 0, 0) : k_G) = G9 at mid ⊢
    refine k_go 99 [7, 22] T3_day0_ok (fun K hK => ?_)
    refine b_ge (a := s) (b := g 1) (by omega) (by omega) (fun h => absurd h (by omega)) (fun h => ?_)
    refine n_lt hx (fun hn1 => ?_) (fun hn1 => ?_)
    · exact hK _ (mid on (nI nx) (by rw [if_pos hn1]) ho)
    · refine hK _ ?_
      refine k_sub5 (i1 := 4) (i2 := 3) (i3 := 2) (i4 := 0) (i5 := 1) rfl rfl rfl rfl rfl ?_
      exact mid nx (nI nx) (by rw [if_neg (fun q => by rw [q] at hn1; exact absurd hn1 (by decide))]) hx
theorem m3_day0 {b : Nat → Nat → Nat} (I : IvM g b) (h18 : ∀ j, b 18 j ≤ 1000) {c : Nat} (hc : c < 10000) : k_Met Y3_day0 [.ref 24, .int (nI c)] (hY g b F A o) (.inl none, hY g (day0B g b c) F A o, 0, 0) := by
  refine k_intro (by decide +kernel) rfl rfl rfl ?_
  refine k_go 99 [7] T3_day0_ok (fun K hK => ?_)
  refine hK _ ?_
  refine k_sub5 (i1 := 4) (i2 := 3) (i3 := 2) (i4 := 0) (i5 := 1) rfl some1 some1 rfl rfl ?_
  exact m3_day0_loop hc (g 1) 0 b NONE NONE (by omega) (by omega) I (Or.inl rfl) (Or.inl rfl) (fun j => by have := h18 j; omega) _ rfl
end DZ2
