theorem n60 {x : Nat} (h : x < 60) : ¬ x = NONE := fun q => by rw [q] at h; exact absurd h (by decide)
theorem cl1_z {c s m : Nat} {q : k_T3} (hq : q.2.1 ≠ NONE → q.1 18 q.2.1 = 0) : (cl1 c s m q).2.1 ≠ NONE → (cl1 c s m q).1 18 (cl1 c s m q).2.1 = 0 := by
  have u0 : ∀ k, q.1 18 k = 0 → up1 (q.1 18) m 0 k = 0 := fun k h => by unfold up1; split <;> first | rfl | exact h
  unfold cl1
  split
  · split
    · intro h; show up1 (q.1 18) m 0 m = 0; unfold up1; rw [if_pos rfl]
    · intro h; exact u0 _ (hq h)
  · exact hq
theorem clN_z {c s : Nat} : ∀ (n m : Nat) (q : k_T3), (q.2.1 ≠ NONE → q.1 18 q.2.1 = 0) → (clN c s n m q).2.1 ≠ NONE → (clN c s n m q).1 18 (clN c s n m q).2.1 = 0 := by
  intro n
  induction n with
  | zero => intro m q h; exact h
  | succ n ih => intro m q h; exact ih (m + 1) _ (cl1_z h)
theorem cl1_le {c s m : Nat} {q : k_T3} (j : Nat) : (cl1 c s m q).1 18 j ≤ q.1 18 j := by
  have u0 : up1 (q.1 18) m 0 j ≤ q.1 18 j := by unfold up1; split <;> omega
  unfold cl1
  split
  · split
    · exact u0
    · exact u0
  · exact Nat.le_refl _
theorem clN_le {c s : Nat} : ∀ (n m : Nat) (q : k_T3) (j : Nat), (clN c s n m q).1 18 j ≤ q.1 18 j := by
  intro n
  induction n with
  | zero => intro m q j; exact Nat.le_refl _
  | succ n ih => intro m q j; exact Nat.le_trans (ih (m + 1) _ j) (cl1_le j)
def dIv (g : Nat → Nat) (s : Nat) (q : (Nat → Nat → Nat) × Nat × Nat) : Prop := IvM g q.1 ∧ okN q.2.1 ∧ okN q.2.2 ∧ (∀ j, q.1 18 j ≤ 1000) ∧ (q.2.1 ≠ NONE → q.1 18 q.2.1 ≤ s) ∧ (q.2.2 ≠ NONE → q.1 18 q.2.2 ≤ s)
theorem d0s_ok {g : Nat → Nat} {c s : Nat} {q : (Nat → Nat → Nat) × Nat × Nat} (hs : s < g 1) (h : dIv g s q) : dIv g (s + 1) (d0s g c s q) := by
  obtain ⟨I, ho, hx, h18, h1, h2⟩ := h
  have g1 := I.2.2.2.2.2.2.2.2.2.2.2.2.1
  have g5 := I.2.2.2.2.2.2.2.2.2.2.2.2.2.2.2.2
  obtain ⟨I1, hc1⟩ := clN_ok (g := g) (c := c) (s := s) (g 5) 0 (q.1, NONE, true) I (by omega) (Or.inl rfl)
  have z1 := clN_z (c := c) (s := s) (g 5) 0 (q.1, NONE, true) (fun h => absurd rfl h)
  have le1 := clN_le (c := c) (s := s) (g 5) 0 (q.1, NONE, true)
  have hon : okN (if q.2.2 = NONE then q.2.1 else q.2.2) := by split <;> assumption
  have hon2 : (if q.2.2 = NONE then q.2.1 else q.2.2) ≠ NONE → q.1 18 (if q.2.2 = NONE then q.2.1 else q.2.2) ≤ s := by
    split
    · exact h1
    · exact h2
  unfold d0s
  dsimp only
  generalize (if q.2.2 = NONE then q.2.1 else q.2.2) = on1 at hon hon2 ⊢
  have hcc : okN (clC (clr0 g q.1 c s)) := by
    unfold clC
    split
    · exact hc1
    · exact Or.inl rfl
  have hz : clC (clr0 g q.1 c s) ≠ NONE → (clr0 g q.1 c s).1 18 (clC (clr0 g q.1 c s)) = 0 := by
    unfold clC
    split
    · exact z1
    · intro h; exact absurd rfl h
  have le2 : ∀ j, (clr0 g q.1 c s).1 18 j ≤ q.1 18 j := le1
  have I2 : IvM g (clr0 g q.1 c s).1 := I1
  generalize clC (clr0 g q.1 c s) = cc at hcc hz ⊢
  generalize (clr0 g q.1 c s).1 = b1 at I2 hz le2 ⊢
  have on18 : on1 ≠ NONE → b1 18 on1 ≤ s := fun h => Nat.le_trans (le2 on1) (hon2 h)
  have b18 : ∀ j, b1 18 j ≤ 1000 := fun j => Nat.le_trans (le2 j) (h18 j)
  have key : ∀ (b2 : Nat → Nat → Nat) (on nx : Nat) (cuts : Bool), b2 18 = b1 18 → IvM g b2 → okN on → okN nx → (on ≠ NONE → b1 18 on ≤ s) → (nx ≠ NONE → b1 18 nx = 0) → dIv g (s + 1) ((stB g b2 s on cuts).1, (stB g b2 s on cuts).2, nx) := by
    intro b2 on nx cuts e2 J hon hnx k1 k2
    have s18 : on ≠ NONE → b2 18 on < 9999 := fun h => by have := k1 h; rw [e2]; omega
    obtain ⟨J2, ok2⟩ := stB_ok (s := s) (cuts := cuts) J hon s18
    refine ⟨J2, ok2, hnx, ?_, ?_, ?_⟩
    · intro j
      unfold stB
      split
      · show b2 18 j ≤ 1000; rw [e2]; exact b18 j
      · next h =>
        show up1 (b2 18) on (b2 18 on + 1) j ≤ 1000
        have := k1 h
        unfold up1
        split
        · rw [e2]; omega
        · rw [e2]; exact b18 j
    · unfold stB
      split
      · intro h; exact absurd rfl h
      · next h =>
        dsimp only
        split
        · intro h; exact absurd rfl h
        · intro _
          show up1 (b2 18) on (b2 18 on + 1) on ≤ s + 1
          have := k1 h
          unfold up1
          rw [if_pos rfl, e2]; omega
    · intro h
      have h0 := k2 h
      dsimp only
      unfold stB
      split
      · show b2 18 nx ≤ s + 1; rw [e2]; omega
      · next h' =>
        show up1 (b2 18) on (b2 18 on + 1) nx ≤ s + 1
        have := k1 h'
        unfold up1
        split
        · rw [e2]; omega
        · rw [e2]; omega
  unfold stA
  split
  · exact key b1 on1 NONE false rfl I2 hon (Or.inl rfl) on18 (fun h => absurd rfl h)
  · next hc =>
    split
    · exact key b1 cc NONE false rfl I2 hcc (Or.inl rfl) (fun h => by rw [hz h]; omega) (fun h => absurd rfl h)
    · split
      · exact key (up2 b1 17 cc 4) on1 cc true rfl (IvM_17 I2 (by omega)) hon hcc on18 hz
      · exact key b1 on1 NONE false rfl I2 hon (Or.inl rfl) on18 (fun h => absurd rfl h)
theorem d0N_ok {g : Nat → Nat} {c : Nat} : ∀ (n s : Nat) (q : (Nat → Nat → Nat) × Nat × Nat), s + n = g 1 → dIv g s q → dIv g (g 1) (d0N g c n s q) := by
  intro n
  induction n with
  | zero => intro s q e h; have e : s = g 1 := by omega
            rw [← e]; exact h
  | succ n ih => intro s q e h; exact ih (s + 1) _ (by omega) (d0s_ok (by omega) h)
abbrev IvD (g : Nat → Nat) (b : Nat → Nat → Nat) : Prop := IvM g b ∧ ∀ j, b 18 j ≤ 1000
theorem day0_ok {g : Nat → Nat} {b : Nat → Nat → Nat} {c : Nat} (I : IvD g b) : IvD g (day0B g b c) := by
  have h := d0N_ok (c := c) (g 1) 0 (b, NONE, NONE) (by omega) ⟨I.1, Or.inl rfl, Or.inl rfl, I.2, fun h => absurd rfl h, fun h => absurd rfl h⟩
  exact ⟨h.1, h.2.2.2.1⟩
theorem IvM_g0 {g : Nat → Nat} {b : Nat → Nat → Nat} {t : Nat} (I : IvM g b) : IvM (up1 g 0 t) b := by
  obtain ⟨h1, h2, h3, h4, h5, h6, h7, h8, h9, h10, h11, h12, h13, h14, h15, h16, h17⟩ := I
  exact ⟨h1, h2, h3, h4, h5, h6, h7, h8, h9, h10, h11, h12, h13, h14, h15, h16, h17⟩
theorem IvD_g0 {g : Nat → Nat} {b : Nat → Nat → Nat} {t : Nat} (I : IvD g b) : IvD (up1 g 0 t) b := ⟨IvM_g0 I.1, I.2⟩
def gtB (g : Nat → Nat) (b : Nat → Nat → Nat) (u s : Nat) : Bool := if b 15 s = NONE then false else decide (b 9 (b 15 s) ≠ u) && decide (b 14 s = 0) && rrB g b (b 9 (b 15 s)) u (b 0 (b 4 u))
def hdB (g : Nat → Nat) (b : Nat → Nat → Nat) (u m : Nat) : Bool := decide (b 0 (b 4 u) = b 0 (b 13 m)) && decide (0 < b 18 m) && !exB (fun s => decide (b 15 s = m) && !gtB g b u s) (g 1) 0
section MH
variable {g : Nat → Nat} {b : Nat → Nat → Nat} {F : Nat → Int32} {A : Nat → Nat → Int32} {o : Nat → Int64} {x y z w : Int32}
theorem m3_gets (I : IvM g b) {u s : Nat} (hu : u < 20) (hs : s < 1000) : k_Met Y3_gets [.ref 24, .int (nI u), .int (nI s)] (hY g b F A o) (.inl (some (.int (bB (gtB g b u s)))), hY g b F A o, 0, 0) := by
  have h15 := I.2.2.2.2.2.2.2.2.2.1 s
  have h14 := I.2.2.2.2.2.2.2.2.1 s
  have h9 := I.2.2.2.1 (b 15 s)
  have h4 := I.2.1 u
  have h0 := I.1 (b 4 u)
  have eN : b 15 s = NONE → gtB g b u s = false := fun h => if_pos h
  have e0 : b 15 s < 60 → gtB g b u s = (decide (b 9 (b 15 s) ≠ u) && decide (b 14 s = 0) && rrB g b (b 9 (b 15 s)) u (b 0 (b 4 u))) := fun h => if_neg (n60 h)
  generalize gtB g b u s = r at eN e0
  refine k_intro (by decide +kernel) rfl rfl rfl ?_
  refine k_go 99 [] T3_gets_ok (fun K hK => ?_)
  refine k_at (j := s) hs ?_
  refine n_lt h15 (fun h => ?_) (fun h => ?_)
  · refine hK _ ?_
    exact k_ireturn d3_gets_60 rfl rfl (rbB (b := false) (eN h)) rfl (Nat.le_of_ble_eq_true rfl) (Nat.le_of_ble_eq_true rfl)
  · have e0 := e0 h
    refine k_at (j := b 15 s) h ?_
    refine b_eq (a := b 9 (b 15 s)) (b := u) (by omega) (by omega) (fun h1 => ?_) (fun h1 => ?_)
    · refine hK _ ?_
      exact k_ireturn d3_gets_60 rfl rfl (rbB (b := false) (by rw [e0, decide_eq_false (fun q => q h1)]; rfl)) rfl (Nat.le_of_ble_eq_true rfl) (Nat.le_of_ble_eq_true rfl)
    · refine k_at (j := s) hs ?_
      refine z_ne (a := b 14 s) (by omega) (fun h2 => ?_) (fun h2 => ?_)
      · refine hK _ ?_
        exact k_ireturn d3_gets_60 rfl rfl (rbB (b := false) (by rw [e0, decide_eq_false (p := b 14 s = 0) (by omega)]; simp)) rfl (Nat.le_of_ble_eq_true rfl) (Nat.le_of_ble_eq_true rfl)
      · refine k_at (j := b 15 s) h ?_
        refine k_at (j := u) hu ?_
        refine k_at (j := b 4 u) h4 ?_
        refine hK _ ?_
        rw [decide_eq_true h1, decide_eq_true h2] at e0
        refine k_callV (Y' := Y3_reaches) (as := [.int (nI (b 9 (b 15 s))), .int (nI u), .int (nI (b 0 (b 4 u)))]) (st := []) (m3_reaches I h9 hu (by omega)) rfl c3_137 rfl rfl rfl d3_gets_49 (Nat.le_of_ble_eq_true rfl) (Nat.le_of_ble_eq_true rfl) rfl rfl ?_
        refine k_go 99 [] T3_gets_ok (fun K hK => ?_)
        refine q_eq (fun h3 => ?_) (fun h3 => ?_)
        · refine hK _ ?_
          exact k_ireturn d3_gets_60 rfl rfl (rbB (b := false) (by rw [e0, h3]; rfl)) rfl (Nat.le_of_ble_eq_true rfl) (Nat.le_of_ble_eq_true rfl)
        · refine hK _ ?_
          exact k_ireturn d3_gets_60 rfl rfl (rbB (b := true) (by rw [e0, h3]; rfl)) rfl (Nat.le_of_ble_eq_true rfl) (Nat.le_of_ble_eq_true rfl)
theorem m3_hears_unk (I : IvM g b) (h : ¬ inR x (g 3)) : k_Met Y3_hears [.ref 24, .int x, .int y] (hY g b F A o) (.inl (some (.int 0)), hY (up1 g 0 1) b F A o, 0, 0) := by
  have g1 := I.2.2.2.2.2.2.2.2.2.2.2.2.1
  have g3 := I.2.2.2.2.2.2.2.2.2.2.2.2.2.2.1
  refine k_intro (by decide +kernel) rfl rfl rfl ?_
  refine k_go 99 [] T3_hears_ok (fun K hK => ?_)
  refine hK _ ?_
  refine k_callV (Y' := Y3_isUnit) (as := [.int x]) (st := [.int (nI 3), .ref 24]) (m3_isUnit (by omega)) rfl c3_103 rfl rfl rfl d3_hears_4 (Nat.le_of_ble_eq_true rfl) (Nat.le_of_ble_eq_true rfl) rfl rfl ?_
  rw [decide_eq_false h]
  refine k_go 99 [] T3_hears_ok (fun K hK => ?_)
  refine hK _ ?_
  refine k_callV (Y' := Y3_isSlot) (as := [.int y]) (st := [.int (bB false), .int (nI 3), .ref 24]) (m3_isSlot (by omega)) rfl c3_106 rfl rfl rfl d3_hears_9 (Nat.le_of_ble_eq_true rfl) (Nat.le_of_ble_eq_true rfl) rfl rfl ?_
  refine k_go 99 [] T3_hears_ok (fun K hK => ?_)
  refine hK _ ?_
  refine k_callV (Y' := Y3_goes) (as := [.int (nI 3), .int (bB false), .int (bB (decide (inR y (g 1)))), .int (bB true), .int (bB true)]) (st := []) (m3_goes (k := 3) (by omega) false (decide (inR y (g 1))) true true) rfl c3_85 rfl rfl rfl d3_hears_14 (Nat.le_of_ble_eq_true rfl) (Nat.le_of_ble_eq_true rfl) rfl rfl ?_
  refine k_go 99 [] T3_hears_ok (fun K hK => ?_)
  refine q_ne (fun e => absurd e (by simp)) (fun _ => ?_)
  refine hK _ ?_
  exact k_ireturn d3_hears_21 rfl rfl rfl rfl (Nat.le_of_ble_eq_true rfl) (Nat.le_of_ble_eq_true rfl)
theorem m3_hears_bad (I : IvM g b) (h : inR x (g 3)) (h2 : ¬ inR y (g 1)) : k_Met Y3_hears [.ref 24, .int x, .int y] (hY g b F A o) (.inl (some (.int 0)), hY (up1 g 0 2) b F A o, 0, 0) := by
  have g1 := I.2.2.2.2.2.2.2.2.2.2.2.2.1
  have g3 := I.2.2.2.2.2.2.2.2.2.2.2.2.2.2.1
  refine k_intro (by decide +kernel) rfl rfl rfl ?_
  refine k_go 99 [] T3_hears_ok (fun K hK => ?_)
  refine hK _ ?_
  refine k_callV (Y' := Y3_isUnit) (as := [.int x]) (st := [.int (nI 3), .ref 24]) (m3_isUnit (by omega)) rfl c3_103 rfl rfl rfl d3_hears_4 (Nat.le_of_ble_eq_true rfl) (Nat.le_of_ble_eq_true rfl) rfl rfl ?_
  rw [decide_eq_true h]
  refine k_go 99 [] T3_hears_ok (fun K hK => ?_)
  refine hK _ ?_
  refine k_callV (Y' := Y3_isSlot) (as := [.int y]) (st := [.int (bB true), .int (nI 3), .ref 24]) (m3_isSlot (by omega)) rfl c3_106 rfl rfl rfl d3_hears_9 (Nat.le_of_ble_eq_true rfl) (Nat.le_of_ble_eq_true rfl) rfl rfl ?_
  rw [decide_eq_false h2]
  refine k_go 99 [] T3_hears_ok (fun K hK => ?_)
  refine hK _ ?_
  refine k_callV (Y' := Y3_goes) (as := [.int (nI 3), .int (bB true), .int (bB false), .int (bB true), .int (bB true)]) (st := []) (m3_goes (k := 3) (by omega) true false true true) rfl c3_85 rfl rfl rfl d3_hears_14 (Nat.le_of_ble_eq_true rfl) (Nat.le_of_ble_eq_true rfl) rfl rfl ?_
  refine k_go 99 [] T3_hears_ok (fun K hK => ?_)
  refine q_ne (fun e => absurd e (by decide)) (fun _ => ?_)
  refine hK _ ?_
  exact k_ireturn d3_hears_21 rfl rfl rfl rfl (Nat.le_of_ble_eq_true rfl) (Nat.le_of_ble_eq_true rfl)
def hrM (g : Nat → Nat) (b : Nat → Nat → Nat) (u s : Nat) : Nat := if gtB g b u s = true then 100 * (b 15 s + 1) + b 16 s else 0
theorem m3_hears_ok (I : IvD g b) {u s : Nat} (hu : u < g 3) (hs : s < g 1) : k_Met Y3_hears [.ref 24, .int (nI u), .int (nI s)] (hY g b F A o) (.inl (some (.int (nI (hrM (up1 g 0 0) (day0B (up1 g 0 0) b (b 0 (b 4 u))) u s)))), hY (up1 g 0 0) (day0B (up1 g 0 0) b (b 0 (b 4 u))) F A o, 0, 0) := by
  have D : IvD (up1 g 0 0) (day0B (up1 g 0 0) b (b 0 (b 4 u))) := day0_ok (IvD_g0 I)
  obtain ⟨I, h18⟩ := I
  have g1 := I.2.2.2.2.2.2.2.2.2.2.2.2.1
  have g3 := I.2.2.2.2.2.2.2.2.2.2.2.2.2.2.1
  have h4 := I.2.1 u
  have h0 := I.1 (b 4 u)
  have md : k_Met Y3_day0 [.ref 24, .int (nI (b 0 (b 4 u)))] (hY (up1 g 0 0) b F A o) (.inl none, hY (up1 g 0 0) (day0B (up1 g 0 0) b (b 0 (b 4 u))) F A o, 0, 0) := m3_day0 (IvM_g0 I) h18 (by omega)
  generalize day0B (up1 g 0 0) b (b 0 (b 4 u)) = b2 at D md ⊢
  have h15 := D.1.2.2.2.2.2.2.2.2.2.1 s
  have e1 : gtB (up1 g 0 0) b2 u s = true → hrM (up1 g 0 0) b2 u s = 100 * (b2 15 s + 1) + b2 16 s := fun h => if_pos h
  have e0 : gtB (up1 g 0 0) b2 u s = false → hrM (up1 g 0 0) b2 u s = 0 := fun h => if_neg (by rw [h]; decide)
  generalize hrM (up1 g 0 0) b2 u s = r at e1 e0 ⊢
  refine k_intro (by decide +kernel) rfl rfl rfl ?_
  refine k_go 99 [] T3_hears_ok (fun K hK => ?_)
  refine hK _ ?_
  refine k_callV (Y' := Y3_isUnit) (as := [.int (nI u)]) (st := [.int (nI 3), .ref 24]) (m3_isUnit (by omega)) rfl c3_103 rfl rfl rfl d3_hears_4 (Nat.le_of_ble_eq_true rfl) (Nat.le_of_ble_eq_true rfl) rfl rfl ?_
  rw [decide_eq_true (inR_nI hu (by omega))]
  refine k_go 99 [] T3_hears_ok (fun K hK => ?_)
  refine hK _ ?_
  refine k_callV (Y' := Y3_isSlot) (as := [.int (nI s)]) (st := [.int (bB true), .int (nI 3), .ref 24]) (m3_isSlot (by omega)) rfl c3_106 rfl rfl rfl d3_hears_9 (Nat.le_of_ble_eq_true rfl) (Nat.le_of_ble_eq_true rfl) rfl rfl ?_
  rw [decide_eq_true (inR_nI hs (by omega))]
  refine k_go 99 [] T3_hears_ok (fun K hK => ?_)
  refine hK _ ?_
  refine k_callV (Y' := Y3_goes) (as := [.int (nI 3), .int (bB true), .int (bB true), .int (bB true), .int (bB true)]) (st := []) (m3_goes (k := 3) (by omega) true true true true) rfl c3_85 rfl rfl rfl d3_hears_14 (Nat.le_of_ble_eq_true rfl) (Nat.le_of_ble_eq_true rfl) rfl rfl ?_
  refine k_go 99 [] T3_hears_ok (fun K hK => ?_)
  refine q_ne (fun _ => ?_) (fun e => absurd e (by decide))
  refine k_at (j := u) (by omega) ?_
  refine k_at (j := b 4 u) h4 ?_
  refine hK _ ?_
  refine k_callV (Y' := Y3_day0) (as := [.int (nI (b 0 (b 4 u)))]) (st := []) (md) rfl c3_140 rfl rfl rfl d3_hears_34 (Nat.le_of_ble_eq_true rfl) (Nat.le_of_ble_eq_true rfl) rfl rfl ?_
  refine k_go 99 [] T3_hears_ok (fun K hK => ?_)
  refine hK _ ?_
  refine k_callV (Y' := Y3_gets) (as := [.int (nI u), .int (nI s)]) (st := []) (m3_gets D.1 (by omega) (by omega)) rfl c3_144 rfl rfl rfl d3_hears_40 (Nat.le_of_ble_eq_true rfl) (Nat.le_of_ble_eq_true rfl) rfl rfl ?_
  refine k_go 99 [] T3_hears_ok (fun K hK => ?_)
  refine q_eq (fun h => ?_) (fun h => ?_)
  · refine hK _ ?_
    exact k_ireturn d3_hears_68 rfl rfl (rnN (b := 0) (e0 h)) rfl (Nat.le_of_ble_eq_true rfl) (Nat.le_of_ble_eq_true rfl)
  · have e1 := e1 h
    refine k_at (j := s) (by omega) ?_
    refine k_eq (z := nI (b2 15 s + 1)) (nI_add _ 1) ?_
    refine k_eq (z := nI (100 * (b2 15 s + 1))) (pk_mul 100 _) ?_
    refine k_at (j := s) (by omega) ?_
    refine k_eq (z := nI (100 * (b2 15 s + 1) + b2 16 s)) (nI_add _ _) ?_
    refine hK _ ?_
    exact k_ireturn d3_hears_68 rfl rfl (rnN e1) rfl (Nat.le_of_ble_eq_true rfl) (Nat.le_of_ble_eq_true rfl)
theorem m3_heardAll_loop (I : IvM g b) {u q : Nat} (hu : u < 20) (hq : q < 60) : ∀ (n i : Nat), g 1 - i = n → i ≤ g 1 → ∀ (r : Bool), r = !exB (fun s => decide (b 15 s = q) && !gtB g b u s) n i →
    k_W Y3_heardAll none (.inl (some (.int (bB r))), hY g b F A o, 0, 0) (53, [(3, .int (nI i)), (0, .ref 24), (1, .int (nI u)), (2, .int (nI q))], [], hY g b F A o, 0, 0) := by
  have g1 := I.2.2.2.2.2.2.2.2.2.2.2.2.1
  intro n
  induction n with
  | zero =>
    intro i hn hi r hr
    refine k_go 99 [53] T3_heardAll_ok (fun K hK => ?_)
    refine b_ge (a := i) (b := g 1) (by omega) (by omega) (fun h => ?_) (fun h => absurd h (by omega))
    refine hK _ ?_
    exact k_ireturn d3_heardAll_89 rfl rfl (rbB (b := true) hr) rfl (Nat.le_of_ble_eq_true rfl) (Nat.le_of_ble_eq_true rfl)
  | succ n ih =>
    intro i hn hi r hr
    have hr2 : r = !((decide (b 15 i = q) && !gtB g b u i) || exB (fun s => decide (b 15 s = q) && !gtB g b u s) n (i + 1)) := hr
    have h15 := I.2.2.2.2.2.2.2.2.2.1 i
    have next : (decide (b 15 i = q) && !gtB g b u i) = false → k_W Y3_heardAll none (.inl (some (.int (bB r))), hY g b F A o, 0, 0) (82, [(3, .int (nI i)), (0, .ref 24), (1, .int (nI u)), (2, .int (nI q))], [], hY g b F A o, 0, 0) := by
      intro e
      rw [e, Bool.false_or] at hr2
      refine k_go 99 [53] T3_heardAll_ok (fun K hK => ?_)
      refine k_eq (z := nI (i + 1)) (nI_add i 1) ?_
      refine hK _ ?_
      exact ih (i + 1) (by omega) (by omega) r hr2
    refine k_go 99 [53, 82] T3_heardAll_ok (fun K hK => ?_)
    refine b_ge (a := i) (b := g 1) (by omega) (by omega) (fun h => absurd h (by omega)) (fun h => ?_)
    refine k_at (j := i) (by omega) ?_
    refine And.intro (fun h1 => ?_) (fun h1 => ?_)
    · have h1 : ¬ nI (b 15 i) = nI q := h1
      refine hK _ ?_
      exact next (by rw [decide_eq_false (fun e => h1 (by rw [e]))]; rfl)
    · have h1 : nI (b 15 i) = nI q := h1
      have h2 : b 15 i = q := by
        rcases h15 with h | h
        · rw [h, ← neg1] at h1
          exact absurd h1.symm (nI_none (by omega))
        · exact (nI_eq (by omega) (by omega)).mp h1
      refine hK _ ?_
      refine k_callV (Y' := Y3_gets) (as := [.int (nI u), .int (nI i)]) (st := []) (m3_gets I hu (by omega)) rfl c3_144 rfl rfl rfl d3_heardAll_74 (Nat.le_of_ble_eq_true rfl) (Nat.le_of_ble_eq_true rfl) rfl rfl ?_
      refine k_go 99 [53, 82] T3_heardAll_ok (fun K hK => ?_)
      refine q_ne (fun h3 => ?_) (fun h3 => ?_)
      · refine hK _ ?_
        exact next (by rw [h3]; simp)
      · refine hK _ ?_
        exact k_ireturn d3_heardAll_81 rfl rfl (rbB (b := false) (by rw [hr2, h3, decide_eq_true h2]; rfl)) rfl (Nat.le_of_ble_eq_true rfl) (Nat.le_of_ble_eq_true rfl)
theorem m3_heardAll (I : IvD g b) {u q : Nat} (hu : u < 20) (hq : q < 60) : k_Met Y3_heardAll [.ref 24, .int (nI u), .int (nI q)] (hY g b F A o) (.inl (some (.int (bB (hdB g (day0B g b (b 0 (b 13 q))) u q)))), hY g (day0B g b (b 0 (b 13 q))) F A o, 0, 0) := by
  have D : IvD g (day0B g b (b 0 (b 13 q))) := day0_ok I
  obtain ⟨I, h18⟩ := I
  have h13 := I.2.2.2.2.2.2.2.1 q
  have h0 := I.1 (b 13 q)
  have md : k_Met Y3_day0 [.ref 24, .int (nI (b 0 (b 13 q)))] (hY g b F A o) (.inl none, hY g (day0B g b (b 0 (b 13 q))) F A o, 0, 0) := m3_day0 I h18 (by omega)
  generalize day0B g b (b 0 (b 13 q)) = b2 at D md ⊢
  obtain ⟨I2, h182⟩ := D
  have k13 := I2.2.2.2.2.2.2.2.1 q
  have k0 := I2.1 (b2 13 q)
  have k4 := I2.2.1 u
  have k04 := I2.1 (b2 4 u)
  have k18 := h182 q
  have loop := m3_heardAll_loop (F := F) (A := A) (o := o) I2 hu hq (g 1) 0 (by omega) (by omega)
  have e0 : hdB g b2 u q = (decide (b2 0 (b2 4 u) = b2 0 (b2 13 q)) && decide (0 < b2 18 q) && !exB (fun s => decide (b2 15 s = q) && !gtB g b2 u s) (g 1) 0) := rfl
  generalize hdB g b2 u q = r at e0 ⊢
  refine k_intro (by decide +kernel) rfl rfl rfl ?_
  refine k_go 99 [53] T3_heardAll_ok (fun K hK => ?_)
  refine k_at (j := q) hq ?_
  refine k_at (j := b 13 q) h13 ?_
  refine hK _ ?_
  refine k_callV (Y' := Y3_day0) (as := [.int (nI (b 0 (b 13 q)))]) (st := []) (md) rfl c3_140 rfl rfl rfl d3_heardAll_12 (Nat.le_of_ble_eq_true rfl) (Nat.le_of_ble_eq_true rfl) rfl rfl ?_
  refine k_go 99 [53] T3_heardAll_ok (fun K hK => ?_)
  refine k_at (j := u) hu ?_
  refine k_at (j := b2 4 u) k4 ?_
  refine k_at (j := q) hq ?_
  refine k_at (j := b2 13 q) k13 ?_
  refine b_ne (a := b2 0 (b2 4 u)) (b := b2 0 (b2 13 q)) (by omega) (by omega) (fun h => ?_) (fun h => ?_)
  · refine hK _ ?_
    exact k_ireturn d3_heardAll_50 rfl rfl (rbB (b := false) (by rw [e0, decide_eq_false h]; rfl)) rfl (Nat.le_of_ble_eq_true rfl) (Nat.le_of_ble_eq_true rfl)
  · refine k_at (j := q) hq ?_
    refine z_ne (a := b2 18 q) (by omega) (fun h2 => ?_) (fun h2 => ?_)
    · refine hK _ ?_
      exact loop r (by rw [e0, decide_eq_true h, decide_eq_true h2]; rfl)
    · refine hK _ ?_
      exact k_ireturn d3_heardAll_50 rfl rfl (rbB (b := false) (by rw [e0, decide_eq_false (p := 0 < b2 18 q) (by omega)]; simp)) rfl (Nat.le_of_ble_eq_true rfl) (Nat.le_of_ble_eq_true rfl)
end MH
