section MK
variable {g : Nat → Nat} {b : Nat → Nat → Nat} {F : Nat → Int32} {A : Nat → Nat → Int32} {o : Nat → Int64} {x y z w : Int32}
theorem m3_relay_front (I : IvM g b) {G9 : k_G} (k : ∀ kn rg : Bool, kn = (decide (inR x (g 3)) && decide (inR y (g 5))) → rg = (decide (inR z (g 1)) && decide (inR w 10)) → k_W Y3_relay none G9 (49, [(6, .int (bB rg)), (5, .int (bB kn)), (0, .ref 24), (1, .int x), (2, .int y), (3, .int z), (4, .int w)], [], hY g b F A o, 0, 0)) : k_W Y3_relay none G9 (0, [(0, .ref 24), (1, .int x), (2, .int y), (3, .int z), (4, .int w)], [], hY g b F A o, 0, 0) := by
  have g1 := I.2.2.2.2.2.2.2.2.2.2.2.2.1
  have g3 := I.2.2.2.2.2.2.2.2.2.2.2.2.2.2.1
  have g5 := I.2.2.2.2.2.2.2.2.2.2.2.2.2.2.2.2
  have t47 : ∀ kn rg : Bool, kn = (decide (inR x (g 3)) && decide (inR y (g 5))) → rg = (decide (inR z (g 1)) && decide (inR w 10)) → k_W Y3_relay none G9 (47, [(5, .int (bB kn)), (0, .ref 24), (1, .int x), (2, .int y), (3, .int z), (4, .int w)], [.int (bB rg)], hY g b F A o, 0, 0) := by
    intro kn rg e1 e2
    refine k_go 99 [49] T3_relay_ok (fun K hK => ?_)
    exact hK _ (k kn rg e1 e2)
  have t21 : ∀ kn : Bool, kn = (decide (inR x (g 3)) && decide (inR y (g 5))) → k_W Y3_relay none G9 (21, [(0, .ref 24), (1, .int x), (2, .int y), (3, .int z), (4, .int w)], [.int (bB kn)], hY g b F A o, 0, 0) := by
    intro kn e1
    refine k_go 99 [47] T3_relay_ok (fun K hK => ?_)
    refine hK _ ?_
    refine k_callV (Y' := Y3_isSlot) (as := [.int z]) (st := []) (m3_isSlot (by omega)) rfl c3_106 rfl rfl rfl d3_relay_25 (Nat.zero_le _) (Nat.zero_le _) rfl rfl ?_
    refine k_go 99 [47] T3_relay_ok (fun K hK => ?_)
    refine q_eq (fun h1 => hK _ (t47 kn false e1 (by rw [h1]; rfl))) (fun h1 => ?_)
    refine hK _ ?_
    refine k_callS (Y' := Y3_in) (as := [.int w, .int (nI 0), .int (nI 9)]) (st := []) (m3_inR (n := 9) (by omega)) rfl c3_72 rfl rfl d3_relay_36 (Nat.zero_le _) (Nat.zero_le _) rfl rfl ?_
    refine k_go 99 [47] T3_relay_ok (fun K hK => ?_)
    refine q_eq (fun h2 => hK _ (t47 kn false e1 (by rw [h2]; simp))) (fun h2 => hK _ (t47 kn true e1 (by rw [h1, h2]; rfl)))
  refine k_go 99 [21] T3_relay_ok (fun K hK => ?_)
  refine hK _ ?_
  refine k_callV (Y' := Y3_isUnit) (as := [.int x]) (st := []) (m3_isUnit (by omega)) rfl c3_103 rfl rfl rfl d3_relay_2 (Nat.zero_le _) (Nat.zero_le _) rfl rfl ?_
  refine k_go 99 [21] T3_relay_ok (fun K hK => ?_)
  refine q_eq (fun h1 => hK _ (t21 false (by rw [h1]; rfl))) (fun h1 => ?_)
  refine hK _ ?_
  refine k_callV (Y' := Y3_isMessage) (as := [.int y]) (st := []) (m3_isMessage (by omega)) rfl c3_116 rfl rfl rfl d3_relay_10 (Nat.zero_le _) (Nat.zero_le _) rfl rfl ?_
  refine k_go 99 [21] T3_relay_ok (fun K hK => ?_)
  refine q_eq (fun h2 => hK _ (t21 false (by rw [h2]; simp))) (fun h2 => hK _ (t21 true (by rw [h1, h2]; rfl)))
theorem m3_relay_back (g5 : g 5 ≤ 60) {G9 : k_G} (kn rg st : Bool) (k : ∀ ro : Bool, ro = decide (g 5 < 60) → k_W Y3_relay none G9 (119, [(7, .int (bB st)), (6, .int (bB rg)), (5, .int (bB kn)), (0, .ref 24), (1, .int x), (2, .int y), (3, .int z), (4, .int w)], [.int (bB (kn && rg && st && ro))], hY (up1 g 0 (gth 15 (gbit kn rg st ro))) b F A o, 0, 0)) : k_W Y3_relay none G9 (91, [(6, .int (bB rg)), (5, .int (bB kn)), (0, .ref 24), (1, .int x), (2, .int y), (3, .int z), (4, .int w)], [.int (bB st)], hY g b F A o, 0, 0) := by
  refine k_go 99 [] T3_relay_ok (fun K hK => ?_)
  refine b_ge (a := g 5) (b := 60) (by omega) (by omega) (fun h2 => ?_) (fun h2 => ?_)
  · refine hK _ ?_
    refine k_callV (Y' := Y3_goes) (as := [.int (nI 15), .int (bB kn), .int (bB rg), .int (bB st), .int (bB false)]) (st := []) (m3_goes (k := 15) (by omega) kn rg st false) rfl c3_85 rfl rfl rfl d3_relay_116 (Nat.zero_le _) (Nat.zero_le _) rfl rfl ?_
    exact k false (decide_eq_false (by omega)).symm
  · refine hK _ ?_
    refine k_callV (Y' := Y3_goes) (as := [.int (nI 15), .int (bB kn), .int (bB rg), .int (bB st), .int (bB true)]) (st := []) (m3_goes (k := 15) (by omega) kn rg st true) rfl c3_85 rfl rfl rfl d3_relay_116 (Nat.zero_le _) (Nat.zero_le _) rfl rfl ?_
    exact k true (decide_eq_true (by omega)).symm
theorem m3_relay_none (g5 : g 5 ≤ 60) {t : Nat} (kn rg st : Bool) (h : ∀ ro : Bool, ro = decide (g 5 < 60) → (kn && rg && st && ro) = false ∧ gth 15 (gbit kn rg st ro) = t) : k_W Y3_relay none (.inl (some (.int 0)), hY (up1 g 0 t) b F A o, 0, 0) (91, [(6, .int (bB rg)), (5, .int (bB kn)), (0, .ref 24), (1, .int x), (2, .int y), (3, .int z), (4, .int w)], [.int (bB st)], hY g b F A o, 0, 0) := by
  refine m3_relay_back g5 kn rg st (fun ro e => ?_)
  obtain ⟨h1, h2⟩ := h ro e
  rw [h1, h2]
  refine k_go 99 [] T3_relay_ok (fun K hK => ?_)
  refine q_ne (fun e => absurd e (by decide)) (fun _ => ?_)
  refine hK _ ?_
  exact k_ireturn d3_relay_123 rfl rfl rfl rfl (Nat.le_of_ble_eq_true rfl) (Nat.le_of_ble_eq_true rfl)
theorem m3_relay_unk (I : IvM g b) (h : ¬ (inR x (g 3) ∧ inR y (g 5))) : k_Met Y3_relay [.ref 24, .int x, .int y, .int z, .int w] (hY g b F A o) (.inl (some (.int 0)), hY (up1 g 0 1) b F A o, 0, 0) := by
  have g5 := I.2.2.2.2.2.2.2.2.2.2.2.2.2.2.2.2
  refine k_intro (by decide +kernel) rfl rfl rfl ?_
  refine m3_relay_front I (fun kn rg e1 e2 => ?_)
  have e3 : kn = false := by rw [e1, ← Bool.decide_and]; exact decide_eq_false h
  subst e3
  have t := m3_relay_none (g := g) (b := b) (F := F) (A := A) (o := o) (x := x) (y := y) (z := z) (w := w) g5 (t := 1) false rg false (fun ro _ => ⟨by simp, rfl⟩)
  refine k_go 99 [91] T3_relay_ok (fun K hK => ?_)
  refine q_eq (fun _ => ?_) (fun e => absurd e (by decide))
  exact hK _ t
theorem m3_relay_bad (I : IvM g b) (h : inR x (g 3) ∧ inR y (g 5)) (h2 : ¬ (inR z (g 1) ∧ inR w 10)) : k_Met Y3_relay [.ref 24, .int x, .int y, .int z, .int w] (hY g b F A o) (.inl (some (.int 0)), hY (up1 g 0 2) b F A o, 0, 0) := by
  have g5 := I.2.2.2.2.2.2.2.2.2.2.2.2.2.2.2.2
  refine k_intro (by decide +kernel) rfl rfl rfl ?_
  refine m3_relay_front I (fun kn rg e1 e2 => ?_)
  have e3 : kn = true := by rw [e1, ← Bool.decide_and]; exact decide_eq_true h
  have e4 : rg = false := by rw [e2, ← Bool.decide_and]; exact decide_eq_false h2
  subst e3 e4
  have t := m3_relay_none (g := g) (b := b) (F := F) (A := A) (o := o) (x := x) (y := y) (z := z) (w := w) g5 (t := 2) true false false (fun ro _ => ⟨by simp, rfl⟩)
  refine k_go 99 [91] T3_relay_ok (fun K hK => ?_)
  refine q_eq (fun e => absurd e (by decide)) (fun _ => ?_)
  refine q_eq (fun _ => ?_) (fun e => absurd e (by decide))
  exact hK _ t
theorem m3_relay_has (I : IvD g b) {u q s r : Nat} (hu : u < g 3) (hq : q < g 5) (hs : s < g 1) (hr : r < 10) (h : bgB g b (nI u) (nI s) = true) : k_Met Y3_relay [.ref 24, .int (nI u), .int (nI q), .int (nI s), .int (nI r)] (hY g b F A o) (.inl (some (.int 0)), hY (up1 g 0 3) b F A o, 0, 0) := by
  have D := I
  obtain ⟨I, h18⟩ := I
  have g1 := I.2.2.2.2.2.2.2.2.2.2.2.2.1
  have g3 := I.2.2.2.2.2.2.2.2.2.2.2.2.2.2.1
  have g5 := I.2.2.2.2.2.2.2.2.2.2.2.2.2.2.2.2
  refine k_intro (by decide +kernel) rfl rfl rfl ?_
  refine m3_relay_front I (fun kn rg e1 e2 => ?_)
  rw [decide_eq_true (inR_nI hu (by omega)), decide_eq_true (inR_nI hq (by omega))] at e1
  rw [decide_eq_true (inR_nI hs (by omega)), decide_eq_true (inR_nI hr (by omega))] at e2
  have e1 : kn = true := e1
  have e2 : rg = true := e2
  subst e1 e2
  have t := m3_relay_none (g := g) (b := b) (F := F) (A := A) (o := o) (x := nI u) (y := nI q) (z := nI s) (w := nI r) g5 (t := 3) true true false (fun ro _ => ⟨rfl, rfl⟩)
  refine k_go 99 [91] T3_relay_ok (fun K hK => ?_)
  refine q_eq (fun e => absurd e (by decide)) (fun _ => ?_)
  refine q_eq (fun e => absurd e (by decide)) (fun _ => ?_)
  refine hK _ ?_
  refine k_callV (Y' := Y3_begins) (as := [.int (nI u), .int (nI s)]) (st := []) (m3_begins g5) rfl c3_109 rfl rfl rfl d3_relay_62 (Nat.le_of_ble_eq_true rfl) (Nat.le_of_ble_eq_true rfl) rfl rfl ?_
  rw [h]
  refine k_go 99 [91] T3_relay_ok (fun K hK => ?_)
  refine q_ne (fun _ => ?_) (fun e => absurd e (by decide))
  exact hK _ t
theorem m3_relay_not (I : IvD g b) {u q s r : Nat} (hu : u < g 3) (hq : q < g 5) (hs : s < g 1) (hr : r < 10) (h : bgB g b (nI u) (nI s) = false) (hh : ¬ ((day0B g b (b 0 (b 13 q))) 17 q = 0 ∧ hdB g (day0B g b (b 0 (b 13 q))) u q = true)) : k_Met Y3_relay [.ref 24, .int (nI u), .int (nI q), .int (nI s), .int (nI r)] (hY g b F A o) (.inl (some (.int 0)), hY (up1 g 0 3) (day0B g b (b 0 (b 13 q))) F A o, 0, 0) := by
  have D0 := I
  have D := I
  obtain ⟨I, h18⟩ := I
  have g1 := I.2.2.2.2.2.2.2.2.2.2.2.2.1
  have g3 := I.2.2.2.2.2.2.2.2.2.2.2.2.2.2.1
  have g5 := I.2.2.2.2.2.2.2.2.2.2.2.2.2.2.2.2
  refine k_intro (by decide +kernel) rfl rfl rfl ?_
  refine m3_relay_front I (fun kn rg e1 e2 => ?_)
  rw [decide_eq_true (inR_nI hu (by omega)), decide_eq_true (inR_nI hq (by omega))] at e1
  rw [decide_eq_true (inR_nI hs (by omega)), decide_eq_true (inR_nI hr (by omega))] at e2
  have e1 : kn = true := e1
  have e2 : rg = true := e2
  subst e1 e2
  have mh := m3_heardAll (F := F) (A := A) (o := o) D (u := u) (q := q) (by omega) (by omega)
  have D2 : IvD g (day0B g b (b 0 (b 13 q))) := day0_ok D
  generalize day0B g b (b 0 (b 13 q)) = b2 at mh D2 hh ⊢
  have k17 := D2.1.2.2.2.2.2.2.2.2.2.2.2.1 q
  have t := m3_relay_none (g := g) (b := b2) (F := F) (A := A) (o := o) (x := nI u) (y := nI q) (z := nI s) (w := nI r) g5 (t := 3) true true false (fun ro _ => ⟨rfl, rfl⟩)
  refine k_go 99 [91] T3_relay_ok (fun K hK => ?_)
  refine q_eq (fun e => absurd e (by decide)) (fun _ => ?_)
  refine q_eq (fun e => absurd e (by decide)) (fun _ => ?_)
  refine hK _ ?_
  refine k_callV (Y' := Y3_begins) (as := [.int (nI u), .int (nI s)]) (st := []) (m3_begins g5) rfl c3_109 rfl rfl rfl d3_relay_62 (Nat.le_of_ble_eq_true rfl) (Nat.le_of_ble_eq_true rfl) rfl rfl ?_
  rw [h]
  refine k_go 99 [91] T3_relay_ok (fun K hK => ?_)
  refine q_ne (fun e => absurd e (by decide)) (fun _ => ?_)
  refine hK _ ?_
  refine k_callV (Y' := Y3_heardAll) (as := [.int (nI u), .int (nI q)]) (st := []) (mh) rfl c3_119 rfl rfl rfl d3_relay_71 (Nat.le_of_ble_eq_true rfl) (Nat.le_of_ble_eq_true rfl) rfl rfl ?_
  refine k_go 99 [91] T3_relay_ok (fun K hK => ?_)
  refine q_eq (fun _ => hK _ t) (fun h1 => ?_)
  refine k_at (j := q) (by omega) ?_
  refine z_ne (a := b2 17 q) (by omega) (fun _ => hK _ t) (fun h2 => absurd ⟨h2, h1⟩ hh)
theorem m3_relay_full (I : IvD g b) {u q s r : Nat} (hu : u < g 3) (hq : q < g 5) (hs : s < g 1) (hr : r < 10) (h : bgB g b (nI u) (nI s) = false) (hh : (day0B g b (b 0 (b 13 q))) 17 q = 0 ∧ hdB g (day0B g b (b 0 (b 13 q))) u q = true) (h60 : 60 ≤ g 5) : k_Met Y3_relay [.ref 24, .int (nI u), .int (nI q), .int (nI s), .int (nI r)] (hY g b F A o) (.inl (some (.int 0)), hY (up1 g 0 4) (day0B g b (b 0 (b 13 q))) F A o, 0, 0) := by
  have D := I
  obtain ⟨I, h18⟩ := I
  have g1 := I.2.2.2.2.2.2.2.2.2.2.2.2.1
  have g3 := I.2.2.2.2.2.2.2.2.2.2.2.2.2.2.1
  have g5 := I.2.2.2.2.2.2.2.2.2.2.2.2.2.2.2.2
  refine k_intro (by decide +kernel) rfl rfl rfl ?_
  refine m3_relay_front I (fun kn rg e1 e2 => ?_)
  rw [decide_eq_true (inR_nI hu (by omega)), decide_eq_true (inR_nI hq (by omega))] at e1
  rw [decide_eq_true (inR_nI hs (by omega)), decide_eq_true (inR_nI hr (by omega))] at e2
  have e1 : kn = true := e1
  have e2 : rg = true := e2
  subst e1 e2
  have mh := m3_heardAll (F := F) (A := A) (o := o) D (u := u) (q := q) (by omega) (by omega)
  have D2 : IvD g (day0B g b (b 0 (b 13 q))) := day0_ok D
  generalize day0B g b (b 0 (b 13 q)) = b2 at mh D2 hh ⊢
  have k17 := D2.1.2.2.2.2.2.2.2.2.2.2.2.1 q
  have t := m3_relay_none (g := g) (b := b2) (F := F) (A := A) (o := o) (x := nI u) (y := nI q) (z := nI s) (w := nI r) g5 (t := 4) true true true (fun ro e => by rw [decide_eq_false (by omega)] at e; subst e; exact ⟨rfl, rfl⟩)
  refine k_go 99 [91] T3_relay_ok (fun K hK => ?_)
  refine q_eq (fun e => absurd e (by decide)) (fun _ => ?_)
  refine q_eq (fun e => absurd e (by decide)) (fun _ => ?_)
  refine hK _ ?_
  refine k_callV (Y' := Y3_begins) (as := [.int (nI u), .int (nI s)]) (st := []) (m3_begins g5) rfl c3_109 rfl rfl rfl d3_relay_62 (Nat.le_of_ble_eq_true rfl) (Nat.le_of_ble_eq_true rfl) rfl rfl ?_
  rw [h]
  refine k_go 99 [91] T3_relay_ok (fun K hK => ?_)
  refine q_ne (fun e => absurd e (by decide)) (fun _ => ?_)
  refine hK _ ?_
  refine k_callV (Y' := Y3_heardAll) (as := [.int (nI u), .int (nI q)]) (st := []) (mh) rfl c3_119 rfl rfl rfl d3_relay_71 (Nat.le_of_ble_eq_true rfl) (Nat.le_of_ble_eq_true rfl) rfl rfl ?_
  rw [hh.2]
  refine k_go 99 [91] T3_relay_ok (fun K hK => ?_)
  refine q_eq (fun e => absurd e (by decide)) (fun _ => ?_)
  refine k_at (j := q) (by omega) ?_
  refine z_ne (a := b2 17 q) (by omega) (fun h2 => absurd hh.1 (by omega)) (fun _ => hK _ t)
theorem m3_relay_ok (I : IvD g b) {u q s r : Nat} (hu : u < g 3) (hq : q < g 5) (hs : s < g 1) (hr : r < 10) (h : bgB g b (nI u) (nI s) = false) (hh : (day0B g b (b 0 (b 13 q))) 17 q = 0 ∧ hdB g (day0B g b (b 0 (b 13 q))) u q = true) (h60 : g 5 < 60) : k_Met Y3_relay [.ref 24, .int (nI u), .int (nI q), .int (nI s), .int (nI r)] (hY g b F A o) (.inl (some (.int (nI (g 5)))), hY (up1 (up1 g 0 0) 5 (g 5 + 1)) (adB g (day0B g b (b 0 (b 13 q))) u s ((day0B g b (b 0 (b 13 q))) 11 q) r) F A o, 0, 0) := by
  have D := I
  obtain ⟨I, h18⟩ := I
  have g1 := I.2.2.2.2.2.2.2.2.2.2.2.2.1
  have g3 := I.2.2.2.2.2.2.2.2.2.2.2.2.2.2.1
  have g5 := I.2.2.2.2.2.2.2.2.2.2.2.2.2.2.2.2
  refine k_intro (by decide +kernel) rfl rfl rfl ?_
  refine m3_relay_front I (fun kn rg e1 e2 => ?_)
  rw [decide_eq_true (inR_nI hu (by omega)), decide_eq_true (inR_nI hq (by omega))] at e1
  rw [decide_eq_true (inR_nI hs (by omega)), decide_eq_true (inR_nI hr (by omega))] at e2
  have e1 : kn = true := e1
  have e2 : rg = true := e2
  subst e1 e2
  have mh := m3_heardAll (F := F) (A := A) (o := o) D (u := u) (q := q) (by omega) (by omega)
  have D2 : IvD g (day0B g b (b 0 (b 13 q))) := day0_ok D
  generalize day0B g b (b 0 (b 13 q)) = b2 at mh D2 hh ⊢
  have k17 := D2.1.2.2.2.2.2.2.2.2.2.2.2.1 q
  have ma := m3_add (g := up1 g 0 0) (b := b2) (F := F) (A := A) (o := o) (u := u) (s := s) (n := b2 11 q) (r := r) (by omega) h60
  have t : k_W Y3_relay none (.inl (some (.int (nI (g 5)))), hY (up1 (up1 g 0 0) 5 (g 5 + 1)) (adB g b2 u s (b2 11 q) r) F A o, 0, 0) (91, [(6, .int (bB true)), (5, .int (bB true)), (0, .ref 24), (1, .int (nI u)), (2, .int (nI q)), (3, .int (nI s)), (4, .int (nI r))], [.int (bB true)], hY g b2 F A o, 0, 0) := by
    refine m3_relay_back g5 true true true (fun ro e => ?_)
    rw [decide_eq_true h60] at e
    subst e
    refine k_go 99 [] T3_relay_ok (fun K hK => ?_)
    refine q_ne (fun _ => ?_) (fun e => absurd e (by decide))
    refine k_at (j := q) (by omega) ?_
    refine hK _ ?_
    refine k_callV (Y' := Y3_add) (as := [.int (nI u), .int (nI s), .int (nI (b2 11 q)), .int (nI r)]) (st := []) (ma) rfl c3_112 rfl rfl rfl d3_relay_135 (Nat.le_of_ble_eq_true rfl) (Nat.le_of_ble_eq_true rfl) rfl rfl ?_
    exact k_ireturn d3_relay_138 rfl rfl rfl rfl (Nat.le_of_ble_eq_true rfl) (Nat.le_of_ble_eq_true rfl)
  refine k_go 99 [91] T3_relay_ok (fun K hK => ?_)
  refine q_eq (fun e => absurd e (by decide)) (fun _ => ?_)
  refine q_eq (fun e => absurd e (by decide)) (fun _ => ?_)
  refine hK _ ?_
  refine k_callV (Y' := Y3_begins) (as := [.int (nI u), .int (nI s)]) (st := []) (m3_begins g5) rfl c3_109 rfl rfl rfl d3_relay_62 (Nat.le_of_ble_eq_true rfl) (Nat.le_of_ble_eq_true rfl) rfl rfl ?_
  rw [h]
  refine k_go 99 [91] T3_relay_ok (fun K hK => ?_)
  refine q_ne (fun e => absurd e (by decide)) (fun _ => ?_)
  refine hK _ ?_
  refine k_callV (Y' := Y3_heardAll) (as := [.int (nI u), .int (nI q)]) (st := []) (mh) rfl c3_119 rfl rfl rfl d3_relay_71 (Nat.le_of_ble_eq_true rfl) (Nat.le_of_ble_eq_true rfl) rfl rfl ?_
  rw [hh.2]
  refine k_go 99 [91] T3_relay_ok (fun K hK => ?_)
  refine q_eq (fun e => absurd e (by decide)) (fun _ => ?_)
  refine k_at (j := q) (by omega) ?_
  refine z_ne (a := b2 17 q) (by omega) (fun h2 => absurd hh.1 (by omega)) (fun _ => hK _ t)
end MK
