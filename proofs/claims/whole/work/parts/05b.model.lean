section MB
variable {g : Nat → Nat} {b : Nat → Nat → Nat} {F : Nat → Int32} {A : Nat → Nat → Int32} {o : Nat → Int64} {x y z w : Int32}
theorem m3_day_big (h : nI 1000 < x) : k_Met Y3_day [.ref 24, .int x] (hY g b F A o) (.inl none, hY (up1 g 0 1) b F A o, 0, 0) := by
  refine k_intro (by decide +kernel) rfl rfl rfl ?_
  refine k_go 99 [] T3_day_ok (fun K hK => ?_)
  refine And.intro (fun _ => ?_) (fun q => absurd h q)
  refine And.intro (fun _ => ?_) (fun _ => ?_)
  · refine hK _ ?_
    refine k_callV (Y' := Y3_goes) (as := [.int (nI 3), .int (bB false), .int (bB false), .int (bB true), .int (bB true)]) (st := []) (m3_goes (k := 3) (by omega) false false true true) rfl c3_85 rfl rfl rfl d3_day_25 (Nat.le_of_ble_eq_true rfl) (Nat.le_of_ble_eq_true rfl) rfl rfl ?_
    refine k_go 99 [] T3_day_ok (fun K hK => ?_)
    refine q_ne (fun e => absurd e (by decide)) (fun _ => ?_)
    refine hK _ ?_
    exact k_return d3_day_31 rfl rfl rfl (Nat.le_of_ble_eq_true rfl) (Nat.le_of_ble_eq_true rfl)
  · refine hK _ ?_
    refine k_callV (Y' := Y3_goes) (as := [.int (nI 3), .int (bB false), .int (bB true), .int (bB true), .int (bB true)]) (st := []) (m3_goes (k := 3) (by omega) false true true true) rfl c3_85 rfl rfl rfl d3_day_25 (Nat.le_of_ble_eq_true rfl) (Nat.le_of_ble_eq_true rfl) rfl rfl ?_
    refine k_go 99 [] T3_day_ok (fun K hK => ?_)
    refine q_ne (fun e => absurd e (by decide)) (fun _ => ?_)
    refine hK _ ?_
    exact k_return d3_day_31 rfl rfl rfl (Nat.le_of_ble_eq_true rfl) (Nat.le_of_ble_eq_true rfl)
theorem m3_day_neg (h : ¬ nI 1000 < x) (h2 : x < 0) : k_Met Y3_day [.ref 24, .int x] (hY g b F A o) (.inl none, hY (up1 g 0 2) b F A o, 0, 0) := by
  refine k_intro (by decide +kernel) rfl rfl rfl ?_
  refine k_go 99 [] T3_day_ok (fun K hK => ?_)
  refine And.intro (fun q => absurd q h) (fun _ => ?_)
  refine And.intro (fun _ => ?_) (fun q => absurd h2 q)
  refine hK _ ?_
  refine k_callV (Y' := Y3_goes) (as := [.int (nI 3), .int (bB true), .int (bB false), .int (bB true), .int (bB true)]) (st := []) (m3_goes (k := 3) (by omega) true false true true) rfl c3_85 rfl rfl rfl d3_day_25 (Nat.le_of_ble_eq_true rfl) (Nat.le_of_ble_eq_true rfl) rfl rfl ?_
  refine k_go 99 [] T3_day_ok (fun K hK => ?_)
  refine q_ne (fun e => absurd e (by decide)) (fun _ => ?_)
  refine hK _ ?_
  exact k_return d3_day_31 rfl rfl rfl (Nat.le_of_ble_eq_true rfl) (Nat.le_of_ble_eq_true rfl)
def dyG (g : Nat → Nat) (n : Nat) : Nat → Nat := up1 (up1 (up1 (up1 (up1 (up1 g 0 0) 1 n) 2 0) 3 0) 4 0) 5 0
def dyB (b : Nat → Nat → Nat) : Nat → Nat → Nat := rowA (rowA b 0 (flR (b 0) (fun c => c) 6)) 14 (flR (b 14) (fun _ => 0) 1000)
theorem m3_day_2 : ∀ (n i : Nat), 1000 - i < n → i ≤ 1000 → ∀ (v : Int32),
    k_W Y3_day none (.inl none, hY g (rowA b 14 (flR (b 14) (fun _ => 0) 1000)) F A o, 0, 0) (80, [(2, .int (nI i)), (0, .ref 24), (1, .int v)], [], hY g (rowA b 14 (flR (b 14) (fun _ => 0) i)) F A o, 0, 0) := by
  intro n
  induction n with
  | zero => intro i h; omega
  | succ n ih =>
    intro i hn hi v
    refine k_go 99 [80] T3_day_ok (fun K hK => ?_)
    refine b_ge (a := i) (b := 1000) (by omega) (by omega) (fun h => ?_) (fun h => ?_)
    · have e : i = 1000 := by omega
      subst e
      refine hK _ ?_
      exact k_return d3_day_100 rfl rfl rfl (Nat.le_refl _) (Nat.le_refl _)
    · refine And.intro (Or.inl rfl) ?_
      refine k_at (j := i) (by omega) ?_
      refine k_eq (z := nI (i + 1)) (nI_add i 1) ?_
      refine hK _ ?_
      refine k_heq (hY_eq rfl ((cA_up (rowA b 14 (flR (b 14) (fun _ => 0) i)) 14 i 0).trans (congrArg cA ((up2_row b 14 i 0 _).trans (congrArg (rowA b 14) (flR_s (b 14) (fun _ => 0) i)))))) ?_
      exact ih (i + 1) (by omega) (by omega) v
theorem m3_day_1 : ∀ (n i : Nat), 6 - i < n → i ≤ 6 → ∀ (v : Int32),
    k_W Y3_day none (.inl none, hY g (dyB b) F A o, 0, 0) (59, [(2, .int (nI i)), (0, .ref 24), (1, .int v)], [], hY g (rowA b 0 (flR (b 0) (fun c => c) i)) F A o, 0, 0) := by
  intro n
  induction n with
  | zero => intro i h; omega
  | succ n ih =>
    intro i hn hi v
    refine k_go 99 [59, 80] T3_day_ok (fun K hK => ?_)
    refine b_ge (a := i) (b := 6) (by omega) (by omega) (fun h => ?_) (fun h => ?_)
    · have e : i = 6 := by omega
      subst e
      refine hK _ ?_
      have := m3_day_2 (g := g) (b := rowA b 0 (flR (b 0) (fun c => c) 6)) (F := F) (A := A) (o := o) 1001 0 (by omega) (by omega) v
      rw [flR_0, rowA_self] at this
      exact this
    · refine k_at (j := i) (by omega) ?_
      refine k_eq (z := nI (i + 1)) (nI_add i 1) ?_
      refine hK _ ?_
      refine k_heq (hY_eq rfl ((cA_up (rowA b 0 (flR (b 0) (fun c => c) i)) 0 i i).trans (congrArg cA ((up2_row b 0 i i _).trans (congrArg (rowA b 0) (flR_s (b 0) (fun c => c) i)))))) ?_
      exact ih (i + 1) (by omega) (by omega) v
theorem m3_day_ok {n : Nat} (hn : n ≤ 1000) : k_Met Y3_day [.ref 24, .int (nI n)] (hY g b F A o) (.inl none, hY (dyG g n) (dyB b) F A o, 0, 0) := by
  refine k_intro (by decide +kernel) rfl rfl rfl ?_
  refine k_go 99 [] T3_day_ok (fun K hK => ?_)
  refine b_gt (a := n) (b := 1000) (by omega) (by omega) (fun h => absurd h (by omega)) (fun _ => ?_)
  refine z_lt (a := n) (by omega) ?_
  refine hK _ ?_
  refine k_callV (Y' := Y3_goes) (as := [.int (nI 3), .int (bB true), .int (bB true), .int (bB true), .int (bB true)]) (st := []) (m3_goes (k := 3) (by omega) true true true true) rfl c3_85 rfl rfl rfl d3_day_25 (Nat.le_of_ble_eq_true rfl) (Nat.le_of_ble_eq_true rfl) rfl rfl ?_
  refine k_go 99 [59] T3_day_ok (fun K hK => ?_)
  refine q_ne (fun _ => ?_) (fun e => absurd e (by decide))
  refine hK _ ?_
  refine k_heq (hY_eq (cF_up' (v := 0) (k := 5) (cF_up' (v := 0) (k := 4) (cF_up' (v := 0) (k := 3) (cF_up' (v := 0) (k := 2) (cF_up' (v := n) (k := 1) (f := up1 g 0 0) rfl))))) rfl) ?_
  have := m3_day_1 (g := dyG g n) (b := b) (F := F) (A := A) (o := o) 7 0 (by omega) (by omega) (nI n)
  rw [flR_0, rowA_self] at this
  exact this
theorem m3_unit_bad (hf : g 3 < 10000) (h : ¬ (inR x 10000 ∧ inR y 10000 ∧ inR z 10000 ∧ inR w 6)) : k_Met Y3_unit [.ref 24, .int x, .int y, .int z, .int w] (hY g b F A o) (.inl (some (.int 0)), hY (up1 g 0 1) b F A o, 0, 0) := by
  have tail : k_W Y3_unit none (.inl (some (.int 0)), hY (up1 g 0 1) b F A o, 0, 0) (36, [(0, .ref 24), (1, .int x), (2, .int y), (3, .int z), (4, .int w)], [.int (bB false), .int (nI 1), .int (nI 10), .ref 24], hY g b F A o, 0, 0) := by
    refine k_go 99 [] T3_unit_ok (fun K hK => ?_)
    refine b_ge (a := g 3) (b := 20) (by omega) (by omega) (fun _ => ?_) (fun _ => ?_)
    · refine hK _ ?_
      refine k_callV (Y' := Y3_goes) (as := [.int (nI 10), .int (bB true), .int (bB false), .int (bB true), .int (bB false)]) (st := []) (m3_goes (k := 10) (by omega) true false true false) rfl c3_85 rfl rfl rfl d3_unit_51 (Nat.le_of_ble_eq_true rfl) (Nat.le_of_ble_eq_true rfl) rfl rfl ?_
      refine k_go 99 [] T3_unit_ok (fun K hK => ?_)
      refine q_ne (fun e => absurd e (by decide)) (fun _ => ?_)
      refine hK _ ?_
      exact k_ireturn d3_unit_58 rfl rfl rfl rfl (Nat.le_of_ble_eq_true rfl) (Nat.le_of_ble_eq_true rfl)
    · refine hK _ ?_
      refine k_callV (Y' := Y3_goes) (as := [.int (nI 10), .int (bB true), .int (bB false), .int (bB true), .int (bB true)]) (st := []) (m3_goes (k := 10) (by omega) true false true true) rfl c3_85 rfl rfl rfl d3_unit_51 (Nat.le_of_ble_eq_true rfl) (Nat.le_of_ble_eq_true rfl) rfl rfl ?_
      refine k_go 99 [] T3_unit_ok (fun K hK => ?_)
      refine q_ne (fun e => absurd e (by decide)) (fun _ => ?_)
      refine hK _ ?_
      exact k_ireturn d3_unit_58 rfl rfl rfl rfl (Nat.le_of_ble_eq_true rfl) (Nat.le_of_ble_eq_true rfl)
  refine k_intro (by decide +kernel) rfl rfl rfl ?_
  refine k_go 99 [36] T3_unit_ok (fun K hK => ?_)
  refine hK _ ?_
  refine k_callS (Y' := Y3_isPoint) (as := [.int x, .int y]) (st := [.int (nI 1), .int (nI 10), .ref 24]) (m3_isPoint) rfl c3_95 rfl rfl d3_unit_6 (Nat.le_of_ble_eq_true rfl) (Nat.le_of_ble_eq_true rfl) rfl rfl ?_
  refine k_go 99 [36] T3_unit_ok (fun K hK => ?_)
  refine q_eq (fun _ => hK _ tail) (fun h1 => ?_)
  refine hK _ ?_
  refine k_callS (Y' := Y3_in) (as := [.int z, .int (nI 0), .int (nI 9999)]) (st := [.int (nI 1), .int (nI 10), .ref 24]) (m3_inR (n := 9999) (by omega)) rfl c3_72 rfl rfl d3_unit_17 (Nat.le_of_ble_eq_true rfl) (Nat.le_of_ble_eq_true rfl) rfl rfl ?_
  refine k_go 99 [36] T3_unit_ok (fun K hK => ?_)
  refine q_eq (fun _ => hK _ tail) (fun h2 => ?_)
  refine hK _ ?_
  refine k_callS (Y' := Y3_isChannel) (as := [.int w]) (st := [.int (nI 1), .int (nI 10), .ref 24]) (m3_isChannel) rfl c3_99 rfl rfl d3_unit_25 (Nat.le_of_ble_eq_true rfl) (Nat.le_of_ble_eq_true rfl) rfl rfl ?_
  refine k_go 99 [36] T3_unit_ok (fun K hK => ?_)
  refine q_eq (fun _ => hK _ tail) (fun h3 => ?_)
  exfalso
  simp only [Bool.and_eq_true, decide_eq_true_eq] at h1 h2 h3
  exact h ⟨h1.1, h1.2, h2, h3⟩
theorem m3_unit_full (hf : g 3 < 10000) (h : inR x 10000 ∧ inR y 10000 ∧ inR z 10000 ∧ inR w 6) (h5 : 20 ≤ g 3) : k_Met Y3_unit [.ref 24, .int x, .int y, .int z, .int w] (hY g b F A o) (.inl (some (.int 0)), hY (up1 g 0 2) b F A o, 0, 0) := by
  refine k_intro (by decide +kernel) rfl rfl rfl ?_
  refine k_go 99 [36] T3_unit_ok (fun K hK => ?_)
  refine hK _ ?_
  refine k_callS (Y' := Y3_isPoint) (as := [.int x, .int y]) (st := [.int (nI 1), .int (nI 10), .ref 24]) (m3_isPoint) rfl c3_95 rfl rfl d3_unit_6 (Nat.le_of_ble_eq_true rfl) (Nat.le_of_ble_eq_true rfl) rfl rfl ?_
  refine k_go 99 [36] T3_unit_ok (fun K hK => ?_)
  refine q_eq (fun e => by rw [decide_eq_true h.1, decide_eq_true h.2.1] at e; cases e) (fun _ => ?_)
  refine hK _ ?_
  refine k_callS (Y' := Y3_in) (as := [.int z, .int (nI 0), .int (nI 9999)]) (st := [.int (nI 1), .int (nI 10), .ref 24]) (m3_inR (n := 9999) (by omega)) rfl c3_72 rfl rfl d3_unit_17 (Nat.le_of_ble_eq_true rfl) (Nat.le_of_ble_eq_true rfl) rfl rfl ?_
  refine k_go 99 [36] T3_unit_ok (fun K hK => ?_)
  refine q_eq (fun e => by rw [decide_eq_true h.2.2.1] at e; cases e) (fun _ => ?_)
  refine hK _ ?_
  refine k_callS (Y' := Y3_isChannel) (as := [.int w]) (st := [.int (nI 1), .int (nI 10), .ref 24]) (m3_isChannel) rfl c3_99 rfl rfl d3_unit_25 (Nat.le_of_ble_eq_true rfl) (Nat.le_of_ble_eq_true rfl) rfl rfl ?_
  refine k_go 99 [36] T3_unit_ok (fun K hK => ?_)
  refine q_eq (fun e => by rw [decide_eq_true h.2.2.2] at e; cases e) (fun _ => ?_)
  refine hK _ ?_
  refine k_go 99 [] T3_unit_ok (fun K hK => ?_)
  refine b_ge (a := g 3) (b := 20) (by omega) (by omega) (fun _ => ?_) (fun q => absurd h5 (by omega))
  refine hK _ ?_
  refine k_callV (Y' := Y3_goes) (as := [.int (nI 10), .int (bB true), .int (bB true), .int (bB true), .int (bB false)]) (st := []) (m3_goes (k := 10) (by omega) true true true false) rfl c3_85 rfl rfl rfl d3_unit_51 (Nat.le_of_ble_eq_true rfl) (Nat.le_of_ble_eq_true rfl) rfl rfl ?_
  refine k_go 99 [] T3_unit_ok (fun K hK => ?_)
  refine q_ne (fun e => absurd e (by decide)) (fun _ => ?_)
  refine hK _ ?_
  exact k_ireturn d3_unit_58 rfl rfl rfl rfl (Nat.le_of_ble_eq_true rfl) (Nat.le_of_ble_eq_true rfl)
def adunit (b : Nat → Nat → Nat) (k xx yy r c : Nat) : Nat → Nat → Nat := up2 (up2 (up2 (up2 b 1 k xx) 2 k yy) 3 k r) 4 k c
theorem m3_unit_ok {xx yy r c : Nat} (h1 : xx < 10000) (h2 : yy < 10000) (h3 : r < 10000) (h4 : c < 6) (h5 : g 3 < 20) : k_Met Y3_unit [.ref 24, .int (nI xx), .int (nI yy), .int (nI r), .int (nI c)] (hY g b F A o) (.inl (some (.int (nI (g 3)))), hY (up1 (up1 g 0 0) 3 (g 3 + 1)) (adunit b (g 3) xx yy r c) F A o, 0, 0) := by
  refine k_intro (by decide +kernel) rfl rfl rfl ?_
  refine k_go 99 [36] T3_unit_ok (fun K hK => ?_)
  refine hK _ ?_
  refine k_callS (Y' := Y3_isPoint) (as := [.int (nI xx), .int (nI yy)]) (st := [.int (nI 1), .int (nI 10), .ref 24]) (m3_isPoint) rfl c3_95 rfl rfl d3_unit_6 (Nat.le_of_ble_eq_true rfl) (Nat.le_of_ble_eq_true rfl) rfl rfl ?_
  refine k_go 99 [36] T3_unit_ok (fun K hK => ?_)
  refine q_eq (fun e => by rw [decide_eq_true (inR_nI h1 (by omega)), decide_eq_true (inR_nI h2 (by omega))] at e; cases e) (fun _ => ?_)
  refine hK _ ?_
  refine k_callS (Y' := Y3_in) (as := [.int (nI r), .int (nI 0), .int (nI 9999)]) (st := [.int (nI 1), .int (nI 10), .ref 24]) (m3_inR (n := 9999) (by omega)) rfl c3_72 rfl rfl d3_unit_17 (Nat.le_of_ble_eq_true rfl) (Nat.le_of_ble_eq_true rfl) rfl rfl ?_
  refine k_go 99 [36] T3_unit_ok (fun K hK => ?_)
  refine q_eq (fun e => by rw [decide_eq_true (inR_nI h3 (by omega))] at e; cases e) (fun _ => ?_)
  refine hK _ ?_
  refine k_callS (Y' := Y3_isChannel) (as := [.int (nI c)]) (st := [.int (nI 1), .int (nI 10), .ref 24]) (m3_isChannel) rfl c3_99 rfl rfl d3_unit_25 (Nat.le_of_ble_eq_true rfl) (Nat.le_of_ble_eq_true rfl) rfl rfl ?_
  refine k_go 99 [36] T3_unit_ok (fun K hK => ?_)
  refine q_eq (fun e => by rw [decide_eq_true (inR_nI h4 (by omega))] at e; cases e) (fun _ => ?_)
  refine hK _ ?_
  refine k_go 99 [] T3_unit_ok (fun K hK => ?_)
  refine b_ge (a := g 3) (b := 20) (by omega) (by omega) (fun q => absurd h5 (by omega)) (fun _ => ?_)
  refine hK _ ?_
  refine k_callV (Y' := Y3_goes) (as := [.int (nI 10), .int (bB true), .int (bB true), .int (bB true), .int (bB true)]) (st := []) (m3_goes (k := 10) (by omega) true true true true) rfl c3_85 rfl rfl rfl d3_unit_51 (Nat.le_of_ble_eq_true rfl) (Nat.le_of_ble_eq_true rfl) rfl rfl ?_
  refine k_go 99 [] T3_unit_ok (fun K hK => ?_)
  refine q_ne (fun _ => ?_) (fun e => absurd e (by decide))
  refine k_at (j := g 3) h5 ?_
  refine k_at (j := g 3) h5 ?_
  refine k_at (j := g 3) h5 ?_
  refine k_at (j := g 3) h5 ?_
  refine k_eq (z := nI (g 3 + 1)) (nI_add _ 1) ?_
  refine k_eq (z := nI (g 3)) (nI_pred _) ?_
  refine hK _ ?_
  exact k_ireturn d3_unit_116 rfl rfl rfl (hY_eq (cF_up' (f := up1 g 0 0) rfl) (cA_up' (cA_up' (cA_up' (cA_up' (a := b) rfl rfl) rfl) rfl) rfl)).symm (Nat.le_of_ble_eq_true rfl) (Nat.le_of_ble_eq_true rfl)
theorem m3_repeater_bad (hf : g 4 < 10000) (h : ¬ (inR x 10000 ∧ inR y 10000 ∧ inR z 10000 ∧ inR w 6)) : k_Met Y3_repeater [.ref 24, .int x, .int y, .int z, .int w] (hY g b F A o) (.inl (some (.int 0)), hY (up1 g 0 1) b F A o, 0, 0) := by
  have tail : k_W Y3_repeater none (.inl (some (.int 0)), hY (up1 g 0 1) b F A o, 0, 0) (36, [(0, .ref 24), (1, .int x), (2, .int y), (3, .int z), (4, .int w)], [.int (bB false), .int (nI 1), .int (nI 10), .ref 24], hY g b F A o, 0, 0) := by
    refine k_go 99 [] T3_repeater_ok (fun K hK => ?_)
    refine b_ge (a := g 4) (b := 8) (by omega) (by omega) (fun _ => ?_) (fun _ => ?_)
    · refine hK _ ?_
      refine k_callV (Y' := Y3_goes) (as := [.int (nI 10), .int (bB true), .int (bB false), .int (bB true), .int (bB false)]) (st := []) (m3_goes (k := 10) (by omega) true false true false) rfl c3_85 rfl rfl rfl d3_repeater_51 (Nat.le_of_ble_eq_true rfl) (Nat.le_of_ble_eq_true rfl) rfl rfl ?_
      refine k_go 99 [] T3_repeater_ok (fun K hK => ?_)
      refine q_ne (fun e => absurd e (by decide)) (fun _ => ?_)
      refine hK _ ?_
      exact k_ireturn d3_repeater_58 rfl rfl rfl rfl (Nat.le_of_ble_eq_true rfl) (Nat.le_of_ble_eq_true rfl)
    · refine hK _ ?_
      refine k_callV (Y' := Y3_goes) (as := [.int (nI 10), .int (bB true), .int (bB false), .int (bB true), .int (bB true)]) (st := []) (m3_goes (k := 10) (by omega) true false true true) rfl c3_85 rfl rfl rfl d3_repeater_51 (Nat.le_of_ble_eq_true rfl) (Nat.le_of_ble_eq_true rfl) rfl rfl ?_
      refine k_go 99 [] T3_repeater_ok (fun K hK => ?_)
      refine q_ne (fun e => absurd e (by decide)) (fun _ => ?_)
      refine hK _ ?_
      exact k_ireturn d3_repeater_58 rfl rfl rfl rfl (Nat.le_of_ble_eq_true rfl) (Nat.le_of_ble_eq_true rfl)
  refine k_intro (by decide +kernel) rfl rfl rfl ?_
  refine k_go 99 [36] T3_repeater_ok (fun K hK => ?_)
  refine hK _ ?_
  refine k_callS (Y' := Y3_isPoint) (as := [.int x, .int y]) (st := [.int (nI 1), .int (nI 10), .ref 24]) (m3_isPoint) rfl c3_95 rfl rfl d3_repeater_6 (Nat.le_of_ble_eq_true rfl) (Nat.le_of_ble_eq_true rfl) rfl rfl ?_
  refine k_go 99 [36] T3_repeater_ok (fun K hK => ?_)
  refine q_eq (fun _ => hK _ tail) (fun h1 => ?_)
  refine hK _ ?_
  refine k_callS (Y' := Y3_in) (as := [.int z, .int (nI 0), .int (nI 9999)]) (st := [.int (nI 1), .int (nI 10), .ref 24]) (m3_inR (n := 9999) (by omega)) rfl c3_72 rfl rfl d3_repeater_17 (Nat.le_of_ble_eq_true rfl) (Nat.le_of_ble_eq_true rfl) rfl rfl ?_
  refine k_go 99 [36] T3_repeater_ok (fun K hK => ?_)
  refine q_eq (fun _ => hK _ tail) (fun h2 => ?_)
  refine hK _ ?_
  refine k_callS (Y' := Y3_isChannel) (as := [.int w]) (st := [.int (nI 1), .int (nI 10), .ref 24]) (m3_isChannel) rfl c3_99 rfl rfl d3_repeater_25 (Nat.le_of_ble_eq_true rfl) (Nat.le_of_ble_eq_true rfl) rfl rfl ?_
  refine k_go 99 [36] T3_repeater_ok (fun K hK => ?_)
  refine q_eq (fun _ => hK _ tail) (fun h3 => ?_)
  exfalso
  simp only [Bool.and_eq_true, decide_eq_true_eq] at h1 h2 h3
  exact h ⟨h1.1, h1.2, h2, h3⟩
theorem m3_repeater_full (hf : g 4 < 10000) (h : inR x 10000 ∧ inR y 10000 ∧ inR z 10000 ∧ inR w 6) (h5 : 8 ≤ g 4) : k_Met Y3_repeater [.ref 24, .int x, .int y, .int z, .int w] (hY g b F A o) (.inl (some (.int 0)), hY (up1 g 0 2) b F A o, 0, 0) := by
  refine k_intro (by decide +kernel) rfl rfl rfl ?_
  refine k_go 99 [36] T3_repeater_ok (fun K hK => ?_)
  refine hK _ ?_
  refine k_callS (Y' := Y3_isPoint) (as := [.int x, .int y]) (st := [.int (nI 1), .int (nI 10), .ref 24]) (m3_isPoint) rfl c3_95 rfl rfl d3_repeater_6 (Nat.le_of_ble_eq_true rfl) (Nat.le_of_ble_eq_true rfl) rfl rfl ?_
  refine k_go 99 [36] T3_repeater_ok (fun K hK => ?_)
  refine q_eq (fun e => by rw [decide_eq_true h.1, decide_eq_true h.2.1] at e; cases e) (fun _ => ?_)
  refine hK _ ?_
  refine k_callS (Y' := Y3_in) (as := [.int z, .int (nI 0), .int (nI 9999)]) (st := [.int (nI 1), .int (nI 10), .ref 24]) (m3_inR (n := 9999) (by omega)) rfl c3_72 rfl rfl d3_repeater_17 (Nat.le_of_ble_eq_true rfl) (Nat.le_of_ble_eq_true rfl) rfl rfl ?_
  refine k_go 99 [36] T3_repeater_ok (fun K hK => ?_)
  refine q_eq (fun e => by rw [decide_eq_true h.2.2.1] at e; cases e) (fun _ => ?_)
  refine hK _ ?_
  refine k_callS (Y' := Y3_isChannel) (as := [.int w]) (st := [.int (nI 1), .int (nI 10), .ref 24]) (m3_isChannel) rfl c3_99 rfl rfl d3_repeater_25 (Nat.le_of_ble_eq_true rfl) (Nat.le_of_ble_eq_true rfl) rfl rfl ?_
  refine k_go 99 [36] T3_repeater_ok (fun K hK => ?_)
  refine q_eq (fun e => by rw [decide_eq_true h.2.2.2] at e; cases e) (fun _ => ?_)
  refine hK _ ?_
  refine k_go 99 [] T3_repeater_ok (fun K hK => ?_)
  refine b_ge (a := g 4) (b := 8) (by omega) (by omega) (fun _ => ?_) (fun q => absurd h5 (by omega))
  refine hK _ ?_
  refine k_callV (Y' := Y3_goes) (as := [.int (nI 10), .int (bB true), .int (bB true), .int (bB true), .int (bB false)]) (st := []) (m3_goes (k := 10) (by omega) true true true false) rfl c3_85 rfl rfl rfl d3_repeater_51 (Nat.le_of_ble_eq_true rfl) (Nat.le_of_ble_eq_true rfl) rfl rfl ?_
  refine k_go 99 [] T3_repeater_ok (fun K hK => ?_)
  refine q_ne (fun e => absurd e (by decide)) (fun _ => ?_)
  refine hK _ ?_
  exact k_ireturn d3_repeater_58 rfl rfl rfl rfl (Nat.le_of_ble_eq_true rfl) (Nat.le_of_ble_eq_true rfl)
def adrepeater (b : Nat → Nat → Nat) (k xx yy r c : Nat) : Nat → Nat → Nat := up2 (up2 (up2 (up2 b 5 k xx) 6 k yy) 7 k r) 8 k c
theorem m3_repeater_ok {xx yy r c : Nat} (h1 : xx < 10000) (h2 : yy < 10000) (h3 : r < 10000) (h4 : c < 6) (h5 : g 4 < 8) : k_Met Y3_repeater [.ref 24, .int (nI xx), .int (nI yy), .int (nI r), .int (nI c)] (hY g b F A o) (.inl (some (.int (nI (g 4)))), hY (up1 (up1 g 0 0) 4 (g 4 + 1)) (adrepeater b (g 4) xx yy r c) F A o, 0, 0) := by
  refine k_intro (by decide +kernel) rfl rfl rfl ?_
  refine k_go 99 [36] T3_repeater_ok (fun K hK => ?_)
  refine hK _ ?_
  refine k_callS (Y' := Y3_isPoint) (as := [.int (nI xx), .int (nI yy)]) (st := [.int (nI 1), .int (nI 10), .ref 24]) (m3_isPoint) rfl c3_95 rfl rfl d3_repeater_6 (Nat.le_of_ble_eq_true rfl) (Nat.le_of_ble_eq_true rfl) rfl rfl ?_
  refine k_go 99 [36] T3_repeater_ok (fun K hK => ?_)
  refine q_eq (fun e => by rw [decide_eq_true (inR_nI h1 (by omega)), decide_eq_true (inR_nI h2 (by omega))] at e; cases e) (fun _ => ?_)
  refine hK _ ?_
  refine k_callS (Y' := Y3_in) (as := [.int (nI r), .int (nI 0), .int (nI 9999)]) (st := [.int (nI 1), .int (nI 10), .ref 24]) (m3_inR (n := 9999) (by omega)) rfl c3_72 rfl rfl d3_repeater_17 (Nat.le_of_ble_eq_true rfl) (Nat.le_of_ble_eq_true rfl) rfl rfl ?_
  refine k_go 99 [36] T3_repeater_ok (fun K hK => ?_)
  refine q_eq (fun e => by rw [decide_eq_true (inR_nI h3 (by omega))] at e; cases e) (fun _ => ?_)
  refine hK _ ?_
  refine k_callS (Y' := Y3_isChannel) (as := [.int (nI c)]) (st := [.int (nI 1), .int (nI 10), .ref 24]) (m3_isChannel) rfl c3_99 rfl rfl d3_repeater_25 (Nat.le_of_ble_eq_true rfl) (Nat.le_of_ble_eq_true rfl) rfl rfl ?_
  refine k_go 99 [36] T3_repeater_ok (fun K hK => ?_)
  refine q_eq (fun e => by rw [decide_eq_true (inR_nI h4 (by omega))] at e; cases e) (fun _ => ?_)
  refine hK _ ?_
  refine k_go 99 [] T3_repeater_ok (fun K hK => ?_)
  refine b_ge (a := g 4) (b := 8) (by omega) (by omega) (fun q => absurd h5 (by omega)) (fun _ => ?_)
  refine hK _ ?_
  refine k_callV (Y' := Y3_goes) (as := [.int (nI 10), .int (bB true), .int (bB true), .int (bB true), .int (bB true)]) (st := []) (m3_goes (k := 10) (by omega) true true true true) rfl c3_85 rfl rfl rfl d3_repeater_51 (Nat.le_of_ble_eq_true rfl) (Nat.le_of_ble_eq_true rfl) rfl rfl ?_
  refine k_go 99 [] T3_repeater_ok (fun K hK => ?_)
  refine q_ne (fun _ => ?_) (fun e => absurd e (by decide))
  refine k_at (j := g 4) h5 ?_
  refine k_at (j := g 4) h5 ?_
  refine k_at (j := g 4) h5 ?_
  refine k_at (j := g 4) h5 ?_
  refine k_eq (z := nI (g 4 + 1)) (nI_add _ 1) ?_
  refine k_eq (z := nI (g 4)) (nI_pred _) ?_
  refine hK _ ?_
  exact k_ireturn d3_repeater_116 rfl rfl rfl (hY_eq (cF_up' (f := up1 g 0 0) rfl) (cA_up' (cA_up' (cA_up' (cA_up' (a := b) rfl rfl) rfl) rfl) rfl)).symm (Nat.le_of_ble_eq_true rfl) (Nat.le_of_ble_eq_true rfl)
end MB
