section MI
variable {g : Nat → Nat} {b : Nat → Nat → Nat} {F : Nat → Int32} {A : Nat → Nat → Int32} {o : Nat → Int64} {x y z w : Int32}
theorem m3_day0g (I : IvD g b) {c : Nat} (hc : c < 6) : k_Met Y3_day0 [.ref 24, .int (nI c)] (hY (up1 g 0 0) b F A o) (.inl none, hY (up1 g 0 0) (day0B (up1 g 0 0) b c) F A o, 0, 0) := m3_day0 (IvM_g0 I.1) I.2 (by omega)
theorem m3_on_unk (I : IvM g b) (h : ¬ inR x 6) : k_Met Y3_on [.ref 24, .int x, .int y] (hY g b F A o) (.inl (some (.int 0)), hY (up1 g 0 1) b F A o, 0, 0) := by
  have g1 := I.2.2.2.2.2.2.2.2.2.2.2.2.1
  refine k_intro (by decide +kernel) rfl rfl rfl ?_
  refine k_go 99 [] T3_on_ok (fun K hK => ?_)
  refine hK _ ?_
  refine k_callS (Y' := Y3_isChannel) (as := [.int x]) (st := [.int (nI 3), .ref 24]) (m3_isChannel) rfl c3_99 rfl rfl d3_on_3 (Nat.le_of_ble_eq_true rfl) (Nat.le_of_ble_eq_true rfl) rfl rfl ?_
  rw [decide_eq_false h]
  refine k_go 99 [] T3_on_ok (fun K hK => ?_)
  refine hK _ ?_
  refine k_callV (Y' := Y3_isSlot) (as := [.int y]) (st := [.int (bB false), .int (nI 3), .ref 24]) (m3_isSlot (by omega)) rfl c3_106 rfl rfl rfl d3_on_8 (Nat.le_of_ble_eq_true rfl) (Nat.le_of_ble_eq_true rfl) rfl rfl ?_
  refine k_go 99 [] T3_on_ok (fun K hK => ?_)
  refine hK _ ?_
  refine k_callV (Y' := Y3_goes) (as := [.int (nI 3), .int (bB false), .int (bB (decide (inR y (g 1)))), .int (bB true), .int (bB true)]) (st := []) (m3_goes (k := 3) (by omega) false (decide (inR y (g 1))) true true) rfl c3_85 rfl rfl rfl d3_on_13 (Nat.le_of_ble_eq_true rfl) (Nat.le_of_ble_eq_true rfl) rfl rfl ?_
  refine k_go 99 [] T3_on_ok (fun K hK => ?_)
  refine q_ne (fun e => absurd e (by simp)) (fun _ => ?_)
  refine hK _ ?_
  exact k_ireturn d3_on_20 rfl rfl rfl rfl (Nat.le_of_ble_eq_true rfl) (Nat.le_of_ble_eq_true rfl)
theorem m3_on_bad (I : IvM g b) (h : inR x 6) (h2 : ¬ inR y (g 1)) : k_Met Y3_on [.ref 24, .int x, .int y] (hY g b F A o) (.inl (some (.int 0)), hY (up1 g 0 2) b F A o, 0, 0) := by
  have g1 := I.2.2.2.2.2.2.2.2.2.2.2.2.1
  refine k_intro (by decide +kernel) rfl rfl rfl ?_
  refine k_go 99 [] T3_on_ok (fun K hK => ?_)
  refine hK _ ?_
  refine k_callS (Y' := Y3_isChannel) (as := [.int x]) (st := [.int (nI 3), .ref 24]) (m3_isChannel) rfl c3_99 rfl rfl d3_on_3 (Nat.le_of_ble_eq_true rfl) (Nat.le_of_ble_eq_true rfl) rfl rfl ?_
  rw [decide_eq_true h]
  refine k_go 99 [] T3_on_ok (fun K hK => ?_)
  refine hK _ ?_
  refine k_callV (Y' := Y3_isSlot) (as := [.int y]) (st := [.int (bB true), .int (nI 3), .ref 24]) (m3_isSlot (by omega)) rfl c3_106 rfl rfl rfl d3_on_8 (Nat.le_of_ble_eq_true rfl) (Nat.le_of_ble_eq_true rfl) rfl rfl ?_
  rw [decide_eq_false h2]
  refine k_go 99 [] T3_on_ok (fun K hK => ?_)
  refine hK _ ?_
  refine k_callV (Y' := Y3_goes) (as := [.int (nI 3), .int (bB true), .int (bB false), .int (bB true), .int (bB true)]) (st := []) (m3_goes (k := 3) (by omega) true false true true) rfl c3_85 rfl rfl rfl d3_on_13 (Nat.le_of_ble_eq_true rfl) (Nat.le_of_ble_eq_true rfl) rfl rfl ?_
  refine k_go 99 [] T3_on_ok (fun K hK => ?_)
  refine q_ne (fun e => absurd e (by decide)) (fun _ => ?_)
  refine hK _ ?_
  exact k_ireturn d3_on_20 rfl rfl rfl rfl (Nat.le_of_ble_eq_true rfl) (Nat.le_of_ble_eq_true rfl)
theorem m3_on_ok (I : IvD g b) {c s : Nat} (hc : c < 6) (hs : s < g 1) : k_Met Y3_on [.ref 24, .int (nI c), .int (nI s)] (hY g b F A o) (.inl (some (.int (nI ((day0B (up1 g 0 0) b (b 0 c)) 15 s)))), hY (up1 g 0 0) (day0B (up1 g 0 0) b (b 0 c)) F A o, 0, 0) := by
  have md := m3_day0g (F := F) (A := A) (o := o) I (I.1.1 c)
  obtain ⟨I, h18⟩ := I
  have g1 := I.2.2.2.2.2.2.2.2.2.2.2.2.1
  generalize day0B (up1 g 0 0) b (b 0 c) = b2 at md ⊢
  refine k_intro (by decide +kernel) rfl rfl rfl ?_
  refine k_go 99 [] T3_on_ok (fun K hK => ?_)
  refine hK _ ?_
  refine k_callS (Y' := Y3_isChannel) (as := [.int (nI c)]) (st := [.int (nI 3), .ref 24]) (m3_isChannel) rfl c3_99 rfl rfl d3_on_3 (Nat.le_of_ble_eq_true rfl) (Nat.le_of_ble_eq_true rfl) rfl rfl ?_
  rw [decide_eq_true (inR_nI hc (by omega))]
  refine k_go 99 [] T3_on_ok (fun K hK => ?_)
  refine hK _ ?_
  refine k_callV (Y' := Y3_isSlot) (as := [.int (nI s)]) (st := [.int (bB true), .int (nI 3), .ref 24]) (m3_isSlot (by omega)) rfl c3_106 rfl rfl rfl d3_on_8 (Nat.le_of_ble_eq_true rfl) (Nat.le_of_ble_eq_true rfl) rfl rfl ?_
  rw [decide_eq_true (inR_nI hs (by omega))]
  refine k_go 99 [] T3_on_ok (fun K hK => ?_)
  refine hK _ ?_
  refine k_callV (Y' := Y3_goes) (as := [.int (nI 3), .int (bB true), .int (bB true), .int (bB true), .int (bB true)]) (st := []) (m3_goes (k := 3) (by omega) true true true true) rfl c3_85 rfl rfl rfl d3_on_13 (Nat.le_of_ble_eq_true rfl) (Nat.le_of_ble_eq_true rfl) rfl rfl ?_
  refine k_go 99 [] T3_on_ok (fun K hK => ?_)
  refine q_ne (fun _ => ?_) (fun e => absurd e (by decide))
  refine k_at (j := c) hc ?_
  refine hK _ ?_
  refine k_callV (Y' := Y3_day0) (as := [.int (nI (b 0 c))]) (st := []) (md) rfl c3_140 rfl rfl rfl d3_on_28 (Nat.le_of_ble_eq_true rfl) (Nat.le_of_ble_eq_true rfl) rfl rfl ?_
  refine k_go 99 [] T3_on_ok (fun K hK => ?_)
  refine k_at (j := s) (by omega) ?_
  refine hK _ ?_
  exact k_ireturn d3_on_37 rfl rfl rfl rfl (Nat.le_of_ble_eq_true rfl) (Nat.le_of_ble_eq_true rfl)
theorem m3_ended_unk (I : IvM g b) (h : ¬ inR x (g 5)) : k_Met Y3_ended [.ref 24, .int x] (hY g b F A o) (.inl (some (.int 0)), hY (up1 g 0 1) b F A o, 0, 0) := by
  have g5 := I.2.2.2.2.2.2.2.2.2.2.2.2.2.2.2.2
  refine k_intro (by decide +kernel) rfl rfl rfl ?_
  refine k_go 99 [] T3_ended_ok (fun K hK => ?_)
  refine hK _ ?_
  refine k_callV (Y' := Y3_isMessage) (as := [.int x]) (st := [.int (nI 1), .ref 24]) (m3_isMessage (by omega)) rfl c3_116 rfl rfl rfl d3_ended_4 (Nat.le_of_ble_eq_true rfl) (Nat.le_of_ble_eq_true rfl) rfl rfl ?_
  rw [decide_eq_false h]
  refine k_go 99 [] T3_ended_ok (fun K hK => ?_)
  refine hK _ ?_
  refine k_callV (Y' := Y3_goes) (as := [.int (nI 1), .int (bB false), .int (bB true), .int (bB true), .int (bB true)]) (st := []) (m3_goes (k := 1) (by omega) false true true true) rfl c3_85 rfl rfl rfl d3_ended_10 (Nat.le_of_ble_eq_true rfl) (Nat.le_of_ble_eq_true rfl) rfl rfl ?_
  refine k_go 99 [] T3_ended_ok (fun K hK => ?_)
  refine q_ne (fun e => absurd e (by decide)) (fun _ => ?_)
  refine hK _ ?_
  exact k_ireturn d3_ended_17 rfl rfl rfl rfl (Nat.le_of_ble_eq_true rfl) (Nat.le_of_ble_eq_true rfl)
theorem m3_ended_ok (I : IvD g b) {q : Nat} (hq : q < g 5) : k_Met Y3_ended [.ref 24, .int (nI q)] (hY g b F A o) (.inl (some (.int (nI ((day0B (up1 g 0 0) b (b 0 (b 13 q))) 17 q)))), hY (up1 g 0 0) (day0B (up1 g 0 0) b (b 0 (b 13 q))) F A o, 0, 0) := by
  have md := m3_day0g (F := F) (A := A) (o := o) I (I.1.1 (b 13 q))
  obtain ⟨I, h18⟩ := I
  have g5 := I.2.2.2.2.2.2.2.2.2.2.2.2.2.2.2.2
  have h13 := I.2.2.2.2.2.2.2.1 q
  generalize day0B (up1 g 0 0) b (b 0 (b 13 q)) = b2 at md ⊢
  refine k_intro (by decide +kernel) rfl rfl rfl ?_
  refine k_go 99 [] T3_ended_ok (fun K hK => ?_)
  refine hK _ ?_
  refine k_callV (Y' := Y3_isMessage) (as := [.int (nI q)]) (st := [.int (nI 1), .ref 24]) (m3_isMessage (by omega)) rfl c3_116 rfl rfl rfl d3_ended_4 (Nat.le_of_ble_eq_true rfl) (Nat.le_of_ble_eq_true rfl) rfl rfl ?_
  rw [decide_eq_true (inR_nI hq (by omega))]
  refine k_go 99 [] T3_ended_ok (fun K hK => ?_)
  refine hK _ ?_
  refine k_callV (Y' := Y3_goes) (as := [.int (nI 1), .int (bB true), .int (bB true), .int (bB true), .int (bB true)]) (st := []) (m3_goes (k := 1) (by omega) true true true true) rfl c3_85 rfl rfl rfl d3_ended_10 (Nat.le_of_ble_eq_true rfl) (Nat.le_of_ble_eq_true rfl) rfl rfl ?_
  refine k_go 99 [] T3_ended_ok (fun K hK => ?_)
  refine q_ne (fun _ => ?_) (fun e => absurd e (by decide))
  refine k_at (j := q) (by omega) ?_
  refine k_at (j := b 13 q) h13 ?_
  refine hK _ ?_
  refine k_callV (Y' := Y3_day0) (as := [.int (nI (b 0 (b 13 q)))]) (st := []) (md) rfl c3_140 rfl rfl rfl d3_ended_30 (Nat.le_of_ble_eq_true rfl) (Nat.le_of_ble_eq_true rfl) rfl rfl ?_
  refine k_go 99 [] T3_ended_ok (fun K hK => ?_)
  refine k_at (j := q) (by omega) ?_
  refine hK _ ?_
  exact k_ireturn d3_ended_39 rfl rfl rfl rfl (Nat.le_of_ble_eq_true rfl) (Nat.le_of_ble_eq_true rfl)
theorem m3_length_unk (I : IvM g b) (h : ¬ inR x (g 5)) : k_Met Y3_length [.ref 24, .int x] (hY g b F A o) (.inl (some (.int 0)), hY (up1 g 0 1) b F A o, 0, 0) := by
  have g5 := I.2.2.2.2.2.2.2.2.2.2.2.2.2.2.2.2
  refine k_intro (by decide +kernel) rfl rfl rfl ?_
  refine k_go 99 [] T3_length_ok (fun K hK => ?_)
  refine hK _ ?_
  refine k_callV (Y' := Y3_isMessage) (as := [.int x]) (st := [.int (nI 1), .ref 24]) (m3_isMessage (by omega)) rfl c3_116 rfl rfl rfl d3_length_4 (Nat.le_of_ble_eq_true rfl) (Nat.le_of_ble_eq_true rfl) rfl rfl ?_
  rw [decide_eq_false h]
  refine k_go 99 [] T3_length_ok (fun K hK => ?_)
  refine hK _ ?_
  refine k_callV (Y' := Y3_goes) (as := [.int (nI 1), .int (bB false), .int (bB true), .int (bB true), .int (bB true)]) (st := []) (m3_goes (k := 1) (by omega) false true true true) rfl c3_85 rfl rfl rfl d3_length_10 (Nat.le_of_ble_eq_true rfl) (Nat.le_of_ble_eq_true rfl) rfl rfl ?_
  refine k_go 99 [] T3_length_ok (fun K hK => ?_)
  refine q_ne (fun e => absurd e (by decide)) (fun _ => ?_)
  refine hK _ ?_
  exact k_ireturn d3_length_17 rfl rfl rfl rfl (Nat.le_of_ble_eq_true rfl) (Nat.le_of_ble_eq_true rfl)
theorem m3_length_ok (I : IvD g b) {q : Nat} (hq : q < g 5) : k_Met Y3_length [.ref 24, .int (nI q)] (hY g b F A o) (.inl (some (.int (nI ((day0B (up1 g 0 0) b (b 0 (b 13 q))) 18 q)))), hY (up1 g 0 0) (day0B (up1 g 0 0) b (b 0 (b 13 q))) F A o, 0, 0) := by
  have md := m3_day0g (F := F) (A := A) (o := o) I (I.1.1 (b 13 q))
  obtain ⟨I, h18⟩ := I
  have g5 := I.2.2.2.2.2.2.2.2.2.2.2.2.2.2.2.2
  have h13 := I.2.2.2.2.2.2.2.1 q
  generalize day0B (up1 g 0 0) b (b 0 (b 13 q)) = b2 at md ⊢
  refine k_intro (by decide +kernel) rfl rfl rfl ?_
  refine k_go 99 [] T3_length_ok (fun K hK => ?_)
  refine hK _ ?_
  refine k_callV (Y' := Y3_isMessage) (as := [.int (nI q)]) (st := [.int (nI 1), .ref 24]) (m3_isMessage (by omega)) rfl c3_116 rfl rfl rfl d3_length_4 (Nat.le_of_ble_eq_true rfl) (Nat.le_of_ble_eq_true rfl) rfl rfl ?_
  rw [decide_eq_true (inR_nI hq (by omega))]
  refine k_go 99 [] T3_length_ok (fun K hK => ?_)
  refine hK _ ?_
  refine k_callV (Y' := Y3_goes) (as := [.int (nI 1), .int (bB true), .int (bB true), .int (bB true), .int (bB true)]) (st := []) (m3_goes (k := 1) (by omega) true true true true) rfl c3_85 rfl rfl rfl d3_length_10 (Nat.le_of_ble_eq_true rfl) (Nat.le_of_ble_eq_true rfl) rfl rfl ?_
  refine k_go 99 [] T3_length_ok (fun K hK => ?_)
  refine q_ne (fun _ => ?_) (fun e => absurd e (by decide))
  refine k_at (j := q) (by omega) ?_
  refine k_at (j := b 13 q) h13 ?_
  refine hK _ ?_
  refine k_callV (Y' := Y3_day0) (as := [.int (nI (b 0 (b 13 q)))]) (st := []) (md) rfl c3_140 rfl rfl rfl d3_length_30 (Nat.le_of_ble_eq_true rfl) (Nat.le_of_ble_eq_true rfl) rfl rfl ?_
  refine k_go 99 [] T3_length_ok (fun K hK => ?_)
  refine k_at (j := q) (by omega) ?_
  refine hK _ ?_
  exact k_ireturn d3_length_39 rfl rfl rfl rfl (Nat.le_of_ble_eq_true rfl) (Nat.le_of_ble_eq_true rfl)
def cnB (P : Nat → Bool) : Nat → Nat → Nat → Nat
  | 0, _, t => t
  | n + 1, i, t => cnB P n (i + 1) (if P i = true then t + 1 else t)
theorem m3_used_unk (I : IvM g b) (h : ¬ inR x 6) : k_Met Y3_used [.ref 24, .int x, .int y, .int z] (hY g b F A o) (.inl (some (.int 0)), hY (up1 g 0 1) b F A o, 0, 0) := by
  have g1 := I.2.2.2.2.2.2.2.2.2.2.2.2.1
  have tail : k_W Y3_used none (.inl (some (.int 0)), hY (up1 g 0 1) b F A o, 0, 0) (35, [(0, .ref 24), (1, .int x), (2, .int y), (3, .int z)], [.int (bB false), .int (bB false), .int (nI 3), .ref 24], hY g b F A o, 0, 0) := by
    refine k_go 99 [] T3_used_ok (fun K hK => ?_)
    refine hK _ ?_
    refine k_callV (Y' := Y3_goes) (as := [.int (nI 3), .int (bB false), .int (bB false), .int (bB true), .int (bB true)]) (st := []) (m3_goes (k := 3) (by omega) false false true true) rfl c3_85 rfl rfl rfl d3_used_37 (Nat.le_of_ble_eq_true rfl) (Nat.le_of_ble_eq_true rfl) rfl rfl ?_
    refine k_go 99 [] T3_used_ok (fun K hK => ?_)
    refine q_ne (fun e => absurd e (by decide)) (fun _ => ?_)
    refine hK _ ?_
    exact k_ireturn d3_used_44 rfl rfl rfl rfl (Nat.le_of_ble_eq_true rfl) (Nat.le_of_ble_eq_true rfl)
  have tail2 : k_W Y3_used none (.inl (some (.int 0)), hY (up1 g 0 1) b F A o, 0, 0) (35, [(0, .ref 24), (1, .int x), (2, .int y), (3, .int z)], [.int (bB true), .int (bB false), .int (nI 3), .ref 24], hY g b F A o, 0, 0) := by
    refine k_go 99 [] T3_used_ok (fun K hK => ?_)
    refine hK _ ?_
    refine k_callV (Y' := Y3_goes) (as := [.int (nI 3), .int (bB false), .int (bB true), .int (bB true), .int (bB true)]) (st := []) (m3_goes (k := 3) (by omega) false true true true) rfl c3_85 rfl rfl rfl d3_used_37 (Nat.le_of_ble_eq_true rfl) (Nat.le_of_ble_eq_true rfl) rfl rfl ?_
    refine k_go 99 [] T3_used_ok (fun K hK => ?_)
    refine q_ne (fun e => absurd e (by decide)) (fun _ => ?_)
    refine hK _ ?_
    exact k_ireturn d3_used_44 rfl rfl rfl rfl (Nat.le_of_ble_eq_true rfl) (Nat.le_of_ble_eq_true rfl)
  refine k_intro (by decide +kernel) rfl rfl rfl ?_
  refine k_go 99 [35] T3_used_ok (fun K hK => ?_)
  refine hK _ ?_
  refine k_callS (Y' := Y3_isChannel) (as := [.int x]) (st := [.int (nI 3), .ref 24]) (m3_isChannel) rfl c3_99 rfl rfl d3_used_3 (Nat.le_of_ble_eq_true rfl) (Nat.le_of_ble_eq_true rfl) rfl rfl ?_
  rw [decide_eq_false h]
  refine k_go 99 [35] T3_used_ok (fun K hK => ?_)
  refine hK _ ?_
  refine k_callS (Y' := Y3_in) (as := [.int y, .int (nI 0), .int (nI (g 1))]) (st := [.int (bB false), .int (nI 3), .ref 24]) (m3_inR (n := g 1) (by omega)) rfl c3_72 rfl rfl d3_used_12 (Nat.le_of_ble_eq_true rfl) (Nat.le_of_ble_eq_true rfl) rfl rfl ?_
  refine k_go 99 [35] T3_used_ok (fun K hK => ?_)
  refine q_eq (fun _ => hK _ tail) (fun h1 => ?_)
  refine hK _ ?_
  refine k_callS (Y' := Y3_in) (as := [.int z, .int y, .int (nI (g 1))]) (st := [.int (bB false), .int (nI 3), .ref 24]) (m3_in) rfl c3_72 rfl rfl d3_used_24 (Nat.le_of_ble_eq_true rfl) (Nat.le_of_ble_eq_true rfl) rfl rfl ?_
  refine k_go 99 [35] T3_used_ok (fun K hK => ?_)
  refine q_eq (fun _ => hK _ tail) (fun _ => hK _ tail2)
theorem m3_used_bad (I : IvM g b) (h : inR x 6) (h2 : y < 0 ∨ nI (g 1) < z ∨ z < y) : k_Met Y3_used [.ref 24, .int x, .int y, .int z] (hY g b F A o) (.inl (some (.int 0)), hY (up1 g 0 2) b F A o, 0, 0) := by
  have g1 := I.2.2.2.2.2.2.2.2.2.2.2.2.1
  have tail : k_W Y3_used none (.inl (some (.int 0)), hY (up1 g 0 2) b F A o, 0, 0) (35, [(0, .ref 24), (1, .int x), (2, .int y), (3, .int z)], [.int (bB false), .int (bB true), .int (nI 3), .ref 24], hY g b F A o, 0, 0) := by
    refine k_go 99 [] T3_used_ok (fun K hK => ?_)
    refine hK _ ?_
    refine k_callV (Y' := Y3_goes) (as := [.int (nI 3), .int (bB true), .int (bB false), .int (bB true), .int (bB true)]) (st := []) (m3_goes (k := 3) (by omega) true false true true) rfl c3_85 rfl rfl rfl d3_used_37 (Nat.le_of_ble_eq_true rfl) (Nat.le_of_ble_eq_true rfl) rfl rfl ?_
    refine k_go 99 [] T3_used_ok (fun K hK => ?_)
    refine q_ne (fun e => absurd e (by decide)) (fun _ => ?_)
    refine hK _ ?_
    exact k_ireturn d3_used_44 rfl rfl rfl rfl (Nat.le_of_ble_eq_true rfl) (Nat.le_of_ble_eq_true rfl)
  refine k_intro (by decide +kernel) rfl rfl rfl ?_
  refine k_go 99 [35] T3_used_ok (fun K hK => ?_)
  refine hK _ ?_
  refine k_callS (Y' := Y3_isChannel) (as := [.int x]) (st := [.int (nI 3), .ref 24]) (m3_isChannel) rfl c3_99 rfl rfl d3_used_3 (Nat.le_of_ble_eq_true rfl) (Nat.le_of_ble_eq_true rfl) rfl rfl ?_
  rw [decide_eq_true h]
  refine k_go 99 [35] T3_used_ok (fun K hK => ?_)
  refine hK _ ?_
  refine k_callS (Y' := Y3_in) (as := [.int y, .int (nI 0), .int (nI (g 1))]) (st := [.int (bB true), .int (nI 3), .ref 24]) (m3_inR (n := g 1) (by omega)) rfl c3_72 rfl rfl d3_used_12 (Nat.le_of_ble_eq_true rfl) (Nat.le_of_ble_eq_true rfl) rfl rfl ?_
  refine k_go 99 [35] T3_used_ok (fun K hK => ?_)
  refine q_eq (fun _ => hK _ tail) (fun h1 => ?_)
  refine hK _ ?_
  refine k_callS (Y' := Y3_in) (as := [.int z, .int y, .int (nI (g 1))]) (st := [.int (bB true), .int (nI 3), .ref 24]) (m3_in) rfl c3_72 rfl rfl d3_used_24 (Nat.le_of_ble_eq_true rfl) (Nat.le_of_ble_eq_true rfl) rfl rfl ?_
  refine k_go 99 [35] T3_used_ok (fun K hK => ?_)
  refine q_eq (fun _ => hK _ tail) (fun h3 => ?_)
  exfalso
  have h1 := of_decide_eq_true h1
  have h3 := of_decide_eq_true h3
  rcases h2 with h2 | h2 | h2
  · exact h1.1 h2
  · exact h3.2 h2
  · exact h3.1 h2
theorem m3_used_loop (I : IvM g b) {c p q : Nat} (hq : q ≤ g 1) : ∀ (n i t : Nat), q - i = n → i ≤ q → t ≤ i → ∀ (r : Nat), r = cnB (fun s => decide (b 15 s ≠ NONE)) n i t →
    k_W Y3_used none (.inl (some (.int (nI r))), hY g b F A o, 0, 0) (61, [(5, .int (nI i)), (4, .int (nI t)), (0, .ref 24), (1, .int (nI c)), (2, .int (nI p)), (3, .int (nI q))], [], hY g b F A o, 0, 0) := by
  have g1 := I.2.2.2.2.2.2.2.2.2.2.2.2.1
  intro n
  induction n with
  | zero =>
    intro i t hn hi ht r hr
    refine k_go 99 [61] T3_used_ok (fun K hK => ?_)
    refine b_ge (a := i) (b := q) (by omega) (by omega) (fun h => ?_) (fun h => absurd h (by omega))
    refine hK _ ?_
    exact k_ireturn d3_used_88 rfl rfl (rnN hr) rfl (Nat.le_of_ble_eq_true rfl) (Nat.le_of_ble_eq_true rfl)
  | succ n ih =>
    intro i t hn hi ht r hr
    have hr2 : r = cnB (fun s => decide (b 15 s ≠ NONE)) n (i + 1) (if decide (b 15 i ≠ NONE) = true then t + 1 else t) := hr
    have h15 := I.2.2.2.2.2.2.2.2.2.1 i
    refine k_go 99 [61] T3_used_ok (fun K hK => ?_)
    refine b_ge (a := i) (b := q) (by omega) (by omega) (fun h => absurd h (by omega)) (fun h => ?_)
    refine k_at (j := i) (by omega) ?_
    refine n_lt h15 (fun h1 => ?_) (fun h1 => ?_)
    · rw [if_neg (fun e => absurd h1 (of_decide_eq_true e))] at hr2
      refine k_eq (z := nI (i + 1)) (nI_add i 1) ?_
      refine hK _ ?_
      exact ih (i + 1) t (by omega) (by omega) (by omega) r hr2
    · rw [if_pos (decide_eq_true (n60 h1))] at hr2
      refine k_eq (z := nI (t + 1)) (nI_add t 1) ?_
      refine k_eq (z := nI (i + 1)) (nI_add i 1) ?_
      refine hK _ ?_
      refine k_perm (fun k hk => ?_) (ih (i + 1) (t + 1) (by omega) (by omega) (by omega) r hr2)
      exact hk
def usM (b : Nat → Nat → Nat) (p q : Nat) : Nat := cnB (fun s => decide (b 15 s ≠ NONE)) (q - p) p 0
theorem m3_used_ok (I : IvD g b) {c p q : Nat} (hc : c < 6) (hpq : p ≤ q) (hq : q ≤ g 1) : k_Met Y3_used [.ref 24, .int (nI c), .int (nI p), .int (nI q)] (hY g b F A o) (.inl (some (.int (nI (usM (day0B (up1 g 0 0) b (b 0 c)) p q)))), hY (up1 g 0 0) (day0B (up1 g 0 0) b (b 0 c)) F A o, 0, 0) := by
  have md := m3_day0g (F := F) (A := A) (o := o) I (I.1.1 c)
  have D : IvD (up1 g 0 0) (day0B (up1 g 0 0) b (b 0 c)) := day0_ok (IvD_g0 I)
  obtain ⟨I, h18⟩ := I
  have g1 := I.2.2.2.2.2.2.2.2.2.2.2.2.1
  generalize day0B (up1 g 0 0) b (b 0 c) = b2 at md D ⊢
  have e1 : inR (nI p) (g 1 + 1) := inR_nI (by omega) (by omega)
  have e2 : ¬ nI q < nI p ∧ ¬ nI (g 1) < nI q := ⟨fun e => by have := (nI_ltI (by omega) (by omega)).mp e; omega, fun e => by have := (nI_ltI (by omega) (by omega)).mp e; omega⟩
  have loop := m3_used_loop (F := F) (A := A) (o := o) (c := c) (p := p) (q := q) D.1 hq (q - p) p 0 rfl hpq (Nat.zero_le _) _ rfl
  have loop : k_W Y3_used none (.inl (some (.int (nI (usM b2 p q)))), hY (up1 g 0 0) b2 F A o, 0, 0) (61, [(5, .int (nI p)), (4, .int (nI 0)), (0, .ref 24), (1, .int (nI c)), (2, .int (nI p)), (3, .int (nI q))], [], hY (up1 g 0 0) b2 F A o, 0, 0) := loop
  generalize usM b2 p q = r at loop ⊢
  refine k_intro (by decide +kernel) rfl rfl rfl ?_
  refine k_go 99 [35] T3_used_ok (fun K hK => ?_)
  refine hK _ ?_
  refine k_callS (Y' := Y3_isChannel) (as := [.int (nI c)]) (st := [.int (nI 3), .ref 24]) (m3_isChannel) rfl c3_99 rfl rfl d3_used_3 (Nat.le_of_ble_eq_true rfl) (Nat.le_of_ble_eq_true rfl) rfl rfl ?_
  rw [decide_eq_true (inR_nI hc (by omega))]
  refine k_go 99 [35] T3_used_ok (fun K hK => ?_)
  refine hK _ ?_
  refine k_callS (Y' := Y3_in) (as := [.int (nI p), .int (nI 0), .int (nI (g 1))]) (st := [.int (bB true), .int (nI 3), .ref 24]) (m3_inR (n := g 1) (by omega)) rfl c3_72 rfl rfl d3_used_12 (Nat.le_of_ble_eq_true rfl) (Nat.le_of_ble_eq_true rfl) rfl rfl ?_
  rw [decide_eq_true e1]
  refine k_go 99 [35] T3_used_ok (fun K hK => ?_)
  refine q_eq (fun e => absurd e (by decide)) (fun _ => ?_)
  refine hK _ ?_
  refine k_callS (Y' := Y3_in) (as := [.int (nI q), .int (nI p), .int (nI (g 1))]) (st := [.int (bB true), .int (nI 3), .ref 24]) (m3_in) rfl c3_72 rfl rfl d3_used_24 (Nat.le_of_ble_eq_true rfl) (Nat.le_of_ble_eq_true rfl) rfl rfl ?_
  rw [decide_eq_true e2]
  refine k_go 99 [35] T3_used_ok (fun K hK => ?_)
  refine q_eq (fun e => absurd e (by decide)) (fun _ => ?_)
  refine hK _ ?_
  refine k_go 99 [61] T3_used_ok (fun K hK => ?_)
  refine hK _ ?_
  refine k_callV (Y' := Y3_goes) (as := [.int (nI 3), .int (bB true), .int (bB true), .int (bB true), .int (bB true)]) (st := []) (m3_goes (k := 3) (by omega) true true true true) rfl c3_85 rfl rfl rfl d3_used_37 (Nat.le_of_ble_eq_true rfl) (Nat.le_of_ble_eq_true rfl) rfl rfl ?_
  refine k_go 99 [61] T3_used_ok (fun K hK => ?_)
  refine q_ne (fun _ => ?_) (fun e => absurd e (by decide))
  refine k_at (j := c) hc ?_
  refine hK _ ?_
  refine k_callV (Y' := Y3_day0) (as := [.int (nI (b 0 c))]) (st := []) (md) rfl c3_140 rfl rfl rfl d3_used_52 (Nat.le_of_ble_eq_true rfl) (Nat.le_of_ble_eq_true rfl) rfl rfl ?_
  refine k_go 99 [61] T3_used_ok (fun K hK => ?_)
  refine hK _ ?_
  exact loop
end MI
