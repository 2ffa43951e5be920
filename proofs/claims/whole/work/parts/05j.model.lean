/-- the reference's search for the i-th unit that missed a message -/
def uhR (g : Nat → Nat) (m : Nat) : Nat → Nat → Nat → (Nat → Nat → Nat) → Nat × (Nat → Nat → Nat)
  | 0, _, _, b => (NONE, b)
  | n + 1, u, l, b => if b 0 (b 4 u) ≠ b 0 (b 13 m) ∨ u = b 9 m then uhR g m n (u + 1) l b
    else if hdB g (day0B g b (b 0 (b 13 m))) u m = true then uhR g m n (u + 1) l (day0B g b (b 0 (b 13 m)))
    else if l = 0 then (u, day0B g b (b 0 (b 13 m))) else uhR g m n (u + 1) (l - 1) (day0B g b (b 0 (b 13 m)))
theorem pk_dec {l : Nat} (h : 0 < l) : nI l + (-1) = nI (l - 1) := by
  obtain ⟨k, rfl⟩ : ∃ k, l = k + 1 := ⟨l - 1, by omega⟩
  rw [show (-1 : Int32) = -(nI 1) from rfl, ← Int32.sub_eq_add_neg]
  exact nI_pred k
section MJ
variable {g : Nat → Nat} {b : Nat → Nat → Nat} {F : Nat → Int32} {A : Nat → Nat → Int32} {o : Nat → Int64} {x y z w : Int32}
theorem m3_unheard_unk (I : IvM g b) (h : ¬ inR x (g 5)) : k_Met Y3_unheard [.ref 24, .int x, .int y] (hY g b F A o) (.inl (some (.int 0)), hY (up1 g 0 1) b F A o, 0, 0) := by
  have g5 := I.2.2.2.2.2.2.2.2.2.2.2.2.2.2.2.2
  refine k_intro (by decide +kernel) rfl rfl rfl ?_
  refine k_go 99 [] T3_unheard_ok (fun K hK => ?_)
  refine hK _ ?_
  refine k_callV (Y' := Y3_isMessage) (as := [.int x]) (st := [.int (nI 3), .ref 24]) (m3_isMessage (by omega)) rfl c3_116 rfl rfl rfl d3_unheard_4 (Nat.le_of_ble_eq_true rfl) (Nat.le_of_ble_eq_true rfl) rfl rfl ?_
  rw [decide_eq_false h]
  refine k_go 99 [] T3_unheard_ok (fun K hK => ?_)
  refine And.intro (fun _ => ?_) (fun _ => ?_)
  · refine hK _ ?_
    refine k_callV (Y' := Y3_goes) (as := [.int (nI 3), .int (bB false), .int (bB false), .int (bB true), .int (bB true)]) (st := []) (m3_goes (k := 3) (by omega) false false true true) rfl c3_85 rfl rfl rfl d3_unheard_18 (Nat.le_of_ble_eq_true rfl) (Nat.le_of_ble_eq_true rfl) rfl rfl ?_
    refine k_go 99 [] T3_unheard_ok (fun K hK => ?_)
    refine q_ne (fun e => absurd e (by decide)) (fun _ => ?_)
    refine hK _ ?_
    exact k_ireturn d3_unheard_25 rfl rfl rfl rfl (Nat.le_of_ble_eq_true rfl) (Nat.le_of_ble_eq_true rfl)
  · refine hK _ ?_
    refine k_callV (Y' := Y3_goes) (as := [.int (nI 3), .int (bB false), .int (bB true), .int (bB true), .int (bB true)]) (st := []) (m3_goes (k := 3) (by omega) false true true true) rfl c3_85 rfl rfl rfl d3_unheard_18 (Nat.le_of_ble_eq_true rfl) (Nat.le_of_ble_eq_true rfl) rfl rfl ?_
    refine k_go 99 [] T3_unheard_ok (fun K hK => ?_)
    refine q_ne (fun e => absurd e (by decide)) (fun _ => ?_)
    refine hK _ ?_
    exact k_ireturn d3_unheard_25 rfl rfl rfl rfl (Nat.le_of_ble_eq_true rfl) (Nat.le_of_ble_eq_true rfl)
theorem m3_unheard_bad (I : IvM g b) (h : inR x (g 5)) (h2 : y < 0) : k_Met Y3_unheard [.ref 24, .int x, .int y] (hY g b F A o) (.inl (some (.int 0)), hY (up1 g 0 2) b F A o, 0, 0) := by
  have g5 := I.2.2.2.2.2.2.2.2.2.2.2.2.2.2.2.2
  refine k_intro (by decide +kernel) rfl rfl rfl ?_
  refine k_go 99 [] T3_unheard_ok (fun K hK => ?_)
  refine hK _ ?_
  refine k_callV (Y' := Y3_isMessage) (as := [.int x]) (st := [.int (nI 3), .ref 24]) (m3_isMessage (by omega)) rfl c3_116 rfl rfl rfl d3_unheard_4 (Nat.le_of_ble_eq_true rfl) (Nat.le_of_ble_eq_true rfl) rfl rfl ?_
  rw [decide_eq_true h]
  refine k_go 99 [] T3_unheard_ok (fun K hK => ?_)
  refine And.intro (fun _ => ?_) (fun q => absurd h2 q)
  refine hK _ ?_
  refine k_callV (Y' := Y3_goes) (as := [.int (nI 3), .int (bB true), .int (bB false), .int (bB true), .int (bB true)]) (st := []) (m3_goes (k := 3) (by omega) true false true true) rfl c3_85 rfl rfl rfl d3_unheard_18 (Nat.le_of_ble_eq_true rfl) (Nat.le_of_ble_eq_true rfl) rfl rfl ?_
  refine k_go 99 [] T3_unheard_ok (fun K hK => ?_)
  refine q_ne (fun e => absurd e (by decide)) (fun _ => ?_)
  refine hK _ ?_
  exact k_ireturn d3_unheard_25 rfl rfl rfl rfl (Nat.le_of_ble_eq_true rfl) (Nat.le_of_ble_eq_true rfl)
theorem m3_unheard_loop {q : Nat} (hq : q < 60) {v : Int32} : ∀ (n u l : Nat) (b : Nat → Nat → Nat), IvD g b → g 3 - u = n → u ≤ g 3 → l < 2 ^ 31 → ∀ (r : Nat × (Nat → Nat → Nat)), r = uhR g q n u l b →
    k_W Y3_unheard none (.inl (some (.int (nI r.1))), hY g r.2 F A o, 0, 0) (31, [(4, .int (nI u)), (3, .int (nI l)), (0, .ref 24), (1, .int (nI q)), (2, .int v)], [], hY g b F A o, 0, 0) := by
  intro n
  induction n with
  | zero =>
    intro u l b D hn hu hl r hr
    have I := D.1
    have g3 := I.2.2.2.2.2.2.2.2.2.2.2.2.2.2.1
    have hr2 : r = (NONE, b) := hr
    rw [hr2]
    refine k_go 99 [31] T3_unheard_ok (fun K hK => ?_)
    refine b_ge (a := u) (b := g 3) (by omega) (by omega) (fun h => ?_) (fun h => absurd h (by omega))
    refine hK _ ?_
    exact k_ireturn d3_unheard_107 rfl rfl (rn1 rfl) rfl (Nat.le_of_ble_eq_true rfl) (Nat.le_of_ble_eq_true rfl)
  | succ n ih =>
    intro u l b D hn hu hl r hr
    have I := D.1
    have g3 := I.2.2.2.2.2.2.2.2.2.2.2.2.2.2.1
    have k4 := I.2.1 u
    have k13 := I.2.2.2.2.2.2.2.1 q
    have k9 := I.2.2.2.1 q
    have k04 := I.1 (b 4 u)
    have k013 := I.1 (b 13 q)
    have hr2 : r = if b 0 (b 4 u) ≠ b 0 (b 13 q) ∨ u = b 9 q then uhR g q n (u + 1) l b
      else if hdB g (day0B g b (b 0 (b 13 q))) u q = true then uhR g q n (u + 1) l (day0B g b (b 0 (b 13 q)))
      else if l = 0 then (u, day0B g b (b 0 (b 13 q))) else uhR g q n (u + 1) (l - 1) (day0B g b (b 0 (b 13 q))) := hr
    have D2 : IvD g (day0B g b (b 0 (b 13 q))) := day0_ok D
    have mh := m3_heardAll (F := F) (A := A) (o := o) D (u := u) (q := q) (by omega) hq
    have next : ∀ b2, IvD g b2 → ∀ l2, l2 < 2 ^ 31 → r = uhR g q n (u + 1) l2 b2 → k_W Y3_unheard none (.inl (some (.int (nI r.1))), hY g r.2 F A o, 0, 0) (100, [(4, .int (nI u)), (3, .int (nI l2)), (0, .ref 24), (1, .int (nI q)), (2, .int v)], [], hY g b2 F A o, 0, 0) := by
      intro b2 D2 l2 hl2 e
      refine k_go 99 [31] T3_unheard_ok (fun K hK => ?_)
      refine k_eq (z := nI (u + 1)) (nI_add u 1) ?_
      refine hK _ ?_
      exact ih (u + 1) l2 b2 D2 (by omega) (by omega) hl2 r e
    clear ih hr
    generalize day0B g b (b 0 (b 13 q)) = b2 at hr2 D2 mh
    have fin : r = (u, b2) → k_W Y3_unheard none (.inl (some (.int (nI r.1))), hY g r.2 F A o, 0, 0) (94, [(4, .int (nI u)), (3, .int (nI l)), (0, .ref 24), (1, .int (nI q)), (2, .int v)], [], hY g b2 F A o, 0, 0) := by
      intro e
      rw [e]
      refine k_go 99 [] T3_unheard_ok (fun K hK => ?_)
      refine hK _ ?_
      exact k_ireturn d3_unheard_96 rfl rfl rfl rfl (Nat.le_of_ble_eq_true rfl) (Nat.le_of_ble_eq_true rfl)
    generalize ((.inl (some (.int (nI r.1))), hY g r.2 F A o, 0, 0) : k_G) = G9 at next fin ⊢
    refine k_go 99 [31, 100, 94] T3_unheard_ok (fun K hK => ?_)
    refine b_ge (a := u) (b := g 3) (by omega) (by omega) (fun h => absurd h (by omega)) (fun h => ?_)
    refine k_at (j := u) (by omega) ?_
    refine k_at (j := b 4 u) k4 ?_
    refine k_at (j := q) hq ?_
    refine k_at (j := b 13 q) k13 ?_
    refine b_ne (a := b 0 (b 4 u)) (b := b 0 (b 13 q)) (by omega) (by omega) (fun h1 => ?_) (fun h1 => ?_)
    · rw [if_pos (Or.inl h1)] at hr2
      exact hK _ (next b D l hl hr2)
    · refine k_at (j := q) hq ?_
      refine b_eq (a := u) (b := b 9 q) (by omega) (by omega) (fun h2 => ?_) (fun h2 => ?_)
      · rw [if_pos (Or.inr h2)] at hr2
        exact hK _ (next b D l hl hr2)
      · rw [if_neg (by rintro (h3 | h3); exact h3 h1; exact h2 h3)] at hr2
        refine hK _ ?_
        refine k_callV (Y' := Y3_heardAll) (as := [.int (nI u), .int (nI q)]) (st := []) (mh) rfl c3_119 rfl rfl rfl d3_unheard_81 (Nat.zero_le _) (Nat.zero_le _) rfl rfl ?_
        refine k_go 99 [31, 100, 94] T3_unheard_ok (fun K hK => ?_)
        refine q_eq (fun h3 => ?_) (fun h3 => ?_)
        · rw [if_neg (by rw [h3]; decide)] at hr2
          refine z_ne (a := l) hl (fun h4 => ?_) (fun h4 => ?_)
          · rw [if_neg (by omega)] at hr2
            refine k_eq (z := nI (l - 1)) (pk_dec h4) ?_
            refine hK _ ?_
            refine k_sub5 (i1 := 4) (i2 := 3) (i3 := 0) (i4 := 1) (i5 := 2) rfl rfl rfl rfl rfl ?_
            exact next b2 D2 (l - 1) (by omega) hr2
          · rw [if_pos h4] at hr2
            refine hK _ ?_
            exact fin hr2
        · rw [if_pos h3] at hr2
          exact hK _ (next b2 D2 l hl hr2)
theorem m3_unheard_ok (I : IvD g b) {q i : Nat} (hq : q < g 5) (hi : i < 2 ^ 31) : k_Met Y3_unheard [.ref 24, .int (nI q), .int (nI i)] (hY g b F A o) (.inl (some (.int (nI (uhR (up1 g 0 0) q (g 3) 0 i b).1))), hY (up1 g 0 0) (uhR (up1 g 0 0) q (g 3) 0 i b).2 F A o, 0, 0) := by
  have D := IvD_g0 (t := 0) I
  obtain ⟨I, h18⟩ := I
  have g5 := I.2.2.2.2.2.2.2.2.2.2.2.2.2.2.2.2
  have loop := m3_unheard_loop (F := F) (A := A) (o := o) (q := q) (by omega) (v := nI i) (g 3) 0 i b D rfl (Nat.zero_le _) hi _ rfl
  generalize uhR (up1 g 0 0) q (g 3) 0 i b = r at loop ⊢
  refine k_intro (by decide +kernel) rfl rfl rfl ?_
  refine k_go 99 [31] T3_unheard_ok (fun K hK => ?_)
  refine hK _ ?_
  refine k_callV (Y' := Y3_isMessage) (as := [.int (nI q)]) (st := [.int (nI 3), .ref 24]) (m3_isMessage (by omega)) rfl c3_116 rfl rfl rfl d3_unheard_4 (Nat.le_of_ble_eq_true rfl) (Nat.le_of_ble_eq_true rfl) rfl rfl ?_
  rw [decide_eq_true (inR_nI hq (by omega))]
  refine k_go 99 [31] T3_unheard_ok (fun K hK => ?_)
  refine z_lt (a := i) hi ?_
  refine hK _ ?_
  refine k_callV (Y' := Y3_goes) (as := [.int (nI 3), .int (bB true), .int (bB true), .int (bB true), .int (bB true)]) (st := []) (m3_goes (k := 3) (by omega) true true true true) rfl c3_85 rfl rfl rfl d3_unheard_18 (Nat.le_of_ble_eq_true rfl) (Nat.le_of_ble_eq_true rfl) rfl rfl ?_
  refine k_go 99 [31] T3_unheard_ok (fun K hK => ?_)
  refine q_ne (fun _ => ?_) (fun e => absurd e (by decide))
  refine hK _ ?_
  exact loop
theorem m3_speak_tail (g5 : g 5 ≤ 60) (kn rg : Bool) {G9 : k_G} (k : ∀ st ro : Bool, st = (!bgB g b x y) → ro = decide (g 5 < 60) → k_W Y3_speak none G9 (73, [(0, .ref 24), (1, .int x), (2, .int y), (3, .int z), (4, .int w)], [.int (bB (kn && rg && st && ro))], hY (up1 g 0 (gth 15 (gbit kn rg st ro))) b F A o, 0, 0)) : k_W Y3_speak none G9 (42, [(0, .ref 24), (1, .int x), (2, .int y), (3, .int z), (4, .int w)], [.int (bB rg), .int (bB kn), .int (nI 15), .ref 24], hY g b F A o, 0, 0) := by
  refine k_go 99 [] T3_speak_ok (fun K hK => ?_)
  refine hK _ ?_
  refine k_callV (Y' := Y3_begins) (as := [.int x, .int y]) (st := [.int (bB rg), .int (bB kn), .int (nI 15), .ref 24]) (m3_begins g5) rfl c3_109 rfl rfl rfl d3_speak_45 (Nat.zero_le _) (Nat.zero_le _) rfl rfl ?_
  refine k_go 99 [] T3_speak_ok (fun K hK => ?_)
  refine q_ne (fun h1 => ?_) (fun h1 => ?_)
  · refine b_ge (a := g 5) (b := 60) (by omega) (by omega) (fun h2 => ?_) (fun h2 => ?_)
    · refine hK _ ?_
      refine k_callV (Y' := Y3_goes) (as := [.int (nI 15), .int (bB kn), .int (bB rg), .int (bB false), .int (bB false)]) (st := []) (m3_goes (k := 15) (by omega) kn rg false false) rfl c3_85 rfl rfl rfl d3_speak_70 (Nat.zero_le _) (Nat.zero_le _) rfl rfl ?_
      exact k false false (by rw [h1]; rfl) (decide_eq_false (by omega)).symm
    · refine hK _ ?_
      refine k_callV (Y' := Y3_goes) (as := [.int (nI 15), .int (bB kn), .int (bB rg), .int (bB false), .int (bB true)]) (st := []) (m3_goes (k := 15) (by omega) kn rg false true) rfl c3_85 rfl rfl rfl d3_speak_70 (Nat.zero_le _) (Nat.zero_le _) rfl rfl ?_
      exact k false true (by rw [h1]; rfl) (decide_eq_true (by omega)).symm
  · refine b_ge (a := g 5) (b := 60) (by omega) (by omega) (fun h2 => ?_) (fun h2 => ?_)
    · refine hK _ ?_
      refine k_callV (Y' := Y3_goes) (as := [.int (nI 15), .int (bB kn), .int (bB rg), .int (bB true), .int (bB false)]) (st := []) (m3_goes (k := 15) (by omega) kn rg true false) rfl c3_85 rfl rfl rfl d3_speak_70 (Nat.zero_le _) (Nat.zero_le _) rfl rfl ?_
      exact k true false (by rw [h1]; rfl) (decide_eq_false (by omega)).symm
    · refine hK _ ?_
      refine k_callV (Y' := Y3_goes) (as := [.int (nI 15), .int (bB kn), .int (bB rg), .int (bB true), .int (bB true)]) (st := []) (m3_goes (k := 15) (by omega) kn rg true true) rfl c3_85 rfl rfl rfl d3_speak_70 (Nat.zero_le _) (Nat.zero_le _) rfl rfl ?_
      exact k true true (by rw [h1]; rfl) (decide_eq_true (by omega)).symm
theorem m3_speak_gen (I : IvM g b) {G9 : k_G} (k : ∀ kn rg st ro : Bool, kn = (decide (inR x (g 3))) → rg = (decide (inR y (g 1)) && decide (inR z 100) && decide (inR w 10)) → st = (!bgB g b x y) → ro = (decide (g 5 < 60)) → k_W Y3_speak none G9 (73, [(0, .ref 24), (1, .int x), (2, .int y), (3, .int z), (4, .int w)], [.int (bB (kn && rg && st && ro))], hY (up1 g 0 (gth 15 (gbit kn rg st ro))) b F A o, 0, 0)) : k_W Y3_speak none G9 (0, [(0, .ref 24), (1, .int x), (2, .int y), (3, .int z), (4, .int w)], [], hY g b F A o, 0, 0) := by
  have g1 := I.2.2.2.2.2.2.2.2.2.2.2.2.1
  have g3 := I.2.2.2.2.2.2.2.2.2.2.2.2.2.2.1
  have g5 := I.2.2.2.2.2.2.2.2.2.2.2.2.2.2.2.2
  have tail : ∀ rg : Bool, rg = (decide (inR y (g 1)) && decide (inR z 100) && decide (inR w 10)) → k_W Y3_speak none G9 (42, [(0, .ref 24), (1, .int x), (2, .int y), (3, .int z), (4, .int w)], [.int (bB rg), .int (bB (decide (inR x (g 3)))), .int (nI 15), .ref 24], hY g b F A o, 0, 0) := fun rg e => m3_speak_tail g5 _ rg (fun st ro e1 e2 => k _ rg st ro rfl e e1 e2)
  refine k_go 99 [42] T3_speak_ok (fun K hK => ?_)
  refine hK _ ?_
  refine k_callV (Y' := Y3_isUnit) (as := [.int x]) (st := [.int (nI 15), .ref 24]) (m3_isUnit (by omega)) rfl c3_103 rfl rfl rfl d3_speak_5 (Nat.zero_le _) (Nat.zero_le _) rfl rfl ?_
  refine k_go 99 [42] T3_speak_ok (fun K hK => ?_)
  refine hK _ ?_
  refine k_callV (Y' := Y3_isSlot) (as := [.int y]) (st := [.int (bB (decide (inR x (g 3)))), .int (nI 15), .ref 24]) (m3_isSlot (by omega)) rfl c3_106 rfl rfl rfl d3_speak_10 (Nat.zero_le _) (Nat.zero_le _) rfl rfl ?_
  refine k_go 99 [42] T3_speak_ok (fun K hK => ?_)
  refine q_eq (fun h1 => hK _ (tail false (by rw [h1]; rfl))) (fun h1 => ?_)
  refine hK _ ?_
  refine k_callS (Y' := Y3_in) (as := [.int z, .int (nI 0), .int (nI 99)]) (st := [.int (bB (decide (inR x (g 3)))), .int (nI 15), .ref 24]) (m3_inR (n := 99) (by omega)) rfl c3_72 rfl rfl d3_speak_20 (Nat.zero_le _) (Nat.zero_le _) rfl rfl ?_
  refine k_go 99 [42] T3_speak_ok (fun K hK => ?_)
  refine q_eq (fun h2 => hK _ (tail false (by rw [h2]; simp))) (fun h2 => ?_)
  refine hK _ ?_
  refine k_callS (Y' := Y3_in) (as := [.int w, .int (nI 0), .int (nI 9)]) (st := [.int (bB (decide (inR x (g 3)))), .int (nI 15), .ref 24]) (m3_inR (n := 9) (by omega)) rfl c3_72 rfl rfl d3_speak_31 (Nat.zero_le _) (Nat.zero_le _) rfl rfl ?_
  refine k_go 99 [42] T3_speak_ok (fun K hK => ?_)
  refine q_eq (fun h3 => hK _ (tail false (by rw [h3]; simp))) (fun h3 => hK _ (tail true (by rw [h1, h2, h3]; rfl)))
theorem m3_speak_no (I : IvM g b) {t : Nat} (h : ((decide (inR x (g 3))) && (decide (inR y (g 1)) && decide (inR z 100) && decide (inR w 10)) && (!bgB g b x y) && (decide (g 5 < 60))) = false) (ht : gth 15 (gbit (decide (inR x (g 3))) (decide (inR y (g 1)) && decide (inR z 100) && decide (inR w 10)) (!bgB g b x y) (decide (g 5 < 60))) = t) : k_Met Y3_speak [.ref 24, .int x, .int y, .int z, .int w] (hY g b F A o) (.inl (some (.int 0)), hY (up1 g 0 t) b F A o, 0, 0) := by
  refine k_intro (by decide +kernel) rfl rfl rfl ?_
  refine m3_speak_gen I (fun kn rg st ro e1 e2 e3 e4 => ?_)
  rw [← e1, ← e2, ← e3, ← e4] at h ht
  rw [h, ht]
  refine k_go 99 [] T3_speak_ok (fun K hK => ?_)
  refine q_ne (fun e => absurd e (by decide)) (fun _ => ?_)
  refine hK _ ?_
  exact k_ireturn d3_speak_77 rfl rfl rfl rfl (Nat.le_of_ble_eq_true rfl) (Nat.le_of_ble_eq_true rfl)
theorem m3_speak_ok (I : IvM g b) {u s n r : Nat} (hu : u < g 3) (hs : s < g 1) (hn : n < 100) (hr : r < 10) (h : bgB g b (nI u) (nI s) = false) (h60 : g 5 < 60) : k_Met Y3_speak [.ref 24, .int (nI u), .int (nI s), .int (nI n), .int (nI r)] (hY g b F A o) (.inl (some (.int (nI (g 5)))), hY (up1 (up1 g 0 0) 5 (g 5 + 1)) (adB g b u s n r) F A o, 0, 0) := by
  have g1 := I.2.2.2.2.2.2.2.2.2.2.2.2.1
  have g3 := I.2.2.2.2.2.2.2.2.2.2.2.2.2.2.1
  refine k_intro (by decide +kernel) rfl rfl rfl ?_
  refine m3_speak_gen I (fun kn rg st ro e1 e2 e3 e4 => ?_)
  rw [decide_eq_true (inR_nI hu (by omega))] at e1
  rw [decide_eq_true (inR_nI hs (by omega)), decide_eq_true (inR_nI hn (by omega)), decide_eq_true (inR_nI hr (by omega))] at e2
  rw [h] at e3
  rw [decide_eq_true h60] at e4
  subst e1 e2 e3 e4
  refine k_go 99 [] T3_speak_ok (fun K hK => ?_)
  refine q_ne (fun _ => ?_) (fun e => absurd e (by decide))
  refine hK _ ?_
  have ma := m3_add (g := up1 g 0 0) (b := b) (F := F) (A := A) (o := o) (u := u) (s := s) (n := n) (r := r) (by omega) h60
  refine k_callV (Y' := Y3_add) (as := [.int (nI u), .int (nI s), .int (nI n), .int (nI r)]) (st := []) (ma) rfl c3_112 rfl rfl rfl d3_speak_84 (Nat.le_of_ble_eq_true rfl) (Nat.le_of_ble_eq_true rfl) rfl rfl ?_
  exact k_ireturn d3_speak_87 rfl rfl rfl rfl (Nat.le_of_ble_eq_true rfl) (Nat.le_of_ble_eq_true rfl)
end MJ
