/-- behind the caller of a slot: who is on, who is next, whether it cuts -/
def stA (b : Nat → Nat → Nat) (on c : Nat) : (Nat → Nat → Nat) × Nat × Nat × Bool :=
  if c = NONE then (b, on, NONE, false)
  else if on = NONE then (b, c, NONE, false)
  else if b 12 on < b 12 c then (up2 b 17 c 4, on, c, true)
  else (b, on, NONE, false)
def ovB (g : Nat → Nat) (b : Nat → Nat → Nat) (on : Nat) : Bool := decide (b 18 on + 1 = mst g b on)
def stB (g : Nat → Nat) (b : Nat → Nat → Nat) (s on : Nat) (cuts : Bool) : (Nat → Nat → Nat) × Nat :=
  if on = NONE then (up2 b 15 s NONE, NONE)
  else (up2 (up2 (up2 (up2 b 15 s on) 18 on (b 18 on + 1)) 16 s (if b 11 on = 0 then 0 else b 18 on + 1)) 17 on (if ovB g b on = true then eof g b on else if s + 1 = g 1 then 4 else 1), if (ovB g b on || cuts) = true then NONE else on)
def d0s (g : Nat → Nat) (c s : Nat) (q : (Nat → Nat → Nat) × Nat × Nat) : (Nat → Nat → Nat) × Nat × Nat :=
  let on1 := if q.2.2 = NONE then q.2.1 else q.2.2
  let r := clr0 g q.1 c s
  let t := stA r.1 on1 (clC r)
  let z := stB g t.1 s t.2.1 t.2.2.2
  (z.1, z.2, t.2.2.1)
def d0N (g : Nat → Nat) (c : Nat) : Nat → Nat → (Nat → Nat → Nat) × Nat × Nat → (Nat → Nat → Nat) × Nat × Nat
  | 0, _, q => q
  | n + 1, s, q => d0N g c n (s + 1) (d0s g c s q)
def day0B (g : Nat → Nat) (b : Nat → Nat → Nat) (c : Nat) : Nat → Nat → Nat := (d0N g c (g 1) 0 (b, NONE, NONE)).1
abbrev okN (x : Nat) : Prop := x = NONE ∨ x < 60
theorem k_sub5 {Y : k_Y} {sc : k_Sc} {G : k_G} {pc : Nat} {ls : List (Nat × Value)} {st : List Value} {h : List k_O} {nc ns : Nat} {i1 i2 i3 i4 i5 : Nat} {v1 v2 v3 v4 v5 : Value} (e1 : k_lk ls i1 = some v1) (e2 : k_lk ls i2 = some v2) (e3 : k_lk ls i3 = some v3) (e4 : k_lk ls i4 = some v4) (e5 : k_lk ls i5 = some v5) (k : k_W Y sc G (pc, [(i1, v1), (i2, v2), (i3, v3), (i4, v4), (i5, v5)], st, h, nc, ns)) : k_W Y sc G (pc, ls, st, h, nc, ns) := by
  refine k_perm (fun q hq => ?_) k
  simp only [List.mem_cons, List.not_mem_nil, or_false] at hq
  rcases hq with rfl | rfl | rfl | rfl | rfl
  · exact k_lk_mem e1
  · exact k_lk_mem e2
  · exact k_lk_mem e3
  · exact k_lk_mem e4
  · exact k_lk_mem e5
theorem clN_18 {c s N : Nat} : ∀ (n m : Nat) (q : k_T3), (∀ j, q.1 18 j ≤ N) → ∀ j, (clN c s n m q).1 18 j ≤ N := by
  intro n
  induction n with
  | zero => intro m q h j; exact h j
  | succ n ih =>
    intro m q h j
    refine ih (m + 1) _ (fun j => ?_) j
    have e : ∀ j, up2 (up2 q.1 17 m 3) 18 m 0 18 j ≤ N := fun j => by
      show up1 (q.1 18) m 0 j ≤ N
      unfold up1
      split
      · omega
      · exact h j
    unfold cl1
    split
    · split
      · exact e j
      · exact e j
    · exact h j
section DZ
variable {g : Nat → Nat} {b : Nat → Nat → Nat} {F : Nat → Int32} {A : Nat → Nat → Int32} {o : Nat → Int64} {x y z w v : Int32}
theorem stA_ok {on c : Nat} (I : IvM g b) (ho : okN on) (hc : okN c) : IvM g (stA b on c).1 ∧ okN (stA b on c).2.1 ∧ okN (stA b on c).2.2.1 := by
  unfold stA
  split
  · exact ⟨I, ho, Or.inl rfl⟩
  · split
    · exact ⟨I, hc, Or.inl rfl⟩
    · split
      · exact ⟨IvM_17 I (by omega), ho, hc⟩
      · exact ⟨I, ho, Or.inl rfl⟩
theorem eof_lt (m : Nat) : eof g b m < 10 := by unfold eof; split <;> omega
theorem stB_ok {s on : Nat} {cuts : Bool} (I : IvM g b) (ho : okN on) (h18 : on ≠ NONE → b 18 on < 9999) : IvM g (stB g b s on cuts).1 ∧ okN (stB g b s on cuts).2 := by
  unfold stB
  split
  · exact ⟨IvM_15 I (Or.inl rfl), Or.inl rfl⟩
  · next h =>
    have h1 := h18 h
    refine ⟨IvM_17 (IvM_16 (IvM_18 (IvM_15 I ho)) (by split <;> omega)) ?_, ?_⟩
    · split
      · exact eof_lt on
      · split <;> omega
    · dsimp only
      split
      · exact Or.inl rfl
      · exact ho
/-- the second half of a slot -/
theorem m3_day0_B (I : IvM g b) {c s on nx u5 : Nat} {cuts : Bool} (hs : s < g 1) (ho : okN on) (h18 : on ≠ NONE → b 18 on < 9999) {G9 : k_G}
    (next : k_W Y3_day0 none G9 (7, [(4, .int (nI (s + 1))), (3, .int (nI nx)), (2, .int (nI (stB g b s on cuts).2)), (0, .ref 24), (1, .int (nI c))], [], hY g (stB g b s on cuts).1 F A o, 0, 0)) (ls : List (Nat × Value))
    (e6 : ls = [(6, .int (bB cuts)), (5, .int (nI u5)), (3, .int (nI nx)), (2, .int (nI on)), (4, .int (nI s)), (0, .ref 24), (1, .int (nI c))]) : k_W Y3_day0 none G9 (86, ls, [], hY g b F A o, 0, 0) := by
  subst e6
  have h1 := I.2.2.2.2.2.2.2.2.2.2.2.2.1
  refine k_go 99 [7, 137] T3_day0_ok (fun K hK => ?_)
  refine k_at (j := s) (by omega) ?_
  refine n_ge ho (fun hon => ?_) (fun hon => ?_)
  · have hne : ¬ on = NONE := fun q => by rw [q] at hon; exact absurd hon (by decide)
    have h9 := h18 hne
    have h11 := I.2.2.2.2.2.1 on
    have eS : stB g b s on cuts = (up2 (up2 (up2 (up2 b 15 s on) 18 on (b 18 on + 1)) 16 s (if b 11 on = 0 then 0 else b 18 on + 1)) 17 on (if ovB g b on = true then eof g b on else if s + 1 = g 1 then 4 else 1), if (ovB g b on || cuts) = true then NONE else on) := if_neg hne
    rw [eS] at next
    have I4 : IvM g (up2 (up2 (up2 b 15 s on) 18 on (b 18 on + 1)) 16 s (if b 11 on = 0 then 0 else b 18 on + 1)) := IvM_16 (IvM_18 (IvM_15 I ho)) (by split <;> omega)
    have em : mst g (up2 (up2 (up2 b 15 s on) 18 on (b 18 on + 1)) 16 s (if b 11 on = 0 then 0 else b 18 on + 1)) on = mst g b on := rfl
    have ee : eof g (up2 (up2 (up2 b 15 s on) 18 on (b 18 on + 1)) 16 s (if b 11 on = 0 then 0 else b 18 on + 1)) on = eof g b on := rfl
    have hmst := mst_lt I on
    have e18 : up1 (b 18) on (b 18 on + 1) on = b 18 on + 1 := by unfold up1; rw [if_pos rfl]
    have u18 : ∀ z : Int32, upd (cA b 18) on z on = z := fun z => by unfold upd; rw [if_pos rfl]
    -- the third part: from the words on
    have part3 : ∀ ls : List (Nat × Value), ls = [(6, .int (bB cuts)), (5, .int (nI u5)), (3, .int (nI nx)), (2, .int (nI on)), (4, .int (nI s)), (0, .ref 24), (1, .int (nI c))] → k_W Y3_day0 none G9 (137, ls, [], hY g (up2 (up2 (up2 b 15 s on) 18 on (b 18 on + 1)) 16 s (if b 11 on = 0 then 0 else b 18 on + 1)) F A o, 0, 0) := by
      intro ls els
      subst els
      generalize hB4 : up2 (up2 (up2 b 15 s on) 18 on (b 18 on + 1)) 16 s (if b 11 on = 0 then 0 else b 18 on + 1) = b4 at next I4 em ee ⊢
      have e4 : b4 18 on = b 18 on + 1 := by rw [← hB4]; exact e18
      have fin : ∀ (ov : Bool) (ev : Nat) (v7 : List (Nat × Value)), ov = ovB g b on → ev = (if ovB g b on = true then eof g b on else if s + 1 = g 1 then 4 else 1) → v7 = [(7, .int (bB ov)), (6, .int (bB cuts)), (5, .int (nI u5)), (3, .int (nI nx)), (2, .int (nI on)), (4, .int (nI s)), (0, .ref 24), (1, .int (nI c))] → k_W Y3_day0 none G9 (192, v7, [.int (nI ev), .int (nI on), .ref 42], hY g b4 F A o, 0, 0) := by
        intro ov ev v7 eo ee7 e7
        subst e7
        rw [← ee7, ← eo] at next
        refine k_go 99 [7] T3_day0_ok (fun K hK => ?_)
        refine k_at (j := on) hon ?_
        refine q_ne (fun h5 => ?_) (fun h5 => ?_)
        · refine k_eq (z := nI (s + 1)) (nI_add s 1) ?_
          refine hK _ (k_heq (hY_eq rfl (cA_up b4 17 on ev)) ?_)
          rw [h5, Bool.true_or, if_pos rfl] at next
          refine k_sub5 (i1 := 4) (i2 := 3) (i3 := 2) (i4 := 0) (i5 := 1) rfl rfl (congrArg (fun v => some (Value.int v)) neg1) rfl rfl ?_
          exact next
        · refine q_eq (fun h6 => ?_) (fun h6 => ?_)
          · refine k_eq (z := nI (s + 1)) (nI_add s 1) ?_
            refine hK _ (k_heq (hY_eq rfl (cA_up b4 17 on ev)) ?_)
            rw [h5, h6, if_neg (by decide)] at next
            refine k_sub5 (i1 := 4) (i2 := 3) (i3 := 2) (i4 := 0) (i5 := 1) rfl rfl rfl rfl rfl ?_
            exact next
          · refine k_eq (z := nI (s + 1)) (nI_add s 1) ?_
            refine hK _ (k_heq (hY_eq rfl (cA_up b4 17 on ev)) ?_)
            rw [h5, h6, if_pos (by decide)] at next
            refine k_sub5 (i1 := 4) (i2 := 3) (i3 := 2) (i4 := 0) (i5 := 1) rfl rfl (congrArg (fun v => some (Value.int v)) neg1) rfl rfl ?_
            exact next
      have mm : k_Met Y3_most [.ref 24, .int (nI on)] (hY g b4 F A o) (.inl (some (.int (nI (mst g b on)))), hY g b4 F A o, 0, 0) := by rw [← em]; exact m3_most I4 hon
      have me : k_Met Y3_endOf [.ref 24, .int (nI on)] (hY g b4 F A o) (.inl (some (.int (nI (eof g b on)))), hY g b4 F A o, 0, 0) := by rw [← ee]; exact m3_endOf I4 hon
      clear next
      refine k_go 99 [192] T3_day0_ok (fun K hK => ?_)
      refine k_at (j := on) hon ?_
      refine hK _ ?_
      refine k_callV (Y' := Y3_most) (as := [.int (nI on)]) (st := [.int (nI (b4 18 on))]) (mm) rfl c3_122 rfl rfl rfl d3_day0_145 (Nat.zero_le _) (Nat.zero_le _) rfl rfl ?_
      refine k_go 99 [192] T3_day0_ok (fun K hK => ?_)
      refine b_ne (a := b4 18 on) (b := mst g b on) (by omega) (by omega) (fun h5 => ?_) (fun h5 => ?_)
      · have ho : ovB g b on = false := decide_eq_false (by omega)
        refine q_eq (b := false) (fun _ => ?_) (fun q => by cases q)
        have hp : g 1 - 1 + 1 = g 1 := by omega
        refine k_eq (z := nI (g 1 - 1)) (pk_sub (a := g 1) (b := 1) (by omega)) ?_
        refine b_ne (a := s) (b := g 1 - 1) (by omega) (by omega) (fun h6 => ?_) (fun h6 => ?_)
        · exact hK _ (fin false 1 _ ho.symm (by rw [ho, if_neg (by decide), if_neg (by omega)]) rfl)
        · exact hK _ (fin false 4 _ ho.symm (by rw [ho, if_neg (by decide), if_pos (by omega)]) rfl)
      · have ho : ovB g b on = true := decide_eq_true (by omega)
        refine q_eq (b := true) (fun q => by cases q) (fun _ => ?_)
        refine hK _ ?_
        refine k_callV (Y' := Y3_endOf) (as := [.int (nI on)]) (st := [.int (nI on), .ref 42]) (me) rfl c3_130 rfl rfl rfl d3_day0_170 (Nat.zero_le _) (Nat.zero_le _) rfl rfl ?_
        refine k_go 99 [192] T3_day0_ok (fun K hK => ?_)
        exact hK _ (fin true _ _ ho.symm (by rw [ho, if_pos rfl]) rfl)
    clear next
    refine k_at (j := on) hon ?_
    refine k_eq (z := nI (b 18 on + 1)) (nI_add _ 1) ?_
    refine k_at (j := on) hon ?_
    refine k_at (j := on) hon ?_
    refine z_le (a := b 11 on) (by omega) (fun h5 => ?_) (fun h5 => ?_)
    · refine k_at (j := s) (by omega) ?_
      rw [if_pos h5] at part3
      exact hK _ (k_heq (hY_eq rfl (cA_up' (k := 16) (j := s) (v := 0) (cA_up' (k := 18) (j := on) (v := b 18 on + 1) (cA_up' (a := b) (k := 15) (j := s) (v := on) rfl rfl) rfl) rfl)) (part3 _ rfl))
    · rw [if_neg (by omega)] at part3
      refine k_at (j := on) hon ?_
      refine k_at (j := s) (by omega) ?_
      exact hK _ (k_heq (hY_eq rfl ((congrArg (fun v => upA (upA (upA (cA b) 15 (upd (cA b 15) s (nI on))) 18 (upd (cA b 18) on (nI (b 18 on + 1)))) 16 (upd (cA b 16) s v)) (u18 (nI (b 18 on + 1)))).trans (cA_up' (k := 16) (j := s) (v := b 18 on + 1) (cA_up' (k := 18) (j := on) (v := b 18 on + 1) (cA_up' (a := b) (k := 15) (j := s) (v := on) rfl rfl) rfl) rfl))) (part3 _ rfl))
  · have eS : stB g b s on cuts = (up2 b 15 s NONE, NONE) := if_pos hon
    rw [eS] at next
    refine k_eq (z := nI (s + 1)) (nI_add s 1) ?_
    refine hK _ (k_heq (hY_eq rfl ((congrArg (fun v => upA (cA b) 15 (upd (cA b 15) s (nI v))) hon).trans (cA_up b 15 s NONE))) ?_)
    refine k_sub5 (i1 := 4) (i2 := 3) (i3 := 2) (i4 := 0) (i5 := 1) rfl rfl (by rw [hon]; rfl) rfl rfl ?_
    exact next
end DZ
