abbrev k_T3 : Type := (Nat → Nat → Nat) × Nat × Bool
def cl1 (c s m : Nat) (q : k_T3) : k_T3 :=
  if q.1 0 (q.1 13 m) = c ∧ q.1 10 m = s then
    if q.2.1 = NONE ∨ q.1 12 q.2.1 < q.1 12 m then (up2 (up2 q.1 17 m 3) 18 m 0, m, true)
    else (up2 (up2 q.1 17 m 3) 18 m 0, q.2.1, if q.1 12 m = q.1 12 q.2.1 then false else q.2.2)
  else q
def clN (c s : Nat) : Nat → Nat → k_T3 → k_T3
  | 0, _, q => q
  | n + 1, m, q => clN c s n (m + 1) (cl1 c s m q)
theorem IvM_17 {g : Nat → Nat} {b : Nat → Nat → Nat} {m v : Nat} (I : IvM g b) (hv : v < 10) : IvM g (up2 b 17 m v) := ⟨I.1, I.2.1, I.2.2.1, I.2.2.2.1, I.2.2.2.2.1, I.2.2.2.2.2.1, I.2.2.2.2.2.2.1, I.2.2.2.2.2.2.2.1, I.2.2.2.2.2.2.2.2.1, I.2.2.2.2.2.2.2.2.2.1, I.2.2.2.2.2.2.2.2.2.2.1, up1_lt I.2.2.2.2.2.2.2.2.2.2.2.1 hv, I.2.2.2.2.2.2.2.2.2.2.2.2⟩
theorem IvM_18 {g : Nat → Nat} {b : Nat → Nat → Nat} {m v : Nat} (I : IvM g b) : IvM g (up2 b 18 m v) := I
theorem IvM_16 {g : Nat → Nat} {b : Nat → Nat → Nat} {m v : Nat} (I : IvM g b) (hv : v < 10000) : IvM g (up2 b 16 m v) := ⟨I.1, I.2.1, I.2.2.1, I.2.2.2.1, I.2.2.2.2.1, I.2.2.2.2.2.1, I.2.2.2.2.2.2.1, I.2.2.2.2.2.2.2.1, I.2.2.2.2.2.2.2.2.1, I.2.2.2.2.2.2.2.2.2.1, up1_lt I.2.2.2.2.2.2.2.2.2.2.1 hv, I.2.2.2.2.2.2.2.2.2.2.2⟩
theorem IvM_15 {g : Nat → Nat} {b : Nat → Nat → Nat} {m v : Nat} (I : IvM g b) (hv : v = NONE ∨ v < 60) : IvM g (up2 b 15 m v) := by
  refine ⟨I.1, I.2.1, I.2.2.1, I.2.2.2.1, I.2.2.2.2.1, I.2.2.2.2.2.1, I.2.2.2.2.2.2.1, I.2.2.2.2.2.2.2.1, I.2.2.2.2.2.2.2.2.1, fun t => ?_, I.2.2.2.2.2.2.2.2.2.2⟩
  show up1 (b 15) m v t = NONE ∨ up1 (b 15) m v t < 60
  unfold up1
  split
  · exact hv
  · exact I.2.2.2.2.2.2.2.2.2.1 t
theorem cl1_ok {g : Nat → Nat} {c s m : Nat} {q : k_T3} (I : IvM g q.1) (hm : m < 60) (hq : q.2.1 = NONE ∨ q.2.1 < 60) : IvM g (cl1 c s m q).1 ∧ ((cl1 c s m q).2.1 = NONE ∨ (cl1 c s m q).2.1 < 60) := by
  unfold cl1
  split
  · split
    · exact ⟨IvM_18 (IvM_17 I (by omega)), Or.inr hm⟩
    · exact ⟨IvM_18 (IvM_17 I (by omega)), hq⟩
  · exact ⟨I, hq⟩
theorem clN_ok {g : Nat → Nat} {c s : Nat} : ∀ (n m : Nat) (q : k_T3), IvM g q.1 → m + n ≤ 60 → (q.2.1 = NONE ∨ q.2.1 < 60) → IvM g (clN c s n m q).1 ∧ ((clN c s n m q).2.1 = NONE ∨ (clN c s n m q).2.1 < 60) := by
  intro n
  induction n with
  | zero => intro m q I _ hq; exact ⟨I, hq⟩
  | succ n ih =>
    intro m q I hm hq
    obtain ⟨h1, h2⟩ := cl1_ok (c := c) (s := s) (m := m) I (by omega) hq
    exact ih (m + 1) _ h1 (by omega) h2
/-- what a search ends with -/
def clC (q : k_T3) : Nat := if q.2.2 = true then q.2.1 else NONE
theorem rnC {h : List k_O} {mc ms : Nat} {q : k_T3} {r : Nat} (e : clC q = r) : ((.inl (some (.int (nI (clC q)))), h, mc, ms) : k_G).1 = .inl (some (.int (nI r))) := by rw [e]
section CL
variable {g : Nat → Nat} {b : Nat → Nat → Nat} {F : Nat → Int32} {A : Nat → Nat → Int32} {o : Nat → Int64} {x y z w v : Int32}
theorem m3_caller_loop (h5 : g 5 ≤ 60) {c s : Nat} (hc : c < 10000) (hs : s < 10000) : ∀ (n i : Nat) (b : Nat → Nat → Nat) (be : Nat) (one : Bool), g 5 - i = n → i ≤ g 5 → IvM g b → (be = NONE ∨ be < 60) → ∀ (r : k_T3), r = clN c s n i (b, be, one) →
    k_W Y3_caller none (.inl (some (.int (nI (clC r)))), hY g r.1 F A o, 0, 0) (8, [(5, .int (nI i)), (4, .int (bB one)), (3, .int (nI be)), (0, .ref 24), (1, .int (nI c)), (2, .int (nI s))], [], hY g b F A o, 0, 0) := by
  intro n
  induction n with
  | zero =>
    intro i b be one hn hi I hbe r hr
    have hr1 : r = (b, be, one) := hr
    have e0 : clC r = if one = true then be else NONE := by rw [hr1]; rfl
    have eb : r.1 = b := by rw [hr1]
    rw [eb, e0]
    refine k_go 99 [8] T3_caller_ok (fun K hK => ?_)
    refine b_ge (a := i) (b := g 5) (by omega) (by omega) (fun h => ?_) (fun h => absurd h (by omega))
    refine q_eq (fun h1 => ?_) (fun h1 => ?_)
    · refine hK _ ?_
      exact k_ireturn d3_caller_131 rfl rfl (by rw [h1, if_neg Bool.false_ne_true]; exact congrArg (fun v => Sum.inl (some (Value.int v))) neg1.symm) rfl (Nat.le_of_ble_eq_true rfl) (Nat.le_of_ble_eq_true rfl)
    · refine hK _ ?_
      exact k_ireturn d3_caller_131 rfl rfl (by rw [h1, if_pos rfl]) rfl (Nat.le_of_ble_eq_true rfl) (Nat.le_of_ble_eq_true rfl)
  | succ n ih =>
    intro i b be one hn hi I hbe r hr
    have hr1 : r = clN c s n (i + 1) (cl1 c s i (b, be, one)) := hr
    have h0 := I.1 (b 13 i)
    have h10 := I.2.2.2.2.1 i
    have h12 := I.2.2.2.2.2.2.1
    have no : ¬ (b 0 (b 13 i) = c ∧ b 10 i = s) → r = clN c s n (i + 1) (b, be, one) := fun h => by rw [hr1]; congr 1; exact if_neg h
    have yes : b 0 (b 13 i) = c ∧ b 10 i = s → r = clN c s n (i + 1) (if be = NONE ∨ b 12 be < b 12 i then (up2 (up2 b 17 i 3) 18 i 0, i, true) else (up2 (up2 b 17 i 3) 18 i 0, be, if b 12 i = b 12 be then false else one)) := fun h => by rw [hr1]; congr 1; exact if_pos h
    have I2 : IvM g (up2 (up2 b 17 i 3) 18 i 0) := IvM_18 (IvM_17 I (by omega))
    have go9 : ∀ (be9 : Nat) (one9 : Bool), (be9 = NONE ∨ be9 < 60) → r = clN c s n (i + 1) (up2 (up2 b 17 i 3) 18 i 0, be9, one9) → k_W Y3_caller none (.inl (some (.int (nI (clC r)))), hY g r.1 F A o, 0, 0) (8, [(5, .int (nI (i + 1))), (4, .int (bB one9)), (3, .int (nI be9)), (0, .ref 24), (1, .int (nI c)), (2, .int (nI s))], [], hY g (up2 (up2 b 17 i 3) 18 i 0) F A o, 0, 0) := fun be9 one9 h1 h2 => ih (i + 1) _ be9 one9 (by omega) (by omega) I2 h1 r h2
    have skip : ¬ (b 0 (b 13 i) = c ∧ b 10 i = s) → k_W Y3_caller none (.inl (some (.int (nI (clC r)))), hY g r.1 F A o, 0, 0) (8, [(5, .int (nI (i + 1))), (4, .int (bB one)), (3, .int (nI be)), (0, .ref 24), (1, .int (nI c)), (2, .int (nI s))], [], hY g b F A o, 0, 0) := fun h => ih (i + 1) b be one (by omega) (by omega) I hbe r (no h)
    generalize ((.inl (some (.int (nI (clC r)))), hY g r.1 F A o, 0, 0) : k_G) = G9 at go9 skip ⊢
    have eH : hA F A (cF g) (upA (upA (cA b) 17 (upd (cA b 17) i (nI 3))) 18 (upd (cA b 18) i (nI 0))) o = hY g (up2 (up2 b 17 i 3) 18 i 0) F A o := hY_eq rfl (cA_up' (cA_up' (a := b) rfl rfl) rfl)
    refine k_go 99 [8] T3_caller_ok (fun K hK => ?_)
    refine b_ge (a := i) (b := g 5) (by omega) (by omega) (fun h => absurd h (by omega)) (fun h => ?_)
    refine k_at (j := i) (by omega) ?_
    refine k_at (j := b 13 i) (I.2.2.2.2.2.2.2.1 i) ?_
    refine b_ne (a := b 0 (b 13 i)) (b := c) (by omega) (by omega) (fun h1 => ?_) (fun h1 => ?_)
    · refine k_eq (z := nI (i + 1)) (nI_add i 1) ?_
      exact hK _ (skip (fun q => h1 q.1))
    · refine k_at (j := i) (by omega) ?_
      refine b_eq (a := b 10 i) (b := s) (by omega) (by omega) (fun h2 => ?_) (fun h2 => ?_)
      · have hy := yes ⟨h1, h2⟩
        refine k_at (j := i) (by omega) ?_
        refine k_at (j := i) (by omega) ?_
        refine n_lt hbe (fun hb1 => ?_) (fun hb1 => ?_)
        · refine n_lt hbe (fun _ => ?_) (fun hb2 => absurd hb2 (by rw [hb1]; decide))
          refine k_eq (z := nI (i + 1)) (nI_add i 1) ?_
          refine hK _ (k_heq eH ?_)
          exact go9 i true (Or.inr (by omega)) (by rw [hy, if_pos (Or.inl hb1)])
        · have hbn : ¬ be = NONE := fun q => by rw [q] at hb1; exact absurd hb1 (by decide)
          have r1 := h12 i
          have r2 := h12 be
          refine k_at (j := i) (by omega) ?_
          refine k_at (j := be) hb1 ?_
          refine b_ne (a := b 12 i) (b := b 12 be) (by omega) (by omega) (fun h3 => ?_) (fun h3 => ?_)
          · refine n_lt hbe (fun q => absurd q hbn) (fun _ => ?_)
            refine k_at (j := i) (by omega) ?_
            refine k_at (j := be) hb1 ?_
            refine b_gt (a := b 12 i) (b := b 12 be) (by omega) (by omega) (fun h6 => ?_) (fun h6 => ?_)
            · refine k_eq (z := nI (i + 1)) (nI_add i 1) ?_
              refine hK _ (k_heq eH ?_)
              exact go9 i true (Or.inr (by omega)) (by rw [hy, if_pos (Or.inr h6)])
            · refine k_eq (z := nI (i + 1)) (nI_add i 1) ?_
              refine hK _ (k_heq eH ?_)
              exact go9 be one hbe (by rw [hy, if_neg (by rintro (q | q); exact hbn q; omega), if_neg h3])
          · refine n_lt hbe (fun q => absurd q hbn) (fun _ => ?_)
            refine k_at (j := i) (by omega) ?_
            refine k_at (j := be) hb1 ?_
            refine b_gt (a := b 12 i) (b := b 12 be) (by omega) (by omega) (fun h6 => absurd h6 (by omega)) (fun h6 => ?_)
            refine k_eq (z := nI (i + 1)) (nI_add i 1) ?_
            refine hK _ (k_heq eH ?_)
            exact go9 be false hbe (by rw [hy, if_neg (by rintro (q | q); exact hbn q; omega), if_pos h3])
      · refine k_eq (z := nI (i + 1)) (nI_add i 1) ?_
        exact hK _ (skip (fun q => h2 q.2))
def clr0 (g : Nat → Nat) (b : Nat → Nat → Nat) (c s : Nat) : k_T3 := clN c s (g 5) 0 (b, NONE, true)
theorem m3_caller (I : IvM g b) {c s : Nat} (hc : c < 10000) (hs : s < 10000) : k_Met Y3_caller [.ref 24, .int (nI c), .int (nI s)] (hY g b F A o) (.inl (some (.int (nI (clC (clr0 g b c s))))), hY g (clr0 g b c s).1 F A o, 0, 0) := by
  refine k_intro (by decide +kernel) rfl rfl rfl ?_
  refine k_go 99 [8] T3_caller_ok (fun K hK => ?_)
  refine hK _ ?_
  exact m3_caller_loop I.2.2.2.2.2.2.2.2.2.2.2.2.2.2.2.2 hc hs (g 5) 0 b NONE true (by omega) (by omega) I (Or.inl rfl) _ rfl
end CL
