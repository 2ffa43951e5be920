section QP
variable {f : Nat → Nat} {a : Nat → Nat → Nat} {G : Nat → Int32} {B : Nat → Nat → Int32} {o : Nat → Int64} {x y z w : Int32}
theorem fnd_lt {P : Nat → Bool} : ∀ (n i : Nat), fnd P n i = NONE ∨ (i ≤ fnd P n i ∧ fnd P n i < i + n ∧ P (fnd P n i) = true) := by
  intro n
  induction n with
  | zero => intro i; exact Or.inl rfl
  | succ n ih =>
    intro i
    unfold fnd
    split
    · next h => exact Or.inr ⟨Nat.le_refl _, by omega, h⟩
    · rcases ih (i + 1) with h | ⟨h1, h2, h3⟩
      · exact Or.inl h
      · exact Or.inr ⟨by omega, by omega, h3⟩
theorem msOn_or (f : Nat → Nat) (a : Nat → Nat → Nat) (c s : Nat) : msOn f a c s = NONE ∨ (msOn f a c s < f 4 ∧ onP a (msOn f a c s) s) := by
  rcases fnd_lt (P := msP a c s) (f 4) 0 with h | ⟨h1, h2, h3⟩
  · exact Or.inl h
  · refine Or.inr ⟨by unfold msOn; omega, ?_⟩
    have h4 : msP a c s (msOn f a c s) = true := h3
    unfold msP at h4
    simp only [Bool.and_eq_true, decide_eq_true_eq] at h4
    exact h4.1
theorem m2_ended_bad (h : ¬ inR x (f 4)) : k_Met Y2_ended [.ref 0, .int x] (hX f a G B o) (.inr "java/lang/IllegalArgumentException", hX f a G B o, 1, 6) := by
  refine k_intro (by decide +kernel) rfl rfl rfl ?_
  refine k_go 99 [] T2_ended_ok (fun K hK => ?_)
  refine hK _ ?_
  exact k_callVX (Y' := Y2_needMessage) (as := [.int x]) (st := []) (m2_needMessage_bad h) rfl c2_113 rfl rfl rfl d2_ended_2 (Nat.le_of_ble_eq_true rfl) (Nat.le_of_ble_eq_true rfl) rfl rfl rfl
theorem m2_ended_ok (I : IvA f a) {m : Nat} (h : m < f 4) : k_Met Y2_ended [.ref 0, .int (nI m)] (hX f a G B o) (.inl (some (.int (nI (a 15 m)))), hX f a G B o, 0, 0) := by
  have h4 := I.2.2.2.2.2.2.2.2.2.1
  refine k_intro (by decide +kernel) rfl rfl rfl ?_
  refine k_go 99 [] T2_ended_ok (fun K hK => ?_)
  refine hK _ ?_
  refine k_callV (Y' := Y2_needMessage) (as := [.int (nI m)]) (st := []) (m2_needMessage_ok (inR_nI h (by omega))) rfl c2_113 rfl rfl rfl d2_ended_2 (Nat.le_of_ble_eq_true rfl) (Nat.le_of_ble_eq_true rfl) rfl rfl ?_
  refine k_go 99 [] T2_ended_ok (fun K hK => ?_)
  refine k_at (j := m) (by omega) ?_
  refine hK _ ?_
  exact k_ireturn d2_ended_14 rfl rfl rfl rfl (Nat.le_of_ble_eq_true rfl) (Nat.le_of_ble_eq_true rfl)
theorem m2_length_bad (h : ¬ inR x (f 4)) : k_Met Y2_length [.ref 0, .int x] (hX f a G B o) (.inr "java/lang/IllegalArgumentException", hX f a G B o, 1, 6) := by
  refine k_intro (by decide +kernel) rfl rfl rfl ?_
  refine k_go 99 [] T2_length_ok (fun K hK => ?_)
  refine hK _ ?_
  exact k_callVX (Y' := Y2_needMessage) (as := [.int x]) (st := []) (m2_needMessage_bad h) rfl c2_113 rfl rfl rfl d2_length_2 (Nat.le_of_ble_eq_true rfl) (Nat.le_of_ble_eq_true rfl) rfl rfl rfl
theorem m2_length_ok (I : IvA f a) {m : Nat} (h : m < f 4) : k_Met Y2_length [.ref 0, .int (nI m)] (hX f a G B o) (.inl (some (.int (nI (a 14 m)))), hX f a G B o, 0, 0) := by
  have h4 := I.2.2.2.2.2.2.2.2.2.1
  refine k_intro (by decide +kernel) rfl rfl rfl ?_
  refine k_go 99 [] T2_length_ok (fun K hK => ?_)
  refine hK _ ?_
  refine k_callV (Y' := Y2_needMessage) (as := [.int (nI m)]) (st := []) (m2_needMessage_ok (inR_nI h (by omega))) rfl c2_113 rfl rfl rfl d2_length_2 (Nat.le_of_ble_eq_true rfl) (Nat.le_of_ble_eq_true rfl) rfl rfl ?_
  refine k_go 99 [] T2_length_ok (fun K hK => ?_)
  refine k_at (j := m) (by omega) ?_
  refine hK _ ?_
  exact k_ireturn d2_length_14 rfl rfl rfl rfl (Nat.le_of_ble_eq_true rfl) (Nat.le_of_ble_eq_true rfl)
theorem m2_on_unk (h : ¬ inR x 6) : k_Met Y2_on [.ref 0, .int x, .int y] (hX f a G B o) (.inr "java/lang/IllegalArgumentException", hX f a G B o, 1, 6) := by
  refine k_intro (by decide +kernel) rfl rfl rfl ?_
  refine k_go 99 [] T2_on_ok (fun K hK => ?_)
  refine hK _ ?_
  exact k_callVX (Y' := Y2_needChannel) (as := [.int x]) (st := []) (m2_needChannel_bad h) rfl c2_146 rfl rfl rfl d2_on_2 (Nat.le_of_ble_eq_true rfl) (Nat.le_of_ble_eq_true rfl) rfl rfl rfl
theorem m2_on_bad (h : inR x 6) (h2 : ¬ inR y (f 0)) : k_Met Y2_on [.ref 0, .int x, .int y] (hX f a G B o) (.inr "java/lang/ArrayIndexOutOfBoundsException", hX f a G B o, 1, 6) := by
  refine k_intro (by decide +kernel) rfl rfl rfl ?_
  refine k_go 99 [] T2_on_ok (fun K hK => ?_)
  refine hK _ ?_
  refine k_callV (Y' := Y2_needChannel) (as := [.int x]) (st := []) (m2_needChannel_ok h) rfl c2_146 rfl rfl rfl d2_on_2 (Nat.le_of_ble_eq_true rfl) (Nat.le_of_ble_eq_true rfl) rfl rfl ?_
  refine k_go 99 [] T2_on_ok (fun K hK => ?_)
  refine hK _ ?_
  exact k_callVX (Y' := Y2_needSlot) (as := [.int y]) (st := []) (m2_needSlot_bad h2) rfl c2_130 rfl rfl rfl d2_on_7 (Nat.le_of_ble_eq_true rfl) (Nat.le_of_ble_eq_true rfl) rfl rfl rfl
theorem m2_on_ok (I : IvA f a) {c s : Nat} (hc : c < 6) (hs : s < f 0) : k_Met Y2_on [.ref 0, .int (nI c), .int (nI s)] (hX f a G B o) (.inl (some (.int (nI (msOn f a c s)))), hX f a G B o, 0, 0) := by
  have h0 := I.2.2.2.2.2.2.2.1
  refine k_intro (by decide +kernel) rfl rfl rfl ?_
  refine k_go 99 [] T2_on_ok (fun K hK => ?_)
  refine hK _ ?_
  refine k_callV (Y' := Y2_needChannel) (as := [.int (nI c)]) (st := []) (m2_needChannel_ok (inR_nI hc (by omega))) rfl c2_146 rfl rfl rfl d2_on_2 (Nat.le_of_ble_eq_true rfl) (Nat.le_of_ble_eq_true rfl) rfl rfl ?_
  refine k_go 99 [] T2_on_ok (fun K hK => ?_)
  refine hK _ ?_
  refine k_callV (Y' := Y2_needSlot) (as := [.int (nI s)]) (st := []) (m2_needSlot_ok (inR_nI hs (by omega))) rfl c2_130 rfl rfl rfl d2_on_7 (Nat.le_of_ble_eq_true rfl) (Nat.le_of_ble_eq_true rfl) rfl rfl ?_
  refine k_go 99 [] T2_on_ok (fun K hK => ?_)
  refine hK _ ?_
  refine k_callV (Y' := Y2_messageOn) (as := [.int (nI c), .int (nI s)]) (st := []) (m2_messageOn I hc (by omega)) rfl c2_136 rfl rfl rfl d2_on_13 (Nat.le_of_ble_eq_true rfl) (Nat.le_of_ble_eq_true rfl) rfl rfl ?_
  exact k_ireturn d2_on_16 rfl rfl rfl rfl (Nat.le_of_ble_eq_true rfl) (Nat.le_of_ble_eq_true rfl)
theorem m2_hears_unk (h : ¬ inR x (f 2)) : k_Met Y2_hears [.ref 0, .int x, .int y] (hX f a G B o) (.inr "java/lang/IllegalArgumentException", hX f a G B o, 1, 6) := by
  refine k_intro (by decide +kernel) rfl rfl rfl ?_
  refine k_go 99 [] T2_hears_ok (fun K hK => ?_)
  refine hK _ ?_
  exact k_callVX (Y' := Y2_needUnit) (as := [.int x]) (st := []) (m2_needUnit_bad h) rfl c2_62 rfl rfl rfl d2_hears_2 (Nat.le_of_ble_eq_true rfl) (Nat.le_of_ble_eq_true rfl) rfl rfl rfl
theorem m2_hears_bad (h : inR x (f 2)) (h2 : ¬ inR y (f 0)) : k_Met Y2_hears [.ref 0, .int x, .int y] (hX f a G B o) (.inr "java/lang/ArrayIndexOutOfBoundsException", hX f a G B o, 1, 6) := by
  refine k_intro (by decide +kernel) rfl rfl rfl ?_
  refine k_go 99 [] T2_hears_ok (fun K hK => ?_)
  refine hK _ ?_
  refine k_callV (Y' := Y2_needUnit) (as := [.int x]) (st := []) (m2_needUnit_ok h) rfl c2_62 rfl rfl rfl d2_hears_2 (Nat.le_of_ble_eq_true rfl) (Nat.le_of_ble_eq_true rfl) rfl rfl ?_
  refine k_go 99 [] T2_hears_ok (fun K hK => ?_)
  refine hK _ ?_
  exact k_callVX (Y' := Y2_needSlot) (as := [.int y]) (st := []) (m2_needSlot_bad h2) rfl c2_130 rfl rfl rfl d2_hears_7 (Nat.le_of_ble_eq_true rfl) (Nat.le_of_ble_eq_true rfl) rfl rfl rfl
def hrN (f : Nat → Nat) (a : Nat → Nat → Nat) (u s : Nat) : Nat :=
  if msOn f a (a 3 u) s = NONE ∨ a 17 s ≠ 0 ∨ rcB f a u (msOn f a (a 3 u) s) = false then 0
  else 100 * (msOn f a (a 3 u) s + 1) + (if a 11 (msOn f a (a 3 u) s) = 0 then 0 else s - a 13 (msOn f a (a 3 u) s) + 1)
theorem m2_hears_ok (I : IvA f a) {u s : Nat} (hu : u < f 2) (hs : s < f 0) : k_Met Y2_hears [.ref 0, .int (nI u), .int (nI s)] (hX f a G B o) (.inl (some (.int (nI (hrN f a u s)))), hX f a G B o, 0, 0) := by
  have h0 := I.2.2.2.2.2.2.2.1
  have h2 := I.2.2.2.2.2.2.2.2.2.2.2.2.1
  have h4 := I.2.2.2.2.2.2.2.2.2.1
  have h3 := I.2.2.2.2.2.2.2.2.2.2.2.2.2.2.1 u
  have h17 := I.2.2.2.2.2.2.2.2.2.2.2.2.2.2.2.2 s
  obtain ⟨m, em⟩ : ∃ m, msOn f a (a 3 u) s = m := ⟨_, rfl⟩
  have hm := msOn_or f a (a 3 u) s
  rw [em] at hm
  have v0 : m = NONE ∨ a 17 s ≠ 0 ∨ rcB f a u m = false → hrN f a u s = 0 := fun h => by unfold hrN; rw [em]; exact if_pos h
  have v1 : ¬ (m = NONE ∨ a 17 s ≠ 0 ∨ rcB f a u m = false) → hrN f a u s = 100 * (m + 1) + (if a 11 m = 0 then 0 else s - a 13 m + 1) := fun h => by unfold hrN; rw [em]; exact if_neg h
  have mo : k_Met Y2_messageOn [.ref 0, .int (nI (a 3 u)), .int (nI s)] (hX f a G B o) (.inl (some (.int (nI m))), hX f a G B o, 0, 0) := by rw [← em]; exact m2_messageOn I h3 (by omega)
  generalize hrN f a u s = r at v0 v1
  refine k_intro (by decide +kernel) rfl rfl rfl ?_
  refine k_go 99 [] T2_hears_ok (fun K hK => ?_)
  refine hK _ ?_
  refine k_callV (Y' := Y2_needUnit) (as := [.int (nI u)]) (st := []) (m2_needUnit_ok (inR_nI hu (by omega))) rfl c2_62 rfl rfl rfl d2_hears_2 (Nat.le_of_ble_eq_true rfl) (Nat.le_of_ble_eq_true rfl) rfl rfl ?_
  refine k_go 99 [] T2_hears_ok (fun K hK => ?_)
  refine hK _ ?_
  refine k_callV (Y' := Y2_needSlot) (as := [.int (nI s)]) (st := []) (m2_needSlot_ok (inR_nI hs (by omega))) rfl c2_130 rfl rfl rfl d2_hears_7 (Nat.le_of_ble_eq_true rfl) (Nat.le_of_ble_eq_true rfl) rfl rfl ?_
  refine k_go 99 [] T2_hears_ok (fun K hK => ?_)
  refine k_at (j := u) (by omega) ?_
  refine hK _ ?_
  refine k_callV (Y' := Y2_messageOn) (as := [.int (nI (a 3 u)), .int (nI s)]) (st := []) (mo) rfl c2_136 rfl rfl rfl d2_hears_21 (Nat.le_of_ble_eq_true rfl) (Nat.le_of_ble_eq_true rfl) rfl rfl ?_
  refine k_go 99 [] T2_hears_ok (fun K hK => ?_)
  refine And.intro (fun hn => ?_) (fun hn => ?_)
  · have hl : m = NONE := by
      rcases hm with h | h
      · exact h
      · exact absurd hn (nI_none (by omega))
    refine hK _ ?_
    exact k_ireturn d2_hears_49 rfl rfl (rnN (b := 0) (v0 (Or.inl hl))) rfl (Nat.le_of_ble_eq_true rfl) (Nat.le_of_ble_eq_true rfl)
  · have hl : m < f 4 ∧ onP a m s := by
      rcases hm with h | h
      · exact absurd (by rw [h]; exact neg1.symm) hn
      · exact h
    have hl2 : ¬ m = NONE := fun q => by rw [q] at hl; exact absurd (Nat.lt_of_lt_of_le hl.1 h4) (by decide)
    have hw := I.2.2.2.2.2.2.2.2.2.2.2.1 m
    refine k_at (j := s) (by omega) ?_
    refine z_ne (a := a 17 s) (by omega) (fun h5 => ?_) (fun h5 => ?_)
    · refine hK _ ?_
      exact k_ireturn d2_hears_49 rfl rfl (rnN (b := 0) (v0 (Or.inr (Or.inl (by omega))))) rfl (Nat.le_of_ble_eq_true rfl) (Nat.le_of_ble_eq_true rfl)
    · refine hK _ ?_
      refine k_callV (Y' := Y2_receives) (as := [.int (nI u), .int (nI m)]) (st := []) (m2_receives I (by omega) (by omega)) rfl c2_140 rfl rfl rfl d2_hears_42 (Nat.le_of_ble_eq_true rfl) (Nat.le_of_ble_eq_true rfl) rfl rfl ?_
      refine k_go 99 [] T2_hears_ok (fun K hK => ?_)
      refine q_ne (fun h6 => ?_) (fun h6 => ?_)
      · refine k_eq (z := nI (m + 1)) (nI_add m 1) ?_
        refine k_eq (z := nI (100 * (m + 1))) (pk_mul 100 (m + 1)) ?_
        refine hK _ ?_
        refine k_callV (Y' := Y0_wordIn) (as := [.int (nI m), .int (nI s)]) (st := [.int (nI (100 * (m + 1)))]) (m0_wordIn I.1 (by omega) (by omega) hl.2.1) rfl c2_143 rfl rfl rfl d2_hears_62 (Nat.le_of_ble_eq_true rfl) (Nat.le_of_ble_eq_true rfl) rfl rfl ?_
        refine k_go 99 [] T2_hears_ok (fun K hK => ?_)
        refine k_eq (nI_add _ _) ?_
        refine hK _ ?_
        exact k_ireturn d2_hears_66 rfl rfl (rnN (v1 (by rintro (h | h | h); exact hl2 h; exact h h5; rw [h6] at h; cases h))) rfl (Nat.le_of_ble_eq_true rfl) (Nat.le_of_ble_eq_true rfl)
      · refine hK _ ?_
        exact k_ireturn d2_hears_49 rfl rfl (rnN (b := 0) (v0 (Or.inr (Or.inr h6)))) rfl (Nat.le_of_ble_eq_true rfl) (Nat.le_of_ble_eq_true rfl)
theorem m2_unheard_unk (h : ¬ inR x (f 4)) : k_Met Y2_unheard [.ref 0, .int x, .int y] (hX f a G B o) (.inr "java/lang/IllegalArgumentException", hX f a G B o, 1, 6) := by
  refine k_intro (by decide +kernel) rfl rfl rfl ?_
  refine k_go 99 [] T2_unheard_ok (fun K hK => ?_)
  refine hK _ ?_
  exact k_callVX (Y' := Y2_needMessage) (as := [.int x]) (st := []) (m2_needMessage_bad h) rfl c2_113 rfl rfl rfl d2_unheard_2 (Nat.le_of_ble_eq_true rfl) (Nat.le_of_ble_eq_true rfl) rfl rfl rfl
theorem m2_unheard_bad (h : inR x (f 4)) (h2 : y < 0) : k_Met Y2_unheard [.ref 0, .int x, .int y] (hX f a G B o) (.inr "java/lang/IndexOutOfBoundsException", hX f a G B o, 1, 6) := by
  refine k_intro (by decide +kernel) rfl rfl rfl ?_
  refine k_go 99 [] T2_unheard_ok (fun K hK => ?_)
  refine hK _ ?_
  refine k_callV (Y' := Y2_needMessage) (as := [.int x]) (st := []) (m2_needMessage_ok h) rfl c2_113 rfl rfl rfl d2_unheard_2 (Nat.le_of_ble_eq_true rfl) (Nat.le_of_ble_eq_true rfl) rfl rfl ?_
  refine k_go 99 [] T2_unheard_ok (fun K hK => ?_)
  refine And.intro (fun q => absurd h2 (Int32.not_lt.mpr q)) (fun _ => ?_)
  refine hK _ ?_
  exact k_throw (E := "java/lang/IndexOutOfBoundsException") (st := []) rfl kt_152 rfl d2_unheard_9 d2_unheard_12 d2_unheard_13 d2_unheard_15 d2_unheard_18 (by decide) (Nat.le_of_ble_eq_true rfl) rfl rfl (Nat.le_of_ble_eq_true rfl) (Nat.le_of_ble_eq_true rfl)
theorem m2_unheard_loop (I : IvA f a) {m i : Nat} (hm : m < 60) (hi : i < 2 ^ 31) : ∀ (n u b : Nat), f 2 - u = n → u ≤ f 2 → b ≤ u → ∀ (r : Nat), r = nth (fun u => mdB f a u m) i n u b →
    k_W Y2_unheard none (.inl (some (.int (nI r))), hX f a G B o, 0, 0) (24, [(4, .int (nI u)), (3, .int (nI b)), (0, .ref 0), (1, .int (nI m)), (2, .int (nI i))], [], hX f a G B o, 0, 0) := by
  have h2 := I.2.2.2.2.2.2.2.2.2.2.2.2.1
  intro n
  induction n with
  | zero =>
    intro u b hn hu hb r hr
    refine k_go 99 [24] T2_unheard_ok (fun K hK => ?_)
    refine b_ge (a := u) (b := f 2) (by omega) (by omega) (fun h => ?_) (fun h => absurd h (by omega))
    refine hK _ ?_
    exact k_ireturn d2_unheard_64 rfl rfl (rn1 hr) rfl (Nat.le_of_ble_eq_true rfl) (Nat.le_of_ble_eq_true rfl)
  | succ n ih =>
    intro u b hn hu hb r hr
    have hr2 : r = if mdB f a u m = true then (if b = i then u else nth (fun u => mdB f a u m) i n (u + 1) (b + 1)) else nth (fun u => mdB f a u m) i n (u + 1) b := hr
    refine k_go 99 [24] T2_unheard_ok (fun K hK => ?_)
    refine b_ge (a := u) (b := f 2) (by omega) (by omega) (fun h => absurd h (by omega)) (fun h => ?_)
    refine hK _ ?_
    refine k_callV (Y' := Y2_missed) (as := [.int (nI u), .int (nI m)]) (st := []) (m2_missed I (by omega) hm) rfl c2_157 rfl rfl rfl d2_unheard_40 (Nat.le_of_ble_eq_true rfl) (Nat.le_of_ble_eq_true rfl) rfl rfl ?_
    refine k_go 99 [24] T2_unheard_ok (fun K hK => ?_)
    refine q_eq (fun h1 => ?_) (fun h1 => ?_)
    · rw [if_neg (by rw [h1]; exact Bool.false_ne_true)] at hr2
      refine k_eq (z := nI (u + 1)) (nI_add u 1) ?_
      refine hK _ ?_
      exact ih (u + 1) b (by omega) (by omega) (by omega) r hr2
    · rw [if_pos h1] at hr2
      refine b_ne (a := b) (b := i) (by omega) hi (fun h5 => ?_) (fun h5 => ?_)
      · rw [if_neg h5] at hr2
        refine k_eq (z := nI (b + 1)) (nI_add b 1) ?_
        refine k_eq (z := nI (u + 1)) (nI_add u 1) ?_
        refine hK _ ?_
        refine k_perm (ls' := [(4, .int (nI (u + 1))), (3, .int (nI (b + 1))), (0, .ref 0), (1, .int (nI m)), (2, .int (nI i))]) (fun q hq => hq) ?_
        exact ih (u + 1) (b + 1) (by omega) (by omega) (by omega) r hr2
      · rw [if_pos h5] at hr2
        refine hK _ ?_
        exact k_ireturn d2_unheard_53 rfl rfl (rnN hr2) rfl (Nat.le_of_ble_eq_true rfl) (Nat.le_of_ble_eq_true rfl)
def uhN (f : Nat → Nat) (a : Nat → Nat → Nat) (m i : Nat) : Nat := nth (fun u => mdB f a u m) i (f 2) 0 0
theorem m2_unheard_ok (I : IvA f a) {m i : Nat} (hm : m < f 4) (hi : i < 2 ^ 31) : k_Met Y2_unheard [.ref 0, .int (nI m), .int (nI i)] (hX f a G B o) (.inl (some (.int (nI (uhN f a m i)))), hX f a G B o, 0, 0) := by
  have h4 := I.2.2.2.2.2.2.2.2.2.1
  refine k_intro (by decide +kernel) rfl rfl rfl ?_
  refine k_go 99 [] T2_unheard_ok (fun K hK => ?_)
  refine hK _ ?_
  refine k_callV (Y' := Y2_needMessage) (as := [.int (nI m)]) (st := []) (m2_needMessage_ok (inR_nI hm (by omega))) rfl c2_113 rfl rfl rfl d2_unheard_2 (Nat.le_of_ble_eq_true rfl) (Nat.le_of_ble_eq_true rfl) rfl rfl ?_
  refine k_go 99 [24] T2_unheard_ok (fun K hK => ?_)
  refine z_ge (a := i) hi ?_
  refine hK _ ?_
  exact m2_unheard_loop I (by omega) hi (f 2) 0 0 (by omega) (by omega) (by omega) _ rfl
theorem m2_used_unk (h : ¬ inR x 6) : k_Met Y2_used [.ref 0, .int x, .int y, .int z] (hX f a G B o) (.inr "java/lang/IllegalArgumentException", hX f a G B o, 1, 6) := by
  refine k_intro (by decide +kernel) rfl rfl rfl ?_
  refine k_go 99 [] T2_used_ok (fun K hK => ?_)
  refine hK _ ?_
  exact k_callVX (Y' := Y2_needChannel) (as := [.int x]) (st := []) (m2_needChannel_bad h) rfl c2_146 rfl rfl rfl d2_used_2 (Nat.le_of_ble_eq_true rfl) (Nat.le_of_ble_eq_true rfl) rfl rfl rfl
theorem m2_used_bad (h : inR x 6) (h2 : y < 0 ∨ nI (f 0) < z ∨ z < y) : k_Met Y2_used [.ref 0, .int x, .int y, .int z] (hX f a G B o) (.inr "java/lang/IndexOutOfBoundsException", hX f a G B o, 1, 6) := by
  refine k_intro (by decide +kernel) rfl rfl rfl ?_
  refine k_go 99 [] T2_used_ok (fun K hK => ?_)
  refine hK _ ?_
  refine k_callV (Y' := Y2_needChannel) (as := [.int x]) (st := []) (m2_needChannel_ok h) rfl c2_146 rfl rfl rfl d2_used_2 (Nat.le_of_ble_eq_true rfl) (Nat.le_of_ble_eq_true rfl) rfl rfl ?_
  refine k_go 99 [] T2_used_ok (fun K hK => ?_)
  refine And.intro (fun _ => ?_) (fun q1 => ?_)
  · refine hK _ ?_
    exact k_throw (E := "java/lang/IndexOutOfBoundsException") (st := []) rfl kt_160 rfl d2_used_22 d2_used_25 d2_used_26 d2_used_28 d2_used_31 (by decide) (Nat.le_of_ble_eq_true rfl) rfl rfl (Nat.le_of_ble_eq_true rfl) (Nat.le_of_ble_eq_true rfl)
  · refine And.intro (fun _ => ?_) (fun q2 => ?_)
    · refine hK _ ?_
      exact k_throw (E := "java/lang/IndexOutOfBoundsException") (st := []) rfl kt_160 rfl d2_used_22 d2_used_25 d2_used_26 d2_used_28 d2_used_31 (by decide) (Nat.le_of_ble_eq_true rfl) rfl rfl (Nat.le_of_ble_eq_true rfl) (Nat.le_of_ble_eq_true rfl)
    · refine And.intro (fun q3 => ?_) (fun _ => ?_)
      · rcases h2 with h | h | h
        · exact absurd h q1
        · exact absurd h q2
        · exact absurd h (Int32.not_lt.mpr q3)
      · refine hK _ ?_
        exact k_throw (E := "java/lang/IndexOutOfBoundsException") (st := []) rfl kt_160 rfl d2_used_22 d2_used_25 d2_used_26 d2_used_28 d2_used_31 (by decide) (Nat.le_of_ble_eq_true rfl) rfl rfl (Nat.le_of_ble_eq_true rfl) (Nat.le_of_ble_eq_true rfl)
theorem m2_used_loop (I : IvA f a) {c p q : Nat} (hc : c < 6) (hp : p < 10000) (hq : q < 10000) : ∀ (n i t : Nat), f 4 - i = n → i ≤ f 4 → t ≤ i * 10000 → ∀ (r : Nat), r = usS a c p q n i t →
    k_W Y2_used none (.inl (some (.int (nI r))), hX f a G B o, 0, 0) (38, [(5, .int (nI i)), (4, .int (nI t)), (0, .ref 0), (1, .int (nI c)), (2, .int (nI p)), (3, .int (nI q))], [], hX f a G B o, 0, 0) := by
  have h4 := I.2.2.2.2.2.2.2.2.2.1
  intro n
  induction n with
  | zero =>
    intro i t hn hi ht r hr
    refine k_go 99 [38] T2_used_ok (fun K hK => ?_)
    refine b_ge (a := i) (b := f 4) (by omega) (by omega) (fun h => ?_) (fun h => absurd h (by omega))
    refine hK _ ?_
    exact k_ireturn d2_used_92 rfl rfl (rnN hr) rfl (Nat.le_of_ble_eq_true rfl) (Nat.le_of_ble_eq_true rfl)
  | succ n ih =>
    intro i t hn hi ht r hr
    have hr2 : r = usS a c p q n (i + 1) (if a 18 c = a 18 (a 9 i) then t + (min q (a 13 i + a 14 i) - max p (a 13 i)) else t) := hr
    refine k_go 99 [38] T2_used_ok (fun K hK => ?_)
    refine b_ge (a := i) (b := f 4) (by omega) (by omega) (fun h => absurd h (by omega)) (fun h => ?_)
    refine k_at (j := i) (by omega) ?_
    refine hK _ ?_
    refine k_callV (Y' := Y2_areJoined) (as := [.int (nI c), .int (nI (a 9 i))]) (st := []) (m2_areJoined I.1 hc (I.2.2.1 i)) rfl c2_82 rfl rfl rfl d2_used_62 (Nat.le_of_ble_eq_true rfl) (Nat.le_of_ble_eq_true rfl) rfl rfl ?_
    refine k_go 99 [38] T2_used_ok (fun K hK => ?_)
    refine p_eq (fun h1 => ?_) (fun h1 => ?_)
    · rw [if_neg h1] at hr2
      refine k_eq (z := nI (i + 1)) (nI_add i 1) ?_
      refine hK _ ?_
      exact ih (i + 1) t (by omega) (by omega) (Nat.le_trans ht (Nat.mul_le_mul_right 10000 (Nat.le_succ i))) r hr2
    · rw [if_pos h1] at hr2
      refine hK _ ?_
      refine k_callV (Y' := Y0_slotsOnWithin) (as := [.int (nI i), .int (nI p), .int (nI q)]) (st := [.int (nI t)]) (m0_slotsOnWithin I.1 (by omega) hp hq) rfl c2_164 rfl rfl rfl d2_used_78 (Nat.le_of_ble_eq_true rfl) (Nat.le_of_ble_eq_true rfl) rfl rfl ?_
      refine k_go 99 [38] T2_used_ok (fun K hK => ?_)
      refine k_eq (nI_add _ _) ?_
      refine k_eq (z := nI (i + 1)) (nI_add i 1) ?_
      refine hK _ ?_
      exact ih (i + 1) _ (by omega) (by omega) (by omega) r hr2
def usN (f : Nat → Nat) (a : Nat → Nat → Nat) (c p q : Nat) : Nat := usS a c p q (f 4) 0 0
theorem m2_used_ok (I : IvA f a) {c p q : Nat} (hc : c < 6) (hpq : p ≤ q) (hq : q ≤ f 0) : k_Met Y2_used [.ref 0, .int (nI c), .int (nI p), .int (nI q)] (hX f a G B o) (.inl (some (.int (nI (usN f a c p q)))), hX f a G B o, 0, 0) := by
  have h0 := I.2.2.2.2.2.2.2.1
  refine k_intro (by decide +kernel) rfl rfl rfl ?_
  refine k_go 99 [] T2_used_ok (fun K hK => ?_)
  refine hK _ ?_
  refine k_callV (Y' := Y2_needChannel) (as := [.int (nI c)]) (st := []) (m2_needChannel_ok (inR_nI hc (by omega))) rfl c2_146 rfl rfl rfl d2_used_2 (Nat.le_of_ble_eq_true rfl) (Nat.le_of_ble_eq_true rfl) rfl rfl ?_
  refine k_go 99 [38] T2_used_ok (fun K hK => ?_)
  refine z_lt (a := p) (by omega) ?_
  refine b_gt (a := q) (b := f 0) (by omega) (by omega) (fun h => absurd h (by omega)) (fun _ => ?_)
  refine b_ge (a := q) (b := p) (by omega) (by omega) (fun _ => ?_) (fun h => absurd h (by omega))
  refine hK _ ?_
  exact m2_used_loop I hc (by omega) (by omega) (f 4) 0 0 (by omega) (by omega) (by omega) _ rfl
end QP
