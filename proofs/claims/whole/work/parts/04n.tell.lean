theorem insA_row (w : Nat) : ∀ (p : Nat) (a : Nat → Nat → Nat) (k : Nat), k ≠ 16 → (insA w p a).1 k = a k := by
  intro p
  induction p with
  | zero => intro a k _; rfl
  | succ p ih =>
    intro a k hk
    unfold insA
    split
    · rw [ih _ k hk]
      unfold up2
      rw [if_neg hk]
    · rfl
theorem insA_60 (w : Nat) : ∀ (p : Nat) (a : Nat → Nat → Nat), (∀ j, a 16 j < 60) → ∀ j, (insA w p a).1 16 j < 60 := by
  intro p
  induction p with
  | zero => intro a h j; exact h j
  | succ p ih =>
    intro a h j
    unfold insA
    split
    · refine ih _ (fun j => ?_) j
      show up1 (a 16) (p + 1) (a 16 p) j < 60
      unfold up1
      split
      · exact h p
      · exact h j
    · exact h j
theorem insA_le (w : Nat) : ∀ (p : Nat) (a : Nat → Nat → Nat), (insA w p a).2 ≤ p := by
  intro p
  induction p with
  | zero => intro a; exact Nat.le_refl _
  | succ p ih =>
    intro a
    unfold insA
    split
    · exact Nat.le_succ_of_le (ih _)
    · exact Nat.le_refl _
theorem insA_c (w c : Nat) : ∀ (p : Nat) (a : Nat → Nat → Nat), p ≤ c → (∀ j, j ≤ c → j ≠ p → a 16 j < c) → ∀ j, j ≤ c → j ≠ (insA w p a).2 → (insA w p a).1 16 j < c := by
  intro p
  induction p with
  | zero => intro a _ h j h1 h2; exact h j h1 h2
  | succ p ih =>
    intro a hp h j h1 h2
    unfold insA at h2 ⊢
    split at h2
    · next hc =>
      rw [if_pos hc]
      refine ih _ (by omega) (fun i hi hne => ?_) j h1 h2
      show up1 (a 16) (p + 1) (a 16 p) i < c
      unfold up1
      split
      · exact h p (by omega) (by omega)
      · next h5 => exact h i hi h5
    · next hc =>
      rw [if_neg hc]
      exact h j h1 h2
theorem up1_lt {g : Nat → Nat} {k v n : Nat} (h : ∀ j, g j < n) (hv : v < n) : ∀ j, up1 g k v j < n := fun j => by
  unfold up1; split
  · exact hv
  · exact h j
section TL
variable {f : Nat → Nat} {a : Nat → Nat → Nat} {G : Nat → Int32} {B : Nat → Nat → Int32} {o : Nat → Int64} {x y z w : Int32}
theorem IvA_add (I : IvA f a) {u c s n r : Nat} (h4 : f 4 < 60) (hu : u < 20) (hc : c < 6) (hs : s < f 0) (hn : n < 100) (hr : r < 10) : IvA (up1 f 4 (f 4 + 1)) (addA f a u c s n r) := by
  have h0 := I.2.2.2.2.2.2.2.1
  have e : ∀ k, k ≠ 16 → (insA s (f 4) a).1 k = a k := insA_row s (f 4) a
  have h60 := insA_60 s (f 4) a I.2.1
  have hle := insA_le s (f 4) a
  have hcc := insA_c s (f 4) (f 4) a (Nat.le_refl _) (fun j h1 h2 => I.2.2.2.2.2.2.1 j (by omega))
  have hB : Bd (insA s (f 4) a).1 := by
    intro k j hk
    by_cases h : k = 16
    · subst h; have := h60 j; omega
    · rw [e k h]; exact I.1 k j hk
  refine ⟨Bd_up2 (Bd_up2 (Bd_up2 (Bd_up2 (Bd_up2 (Bd_up2 hB (by omega)) (by omega)) (by omega)) (by omega)) (by omega)) (by omega), ?_, ?_, ?_, ?_, ?_, ?_, h0, I.2.2.2.2.2.2.2.2.1, ?_, ?_, ?_, I.2.2.2.2.2.2.2.2.2.2.2.2.1, I.2.2.2.2.2.2.2.2.2.2.2.2.2.1, ?_, ?_, ?_⟩
  · exact up1_lt h60 h4
  · show ∀ j, up1 ((insA s (f 4) a).1 9) (f 4) c j < 6
    rw [e 9 (by decide)]
    exact up1_lt I.2.2.1 hc
  · show ∀ j, (insA s (f 4) a).1 18 j < 6
    rw [e 18 (by decide)]
    exact I.2.2.2.1
  · show ∀ j, (insA s (f 4) a).1 19 j = NONE ∨ (insA s (f 4) a).1 19 j < 60
    rw [e 19 (by decide)]
    exact I.2.2.2.2.1
  · show ∀ j, j < f 4 + 1 → up1 ((insA s (f 4) a).1 10) (f 4) s j < f 0
    rw [e 10 (by decide)]
    intro j hj
    unfold up1
    split
    · exact hs
    · exact I.2.2.2.2.2.1 j (by omega)
  · show ∀ j, j < f 4 + 1 → up1 ((insA s (f 4) a).1 16) (insA s (f 4) a).2 (f 4) j < f 4 + 1
    intro j hj
    unfold up1
    split
    · omega
    · next h => have := hcc j (by omega) h; omega
  · show f 4 + 1 ≤ 60
    omega
  · show ∀ j, up1 ((insA s (f 4) a).1 8) (f 4) u j < 20
    rw [e 8 (by decide)]
    exact up1_lt I.2.2.2.2.2.2.2.2.2.2.1 hu
  · show ∀ j, up1 ((insA s (f 4) a).1 11) (f 4) n j < 100
    rw [e 11 (by decide)]
    exact up1_lt I.2.2.2.2.2.2.2.2.2.2.2.1 hn
  · show ∀ j, (insA s (f 4) a).1 3 j < 6
    rw [e 3 (by decide)]
    exact I.2.2.2.2.2.2.2.2.2.2.2.2.2.2.1
  · show ∀ j, (insA s (f 4) a).1 7 j < 6
    rw [e 7 (by decide)]
    exact I.2.2.2.2.2.2.2.2.2.2.2.2.2.2.2.1
  · show ∀ j, (insA s (f 4) a).1 17 j < 2
    rw [e 17 (by decide)]
    exact I.2.2.2.2.2.2.2.2.2.2.2.2.2.2.2.2
/-- one more message told: the state behind it -/
def telA (f : Nat → Nat) (a : Nat → Nat → Nat) (u s n r : Nat) : Nat → Nat → Nat := plan0 (up1 f 4 (f 4 + 1)) (addA f a u (a 3 u) s n r)
theorem m2_tell (I : IvA f a) {u s n r : Nat} (h4 : f 4 < 60) (hu : u < 20) (hs : s < f 0) (hn : n < 100) (hr : r < 10) : k_Met Y2_tell [.ref 0, .int (nI u), .int (nI s), .int (nI n), .int (nI r)] (hX f a G B o) (.inl (some (.int (nI (f 4)))), hX (up1 f 4 (f 4 + 1)) (telA f a u s n r) G B o, 0, 0) := by
  have h0 := I.2.2.2.2.2.2.2.1
  have h3 := I.2.2.2.2.2.2.2.2.2.2.2.2.2.2.1 u
  refine k_intro (by decide +kernel) rfl rfl rfl ?_
  refine k_go 99 [] T2_tell_ok (fun K hK => ?_)
  refine k_at (j := u) hu ?_
  refine hK _ ?_
  refine k_callV (Y' := Y0_add) (as := [.int (nI u), .int (nI (a 3 u)), .int (nI s), .int (nI n), .int (nI r)]) (st := []) (m0_add I.1 I.2.1 h4 (by omega)) rfl c2_211 rfl rfl rfl d2_tell_18 (Nat.le_of_ble_eq_true rfl) (Nat.le_of_ble_eq_true rfl) rfl rfl ?_
  refine k_go 99 [] T2_tell_ok (fun K hK => ?_)
  refine hK _ ?_
  refine k_callV (Y' := Y2_planAll) (as := []) (st := []) (m2_planAll (IvA_add I h4 hu h3 hs hn hr)) rfl c2_90 rfl rfl rfl d2_tell_24 (Nat.le_of_ble_eq_true rfl) (Nat.le_of_ble_eq_true rfl) rfl rfl ?_
  refine k_go 99 [] T2_tell_ok (fun K hK => ?_)
  refine hK _ ?_
  exact k_ireturn d2_tell_29 rfl rfl rfl rfl (Nat.le_of_ble_eq_true rfl) (Nat.le_of_ble_eq_true rfl)
theorem m2_speak_unk (h : ¬ inR x (f 2)) : k_Met Y2_speak [.ref 0, .int x, .int y, .int z, .int w] (hX f a G B o) (.inr "java/lang/IllegalArgumentException", hX f a G B o, 1, 6) := by
  refine k_intro (by decide +kernel) rfl rfl rfl ?_
  refine k_go 99 [] T2_speak_ok (fun K hK => ?_)
  refine hK _ ?_
  exact k_callVX (Y' := Y2_needUnit) (as := [.int x]) (st := []) (m2_needUnit_bad h) rfl c2_62 rfl rfl rfl d2_speak_2 (Nat.le_of_ble_eq_true rfl) (Nat.le_of_ble_eq_true rfl) rfl rfl rfl
theorem m2_speak_bad (h : inR x (f 2)) (h2 : ¬ ((inR y (f 0) ∧ inR w 10) ∧ inR z 100)) : k_Met Y2_speak [.ref 0, .int x, .int y, .int z, .int w] (hX f a G B o) (.inr "java/lang/IndexOutOfBoundsException", hX f a G B o, 1, 6) := by
  refine k_intro (by decide +kernel) rfl rfl rfl ?_
  refine k_go 99 [] T2_speak_ok (fun K hK => ?_)
  refine hK _ ?_
  refine k_callV (Y' := Y2_needUnit) (as := [.int x]) (st := []) (m2_needUnit_ok h) rfl c2_62 rfl rfl rfl d2_speak_2 (Nat.le_of_ble_eq_true rfl) (Nat.le_of_ble_eq_true rfl) rfl rfl ?_
  refine k_go 99 [] T2_speak_ok (fun K hK => ?_)
  refine hK _ ?_
  by_cases hb : inR y (f 0) ∧ inR w 10
  · refine k_callV (Y' := Y2_needBegin) (as := [.int y, .int w]) (st := []) (m2_needBegin_ok hb.1 hb.2) rfl c2_98 rfl rfl rfl d2_speak_9 (Nat.le_of_ble_eq_true rfl) (Nat.le_of_ble_eq_true rfl) rfl rfl ?_
    refine k_go 99 [] T2_speak_ok (fun K hK => ?_)
    refine And.intro (fun _ => ?_) (fun q1 => ?_)
    · refine hK _ ?_
      exact k_throw (E := "java/lang/IndexOutOfBoundsException") (st := []) rfl kt_101 rfl d2_speak_22 d2_speak_25 d2_speak_26 d2_speak_28 d2_speak_31 (by decide) (Nat.le_of_ble_eq_true rfl) rfl rfl (Nat.le_of_ble_eq_true rfl) (Nat.le_of_ble_eq_true rfl)
    · refine And.intro (fun q2 => absurd ⟨hb, q1, (le_suc (n := 99) (by omega)).mp q2⟩ h2) (fun _ => ?_)
      refine hK _ ?_
      exact k_throw (E := "java/lang/IndexOutOfBoundsException") (st := []) rfl kt_101 rfl d2_speak_22 d2_speak_25 d2_speak_26 d2_speak_28 d2_speak_31 (by decide) (Nat.le_of_ble_eq_true rfl) rfl rfl (Nat.le_of_ble_eq_true rfl) (Nat.le_of_ble_eq_true rfl)
  · exact k_callVX (Y' := Y2_needBegin) (as := [.int y, .int w]) (st := []) (m2_needBegin_bad hb) rfl c2_98 rfl rfl rfl d2_speak_9 (Nat.le_of_ble_eq_true rfl) (Nat.le_of_ble_eq_true rfl) rfl rfl rfl
theorem m2_speak_has (I : IvA f a) {u s n r : Nat} (hu : u < f 2) (hs : s < f 0) (hn : n < 100) (hr : r < 10) (h : hasB f a u s) : k_Met Y2_speak [.ref 0, .int (nI u), .int (nI s), .int (nI n), .int (nI r)] (hX f a G B o) (.inr "java/lang/IllegalStateException", hX f a G B o, 1, 6) := by
  have h0 := I.2.2.2.2.2.2.2.1
  have h2 := I.2.2.2.2.2.2.2.2.2.2.2.2.1
  have h4 := I.2.2.2.2.2.2.2.2.2.1
  refine k_intro (by decide +kernel) rfl rfl rfl ?_
  refine k_go 99 [] T2_speak_ok (fun K hK => ?_)
  refine hK _ ?_
  refine k_callV (Y' := Y2_needUnit) (as := [.int (nI u)]) (st := []) (m2_needUnit_ok (inR_nI hu (by omega))) rfl c2_62 rfl rfl rfl d2_speak_2 (Nat.le_of_ble_eq_true rfl) (Nat.le_of_ble_eq_true rfl) rfl rfl ?_
  refine k_go 99 [] T2_speak_ok (fun K hK => ?_)
  refine hK _ ?_
  refine k_callV (Y' := Y2_needBegin) (as := [.int (nI s), .int (nI r)]) (st := []) (m2_needBegin_ok (inR_nI hs (by omega)) (inR_nI hr (by omega))) rfl c2_98 rfl rfl rfl d2_speak_9 (Nat.le_of_ble_eq_true rfl) (Nat.le_of_ble_eq_true rfl) rfl rfl ?_
  refine k_go 99 [] T2_speak_ok (fun K hK => ?_)
  refine z_lt (a := n) (by omega) ?_
  refine b_le (a := n) (b := 99) (by omega) (by omega) (fun _ => ?_) (fun q => absurd hn (by omega))
  refine hK _ ?_
  exact k_callVX (Y' := Y2_needFreeBegin) (as := [.int (nI u), .int (nI s)]) (st := []) (m2_needFreeBegin_bad I.1 h4 (by omega) (by omega) h) rfl c2_103 rfl rfl rfl d2_speak_35 (Nat.le_of_ble_eq_true rfl) (Nat.le_of_ble_eq_true rfl) rfl rfl rfl
theorem m2_speak_full (I : IvA f a) {u s n r : Nat} (hu : u < f 2) (hs : s < f 0) (hn : n < 100) (hr : r < 10) (h : ¬ hasB f a u s) (h60 : 60 ≤ f 4) : k_Met Y2_speak [.ref 0, .int (nI u), .int (nI s), .int (nI n), .int (nI r)] (hX f a G B o) (.inr "java/lang/UnsupportedOperationException", hX f a G B o, 1, 6) := by
  have h0 := I.2.2.2.2.2.2.2.1
  have h2 := I.2.2.2.2.2.2.2.2.2.2.2.2.1
  have h4 := I.2.2.2.2.2.2.2.2.2.1
  refine k_intro (by decide +kernel) rfl rfl rfl ?_
  refine k_go 99 [] T2_speak_ok (fun K hK => ?_)
  refine hK _ ?_
  refine k_callV (Y' := Y2_needUnit) (as := [.int (nI u)]) (st := []) (m2_needUnit_ok (inR_nI hu (by omega))) rfl c2_62 rfl rfl rfl d2_speak_2 (Nat.le_of_ble_eq_true rfl) (Nat.le_of_ble_eq_true rfl) rfl rfl ?_
  refine k_go 99 [] T2_speak_ok (fun K hK => ?_)
  refine hK _ ?_
  refine k_callV (Y' := Y2_needBegin) (as := [.int (nI s), .int (nI r)]) (st := []) (m2_needBegin_ok (inR_nI hs (by omega)) (inR_nI hr (by omega))) rfl c2_98 rfl rfl rfl d2_speak_9 (Nat.le_of_ble_eq_true rfl) (Nat.le_of_ble_eq_true rfl) rfl rfl ?_
  refine k_go 99 [] T2_speak_ok (fun K hK => ?_)
  refine z_lt (a := n) (by omega) ?_
  refine b_le (a := n) (b := 99) (by omega) (by omega) (fun _ => ?_) (fun q => absurd hn (by omega))
  refine hK _ ?_
  refine k_callV (Y' := Y2_needFreeBegin) (as := [.int (nI u), .int (nI s)]) (st := []) (m2_needFreeBegin_ok I.1 h4 (by omega) (by omega) h) rfl c2_103 rfl rfl rfl d2_speak_35 (Nat.le_of_ble_eq_true rfl) (Nat.le_of_ble_eq_true rfl) rfl rfl ?_
  refine k_go 99 [] T2_speak_ok (fun K hK => ?_)
  refine hK _ ?_
  exact k_callVX (Y' := Y2_needRoomForMessage) (as := []) (st := []) (m2_needRoom_bad (by omega) h60) rfl c2_106 rfl rfl rfl d2_speak_39 (Nat.le_of_ble_eq_true rfl) (Nat.le_of_ble_eq_true rfl) rfl rfl rfl
theorem m2_speak_ok (I : IvA f a) {u s n r : Nat} (hu : u < f 2) (hs : s < f 0) (hn : n < 100) (hr : r < 10) (h : ¬ hasB f a u s) (h60 : f 4 < 60) : k_Met Y2_speak [.ref 0, .int (nI u), .int (nI s), .int (nI n), .int (nI r)] (hX f a G B o) (.inl (some (.int (nI (f 4)))), hX (up1 f 4 (f 4 + 1)) (telA f a u s n r) G B o, 0, 0) := by
  have h0 := I.2.2.2.2.2.2.2.1
  have h2 := I.2.2.2.2.2.2.2.2.2.2.2.2.1
  have h4 := I.2.2.2.2.2.2.2.2.2.1
  refine k_intro (by decide +kernel) rfl rfl rfl ?_
  refine k_go 99 [] T2_speak_ok (fun K hK => ?_)
  refine hK _ ?_
  refine k_callV (Y' := Y2_needUnit) (as := [.int (nI u)]) (st := []) (m2_needUnit_ok (inR_nI hu (by omega))) rfl c2_62 rfl rfl rfl d2_speak_2 (Nat.le_of_ble_eq_true rfl) (Nat.le_of_ble_eq_true rfl) rfl rfl ?_
  refine k_go 99 [] T2_speak_ok (fun K hK => ?_)
  refine hK _ ?_
  refine k_callV (Y' := Y2_needBegin) (as := [.int (nI s), .int (nI r)]) (st := []) (m2_needBegin_ok (inR_nI hs (by omega)) (inR_nI hr (by omega))) rfl c2_98 rfl rfl rfl d2_speak_9 (Nat.le_of_ble_eq_true rfl) (Nat.le_of_ble_eq_true rfl) rfl rfl ?_
  refine k_go 99 [] T2_speak_ok (fun K hK => ?_)
  refine z_lt (a := n) (by omega) ?_
  refine b_le (a := n) (b := 99) (by omega) (by omega) (fun _ => ?_) (fun q => absurd hn (by omega))
  refine hK _ ?_
  refine k_callV (Y' := Y2_needFreeBegin) (as := [.int (nI u), .int (nI s)]) (st := []) (m2_needFreeBegin_ok I.1 h4 (by omega) (by omega) h) rfl c2_103 rfl rfl rfl d2_speak_35 (Nat.le_of_ble_eq_true rfl) (Nat.le_of_ble_eq_true rfl) rfl rfl ?_
  refine k_go 99 [] T2_speak_ok (fun K hK => ?_)
  refine hK _ ?_
  refine k_callV (Y' := Y2_needRoomForMessage) (as := []) (st := []) (m2_needRoom_ok h60) rfl c2_106 rfl rfl rfl d2_speak_39 (Nat.le_of_ble_eq_true rfl) (Nat.le_of_ble_eq_true rfl) rfl rfl ?_
  refine k_go 99 [] T2_speak_ok (fun K hK => ?_)
  refine hK _ ?_
  refine k_callV (Y' := Y2_tell) (as := [.int (nI u), .int (nI s), .int (nI n), .int (nI r)]) (st := []) (m2_tell I h60 (by omega) hs hn hr) rfl c2_109 rfl rfl rfl d2_speak_48 (Nat.le_of_ble_eq_true rfl) (Nat.le_of_ble_eq_true rfl) rfl rfl ?_
  exact k_ireturn d2_speak_51 rfl rfl rfl rfl (Nat.le_of_ble_eq_true rfl) (Nat.le_of_ble_eq_true rfl)
theorem m2_relay_unk (h : ¬ (inR x (f 2) ∧ inR y (f 4))) : k_Met Y2_relay [.ref 0, .int x, .int y, .int z, .int w] (hX f a G B o) (.inr "java/lang/IllegalArgumentException", hX f a G B o, 1, 6) := by
  refine k_intro (by decide +kernel) rfl rfl rfl ?_
  refine k_go 99 [] T2_relay_ok (fun K hK => ?_)
  refine hK _ ?_
  by_cases hb : inR x (f 2)
  · refine k_callV (Y' := Y2_needUnit) (as := [.int x]) (st := []) (m2_needUnit_ok hb) rfl c2_62 rfl rfl rfl d2_relay_2 (Nat.le_of_ble_eq_true rfl) (Nat.le_of_ble_eq_true rfl) rfl rfl ?_
    refine k_go 99 [] T2_relay_ok (fun K hK => ?_)
    refine hK _ ?_
    exact k_callVX (Y' := Y2_needMessage) (as := [.int y]) (st := []) (m2_needMessage_bad (fun q => h ⟨hb, q⟩)) rfl c2_113 rfl rfl rfl d2_relay_7 (Nat.le_of_ble_eq_true rfl) (Nat.le_of_ble_eq_true rfl) rfl rfl rfl
  · exact k_callVX (Y' := Y2_needUnit) (as := [.int x]) (st := []) (m2_needUnit_bad hb) rfl c2_62 rfl rfl rfl d2_relay_2 (Nat.le_of_ble_eq_true rfl) (Nat.le_of_ble_eq_true rfl) rfl rfl rfl
theorem m2_relay_bad (h : inR x (f 2) ∧ inR y (f 4)) (h2 : ¬ (inR z (f 0) ∧ inR w 10)) : k_Met Y2_relay [.ref 0, .int x, .int y, .int z, .int w] (hX f a G B o) (.inr "java/lang/IndexOutOfBoundsException", hX f a G B o, 1, 6) := by
  refine k_intro (by decide +kernel) rfl rfl rfl ?_
  refine k_go 99 [] T2_relay_ok (fun K hK => ?_)
  refine hK _ ?_
  refine k_callV (Y' := Y2_needUnit) (as := [.int x]) (st := []) (m2_needUnit_ok h.1) rfl c2_62 rfl rfl rfl d2_relay_2 (Nat.le_of_ble_eq_true rfl) (Nat.le_of_ble_eq_true rfl) rfl rfl ?_
  refine k_go 99 [] T2_relay_ok (fun K hK => ?_)
  refine hK _ ?_
  refine k_callV (Y' := Y2_needMessage) (as := [.int y]) (st := []) (m2_needMessage_ok h.2) rfl c2_113 rfl rfl rfl d2_relay_7 (Nat.le_of_ble_eq_true rfl) (Nat.le_of_ble_eq_true rfl) rfl rfl ?_
  refine k_go 99 [] T2_relay_ok (fun K hK => ?_)
  refine hK _ ?_
  exact k_callVX (Y' := Y2_needBegin) (as := [.int z, .int w]) (st := []) (m2_needBegin_bad h2) rfl c2_98 rfl rfl rfl d2_relay_14 (Nat.le_of_ble_eq_true rfl) (Nat.le_of_ble_eq_true rfl) rfl rfl rfl
theorem m2_relay_has (I : IvA f a) {u q s r : Nat} (hu : u < f 2) (hq : q < f 4) (hs : s < f 0) (hr : r < 10) (h : hasB f a u s) : k_Met Y2_relay [.ref 0, .int (nI u), .int (nI q), .int (nI s), .int (nI r)] (hX f a G B o) (.inr "java/lang/IllegalStateException", hX f a G B o, 1, 6) := by
  have h0 := I.2.2.2.2.2.2.2.1
  have h2 := I.2.2.2.2.2.2.2.2.2.2.2.2.1
  have h4 := I.2.2.2.2.2.2.2.2.2.1
  have h15 := I.1 15 q (by omega)
  refine k_intro (by decide +kernel) rfl rfl rfl ?_
  refine k_go 99 [] T2_relay_ok (fun K hK => ?_)
  refine hK _ ?_
  refine k_callV (Y' := Y2_needUnit) (as := [.int (nI u)]) (st := []) (m2_needUnit_ok (inR_nI hu (by omega))) rfl c2_62 rfl rfl rfl d2_relay_2 (Nat.le_of_ble_eq_true rfl) (Nat.le_of_ble_eq_true rfl) rfl rfl ?_
  refine k_go 99 [] T2_relay_ok (fun K hK => ?_)
  refine hK _ ?_
  refine k_callV (Y' := Y2_needMessage) (as := [.int (nI q)]) (st := []) (m2_needMessage_ok (inR_nI hq (by omega))) rfl c2_113 rfl rfl rfl d2_relay_7 (Nat.le_of_ble_eq_true rfl) (Nat.le_of_ble_eq_true rfl) rfl rfl ?_
  refine k_go 99 [] T2_relay_ok (fun K hK => ?_)
  refine hK _ ?_
  refine k_callV (Y' := Y2_needBegin) (as := [.int (nI s), .int (nI r)]) (st := []) (m2_needBegin_ok (inR_nI hs (by omega)) (inR_nI hr (by omega))) rfl c2_98 rfl rfl rfl d2_relay_14 (Nat.le_of_ble_eq_true rfl) (Nat.le_of_ble_eq_true rfl) rfl rfl ?_
  refine k_go 99 [] T2_relay_ok (fun K hK => ?_)
  refine hK _ ?_
  exact k_callVX (Y' := Y2_needFreeBegin) (as := [.int (nI u), .int (nI s)]) (st := []) (m2_needFreeBegin_bad I.1 h4 (by omega) (by omega) h) rfl c2_103 rfl rfl rfl d2_relay_20 (Nat.le_of_ble_eq_true rfl) (Nat.le_of_ble_eq_true rfl) rfl rfl rfl
theorem m2_relay_not (I : IvA f a) {u q s r : Nat} (hu : u < f 2) (hq : q < f 4) (hs : s < f 0) (hr : r < 10) (h : ¬ hasB f a u s) (hh : ¬ (a 15 q = 0 ∧ haB f a u q = true)) : k_Met Y2_relay [.ref 0, .int (nI u), .int (nI q), .int (nI s), .int (nI r)] (hX f a G B o) (.inr "java/lang/IllegalStateException", hX f a G B o, 1, 6) := by
  have h0 := I.2.2.2.2.2.2.2.1
  have h2 := I.2.2.2.2.2.2.2.2.2.2.2.2.1
  have h4 := I.2.2.2.2.2.2.2.2.2.1
  have h15 := I.1 15 q (by omega)
  refine k_intro (by decide +kernel) rfl rfl rfl ?_
  refine k_go 99 [] T2_relay_ok (fun K hK => ?_)
  refine hK _ ?_
  refine k_callV (Y' := Y2_needUnit) (as := [.int (nI u)]) (st := []) (m2_needUnit_ok (inR_nI hu (by omega))) rfl c2_62 rfl rfl rfl d2_relay_2 (Nat.le_of_ble_eq_true rfl) (Nat.le_of_ble_eq_true rfl) rfl rfl ?_
  refine k_go 99 [] T2_relay_ok (fun K hK => ?_)
  refine hK _ ?_
  refine k_callV (Y' := Y2_needMessage) (as := [.int (nI q)]) (st := []) (m2_needMessage_ok (inR_nI hq (by omega))) rfl c2_113 rfl rfl rfl d2_relay_7 (Nat.le_of_ble_eq_true rfl) (Nat.le_of_ble_eq_true rfl) rfl rfl ?_
  refine k_go 99 [] T2_relay_ok (fun K hK => ?_)
  refine hK _ ?_
  refine k_callV (Y' := Y2_needBegin) (as := [.int (nI s), .int (nI r)]) (st := []) (m2_needBegin_ok (inR_nI hs (by omega)) (inR_nI hr (by omega))) rfl c2_98 rfl rfl rfl d2_relay_14 (Nat.le_of_ble_eq_true rfl) (Nat.le_of_ble_eq_true rfl) rfl rfl ?_
  refine k_go 99 [] T2_relay_ok (fun K hK => ?_)
  refine hK _ ?_
  refine k_callV (Y' := Y2_needFreeBegin) (as := [.int (nI u), .int (nI s)]) (st := []) (m2_needFreeBegin_ok I.1 h4 (by omega) (by omega) h) rfl c2_103 rfl rfl rfl d2_relay_20 (Nat.le_of_ble_eq_true rfl) (Nat.le_of_ble_eq_true rfl) rfl rfl ?_
  refine k_go 99 [] T2_relay_ok (fun K hK => ?_)
  refine k_at (j := q) (by omega) ?_
  refine z_ne (a := a 15 q) (by omega) (fun _ => ?_) (fun e1 => ?_)
  · refine hK _ ?_
    exact k_throw (E := "java/lang/IllegalStateException") (st := []) rfl kt_124 rfl d2_relay_44 d2_relay_47 d2_relay_48 d2_relay_50 d2_relay_53 (by decide) (Nat.le_of_ble_eq_true rfl) rfl rfl (Nat.le_of_ble_eq_true rfl) (Nat.le_of_ble_eq_true rfl)
  · refine hK _ ?_
    refine k_callV (Y' := Y2_heardAllSlots) (as := [.int (nI u), .int (nI q)]) (st := []) (m2_heard I (by omega) (by omega)) rfl c2_119 rfl rfl rfl d2_relay_38 (Nat.le_of_ble_eq_true rfl) (Nat.le_of_ble_eq_true rfl) rfl rfl ?_
    refine k_go 99 [] T2_relay_ok (fun K hK => ?_)
    refine q_ne (fun e2 => absurd ⟨e1, e2⟩ hh) (fun _ => ?_)
    refine hK _ ?_
    exact k_throw (E := "java/lang/IllegalStateException") (st := []) rfl kt_124 rfl d2_relay_44 d2_relay_47 d2_relay_48 d2_relay_50 d2_relay_53 (by decide) (Nat.le_of_ble_eq_true rfl) rfl rfl (Nat.le_of_ble_eq_true rfl) (Nat.le_of_ble_eq_true rfl)
theorem m2_relay_full (I : IvA f a) {u q s r : Nat} (hu : u < f 2) (hq : q < f 4) (hs : s < f 0) (hr : r < 10) (h : ¬ hasB f a u s) (hh : a 15 q = 0 ∧ haB f a u q = true) (h60 : 60 ≤ f 4) : k_Met Y2_relay [.ref 0, .int (nI u), .int (nI q), .int (nI s), .int (nI r)] (hX f a G B o) (.inr "java/lang/UnsupportedOperationException", hX f a G B o, 1, 6) := by
  have h0 := I.2.2.2.2.2.2.2.1
  have h2 := I.2.2.2.2.2.2.2.2.2.2.2.2.1
  have h4 := I.2.2.2.2.2.2.2.2.2.1
  have h15 := I.1 15 q (by omega)
  refine k_intro (by decide +kernel) rfl rfl rfl ?_
  refine k_go 99 [] T2_relay_ok (fun K hK => ?_)
  refine hK _ ?_
  refine k_callV (Y' := Y2_needUnit) (as := [.int (nI u)]) (st := []) (m2_needUnit_ok (inR_nI hu (by omega))) rfl c2_62 rfl rfl rfl d2_relay_2 (Nat.le_of_ble_eq_true rfl) (Nat.le_of_ble_eq_true rfl) rfl rfl ?_
  refine k_go 99 [] T2_relay_ok (fun K hK => ?_)
  refine hK _ ?_
  refine k_callV (Y' := Y2_needMessage) (as := [.int (nI q)]) (st := []) (m2_needMessage_ok (inR_nI hq (by omega))) rfl c2_113 rfl rfl rfl d2_relay_7 (Nat.le_of_ble_eq_true rfl) (Nat.le_of_ble_eq_true rfl) rfl rfl ?_
  refine k_go 99 [] T2_relay_ok (fun K hK => ?_)
  refine hK _ ?_
  refine k_callV (Y' := Y2_needBegin) (as := [.int (nI s), .int (nI r)]) (st := []) (m2_needBegin_ok (inR_nI hs (by omega)) (inR_nI hr (by omega))) rfl c2_98 rfl rfl rfl d2_relay_14 (Nat.le_of_ble_eq_true rfl) (Nat.le_of_ble_eq_true rfl) rfl rfl ?_
  refine k_go 99 [] T2_relay_ok (fun K hK => ?_)
  refine hK _ ?_
  refine k_callV (Y' := Y2_needFreeBegin) (as := [.int (nI u), .int (nI s)]) (st := []) (m2_needFreeBegin_ok I.1 h4 (by omega) (by omega) h) rfl c2_103 rfl rfl rfl d2_relay_20 (Nat.le_of_ble_eq_true rfl) (Nat.le_of_ble_eq_true rfl) rfl rfl ?_
  refine k_go 99 [] T2_relay_ok (fun K hK => ?_)
  refine k_at (j := q) (by omega) ?_
  refine z_ne (a := a 15 q) (by omega) (fun e => absurd hh.1 (by omega)) (fun _ => ?_)
  refine hK _ ?_
  refine k_callV (Y' := Y2_heardAllSlots) (as := [.int (nI u), .int (nI q)]) (st := []) (m2_heard I (by omega) (by omega)) rfl c2_119 rfl rfl rfl d2_relay_38 (Nat.le_of_ble_eq_true rfl) (Nat.le_of_ble_eq_true rfl) rfl rfl ?_
  refine k_go 99 [] T2_relay_ok (fun K hK => ?_)
  refine q_ne (fun _ => ?_) (fun e => by rw [hh.2] at e; cases e)
  refine hK _ ?_
  exact k_callVX (Y' := Y2_needRoomForMessage) (as := []) (st := []) (m2_needRoom_bad (by omega) h60) rfl c2_106 rfl rfl rfl d2_relay_55 (Nat.le_of_ble_eq_true rfl) (Nat.le_of_ble_eq_true rfl) rfl rfl rfl
theorem m2_relay_ok (I : IvA f a) {u q s r : Nat} (hu : u < f 2) (hq : q < f 4) (hs : s < f 0) (hr : r < 10) (h : ¬ hasB f a u s) (hh : a 15 q = 0 ∧ haB f a u q = true) (h60 : f 4 < 60) : k_Met Y2_relay [.ref 0, .int (nI u), .int (nI q), .int (nI s), .int (nI r)] (hX f a G B o) (.inl (some (.int (nI (f 4)))), hX (up1 f 4 (f 4 + 1)) (telA f a u s (a 11 q) r) G B o, 0, 0) := by
  have h0 := I.2.2.2.2.2.2.2.1
  have h2 := I.2.2.2.2.2.2.2.2.2.2.2.2.1
  have h4 := I.2.2.2.2.2.2.2.2.2.1
  have h15 := I.1 15 q (by omega)
  refine k_intro (by decide +kernel) rfl rfl rfl ?_
  refine k_go 99 [] T2_relay_ok (fun K hK => ?_)
  refine hK _ ?_
  refine k_callV (Y' := Y2_needUnit) (as := [.int (nI u)]) (st := []) (m2_needUnit_ok (inR_nI hu (by omega))) rfl c2_62 rfl rfl rfl d2_relay_2 (Nat.le_of_ble_eq_true rfl) (Nat.le_of_ble_eq_true rfl) rfl rfl ?_
  refine k_go 99 [] T2_relay_ok (fun K hK => ?_)
  refine hK _ ?_
  refine k_callV (Y' := Y2_needMessage) (as := [.int (nI q)]) (st := []) (m2_needMessage_ok (inR_nI hq (by omega))) rfl c2_113 rfl rfl rfl d2_relay_7 (Nat.le_of_ble_eq_true rfl) (Nat.le_of_ble_eq_true rfl) rfl rfl ?_
  refine k_go 99 [] T2_relay_ok (fun K hK => ?_)
  refine hK _ ?_
  refine k_callV (Y' := Y2_needBegin) (as := [.int (nI s), .int (nI r)]) (st := []) (m2_needBegin_ok (inR_nI hs (by omega)) (inR_nI hr (by omega))) rfl c2_98 rfl rfl rfl d2_relay_14 (Nat.le_of_ble_eq_true rfl) (Nat.le_of_ble_eq_true rfl) rfl rfl ?_
  refine k_go 99 [] T2_relay_ok (fun K hK => ?_)
  refine hK _ ?_
  refine k_callV (Y' := Y2_needFreeBegin) (as := [.int (nI u), .int (nI s)]) (st := []) (m2_needFreeBegin_ok I.1 h4 (by omega) (by omega) h) rfl c2_103 rfl rfl rfl d2_relay_20 (Nat.le_of_ble_eq_true rfl) (Nat.le_of_ble_eq_true rfl) rfl rfl ?_
  refine k_go 99 [] T2_relay_ok (fun K hK => ?_)
  refine k_at (j := q) (by omega) ?_
  refine z_ne (a := a 15 q) (by omega) (fun e => absurd hh.1 (by omega)) (fun _ => ?_)
  refine hK _ ?_
  refine k_callV (Y' := Y2_heardAllSlots) (as := [.int (nI u), .int (nI q)]) (st := []) (m2_heard I (by omega) (by omega)) rfl c2_119 rfl rfl rfl d2_relay_38 (Nat.le_of_ble_eq_true rfl) (Nat.le_of_ble_eq_true rfl) rfl rfl ?_
  refine k_go 99 [] T2_relay_ok (fun K hK => ?_)
  refine q_ne (fun _ => ?_) (fun e => by rw [hh.2] at e; cases e)
  refine hK _ ?_
  refine k_callV (Y' := Y2_needRoomForMessage) (as := []) (st := []) (m2_needRoom_ok h60) rfl c2_106 rfl rfl rfl d2_relay_55 (Nat.le_of_ble_eq_true rfl) (Nat.le_of_ble_eq_true rfl) rfl rfl ?_
  refine k_go 99 [] T2_relay_ok (fun K hK => ?_)
  refine k_at (j := q) (by omega) ?_
  refine hK _ ?_
  refine k_callV (Y' := Y2_tell) (as := [.int (nI u), .int (nI s), .int (nI (a 11 q)), .int (nI r)]) (st := []) (m2_tell I h60 (by omega) hs (I.2.2.2.2.2.2.2.2.2.2.2.1 q) hr) rfl c2_109 rfl rfl rfl d2_relay_72 (Nat.le_of_ble_eq_true rfl) (Nat.le_of_ble_eq_true rfl) rfl rfl ?_
  exact k_ireturn d2_relay_75 rfl rfl rfl rfl (Nat.le_of_ble_eq_true rfl) (Nat.le_of_ble_eq_true rfl)
end TL
