theorem lt_suc {x : Int32} {n : Nat} (hn : n + 1 < 2 ^ 31) : ¬ nI n < x ↔ x < nI (n + 1) := by
  rw [Int32.lt_iff_toInt_lt, Int32.lt_iff_toInt_lt, nI_toInt (by omega), nI_toInt hn]
  omega
theorem le_suc {x : Int32} {n : Nat} (hn : n + 1 < 2 ^ 31) : x ≤ nI n ↔ x < nI (n + 1) := by
  rw [← lt_suc hn]; exact Int32.not_lt.symm
section ND
variable {f : Nat → Nat} {a : Nat → Nat → Nat} {G : Nat → Int32} {B : Nat → Nat → Int32} {o : Nat → Int64} {x y z : Int32}
theorem m2_needUnit_ok (h : inR x (f 2)) : k_Met Y2_needUnit [.ref 0, .int x] (hX f a G B o) (.inl none, hX f a G B o, 0, 0) := by
  refine k_intro (by decide +kernel) rfl rfl rfl ?_
  refine k_go 99 [] T2_needUnit_ok (fun K hK => ?_)
  refine And.intro (fun q => absurd q h.1) (fun _ => ?_)
  refine And.intro (fun _ => ?_) (fun q => absurd h.2 q)
  refine hK _ ?_
  exact k_return d2_needUnit_25 rfl rfl rfl (Nat.le_of_ble_eq_true rfl) (Nat.le_of_ble_eq_true rfl)
theorem m2_needUnit_bad (h : ¬ inR x (f 2)) : k_Met Y2_needUnit [.ref 0, .int x] (hX f a G B o) (.inr "java/lang/IllegalArgumentException", hX f a G B o, 1, 6) := by
  refine k_intro (by decide +kernel) rfl rfl rfl ?_
  refine k_go 99 [] T2_needUnit_ok (fun K hK => ?_)
  refine And.intro (fun _ => ?_) (fun q => ?_)
  · refine hK _ ?_
    exact k_throw (E := "java/lang/IllegalArgumentException") (st := []) rfl kt_168 rfl d2_needUnit_15 d2_needUnit_18 d2_needUnit_19 d2_needUnit_21 d2_needUnit_24 (by decide) (Nat.le_of_ble_eq_true rfl) rfl rfl (Nat.le_of_ble_eq_true rfl) (Nat.le_of_ble_eq_true rfl)
  · refine And.intro (fun q2 => absurd ⟨q, q2⟩ h) (fun _ => ?_)
    refine hK _ ?_
    exact k_throw (E := "java/lang/IllegalArgumentException") (st := []) rfl kt_168 rfl d2_needUnit_15 d2_needUnit_18 d2_needUnit_19 d2_needUnit_21 d2_needUnit_24 (by decide) (Nat.le_of_ble_eq_true rfl) rfl rfl (Nat.le_of_ble_eq_true rfl) (Nat.le_of_ble_eq_true rfl)
theorem m2_needMessage_ok (h : inR x (f 4)) : k_Met Y2_needMessage [.ref 0, .int x] (hX f a G B o) (.inl none, hX f a G B o, 0, 0) := by
  refine k_intro (by decide +kernel) rfl rfl rfl ?_
  refine k_go 99 [] T2_needMessage_ok (fun K hK => ?_)
  refine And.intro (fun q => absurd q h.1) (fun _ => ?_)
  refine And.intro (fun _ => ?_) (fun q => absurd h.2 q)
  refine hK _ ?_
  exact k_return d2_needMessage_25 rfl rfl rfl (Nat.le_of_ble_eq_true rfl) (Nat.le_of_ble_eq_true rfl)
theorem m2_needMessage_bad (h : ¬ inR x (f 4)) : k_Met Y2_needMessage [.ref 0, .int x] (hX f a G B o) (.inr "java/lang/IllegalArgumentException", hX f a G B o, 1, 6) := by
  refine k_intro (by decide +kernel) rfl rfl rfl ?_
  refine k_go 99 [] T2_needMessage_ok (fun K hK => ?_)
  refine And.intro (fun _ => ?_) (fun q => ?_)
  · refine hK _ ?_
    exact k_throw (E := "java/lang/IllegalArgumentException") (st := []) rfl kt_170 rfl d2_needMessage_15 d2_needMessage_18 d2_needMessage_19 d2_needMessage_21 d2_needMessage_24 (by decide) (Nat.le_of_ble_eq_true rfl) rfl rfl (Nat.le_of_ble_eq_true rfl) (Nat.le_of_ble_eq_true rfl)
  · refine And.intro (fun q2 => absurd ⟨q, q2⟩ h) (fun _ => ?_)
    refine hK _ ?_
    exact k_throw (E := "java/lang/IllegalArgumentException") (st := []) rfl kt_170 rfl d2_needMessage_15 d2_needMessage_18 d2_needMessage_19 d2_needMessage_21 d2_needMessage_24 (by decide) (Nat.le_of_ble_eq_true rfl) rfl rfl (Nat.le_of_ble_eq_true rfl) (Nat.le_of_ble_eq_true rfl)
theorem m2_needChannel_ok (h : inR x 6) : k_Met Y2_needChannel [.ref 0, .int x] (hX f a G B o) (.inl none, hX f a G B o, 0, 0) := by
  refine k_intro (by decide +kernel) rfl rfl rfl ?_
  refine k_go 99 [] T2_needChannel_ok (fun K hK => ?_)
  refine hK _ ?_
  refine k_callV (Y' := Y2_isChannel) (as := [.int x]) (st := []) (m2_isChannel) rfl c2_73 rfl rfl rfl d2_needChannel_2 (Nat.le_of_ble_eq_true rfl) (Nat.le_of_ble_eq_true rfl) rfl rfl ?_
  refine k_go 99 [] T2_needChannel_ok (fun K hK => ?_)
  refine p_ne (fun _ => ?_) (fun q => absurd h q)
  refine hK _ ?_
  exact k_return d2_needChannel_18 rfl rfl rfl (Nat.le_of_ble_eq_true rfl) (Nat.le_of_ble_eq_true rfl)
theorem m2_needChannel_bad (h : ¬ (inR x 6)) : k_Met Y2_needChannel [.ref 0, .int x] (hX f a G B o) (.inr "java/lang/IllegalArgumentException", hX f a G B o, 1, 6) := by
  refine k_intro (by decide +kernel) rfl rfl rfl ?_
  refine k_go 99 [] T2_needChannel_ok (fun K hK => ?_)
  refine hK _ ?_
  refine k_callV (Y' := Y2_isChannel) (as := [.int x]) (st := []) (m2_isChannel) rfl c2_73 rfl rfl rfl d2_needChannel_2 (Nat.le_of_ble_eq_true rfl) (Nat.le_of_ble_eq_true rfl) rfl rfl ?_
  refine k_go 99 [] T2_needChannel_ok (fun K hK => ?_)
  refine p_ne (fun q => absurd q h) (fun _ => ?_)
  refine hK _ ?_
  exact k_throw (E := "java/lang/IllegalArgumentException") (st := []) rfl kt_172 rfl d2_needChannel_8 d2_needChannel_11 d2_needChannel_12 d2_needChannel_14 d2_needChannel_17 (by decide) (Nat.le_of_ble_eq_true rfl) rfl rfl (Nat.le_of_ble_eq_true rfl) (Nat.le_of_ble_eq_true rfl)
theorem m2_needSlot_ok (h : inR x (f 0)) : k_Met Y2_needSlot [.ref 0, .int x] (hX f a G B o) (.inl none, hX f a G B o, 0, 0) := by
  refine k_intro (by decide +kernel) rfl rfl rfl ?_
  refine k_go 99 [] T2_needSlot_ok (fun K hK => ?_)
  refine hK _ ?_
  refine k_callV (Y' := Y2_isSlot) (as := [.int x]) (st := []) (m2_isSlot) rfl c2_174 rfl rfl rfl d2_needSlot_2 (Nat.le_of_ble_eq_true rfl) (Nat.le_of_ble_eq_true rfl) rfl rfl ?_
  refine k_go 99 [] T2_needSlot_ok (fun K hK => ?_)
  refine p_ne (fun _ => ?_) (fun q => absurd h q)
  refine hK _ ?_
  exact k_return d2_needSlot_18 rfl rfl rfl (Nat.le_of_ble_eq_true rfl) (Nat.le_of_ble_eq_true rfl)
theorem m2_needSlot_bad (h : ¬ (inR x (f 0))) : k_Met Y2_needSlot [.ref 0, .int x] (hX f a G B o) (.inr "java/lang/ArrayIndexOutOfBoundsException", hX f a G B o, 1, 6) := by
  refine k_intro (by decide +kernel) rfl rfl rfl ?_
  refine k_go 99 [] T2_needSlot_ok (fun K hK => ?_)
  refine hK _ ?_
  refine k_callV (Y' := Y2_isSlot) (as := [.int x]) (st := []) (m2_isSlot) rfl c2_174 rfl rfl rfl d2_needSlot_2 (Nat.le_of_ble_eq_true rfl) (Nat.le_of_ble_eq_true rfl) rfl rfl ?_
  refine k_go 99 [] T2_needSlot_ok (fun K hK => ?_)
  refine p_ne (fun q => absurd q h) (fun _ => ?_)
  refine hK _ ?_
  exact k_throw (E := "java/lang/ArrayIndexOutOfBoundsException") (st := []) rfl kt_179 rfl d2_needSlot_8 d2_needSlot_11 d2_needSlot_12 d2_needSlot_14 d2_needSlot_17 (by decide) (Nat.le_of_ble_eq_true rfl) rfl rfl (Nat.le_of_ble_eq_true rfl) (Nat.le_of_ble_eq_true rfl)
theorem m2_needPlace_ok (h1 : inR x 10000) (h2 : inR y 10000) (h3 : inR z 6) : k_Met Y2_needPlace [.ref 0, .int x, .int y, .int z] (hX f a G B o) (.inl none, hX f a G B o, 0, 0) := by
  refine k_intro (by decide +kernel) rfl rfl rfl ?_
  refine k_go 99 [] T2_needPlace_ok (fun K hK => ?_)
  refine And.intro (fun q => absurd q h1.1) (fun _ => ?_)
  refine And.intro (fun q => absurd q ((lt_suc (n := 9999) (by omega)).mpr h1.2)) (fun _ => ?_)
  refine And.intro (fun q => absurd q h2.1) (fun _ => ?_)
  refine And.intro (fun _ => ?_) (fun q => absurd ((le_suc (n := 9999) (by omega)).mpr h2.2) q)
  refine hK _ ?_
  refine k_callV (Y' := Y2_isChannel) (as := [.int z]) (st := []) (m2_isChannel) rfl c2_73 rfl rfl rfl d2_needPlace_34 (Nat.le_of_ble_eq_true rfl) (Nat.le_of_ble_eq_true rfl) rfl rfl ?_
  refine k_go 99 [] T2_needPlace_ok (fun K hK => ?_)
  refine p_ne (fun _ => ?_) (fun q => absurd h3 q)
  refine hK _ ?_
  exact k_return d2_needPlace_50 rfl rfl rfl (Nat.le_of_ble_eq_true rfl) (Nat.le_of_ble_eq_true rfl)
theorem m2_needPlace_bad (h : ¬ (inR x 10000 ∧ inR y 10000 ∧ inR z 6)) : k_Met Y2_needPlace [.ref 0, .int x, .int y, .int z] (hX f a G B o) (.inr "java/lang/IndexOutOfBoundsException", hX f a G B o, 1, 6) := by
  refine k_intro (by decide +kernel) rfl rfl rfl ?_
  refine k_go 99 [] T2_needPlace_ok (fun K hK => ?_)
  refine And.intro (fun _ => ?_) (fun q1 => ?_)
  · refine hK _ ?_
    exact k_throw (E := "java/lang/IndexOutOfBoundsException") (st := []) rfl kt_182 rfl d2_needPlace_22 d2_needPlace_25 d2_needPlace_26 d2_needPlace_28 d2_needPlace_31 (by decide) (Nat.le_of_ble_eq_true rfl) rfl rfl (Nat.le_of_ble_eq_true rfl) (Nat.le_of_ble_eq_true rfl)
  · refine And.intro (fun _ => ?_) (fun q2 => ?_)
    · refine hK _ ?_
      exact k_throw (E := "java/lang/IndexOutOfBoundsException") (st := []) rfl kt_182 rfl d2_needPlace_22 d2_needPlace_25 d2_needPlace_26 d2_needPlace_28 d2_needPlace_31 (by decide) (Nat.le_of_ble_eq_true rfl) rfl rfl (Nat.le_of_ble_eq_true rfl) (Nat.le_of_ble_eq_true rfl)
    · refine And.intro (fun _ => ?_) (fun q3 => ?_)
      · refine hK _ ?_
        exact k_throw (E := "java/lang/IndexOutOfBoundsException") (st := []) rfl kt_182 rfl d2_needPlace_22 d2_needPlace_25 d2_needPlace_26 d2_needPlace_28 d2_needPlace_31 (by decide) (Nat.le_of_ble_eq_true rfl) rfl rfl (Nat.le_of_ble_eq_true rfl) (Nat.le_of_ble_eq_true rfl)
      · refine And.intro (fun q4 => ?_) (fun _ => ?_)
        · refine hK _ ?_
          refine k_callV (Y' := Y2_isChannel) (as := [.int z]) (st := []) (m2_isChannel) rfl c2_73 rfl rfl rfl d2_needPlace_34 (Nat.le_of_ble_eq_true rfl) (Nat.le_of_ble_eq_true rfl) rfl rfl ?_
          refine k_go 99 [] T2_needPlace_ok (fun K hK => ?_)
          refine p_ne (fun q5 => absurd ⟨⟨q1, (lt_suc (n := 9999) (by omega)).mp q2⟩, ⟨q3, (le_suc (n := 9999) (by omega)).mp q4⟩, q5⟩ h) (fun _ => ?_)
          refine hK _ ?_
          exact k_throw (E := "java/lang/IndexOutOfBoundsException") (st := []) rfl kt_184 rfl d2_needPlace_40 d2_needPlace_43 d2_needPlace_44 d2_needPlace_46 d2_needPlace_49 (by decide) (Nat.le_of_ble_eq_true rfl) rfl rfl (Nat.le_of_ble_eq_true rfl) (Nat.le_of_ble_eq_true rfl)
        · refine hK _ ?_
          exact k_throw (E := "java/lang/IndexOutOfBoundsException") (st := []) rfl kt_182 rfl d2_needPlace_22 d2_needPlace_25 d2_needPlace_26 d2_needPlace_28 d2_needPlace_31 (by decide) (Nat.le_of_ble_eq_true rfl) rfl rfl (Nat.le_of_ble_eq_true rfl) (Nat.le_of_ble_eq_true rfl)
theorem m2_needBegin_ok (h1 : inR x (f 0)) (h2 : inR y 10) : k_Met Y2_needBegin [.ref 0, .int x, .int y] (hX f a G B o) (.inl none, hX f a G B o, 0, 0) := by
  refine k_intro (by decide +kernel) rfl rfl rfl ?_
  refine k_go 99 [] T2_needBegin_ok (fun K hK => ?_)
  refine hK _ ?_
  refine k_callV (Y' := Y2_isSlot) (as := [.int x]) (st := []) (m2_isSlot) rfl c2_174 rfl rfl rfl d2_needBegin_2 (Nat.le_of_ble_eq_true rfl) (Nat.le_of_ble_eq_true rfl) rfl rfl ?_
  refine k_go 99 [] T2_needBegin_ok (fun K hK => ?_)
  refine p_ne (fun _ => ?_) (fun q => absurd h1 q)
  refine And.intro (fun q => absurd q h2.1) (fun _ => ?_)
  refine And.intro (fun _ => ?_) (fun q => absurd ((le_suc (n := 9) (by omega)).mpr h2.2) q)
  refine hK _ ?_
  exact k_return d2_needBegin_38 rfl rfl rfl (Nat.le_of_ble_eq_true rfl) (Nat.le_of_ble_eq_true rfl)
theorem m2_needBegin_bad (h : ¬ (inR x (f 0) ∧ inR y 10)) : k_Met Y2_needBegin [.ref 0, .int x, .int y] (hX f a G B o) (.inr "java/lang/IndexOutOfBoundsException", hX f a G B o, 1, 6) := by
  refine k_intro (by decide +kernel) rfl rfl rfl ?_
  refine k_go 99 [] T2_needBegin_ok (fun K hK => ?_)
  refine hK _ ?_
  refine k_callV (Y' := Y2_isSlot) (as := [.int x]) (st := []) (m2_isSlot) rfl c2_174 rfl rfl rfl d2_needBegin_2 (Nat.le_of_ble_eq_true rfl) (Nat.le_of_ble_eq_true rfl) rfl rfl ?_
  refine k_go 99 [] T2_needBegin_ok (fun K hK => ?_)
  refine p_ne (fun q1 => ?_) (fun _ => ?_)
  · refine And.intro (fun _ => ?_) (fun q2 => ?_)
    · refine hK _ ?_
      exact k_throw (E := "java/lang/IndexOutOfBoundsException") (st := []) rfl kt_188 rfl d2_needBegin_28 d2_needBegin_31 d2_needBegin_32 d2_needBegin_34 d2_needBegin_37 (by decide) (Nat.le_of_ble_eq_true rfl) rfl rfl (Nat.le_of_ble_eq_true rfl) (Nat.le_of_ble_eq_true rfl)
    · refine And.intro (fun q3 => absurd ⟨q1, q2, (le_suc (n := 9) (by omega)).mp q3⟩ h) (fun _ => ?_)
      refine hK _ ?_
      exact k_throw (E := "java/lang/IndexOutOfBoundsException") (st := []) rfl kt_188 rfl d2_needBegin_28 d2_needBegin_31 d2_needBegin_32 d2_needBegin_34 d2_needBegin_37 (by decide) (Nat.le_of_ble_eq_true rfl) rfl rfl (Nat.le_of_ble_eq_true rfl) (Nat.le_of_ble_eq_true rfl)
  · refine hK _ ?_
    exact k_throw (E := "java/lang/IndexOutOfBoundsException") (st := []) rfl kt_186 rfl d2_needBegin_8 d2_needBegin_11 d2_needBegin_12 d2_needBegin_14 d2_needBegin_17 (by decide) (Nat.le_of_ble_eq_true rfl) rfl rfl (Nat.le_of_ble_eq_true rfl) (Nat.le_of_ble_eq_true rfl)
theorem m2_needFreeBegin_ok (hB : Bd a) (h4 : f 4 ≤ 60) {u s : Nat} (hu : u < 10000) (hs : s < 10000) (h : ¬ hasB f a u s) : k_Met Y2_needFreeBegin [.ref 0, .int (nI u), .int (nI s)] (hX f a G B o) (.inl none, hX f a G B o, 0, 0) := by
  have dd : Decidable (hasB f a u s) := .isFalse h
  refine k_intro (by decide +kernel) rfl rfl rfl ?_
  refine k_go 99 [] T2_needFreeBegin_ok (fun K hK => ?_)
  refine hK _ ?_
  refine k_callV (Y' := Y0_hasBegin) (as := [.int (nI u), .int (nI s)]) (st := []) (m0_hasBegin hB h4 hu hs) rfl c2_190 rfl rfl rfl d2_needFreeBegin_6 (Nat.le_of_ble_eq_true rfl) (Nat.le_of_ble_eq_true rfl) rfl rfl ?_
  refine k_go 99 [] T2_needFreeBegin_ok (fun K hK => ?_)
  refine p_eq (fun _ => ?_) (fun q => absurd q h)
  refine hK _ ?_
  exact k_return d2_needFreeBegin_22 rfl rfl rfl (Nat.le_of_ble_eq_true rfl) (Nat.le_of_ble_eq_true rfl)
theorem m2_needFreeBegin_bad (hB : Bd a) (h4 : f 4 ≤ 60) {u s : Nat} (hu : u < 10000) (hs : s < 10000) (h : hasB f a u s) : k_Met Y2_needFreeBegin [.ref 0, .int (nI u), .int (nI s)] (hX f a G B o) (.inr "java/lang/IllegalStateException", hX f a G B o, 1, 6) := by
  have dd : Decidable (hasB f a u s) := .isTrue h
  refine k_intro (by decide +kernel) rfl rfl rfl ?_
  refine k_go 99 [] T2_needFreeBegin_ok (fun K hK => ?_)
  refine hK _ ?_
  refine k_callV (Y' := Y0_hasBegin) (as := [.int (nI u), .int (nI s)]) (st := []) (m0_hasBegin hB h4 hu hs) rfl c2_190 rfl rfl rfl d2_needFreeBegin_6 (Nat.le_of_ble_eq_true rfl) (Nat.le_of_ble_eq_true rfl) rfl rfl ?_
  refine k_go 99 [] T2_needFreeBegin_ok (fun K hK => ?_)
  refine p_eq (fun q => absurd h q) (fun _ => ?_)
  refine hK _ ?_
  exact k_throw (E := "java/lang/IllegalStateException") (st := []) rfl kt_193 rfl d2_needFreeBegin_12 d2_needFreeBegin_15 d2_needFreeBegin_16 d2_needFreeBegin_18 d2_needFreeBegin_21 (by decide) (Nat.le_of_ble_eq_true rfl) rfl rfl (Nat.le_of_ble_eq_true rfl) (Nat.le_of_ble_eq_true rfl)
theorem m2_needRoom_ok (h : f 4 < 60) : k_Met Y2_needRoomForMessage [.ref 0] (hX f a G B o) (.inl none, hX f a G B o, 0, 0) := by
  refine k_intro (by decide +kernel) rfl rfl rfl ?_
  refine k_go 99 [] T2_needRoomForMessage_ok (fun K hK => ?_)
  refine b_lt (a := f 4) (b := 60) (by omega) (by omega) (fun _ => ?_) (fun q => absurd h (by omega))
  refine hK _ ?_
  exact k_return d2_needRoomForMessage_22 rfl rfl rfl (Nat.le_of_ble_eq_true rfl) (Nat.le_of_ble_eq_true rfl)
theorem m2_needRoom_bad (h4 : f 4 < 10000) (h : 60 ≤ f 4) : k_Met Y2_needRoomForMessage [.ref 0] (hX f a G B o) (.inr "java/lang/UnsupportedOperationException", hX f a G B o, 1, 6) := by
  refine k_intro (by decide +kernel) rfl rfl rfl ?_
  refine k_go 99 [] T2_needRoomForMessage_ok (fun K hK => ?_)
  refine b_lt (a := f 4) (b := 60) (by omega) (by omega) (fun q => absurd h (by omega)) (fun _ => ?_)
  refine hK _ ?_
  exact k_throw (E := "java/lang/UnsupportedOperationException") (st := []) rfl kt_197 rfl d2_needRoomForMessage_12 d2_needRoomForMessage_15 d2_needRoomForMessage_16 d2_needRoomForMessage_18 d2_needRoomForMessage_21 (by decide) (Nat.le_of_ble_eq_true rfl) rfl rfl (Nat.le_of_ble_eq_true rfl) (Nat.le_of_ble_eq_true rfl)
theorem m2_placeU_bad {r c : Int32} (h : ¬ (inR x 10000 ∧ inR y 10000 ∧ inR r 10000 ∧ inR c 6)) : k_Met Y2_place [.ref 0, .ref 1, .int x, .int y, .int r, .int c] (hX f a G B o) (.inr "java/lang/IndexOutOfBoundsException", hX f a G B o, 1, 6) := by
  refine k_intro (by decide +kernel) rfl rfl rfl ?_
  refine k_go 99 [] T2_place_ok (fun K hK => ?_)
  refine hK _ ?_
  by_cases hp : inR x 10000 ∧ inR y 10000 ∧ inR c 6
  · refine k_callV (Y' := Y2_needPlace) (as := [.int x, .int y, .int c]) (st := []) (m2_needPlace_ok hp.1 hp.2.1 hp.2.2) rfl c2_65 rfl rfl rfl d2_place_5 (Nat.le_of_ble_eq_true rfl) (Nat.le_of_ble_eq_true rfl) rfl rfl ?_
    refine k_go 99 [] T2_place_ok (fun K hK => ?_)
    refine And.intro (fun _ => ?_) (fun q1 => ?_)
    · refine hK _ ?_
      exact k_throw (E := "java/lang/IndexOutOfBoundsException") (st := []) rfl kt_200 rfl d2_place_21 d2_place_24 d2_place_25 d2_place_27 d2_place_30 (by decide) (Nat.le_of_ble_eq_true rfl) rfl rfl (Nat.le_of_ble_eq_true rfl) (Nat.le_of_ble_eq_true rfl)
    · refine And.intro (fun q2 => absurd ⟨hp.1, hp.2.1, ⟨q1, (le_suc (n := 9999) (by omega)).mp q2⟩, hp.2.2⟩ h) (fun _ => ?_)
      refine hK _ ?_
      exact k_throw (E := "java/lang/IndexOutOfBoundsException") (st := []) rfl kt_200 rfl d2_place_21 d2_place_24 d2_place_25 d2_place_27 d2_place_30 (by decide) (Nat.le_of_ble_eq_true rfl) rfl rfl (Nat.le_of_ble_eq_true rfl) (Nat.le_of_ble_eq_true rfl)
  · exact k_callVX (Y' := Y2_needPlace) (as := [.int x, .int y, .int c]) (st := []) (m2_needPlace_bad hp) rfl c2_65 rfl rfl rfl d2_place_5 (Nat.le_of_ble_eq_true rfl) (Nat.le_of_ble_eq_true rfl) rfl rfl rfl
theorem m2_placeU_full {r c : Int32} (hf : f 2 < 10000) (h1 : inR x 10000) (h2 : inR y 10000) (h3 : inR r 10000) (h4 : inR c 6) (h5 : 20 ≤ f 2) : k_Met Y2_place [.ref 0, .ref 1, .int x, .int y, .int r, .int c] (hX f a G B o) (.inr "java/lang/UnsupportedOperationException", hX f a G B o, 1, 6) := by
  refine k_intro (by decide +kernel) rfl rfl rfl ?_
  refine k_go 99 [] T2_place_ok (fun K hK => ?_)
  refine hK _ ?_
  refine k_callV (Y' := Y2_needPlace) (as := [.int x, .int y, .int c]) (st := []) (m2_needPlace_ok h1 h2 h4) rfl c2_65 rfl rfl rfl d2_place_5 (Nat.le_of_ble_eq_true rfl) (Nat.le_of_ble_eq_true rfl) rfl rfl ?_
  refine k_go 99 [] T2_place_ok (fun K hK => ?_)
  refine And.intro (fun q => absurd q h3.1) (fun _ => ?_)
  refine And.intro (fun _ => ?_) (fun q => absurd ((le_suc (n := 9999) (by omega)).mpr h3.2) q)
  refine hK _ ?_
  refine k_callV (Y' := Y1_isFull) (as := []) (st := []) (m1_isFullU hf) rfl c2_202 rfl rfl rfl d2_place_32 (Nat.le_of_ble_eq_true rfl) (Nat.le_of_ble_eq_true rfl) rfl rfl ?_
  refine k_go 99 [] T2_place_ok (fun K hK => ?_)
  refine p_eq (fun q => absurd h5 q) (fun _ => ?_)
  refine hK _ ?_
  exact k_throw (E := "java/lang/UnsupportedOperationException") (st := []) rfl kt_206 rfl d2_place_38 d2_place_41 d2_place_42 d2_place_44 d2_place_47 (by decide) (Nat.le_of_ble_eq_true rfl) rfl rfl (Nat.le_of_ble_eq_true rfl) (Nat.le_of_ble_eq_true rfl)
theorem m2_placeU_ok {xx yy r c : Nat} (h1 : xx < 10000) (h2 : yy < 10000) (h3 : r < 10000) (h4 : c < 6) (h5 : f 2 < 20) : k_Met Y2_place [.ref 0, .ref 1, .int (nI xx), .int (nI yy), .int (nI r), .int (nI c)] (hX f a G B o) (.inl (some (.int (nI (f 2)))), hX (up1 f 2 (f 2 + 1)) (mvU (up2 a 2 (f 2) r) (f 2) xx yy c) G B o, 0, 0) := by
  have hf : f 2 < 10000 := by omega
  refine k_intro (by decide +kernel) rfl rfl rfl ?_
  refine k_go 99 [] T2_place_ok (fun K hK => ?_)
  refine hK _ ?_
  refine k_callV (Y' := Y2_needPlace) (as := [.int (nI xx), .int (nI yy), .int (nI c)]) (st := []) (m2_needPlace_ok (inR_nI h1 (by omega)) (inR_nI h2 (by omega)) (inR_nI h4 (by omega))) rfl c2_65 rfl rfl rfl d2_place_5 (Nat.le_of_ble_eq_true rfl) (Nat.le_of_ble_eq_true rfl) rfl rfl ?_
  refine k_go 99 [] T2_place_ok (fun K hK => ?_)
  refine z_lt (a := r) (by omega) ?_
  refine b_le (a := r) (b := 9999) (by omega) (by omega) (fun _ => ?_) (fun q => absurd h3 (by omega))
  refine hK _ ?_
  refine k_callV (Y' := Y1_isFull) (as := []) (st := []) (m1_isFullU hf) rfl c2_202 rfl rfl rfl d2_place_32 (Nat.le_of_ble_eq_true rfl) (Nat.le_of_ble_eq_true rfl) rfl rfl ?_
  refine k_go 99 [] T2_place_ok (fun K hK => ?_)
  refine p_eq (fun _ => ?_) (fun q => absurd q (by omega))
  refine hK _ ?_
  refine k_callV (Y' := Y1_add) (as := [.int (nI xx), .int (nI yy), .int (nI r), .int (nI c)]) (st := []) (m1_addU h5) rfl c2_208 rfl rfl rfl d2_place_55 (Nat.le_of_ble_eq_true rfl) (Nat.le_of_ble_eq_true rfl) rfl rfl ?_
  exact k_ireturn d2_place_58 rfl rfl rfl rfl (Nat.le_of_ble_eq_true rfl) (Nat.le_of_ble_eq_true rfl)
theorem m2_placeR_bad {r c : Int32} (h : ¬ (inR x 10000 ∧ inR y 10000 ∧ inR r 10000 ∧ inR c 6)) : k_Met Y2_place [.ref 0, .ref 6, .int x, .int y, .int r, .int c] (hX f a G B o) (.inr "java/lang/IndexOutOfBoundsException", hX f a G B o, 1, 6) := by
  refine k_intro (by decide +kernel) rfl rfl rfl ?_
  refine k_go 99 [] T2_place_ok (fun K hK => ?_)
  refine hK _ ?_
  by_cases hp : inR x 10000 ∧ inR y 10000 ∧ inR c 6
  · refine k_callV (Y' := Y2_needPlace) (as := [.int x, .int y, .int c]) (st := []) (m2_needPlace_ok hp.1 hp.2.1 hp.2.2) rfl c2_65 rfl rfl rfl d2_place_5 (Nat.le_of_ble_eq_true rfl) (Nat.le_of_ble_eq_true rfl) rfl rfl ?_
    refine k_go 99 [] T2_place_ok (fun K hK => ?_)
    refine And.intro (fun _ => ?_) (fun q1 => ?_)
    · refine hK _ ?_
      exact k_throw (E := "java/lang/IndexOutOfBoundsException") (st := []) rfl kt_200 rfl d2_place_21 d2_place_24 d2_place_25 d2_place_27 d2_place_30 (by decide) (Nat.le_of_ble_eq_true rfl) rfl rfl (Nat.le_of_ble_eq_true rfl) (Nat.le_of_ble_eq_true rfl)
    · refine And.intro (fun q2 => absurd ⟨hp.1, hp.2.1, ⟨q1, (le_suc (n := 9999) (by omega)).mp q2⟩, hp.2.2⟩ h) (fun _ => ?_)
      refine hK _ ?_
      exact k_throw (E := "java/lang/IndexOutOfBoundsException") (st := []) rfl kt_200 rfl d2_place_21 d2_place_24 d2_place_25 d2_place_27 d2_place_30 (by decide) (Nat.le_of_ble_eq_true rfl) rfl rfl (Nat.le_of_ble_eq_true rfl) (Nat.le_of_ble_eq_true rfl)
  · exact k_callVX (Y' := Y2_needPlace) (as := [.int x, .int y, .int c]) (st := []) (m2_needPlace_bad hp) rfl c2_65 rfl rfl rfl d2_place_5 (Nat.le_of_ble_eq_true rfl) (Nat.le_of_ble_eq_true rfl) rfl rfl rfl
theorem m2_placeR_full {r c : Int32} (hf : f 3 < 10000) (h1 : inR x 10000) (h2 : inR y 10000) (h3 : inR r 10000) (h4 : inR c 6) (h5 : 8 ≤ f 3) : k_Met Y2_place [.ref 0, .ref 6, .int x, .int y, .int r, .int c] (hX f a G B o) (.inr "java/lang/UnsupportedOperationException", hX f a G B o, 1, 6) := by
  refine k_intro (by decide +kernel) rfl rfl rfl ?_
  refine k_go 99 [] T2_place_ok (fun K hK => ?_)
  refine hK _ ?_
  refine k_callV (Y' := Y2_needPlace) (as := [.int x, .int y, .int c]) (st := []) (m2_needPlace_ok h1 h2 h4) rfl c2_65 rfl rfl rfl d2_place_5 (Nat.le_of_ble_eq_true rfl) (Nat.le_of_ble_eq_true rfl) rfl rfl ?_
  refine k_go 99 [] T2_place_ok (fun K hK => ?_)
  refine And.intro (fun q => absurd q h3.1) (fun _ => ?_)
  refine And.intro (fun _ => ?_) (fun q => absurd ((le_suc (n := 9999) (by omega)).mpr h3.2) q)
  refine hK _ ?_
  refine k_callV (Y' := Y1_isFull) (as := []) (st := []) (m1_isFullR hf) rfl c2_202 rfl rfl rfl d2_place_32 (Nat.le_of_ble_eq_true rfl) (Nat.le_of_ble_eq_true rfl) rfl rfl ?_
  refine k_go 99 [] T2_place_ok (fun K hK => ?_)
  refine p_eq (fun q => absurd h5 q) (fun _ => ?_)
  refine hK _ ?_
  exact k_throw (E := "java/lang/UnsupportedOperationException") (st := []) rfl kt_206 rfl d2_place_38 d2_place_41 d2_place_42 d2_place_44 d2_place_47 (by decide) (Nat.le_of_ble_eq_true rfl) rfl rfl (Nat.le_of_ble_eq_true rfl) (Nat.le_of_ble_eq_true rfl)
theorem m2_placeR_ok {xx yy r c : Nat} (h1 : xx < 10000) (h2 : yy < 10000) (h3 : r < 10000) (h4 : c < 6) (h5 : f 3 < 8) : k_Met Y2_place [.ref 0, .ref 6, .int (nI xx), .int (nI yy), .int (nI r), .int (nI c)] (hX f a G B o) (.inl (some (.int (nI (f 3)))), hX (up1 f 3 (f 3 + 1)) (mvR (up2 a 6 (f 3) r) (f 3) xx yy c) G B o, 0, 0) := by
  have hf : f 3 < 10000 := by omega
  refine k_intro (by decide +kernel) rfl rfl rfl ?_
  refine k_go 99 [] T2_place_ok (fun K hK => ?_)
  refine hK _ ?_
  refine k_callV (Y' := Y2_needPlace) (as := [.int (nI xx), .int (nI yy), .int (nI c)]) (st := []) (m2_needPlace_ok (inR_nI h1 (by omega)) (inR_nI h2 (by omega)) (inR_nI h4 (by omega))) rfl c2_65 rfl rfl rfl d2_place_5 (Nat.le_of_ble_eq_true rfl) (Nat.le_of_ble_eq_true rfl) rfl rfl ?_
  refine k_go 99 [] T2_place_ok (fun K hK => ?_)
  refine z_lt (a := r) (by omega) ?_
  refine b_le (a := r) (b := 9999) (by omega) (by omega) (fun _ => ?_) (fun q => absurd h3 (by omega))
  refine hK _ ?_
  refine k_callV (Y' := Y1_isFull) (as := []) (st := []) (m1_isFullR hf) rfl c2_202 rfl rfl rfl d2_place_32 (Nat.le_of_ble_eq_true rfl) (Nat.le_of_ble_eq_true rfl) rfl rfl ?_
  refine k_go 99 [] T2_place_ok (fun K hK => ?_)
  refine p_eq (fun _ => ?_) (fun q => absurd q (by omega))
  refine hK _ ?_
  refine k_callV (Y' := Y1_add) (as := [.int (nI xx), .int (nI yy), .int (nI r), .int (nI c)]) (st := []) (m1_addR h5) rfl c2_208 rfl rfl rfl d2_place_55 (Nat.le_of_ble_eq_true rfl) (Nat.le_of_ble_eq_true rfl) rfl rfl ?_
  exact k_ireturn d2_place_58 rfl rfl rfl rfl (Nat.le_of_ble_eq_true rfl) (Nat.le_of_ble_eq_true rfl)
end ND
