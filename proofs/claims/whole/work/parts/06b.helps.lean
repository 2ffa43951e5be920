section L4
variable {F F1 : Nat → Int32} {A A1 : Nat → Nat → Int32} {G : Nat → Int32} {B : Nat → Nat → Int32} {o : Nat → Int64} {x y z w r : Int32}
theorem h4_day_ok (hM : k_Met Y2_day [.ref 0, .int x] (hA F A G B o) (.inl none, hA F1 A1 G B o, 0, 0)) : k_Met Y4_day [.ref 0, .int x] (hA F A G B o) (.inl (some (.int (nI 0))), hA F1 A1 G B o, 0, 0) := by
  refine k_introH (by decide +kernel) rfl (by decide) rfl rfl ?_
  refine k_go 99 [] T4_day_ok (fun K hK => ?_)
  refine hK _ ?_
  refine k_callV (Y' := Y2_day) (as := [.int x]) (st := []) hM rfl c4_7 rfl rfl rfl d4_day_2 (Nat.le_of_ble_eq_true rfl) (Nat.le_of_ble_eq_true rfl) rfl rfl ?_
  refine k_go 99 [] T4_day_ok (fun K hK => ?_)
  refine hK _ ?_
  exact k_ireturn d4_day_15 rfl rfl rfl rfl (Nat.le_of_ble_eq_true rfl) (Nat.le_of_ble_eq_true rfl)
theorem h4_day_ex1 (hM : k_Met Y2_day [.ref 0, .int x] (hA F A G B o) (.inr "java/lang/IllegalArgumentException", hA F A G B o, 1, 6)) : k_Met Y4_day [.ref 0, .int x] (hA F A G B o) (.inl (some (.int (nI 1))), hA F A G B o, 1, 6) := by
  refine k_introH (by decide +kernel) rfl (by decide) rfl rfl ?_
  refine k_go 99 [] T4_day_ok (fun K hK => ?_)
  refine hK _ ?_
  refine k_callVC (Y' := Y2_day) (as := [.int x]) (st := []) [] ((0, 5, 8, 13), "java/lang/IllegalArgumentException") [(0, 5, 11, 15)] hM rfl c4_7 rfl rfl rfl d4_day_2 (Nat.le_of_ble_eq_true rfl) (Nat.le_of_ble_eq_true rfl) rfl (by decide +kernel) (by decide +kernel) rfl rfl rfl rfl ?_
  refine k_go 99 [] T4_day_ok (fun K hK => ?_)
  refine hK _ ?_
  exact k_ireturn d4_day_10 rfl rfl rfl rfl (Nat.le_of_ble_eq_true rfl) (Nat.le_of_ble_eq_true rfl)
theorem h4_day_ex2 (hM : k_Met Y2_day [.ref 0, .int x] (hA F A G B o) (.inr "java/lang/NegativeArraySizeException", hA F A G B o, 1, 6)) : k_Met Y4_day [.ref 0, .int x] (hA F A G B o) (.inl (some (.int (nI 2))), hA F A G B o, 1, 6) := by
  refine k_introH (by decide +kernel) rfl (by decide) rfl rfl ?_
  refine k_go 99 [] T4_day_ok (fun K hK => ?_)
  refine hK _ ?_
  refine k_callVC (Y' := Y2_day) (as := [.int x]) (st := []) [((0, 5, 8, 13), "java/lang/IllegalArgumentException")] ((0, 5, 11, 15), "java/lang/NegativeArraySizeException") [] hM rfl c4_7 rfl rfl rfl d4_day_2 (Nat.le_of_ble_eq_true rfl) (Nat.le_of_ble_eq_true rfl) rfl (by decide +kernel) (by decide +kernel) rfl rfl rfl rfl ?_
  refine k_go 99 [] T4_day_ok (fun K hK => ?_)
  refine hK _ ?_
  exact k_ireturn d4_day_13 rfl rfl rfl rfl (Nat.le_of_ble_eq_true rfl) (Nat.le_of_ble_eq_true rfl)
theorem h4_unit_ok (hM : k_Met Y2_unit [.ref 0, .int x, .int y, .int z, .int w] (hA F A G B o) (.inl (some (.int r)), hA F1 A1 G B o, 0, 0)) : k_Met Y4_unit [.ref 0, .int x, .int y, .int z, .int w, .ref 44] (hA F A G B o) (.inl (some (.int (nI 0))), hA F1 A1 G B (vp_updL o 0 r.toInt64), 0, 0) := by
  refine k_introH (by decide +kernel) rfl (by decide) rfl rfl ?_
  refine k_go 99 [] T4_unit_ok (fun K hK => ?_)
  refine hK _ ?_
  refine k_callV (Y' := Y2_unit) (as := [.int x, .int y, .int z, .int w]) (st := [.int (nI 0), .ref 44]) hM rfl c4_17 rfl rfl rfl d4_unit_9 (Nat.le_of_ble_eq_true rfl) (Nat.le_of_ble_eq_true rfl) rfl rfl ?_
  refine k_go 99 [] T4_unit_ok (fun K hK => ?_)
  refine k_at (j := 0) (by decide) ?_
  refine hK _ ?_
  exact k_ireturn d4_unit_26 rfl rfl rfl rfl (Nat.le_of_ble_eq_true rfl) (Nat.le_of_ble_eq_true rfl)
theorem h4_unit_ex1 (hM : k_Met Y2_unit [.ref 0, .int x, .int y, .int z, .int w] (hA F A G B o) (.inr "java/lang/IndexOutOfBoundsException", hA F A G B o, 1, 6)) : k_Met Y4_unit [.ref 0, .int x, .int y, .int z, .int w, .ref 44] (hA F A G B o) (.inl (some (.int (nI 1))), hA F A G B o, 1, 6) := by
  refine k_introH (by decide +kernel) rfl (by decide) rfl rfl ?_
  refine k_go 99 [] T4_unit_ok (fun K hK => ?_)
  refine hK _ ?_
  refine k_callVC (Y' := Y2_unit) (as := [.int x, .int y, .int z, .int w]) (st := [.int (nI 0), .ref 44]) [] ((0, 14, 17, 21), "java/lang/IndexOutOfBoundsException") [(0, 14, 21, 23)] hM rfl c4_17 rfl rfl rfl d4_unit_9 (Nat.le_of_ble_eq_true rfl) (Nat.le_of_ble_eq_true rfl) rfl (by decide +kernel) (by decide +kernel) rfl rfl rfl rfl ?_
  refine k_go 99 [] T4_unit_ok (fun K hK => ?_)
  refine hK _ ?_
  exact k_ireturn d4_unit_20 rfl rfl rfl rfl (Nat.le_of_ble_eq_true rfl) (Nat.le_of_ble_eq_true rfl)
theorem h4_unit_ex2 (hM : k_Met Y2_unit [.ref 0, .int x, .int y, .int z, .int w] (hA F A G B o) (.inr "java/lang/UnsupportedOperationException", hA F A G B o, 1, 6)) : k_Met Y4_unit [.ref 0, .int x, .int y, .int z, .int w, .ref 44] (hA F A G B o) (.inl (some (.int (nI 2))), hA F A G B o, 1, 6) := by
  refine k_introH (by decide +kernel) rfl (by decide) rfl rfl ?_
  refine k_go 99 [] T4_unit_ok (fun K hK => ?_)
  refine hK _ ?_
  refine k_callVC (Y' := Y2_unit) (as := [.int x, .int y, .int z, .int w]) (st := [.int (nI 0), .ref 44]) [((0, 14, 17, 21), "java/lang/IndexOutOfBoundsException")] ((0, 14, 21, 23), "java/lang/UnsupportedOperationException") [] hM rfl c4_17 rfl rfl rfl d4_unit_9 (Nat.le_of_ble_eq_true rfl) (Nat.le_of_ble_eq_true rfl) rfl (by decide +kernel) (by decide +kernel) rfl rfl rfl rfl ?_
  refine k_go 99 [] T4_unit_ok (fun K hK => ?_)
  refine hK _ ?_
  exact k_ireturn d4_unit_24 rfl rfl rfl rfl (Nat.le_of_ble_eq_true rfl) (Nat.le_of_ble_eq_true rfl)
theorem h4_go_ok (hM : k_Met Y2_go [.ref 0, .int x, .int y, .int z, .int w] (hA F A G B o) (.inl none, hA F1 A1 G B o, 0, 0)) : k_Met Y4_go [.ref 0, .int x, .int y, .int z, .int w] (hA F A G B o) (.inl (some (.int (nI 0))), hA F1 A1 G B o, 0, 0) := by
  refine k_introH (by decide +kernel) rfl (by decide) rfl rfl ?_
  refine k_go 99 [] T4_go_ok (fun K hK => ?_)
  refine hK _ ?_
  refine k_callV (Y' := Y2_go) (as := [.int x, .int y, .int z, .int w]) (st := []) hM rfl c4_25 rfl rfl rfl d4_go_6 (Nat.le_of_ble_eq_true rfl) (Nat.le_of_ble_eq_true rfl) rfl rfl ?_
  refine k_go 99 [] T4_go_ok (fun K hK => ?_)
  refine hK _ ?_
  exact k_ireturn d4_go_21 rfl rfl rfl rfl (Nat.le_of_ble_eq_true rfl) (Nat.le_of_ble_eq_true rfl)
theorem h4_go_ex1 (hM : k_Met Y2_go [.ref 0, .int x, .int y, .int z, .int w] (hA F A G B o) (.inr "java/lang/IllegalArgumentException", hA F A G B o, 1, 6)) : k_Met Y4_go [.ref 0, .int x, .int y, .int z, .int w] (hA F A G B o) (.inl (some (.int (nI 1))), hA F A G B o, 1, 6) := by
  refine k_introH (by decide +kernel) rfl (by decide) rfl rfl ?_
  refine k_go 99 [] T4_go_ok (fun K hK => ?_)
  refine hK _ ?_
  refine k_callVC (Y' := Y2_go) (as := [.int x, .int y, .int z, .int w]) (st := []) [] ((0, 9, 12, 13), "java/lang/IllegalArgumentException") [(0, 9, 16, 21)] hM rfl c4_25 rfl rfl rfl d4_go_6 (Nat.le_of_ble_eq_true rfl) (Nat.le_of_ble_eq_true rfl) rfl (by decide +kernel) (by decide +kernel) rfl rfl rfl rfl ?_
  refine k_go 99 [] T4_go_ok (fun K hK => ?_)
  refine hK _ ?_
  exact k_ireturn d4_go_15 rfl rfl rfl rfl (Nat.le_of_ble_eq_true rfl) (Nat.le_of_ble_eq_true rfl)
theorem h4_go_ex2 (hM : k_Met Y2_go [.ref 0, .int x, .int y, .int z, .int w] (hA F A G B o) (.inr "java/lang/IndexOutOfBoundsException", hA F A G B o, 1, 6)) : k_Met Y4_go [.ref 0, .int x, .int y, .int z, .int w] (hA F A G B o) (.inl (some (.int (nI 2))), hA F A G B o, 1, 6) := by
  refine k_introH (by decide +kernel) rfl (by decide) rfl rfl ?_
  refine k_go 99 [] T4_go_ok (fun K hK => ?_)
  refine hK _ ?_
  refine k_callVC (Y' := Y2_go) (as := [.int x, .int y, .int z, .int w]) (st := []) [((0, 9, 12, 13), "java/lang/IllegalArgumentException")] ((0, 9, 16, 21), "java/lang/IndexOutOfBoundsException") [] hM rfl c4_25 rfl rfl rfl d4_go_6 (Nat.le_of_ble_eq_true rfl) (Nat.le_of_ble_eq_true rfl) rfl (by decide +kernel) (by decide +kernel) rfl rfl rfl rfl ?_
  refine k_go 99 [] T4_go_ok (fun K hK => ?_)
  refine hK _ ?_
  exact k_ireturn d4_go_19 rfl rfl rfl rfl (Nat.le_of_ble_eq_true rfl) (Nat.le_of_ble_eq_true rfl)
theorem h4_repeater_ok (hM : k_Met Y2_repeater [.ref 0, .int x, .int y, .int z, .int w] (hA F A G B o) (.inl (some (.int r)), hA F1 A1 G B o, 0, 0)) : k_Met Y4_repeater [.ref 0, .int x, .int y, .int z, .int w, .ref 44] (hA F A G B o) (.inl (some (.int (nI 0))), hA F1 A1 G B (vp_updL o 0 r.toInt64), 0, 0) := by
  refine k_introH (by decide +kernel) rfl (by decide) rfl rfl ?_
  refine k_go 99 [] T4_repeater_ok (fun K hK => ?_)
  refine hK _ ?_
  refine k_callV (Y' := Y2_repeater) (as := [.int x, .int y, .int z, .int w]) (st := [.int (nI 0), .ref 44]) hM rfl c4_29 rfl rfl rfl d4_repeater_9 (Nat.le_of_ble_eq_true rfl) (Nat.le_of_ble_eq_true rfl) rfl rfl ?_
  refine k_go 99 [] T4_repeater_ok (fun K hK => ?_)
  refine k_at (j := 0) (by decide) ?_
  refine hK _ ?_
  exact k_ireturn d4_repeater_26 rfl rfl rfl rfl (Nat.le_of_ble_eq_true rfl) (Nat.le_of_ble_eq_true rfl)
theorem h4_repeater_ex1 (hM : k_Met Y2_repeater [.ref 0, .int x, .int y, .int z, .int w] (hA F A G B o) (.inr "java/lang/IndexOutOfBoundsException", hA F A G B o, 1, 6)) : k_Met Y4_repeater [.ref 0, .int x, .int y, .int z, .int w, .ref 44] (hA F A G B o) (.inl (some (.int (nI 1))), hA F A G B o, 1, 6) := by
  refine k_introH (by decide +kernel) rfl (by decide) rfl rfl ?_
  refine k_go 99 [] T4_repeater_ok (fun K hK => ?_)
  refine hK _ ?_
  refine k_callVC (Y' := Y2_repeater) (as := [.int x, .int y, .int z, .int w]) (st := [.int (nI 0), .ref 44]) [] ((0, 14, 17, 21), "java/lang/IndexOutOfBoundsException") [(0, 14, 21, 23)] hM rfl c4_29 rfl rfl rfl d4_repeater_9 (Nat.le_of_ble_eq_true rfl) (Nat.le_of_ble_eq_true rfl) rfl (by decide +kernel) (by decide +kernel) rfl rfl rfl rfl ?_
  refine k_go 99 [] T4_repeater_ok (fun K hK => ?_)
  refine hK _ ?_
  exact k_ireturn d4_repeater_20 rfl rfl rfl rfl (Nat.le_of_ble_eq_true rfl) (Nat.le_of_ble_eq_true rfl)
theorem h4_repeater_ex2 (hM : k_Met Y2_repeater [.ref 0, .int x, .int y, .int z, .int w] (hA F A G B o) (.inr "java/lang/UnsupportedOperationException", hA F A G B o, 1, 6)) : k_Met Y4_repeater [.ref 0, .int x, .int y, .int z, .int w, .ref 44] (hA F A G B o) (.inl (some (.int (nI 2))), hA F A G B o, 1, 6) := by
  refine k_introH (by decide +kernel) rfl (by decide) rfl rfl ?_
  refine k_go 99 [] T4_repeater_ok (fun K hK => ?_)
  refine hK _ ?_
  refine k_callVC (Y' := Y2_repeater) (as := [.int x, .int y, .int z, .int w]) (st := [.int (nI 0), .ref 44]) [((0, 14, 17, 21), "java/lang/IndexOutOfBoundsException")] ((0, 14, 21, 23), "java/lang/UnsupportedOperationException") [] hM rfl c4_29 rfl rfl rfl d4_repeater_9 (Nat.le_of_ble_eq_true rfl) (Nat.le_of_ble_eq_true rfl) rfl (by decide +kernel) (by decide +kernel) rfl rfl rfl rfl ?_
  refine k_go 99 [] T4_repeater_ok (fun K hK => ?_)
  refine hK _ ?_
  exact k_ireturn d4_repeater_24 rfl rfl rfl rfl (Nat.le_of_ble_eq_true rfl) (Nat.le_of_ble_eq_true rfl)
theorem h4_patch_ok1 (hM : k_Met Y2_patch [.ref 0, .int x, .int y] (hA F A G B o) (.inl (some (.int 1)), hA F1 A1 G B o, 0, 0)) : k_Met Y4_patch [.ref 0, .int x, .int y, .ref 44] (hA F A G B o) (.inl (some (.int (nI 0))), hA F1 A1 G B (vp_updL o 0 (lN 1)), 0, 0) := by
  refine k_introH (by decide +kernel) rfl (by decide) rfl rfl ?_
  refine k_go 99 [] T4_patch_ok (fun K hK => ?_)
  refine hK _ ?_
  refine k_callV (Y' := Y2_patch) (as := [.int x, .int y]) (st := [.int (nI 0), .ref 44]) hM rfl c4_32 rfl rfl rfl d4_patch_5 (Nat.le_of_ble_eq_true rfl) (Nat.le_of_ble_eq_true rfl) rfl rfl ?_
  refine k_go 99 [] T4_patch_ok (fun K hK => ?_)
  refine And.intro (fun q => absurd (show (1 : Int32) = 0 from q) (by decide)) (fun _ => ?_)
  refine k_at (j := 0) (by decide) ?_
  refine hK _ ?_
  exact k_ireturn d4_patch_25 rfl rfl rfl rfl (Nat.le_of_ble_eq_true rfl) (Nat.le_of_ble_eq_true rfl)
theorem h4_patch_ok0 (hM : k_Met Y2_patch [.ref 0, .int x, .int y] (hA F A G B o) (.inl (some (.int 0)), hA F1 A1 G B o, 0, 0)) : k_Met Y4_patch [.ref 0, .int x, .int y, .ref 44] (hA F A G B o) (.inl (some (.int (nI 0))), hA F1 A1 G B (vp_updL o 0 (lN 0)), 0, 0) := by
  refine k_introH (by decide +kernel) rfl (by decide) rfl rfl ?_
  refine k_go 99 [] T4_patch_ok (fun K hK => ?_)
  refine hK _ ?_
  refine k_callV (Y' := Y2_patch) (as := [.int x, .int y]) (st := [.int (nI 0), .ref 44]) hM rfl c4_32 rfl rfl rfl d4_patch_5 (Nat.le_of_ble_eq_true rfl) (Nat.le_of_ble_eq_true rfl) rfl rfl ?_
  refine k_go 99 [] T4_patch_ok (fun K hK => ?_)
  refine And.intro (fun _ => ?_) (fun q => absurd rfl q)
  refine k_at (j := 0) (by decide) ?_
  refine hK _ ?_
  exact k_ireturn d4_patch_25 rfl rfl rfl rfl (Nat.le_of_ble_eq_true rfl) (Nat.le_of_ble_eq_true rfl)
theorem h4_patch_ex1 (hM : k_Met Y2_patch [.ref 0, .int x, .int y] (hA F A G B o) (.inr "java/lang/IndexOutOfBoundsException", hA F A G B o, 1, 6)) : k_Met Y4_patch [.ref 0, .int x, .int y, .ref 44] (hA F A G B o) (.inl (some (.int (nI 1))), hA F A G B o, 1, 6) := by
  refine k_introH (by decide +kernel) rfl (by decide) rfl rfl ?_
  refine k_go 99 [] T4_patch_ok (fun K hK => ?_)
  refine hK _ ?_
  refine k_callVC (Y' := Y2_patch) (as := [.int x, .int y]) (st := [.int (nI 0), .ref 44]) [] ((0, 17, 20, 21), "java/lang/IndexOutOfBoundsException") [] hM rfl c4_32 rfl rfl rfl d4_patch_5 (Nat.le_of_ble_eq_true rfl) (Nat.le_of_ble_eq_true rfl) rfl (by decide +kernel) (by decide +kernel) rfl rfl rfl rfl ?_
  refine k_go 99 [] T4_patch_ok (fun K hK => ?_)
  refine hK _ ?_
  exact k_ireturn d4_patch_23 rfl rfl rfl rfl (Nat.le_of_ble_eq_true rfl) (Nat.le_of_ble_eq_true rfl)
theorem h4_limit_ok (hM : k_Met Y2_limit [.ref 0, .int x] (hA F A G B o) (.inl none, hA F1 A1 G B o, 0, 0)) : k_Met Y4_limit [.ref 0, .int x] (hA F A G B o) (.inl (some (.int (nI 0))), hA F1 A1 G B o, 0, 0) := by
  refine k_introH (by decide +kernel) rfl (by decide) rfl rfl ?_
  refine k_go 99 [] T4_limit_ok (fun K hK => ?_)
  refine hK _ ?_
  refine k_callV (Y' := Y2_limit) (as := [.int x]) (st := []) hM rfl c4_36 rfl rfl rfl d4_limit_2 (Nat.le_of_ble_eq_true rfl) (Nat.le_of_ble_eq_true rfl) rfl rfl ?_
  refine k_go 99 [] T4_limit_ok (fun K hK => ?_)
  refine hK _ ?_
  exact k_ireturn d4_limit_12 rfl rfl rfl rfl (Nat.le_of_ble_eq_true rfl) (Nat.le_of_ble_eq_true rfl)
theorem h4_limit_ex1 (hM : k_Met Y2_limit [.ref 0, .int x] (hA F A G B o) (.inr "java/lang/IndexOutOfBoundsException", hA F A G B o, 1, 6)) : k_Met Y4_limit [.ref 0, .int x] (hA F A G B o) (.inl (some (.int (nI 1))), hA F A G B o, 1, 6) := by
  refine k_introH (by decide +kernel) rfl (by decide) rfl rfl ?_
  refine k_go 99 [] T4_limit_ok (fun K hK => ?_)
  refine hK _ ?_
  refine k_callVC (Y' := Y2_limit) (as := [.int x]) (st := []) [] ((0, 5, 8, 21), "java/lang/IndexOutOfBoundsException") [] hM rfl c4_36 rfl rfl rfl d4_limit_2 (Nat.le_of_ble_eq_true rfl) (Nat.le_of_ble_eq_true rfl) rfl (by decide +kernel) (by decide +kernel) rfl rfl rfl rfl ?_
  refine k_go 99 [] T4_limit_ok (fun K hK => ?_)
  refine hK _ ?_
  exact k_ireturn d4_limit_10 rfl rfl rfl rfl (Nat.le_of_ble_eq_true rfl) (Nat.le_of_ble_eq_true rfl)
theorem h4_speak_ok (hM : k_Met Y2_speak [.ref 0, .int x, .int y, .int z, .int w] (hA F A G B o) (.inl (some (.int r)), hA F1 A1 G B o, 0, 0)) : k_Met Y4_speak [.ref 0, .int x, .int y, .int z, .int w, .ref 44] (hA F A G B o) (.inl (some (.int (nI 0))), hA F1 A1 G B (vp_updL o 0 r.toInt64), 0, 0) := by
  refine k_introH (by decide +kernel) rfl (by decide) rfl rfl ?_
  refine k_go 99 [] T4_speak_ok (fun K hK => ?_)
  refine hK _ ?_
  refine k_callV (Y' := Y2_speak) (as := [.int x, .int y, .int z, .int w]) (st := [.int (nI 0), .ref 44]) hM rfl c4_39 rfl rfl rfl d4_speak_9 (Nat.le_of_ble_eq_true rfl) (Nat.le_of_ble_eq_true rfl) rfl rfl ?_
  refine k_go 99 [] T4_speak_ok (fun K hK => ?_)
  refine k_at (j := 0) (by decide) ?_
  refine hK _ ?_
  exact k_ireturn d4_speak_34 rfl rfl rfl rfl (Nat.le_of_ble_eq_true rfl) (Nat.le_of_ble_eq_true rfl)
theorem h4_speak_ex1 (hM : k_Met Y2_speak [.ref 0, .int x, .int y, .int z, .int w] (hA F A G B o) (.inr "java/lang/IllegalArgumentException", hA F A G B o, 1, 6)) : k_Met Y4_speak [.ref 0, .int x, .int y, .int z, .int w, .ref 44] (hA F A G B o) (.inl (some (.int (nI 1))), hA F A G B o, 1, 6) := by
  refine k_introH (by decide +kernel) rfl (by decide) rfl rfl ?_
  refine k_go 99 [] T4_speak_ok (fun K hK => ?_)
  refine hK _ ?_
  refine k_callVC (Y' := Y2_speak) (as := [.int x, .int y, .int z, .int w]) (st := [.int (nI 0), .ref 44]) [] ((0, 14, 17, 13), "java/lang/IllegalArgumentException") [(0, 14, 21, 21), (0, 14, 25, 42), (0, 14, 29, 23)] hM rfl c4_39 rfl rfl rfl d4_speak_9 (Nat.le_of_ble_eq_true rfl) (Nat.le_of_ble_eq_true rfl) rfl (by decide +kernel) (by decide +kernel) rfl rfl rfl rfl ?_
  refine k_go 99 [] T4_speak_ok (fun K hK => ?_)
  refine hK _ ?_
  exact k_ireturn d4_speak_20 rfl rfl rfl rfl (Nat.le_of_ble_eq_true rfl) (Nat.le_of_ble_eq_true rfl)
theorem h4_speak_ex2 (hM : k_Met Y2_speak [.ref 0, .int x, .int y, .int z, .int w] (hA F A G B o) (.inr "java/lang/IndexOutOfBoundsException", hA F A G B o, 1, 6)) : k_Met Y4_speak [.ref 0, .int x, .int y, .int z, .int w, .ref 44] (hA F A G B o) (.inl (some (.int (nI 2))), hA F A G B o, 1, 6) := by
  refine k_introH (by decide +kernel) rfl (by decide) rfl rfl ?_
  refine k_go 99 [] T4_speak_ok (fun K hK => ?_)
  refine hK _ ?_
  refine k_callVC (Y' := Y2_speak) (as := [.int x, .int y, .int z, .int w]) (st := [.int (nI 0), .ref 44]) [((0, 14, 17, 13), "java/lang/IllegalArgumentException")] ((0, 14, 21, 21), "java/lang/IndexOutOfBoundsException") [(0, 14, 25, 42), (0, 14, 29, 23)] hM rfl c4_39 rfl rfl rfl d4_speak_9 (Nat.le_of_ble_eq_true rfl) (Nat.le_of_ble_eq_true rfl) rfl (by decide +kernel) (by decide +kernel) rfl rfl rfl rfl ?_
  refine k_go 99 [] T4_speak_ok (fun K hK => ?_)
  refine hK _ ?_
  exact k_ireturn d4_speak_24 rfl rfl rfl rfl (Nat.le_of_ble_eq_true rfl) (Nat.le_of_ble_eq_true rfl)
theorem h4_speak_ex3 (hM : k_Met Y2_speak [.ref 0, .int x, .int y, .int z, .int w] (hA F A G B o) (.inr "java/lang/IllegalStateException", hA F A G B o, 1, 6)) : k_Met Y4_speak [.ref 0, .int x, .int y, .int z, .int w, .ref 44] (hA F A G B o) (.inl (some (.int (nI 3))), hA F A G B o, 1, 6) := by
  refine k_introH (by decide +kernel) rfl (by decide) rfl rfl ?_
  refine k_go 99 [] T4_speak_ok (fun K hK => ?_)
  refine hK _ ?_
  refine k_callVC (Y' := Y2_speak) (as := [.int x, .int y, .int z, .int w]) (st := [.int (nI 0), .ref 44]) [((0, 14, 17, 13), "java/lang/IllegalArgumentException"), ((0, 14, 21, 21), "java/lang/IndexOutOfBoundsException")] ((0, 14, 25, 42), "java/lang/IllegalStateException") [(0, 14, 29, 23)] hM rfl c4_39 rfl rfl rfl d4_speak_9 (Nat.le_of_ble_eq_true rfl) (Nat.le_of_ble_eq_true rfl) rfl (by decide +kernel) (by decide +kernel) rfl rfl rfl rfl ?_
  refine k_go 99 [] T4_speak_ok (fun K hK => ?_)
  refine hK _ ?_
  exact k_ireturn d4_speak_28 rfl rfl rfl rfl (Nat.le_of_ble_eq_true rfl) (Nat.le_of_ble_eq_true rfl)
theorem h4_speak_ex4 (hM : k_Met Y2_speak [.ref 0, .int x, .int y, .int z, .int w] (hA F A G B o) (.inr "java/lang/UnsupportedOperationException", hA F A G B o, 1, 6)) : k_Met Y4_speak [.ref 0, .int x, .int y, .int z, .int w, .ref 44] (hA F A G B o) (.inl (some (.int (nI 4))), hA F A G B o, 1, 6) := by
  refine k_introH (by decide +kernel) rfl (by decide) rfl rfl ?_
  refine k_go 99 [] T4_speak_ok (fun K hK => ?_)
  refine hK _ ?_
  refine k_callVC (Y' := Y2_speak) (as := [.int x, .int y, .int z, .int w]) (st := [.int (nI 0), .ref 44]) [((0, 14, 17, 13), "java/lang/IllegalArgumentException"), ((0, 14, 21, 21), "java/lang/IndexOutOfBoundsException"), ((0, 14, 25, 42), "java/lang/IllegalStateException")] ((0, 14, 29, 23), "java/lang/UnsupportedOperationException") [] hM rfl c4_39 rfl rfl rfl d4_speak_9 (Nat.le_of_ble_eq_true rfl) (Nat.le_of_ble_eq_true rfl) rfl (by decide +kernel) (by decide +kernel) rfl rfl rfl rfl ?_
  refine k_go 99 [] T4_speak_ok (fun K hK => ?_)
  refine hK _ ?_
  exact k_ireturn d4_speak_32 rfl rfl rfl rfl (Nat.le_of_ble_eq_true rfl) (Nat.le_of_ble_eq_true rfl)
theorem h4_relay_ok (hM : k_Met Y2_relay [.ref 0, .int x, .int y, .int z, .int w] (hA F A G B o) (.inl (some (.int r)), hA F1 A1 G B o, 0, 0)) : k_Met Y4_relay [.ref 0, .int x, .int y, .int z, .int w, .ref 44] (hA F A G B o) (.inl (some (.int (nI 0))), hA F1 A1 G B (vp_updL o 0 r.toInt64), 0, 0) := by
  refine k_introH (by decide +kernel) rfl (by decide) rfl rfl ?_
  refine k_go 99 [] T4_relay_ok (fun K hK => ?_)
  refine hK _ ?_
  refine k_callV (Y' := Y2_relay) (as := [.int x, .int y, .int z, .int w]) (st := [.int (nI 0), .ref 44]) hM rfl c4_44 rfl rfl rfl d4_relay_9 (Nat.le_of_ble_eq_true rfl) (Nat.le_of_ble_eq_true rfl) rfl rfl ?_
  refine k_go 99 [] T4_relay_ok (fun K hK => ?_)
  refine k_at (j := 0) (by decide) ?_
  refine hK _ ?_
  exact k_ireturn d4_relay_34 rfl rfl rfl rfl (Nat.le_of_ble_eq_true rfl) (Nat.le_of_ble_eq_true rfl)
theorem h4_relay_ex1 (hM : k_Met Y2_relay [.ref 0, .int x, .int y, .int z, .int w] (hA F A G B o) (.inr "java/lang/IllegalArgumentException", hA F A G B o, 1, 6)) : k_Met Y4_relay [.ref 0, .int x, .int y, .int z, .int w, .ref 44] (hA F A G B o) (.inl (some (.int (nI 1))), hA F A G B o, 1, 6) := by
  refine k_introH (by decide +kernel) rfl (by decide) rfl rfl ?_
  refine k_go 99 [] T4_relay_ok (fun K hK => ?_)
  refine hK _ ?_
  refine k_callVC (Y' := Y2_relay) (as := [.int x, .int y, .int z, .int w]) (st := [.int (nI 0), .ref 44]) [] ((0, 14, 17, 13), "java/lang/IllegalArgumentException") [(0, 14, 21, 21), (0, 14, 25, 42), (0, 14, 29, 23)] hM rfl c4_44 rfl rfl rfl d4_relay_9 (Nat.le_of_ble_eq_true rfl) (Nat.le_of_ble_eq_true rfl) rfl (by decide +kernel) (by decide +kernel) rfl rfl rfl rfl ?_
  refine k_go 99 [] T4_relay_ok (fun K hK => ?_)
  refine hK _ ?_
  exact k_ireturn d4_relay_20 rfl rfl rfl rfl (Nat.le_of_ble_eq_true rfl) (Nat.le_of_ble_eq_true rfl)
theorem h4_relay_ex2 (hM : k_Met Y2_relay [.ref 0, .int x, .int y, .int z, .int w] (hA F A G B o) (.inr "java/lang/IndexOutOfBoundsException", hA F A G B o, 1, 6)) : k_Met Y4_relay [.ref 0, .int x, .int y, .int z, .int w, .ref 44] (hA F A G B o) (.inl (some (.int (nI 2))), hA F A G B o, 1, 6) := by
  refine k_introH (by decide +kernel) rfl (by decide) rfl rfl ?_
  refine k_go 99 [] T4_relay_ok (fun K hK => ?_)
  refine hK _ ?_
  refine k_callVC (Y' := Y2_relay) (as := [.int x, .int y, .int z, .int w]) (st := [.int (nI 0), .ref 44]) [((0, 14, 17, 13), "java/lang/IllegalArgumentException")] ((0, 14, 21, 21), "java/lang/IndexOutOfBoundsException") [(0, 14, 25, 42), (0, 14, 29, 23)] hM rfl c4_44 rfl rfl rfl d4_relay_9 (Nat.le_of_ble_eq_true rfl) (Nat.le_of_ble_eq_true rfl) rfl (by decide +kernel) (by decide +kernel) rfl rfl rfl rfl ?_
  refine k_go 99 [] T4_relay_ok (fun K hK => ?_)
  refine hK _ ?_
  exact k_ireturn d4_relay_24 rfl rfl rfl rfl (Nat.le_of_ble_eq_true rfl) (Nat.le_of_ble_eq_true rfl)
theorem h4_relay_ex3 (hM : k_Met Y2_relay [.ref 0, .int x, .int y, .int z, .int w] (hA F A G B o) (.inr "java/lang/IllegalStateException", hA F A G B o, 1, 6)) : k_Met Y4_relay [.ref 0, .int x, .int y, .int z, .int w, .ref 44] (hA F A G B o) (.inl (some (.int (nI 3))), hA F A G B o, 1, 6) := by
  refine k_introH (by decide +kernel) rfl (by decide) rfl rfl ?_
  refine k_go 99 [] T4_relay_ok (fun K hK => ?_)
  refine hK _ ?_
  refine k_callVC (Y' := Y2_relay) (as := [.int x, .int y, .int z, .int w]) (st := [.int (nI 0), .ref 44]) [((0, 14, 17, 13), "java/lang/IllegalArgumentException"), ((0, 14, 21, 21), "java/lang/IndexOutOfBoundsException")] ((0, 14, 25, 42), "java/lang/IllegalStateException") [(0, 14, 29, 23)] hM rfl c4_44 rfl rfl rfl d4_relay_9 (Nat.le_of_ble_eq_true rfl) (Nat.le_of_ble_eq_true rfl) rfl (by decide +kernel) (by decide +kernel) rfl rfl rfl rfl ?_
  refine k_go 99 [] T4_relay_ok (fun K hK => ?_)
  refine hK _ ?_
  exact k_ireturn d4_relay_28 rfl rfl rfl rfl (Nat.le_of_ble_eq_true rfl) (Nat.le_of_ble_eq_true rfl)
theorem h4_relay_ex4 (hM : k_Met Y2_relay [.ref 0, .int x, .int y, .int z, .int w] (hA F A G B o) (.inr "java/lang/UnsupportedOperationException", hA F A G B o, 1, 6)) : k_Met Y4_relay [.ref 0, .int x, .int y, .int z, .int w, .ref 44] (hA F A G B o) (.inl (some (.int (nI 4))), hA F A G B o, 1, 6) := by
  refine k_introH (by decide +kernel) rfl (by decide) rfl rfl ?_
  refine k_go 99 [] T4_relay_ok (fun K hK => ?_)
  refine hK _ ?_
  refine k_callVC (Y' := Y2_relay) (as := [.int x, .int y, .int z, .int w]) (st := [.int (nI 0), .ref 44]) [((0, 14, 17, 13), "java/lang/IllegalArgumentException"), ((0, 14, 21, 21), "java/lang/IndexOutOfBoundsException"), ((0, 14, 25, 42), "java/lang/IllegalStateException")] ((0, 14, 29, 23), "java/lang/UnsupportedOperationException") [] hM rfl c4_44 rfl rfl rfl d4_relay_9 (Nat.le_of_ble_eq_true rfl) (Nat.le_of_ble_eq_true rfl) rfl (by decide +kernel) (by decide +kernel) rfl rfl rfl rfl ?_
  refine k_go 99 [] T4_relay_ok (fun K hK => ?_)
  refine hK _ ?_
  exact k_ireturn d4_relay_32 rfl rfl rfl rfl (Nat.le_of_ble_eq_true rfl) (Nat.le_of_ble_eq_true rfl)
theorem h4_lose_ok1 (hM : k_Met Y2_lose [.ref 0, .int x] (hA F A G B o) (.inl (some (.int 1)), hA F1 A1 G B o, 0, 0)) : k_Met Y4_lose [.ref 0, .int x, .ref 44] (hA F A G B o) (.inl (some (.int (nI 0))), hA F1 A1 G B (vp_updL o 0 (lN 1)), 0, 0) := by
  refine k_introH (by decide +kernel) rfl (by decide) rfl rfl ?_
  refine k_go 99 [] T4_lose_ok (fun K hK => ?_)
  refine hK _ ?_
  refine k_callV (Y' := Y2_lose) (as := [.int x]) (st := [.int (nI 0), .ref 44]) hM rfl c4_47 rfl rfl rfl d4_lose_4 (Nat.le_of_ble_eq_true rfl) (Nat.le_of_ble_eq_true rfl) rfl rfl ?_
  refine k_go 99 [] T4_lose_ok (fun K hK => ?_)
  refine And.intro (fun q => absurd (show (1 : Int32) = 0 from q) (by decide)) (fun _ => ?_)
  refine k_at (j := 0) (by decide) ?_
  refine hK _ ?_
  exact k_ireturn d4_lose_23 rfl rfl rfl rfl (Nat.le_of_ble_eq_true rfl) (Nat.le_of_ble_eq_true rfl)
theorem h4_lose_ok0 (hM : k_Met Y2_lose [.ref 0, .int x] (hA F A G B o) (.inl (some (.int 0)), hA F1 A1 G B o, 0, 0)) : k_Met Y4_lose [.ref 0, .int x, .ref 44] (hA F A G B o) (.inl (some (.int (nI 0))), hA F1 A1 G B (vp_updL o 0 (lN 0)), 0, 0) := by
  refine k_introH (by decide +kernel) rfl (by decide) rfl rfl ?_
  refine k_go 99 [] T4_lose_ok (fun K hK => ?_)
  refine hK _ ?_
  refine k_callV (Y' := Y2_lose) (as := [.int x]) (st := [.int (nI 0), .ref 44]) hM rfl c4_47 rfl rfl rfl d4_lose_4 (Nat.le_of_ble_eq_true rfl) (Nat.le_of_ble_eq_true rfl) rfl rfl ?_
  refine k_go 99 [] T4_lose_ok (fun K hK => ?_)
  refine And.intro (fun _ => ?_) (fun q => absurd rfl q)
  refine k_at (j := 0) (by decide) ?_
  refine hK _ ?_
  exact k_ireturn d4_lose_23 rfl rfl rfl rfl (Nat.le_of_ble_eq_true rfl) (Nat.le_of_ble_eq_true rfl)
theorem h4_lose_ex1 (hM : k_Met Y2_lose [.ref 0, .int x] (hA F A G B o) (.inr "java/lang/ArrayIndexOutOfBoundsException", hA F A G B o, 1, 6)) : k_Met Y4_lose [.ref 0, .int x, .ref 44] (hA F A G B o) (.inl (some (.int (nI 1))), hA F A G B o, 1, 6) := by
  refine k_introH (by decide +kernel) rfl (by decide) rfl rfl ?_
  refine k_go 99 [] T4_lose_ok (fun K hK => ?_)
  refine hK _ ?_
  refine k_callVC (Y' := Y2_lose) (as := [.int x]) (st := [.int (nI 0), .ref 44]) [] ((0, 16, 19, 51), "java/lang/ArrayIndexOutOfBoundsException") [] hM rfl c4_47 rfl rfl rfl d4_lose_4 (Nat.le_of_ble_eq_true rfl) (Nat.le_of_ble_eq_true rfl) rfl (by decide +kernel) (by decide +kernel) rfl rfl rfl rfl ?_
  refine k_go 99 [] T4_lose_ok (fun K hK => ?_)
  refine hK _ ?_
  exact k_ireturn d4_lose_21 rfl rfl rfl rfl (Nat.le_of_ble_eq_true rfl) (Nat.le_of_ble_eq_true rfl)
theorem h4_hears_ok (hM : k_Met Y2_hears [.ref 0, .int x, .int y] (hA F A G B o) (.inl (some (.int r)), hA F1 A1 G B o, 0, 0)) : k_Met Y4_hears [.ref 0, .int x, .int y, .ref 44] (hA F A G B o) (.inl (some (.int (nI 0))), hA F1 A1 G B (vp_updL o 0 r.toInt64), 0, 0) := by
  refine k_introH (by decide +kernel) rfl (by decide) rfl rfl ?_
  refine k_go 99 [] T4_hears_ok (fun K hK => ?_)
  refine hK _ ?_
  refine k_callV (Y' := Y2_hears) (as := [.int x, .int y]) (st := [.int (nI 0), .ref 44]) hM rfl c4_53 rfl rfl rfl d4_hears_5 (Nat.le_of_ble_eq_true rfl) (Nat.le_of_ble_eq_true rfl) rfl rfl ?_
  refine k_go 99 [] T4_hears_ok (fun K hK => ?_)
  refine k_at (j := 0) (by decide) ?_
  refine hK _ ?_
  exact k_ireturn d4_hears_22 rfl rfl rfl rfl (Nat.le_of_ble_eq_true rfl) (Nat.le_of_ble_eq_true rfl)
theorem h4_hears_ex1 (hM : k_Met Y2_hears [.ref 0, .int x, .int y] (hA F A G B o) (.inr "java/lang/IllegalArgumentException", hA F A G B o, 1, 6)) : k_Met Y4_hears [.ref 0, .int x, .int y, .ref 44] (hA F A G B o) (.inl (some (.int (nI 1))), hA F A G B o, 1, 6) := by
  refine k_introH (by decide +kernel) rfl (by decide) rfl rfl ?_
  refine k_go 99 [] T4_hears_ok (fun K hK => ?_)
  refine hK _ ?_
  refine k_callVC (Y' := Y2_hears) (as := [.int x, .int y]) (st := [.int (nI 0), .ref 44]) [] ((0, 10, 13, 13), "java/lang/IllegalArgumentException") [(0, 10, 17, 51)] hM rfl c4_53 rfl rfl rfl d4_hears_5 (Nat.le_of_ble_eq_true rfl) (Nat.le_of_ble_eq_true rfl) rfl (by decide +kernel) (by decide +kernel) rfl rfl rfl rfl ?_
  refine k_go 99 [] T4_hears_ok (fun K hK => ?_)
  refine hK _ ?_
  exact k_ireturn d4_hears_16 rfl rfl rfl rfl (Nat.le_of_ble_eq_true rfl) (Nat.le_of_ble_eq_true rfl)
theorem h4_hears_ex2 (hM : k_Met Y2_hears [.ref 0, .int x, .int y] (hA F A G B o) (.inr "java/lang/ArrayIndexOutOfBoundsException", hA F A G B o, 1, 6)) : k_Met Y4_hears [.ref 0, .int x, .int y, .ref 44] (hA F A G B o) (.inl (some (.int (nI 2))), hA F A G B o, 1, 6) := by
  refine k_introH (by decide +kernel) rfl (by decide) rfl rfl ?_
  refine k_go 99 [] T4_hears_ok (fun K hK => ?_)
  refine hK _ ?_
  refine k_callVC (Y' := Y2_hears) (as := [.int x, .int y]) (st := [.int (nI 0), .ref 44]) [((0, 10, 13, 13), "java/lang/IllegalArgumentException")] ((0, 10, 17, 51), "java/lang/ArrayIndexOutOfBoundsException") [] hM rfl c4_53 rfl rfl rfl d4_hears_5 (Nat.le_of_ble_eq_true rfl) (Nat.le_of_ble_eq_true rfl) rfl (by decide +kernel) (by decide +kernel) rfl rfl rfl rfl ?_
  refine k_go 99 [] T4_hears_ok (fun K hK => ?_)
  refine hK _ ?_
  exact k_ireturn d4_hears_20 rfl rfl rfl rfl (Nat.le_of_ble_eq_true rfl) (Nat.le_of_ble_eq_true rfl)
theorem h4_on_ok (hM : k_Met Y2_on [.ref 0, .int x, .int y] (hA F A G B o) (.inl (some (.int r)), hA F1 A1 G B o, 0, 0)) : k_Met Y4_on [.ref 0, .int x, .int y, .ref 44] (hA F A G B o) (.inl (some (.int (nI 0))), hA F1 A1 G B (vp_updL o 0 r.toInt64), 0, 0) := by
  refine k_introH (by decide +kernel) rfl (by decide) rfl rfl ?_
  refine k_go 99 [] T4_on_ok (fun K hK => ?_)
  refine hK _ ?_
  refine k_callV (Y' := Y2_on) (as := [.int x, .int y]) (st := [.int (nI 0), .ref 44]) hM rfl c4_57 rfl rfl rfl d4_on_5 (Nat.le_of_ble_eq_true rfl) (Nat.le_of_ble_eq_true rfl) rfl rfl ?_
  refine k_go 99 [] T4_on_ok (fun K hK => ?_)
  refine k_at (j := 0) (by decide) ?_
  refine hK _ ?_
  exact k_ireturn d4_on_22 rfl rfl rfl rfl (Nat.le_of_ble_eq_true rfl) (Nat.le_of_ble_eq_true rfl)
theorem h4_on_ex1 (hM : k_Met Y2_on [.ref 0, .int x, .int y] (hA F A G B o) (.inr "java/lang/IllegalArgumentException", hA F A G B o, 1, 6)) : k_Met Y4_on [.ref 0, .int x, .int y, .ref 44] (hA F A G B o) (.inl (some (.int (nI 1))), hA F A G B o, 1, 6) := by
  refine k_introH (by decide +kernel) rfl (by decide) rfl rfl ?_
  refine k_go 99 [] T4_on_ok (fun K hK => ?_)
  refine hK _ ?_
  refine k_callVC (Y' := Y2_on) (as := [.int x, .int y]) (st := [.int (nI 0), .ref 44]) [] ((0, 10, 13, 13), "java/lang/IllegalArgumentException") [(0, 10, 17, 51)] hM rfl c4_57 rfl rfl rfl d4_on_5 (Nat.le_of_ble_eq_true rfl) (Nat.le_of_ble_eq_true rfl) rfl (by decide +kernel) (by decide +kernel) rfl rfl rfl rfl ?_
  refine k_go 99 [] T4_on_ok (fun K hK => ?_)
  refine hK _ ?_
  exact k_ireturn d4_on_16 rfl rfl rfl rfl (Nat.le_of_ble_eq_true rfl) (Nat.le_of_ble_eq_true rfl)
theorem h4_on_ex2 (hM : k_Met Y2_on [.ref 0, .int x, .int y] (hA F A G B o) (.inr "java/lang/ArrayIndexOutOfBoundsException", hA F A G B o, 1, 6)) : k_Met Y4_on [.ref 0, .int x, .int y, .ref 44] (hA F A G B o) (.inl (some (.int (nI 2))), hA F A G B o, 1, 6) := by
  refine k_introH (by decide +kernel) rfl (by decide) rfl rfl ?_
  refine k_go 99 [] T4_on_ok (fun K hK => ?_)
  refine hK _ ?_
  refine k_callVC (Y' := Y2_on) (as := [.int x, .int y]) (st := [.int (nI 0), .ref 44]) [((0, 10, 13, 13), "java/lang/IllegalArgumentException")] ((0, 10, 17, 51), "java/lang/ArrayIndexOutOfBoundsException") [] hM rfl c4_57 rfl rfl rfl d4_on_5 (Nat.le_of_ble_eq_true rfl) (Nat.le_of_ble_eq_true rfl) rfl (by decide +kernel) (by decide +kernel) rfl rfl rfl rfl ?_
  refine k_go 99 [] T4_on_ok (fun K hK => ?_)
  refine hK _ ?_
  exact k_ireturn d4_on_20 rfl rfl rfl rfl (Nat.le_of_ble_eq_true rfl) (Nat.le_of_ble_eq_true rfl)
theorem h4_ended_ok (hM : k_Met Y2_ended [.ref 0, .int x] (hA F A G B o) (.inl (some (.int r)), hA F1 A1 G B o, 0, 0)) : k_Met Y4_ended [.ref 0, .int x, .ref 44] (hA F A G B o) (.inl (some (.int (nI 0))), hA F1 A1 G B (vp_updL o 0 r.toInt64), 0, 0) := by
  refine k_introH (by decide +kernel) rfl (by decide) rfl rfl ?_
  refine k_go 99 [] T4_ended_ok (fun K hK => ?_)
  refine hK _ ?_
  refine k_callV (Y' := Y2_ended) (as := [.int x]) (st := [.int (nI 0), .ref 44]) hM rfl c4_60 rfl rfl rfl d4_ended_4 (Nat.le_of_ble_eq_true rfl) (Nat.le_of_ble_eq_true rfl) rfl rfl ?_
  refine k_go 99 [] T4_ended_ok (fun K hK => ?_)
  refine k_at (j := 0) (by decide) ?_
  refine hK _ ?_
  exact k_ireturn d4_ended_16 rfl rfl rfl rfl (Nat.le_of_ble_eq_true rfl) (Nat.le_of_ble_eq_true rfl)
theorem h4_ended_ex1 (hM : k_Met Y2_ended [.ref 0, .int x] (hA F A G B o) (.inr "java/lang/IllegalArgumentException", hA F A G B o, 1, 6)) : k_Met Y4_ended [.ref 0, .int x, .ref 44] (hA F A G B o) (.inl (some (.int (nI 1))), hA F A G B o, 1, 6) := by
  refine k_introH (by decide +kernel) rfl (by decide) rfl rfl ?_
  refine k_go 99 [] T4_ended_ok (fun K hK => ?_)
  refine hK _ ?_
  refine k_callVC (Y' := Y2_ended) (as := [.int x]) (st := [.int (nI 0), .ref 44]) [] ((0, 9, 12, 13), "java/lang/IllegalArgumentException") [] hM rfl c4_60 rfl rfl rfl d4_ended_4 (Nat.le_of_ble_eq_true rfl) (Nat.le_of_ble_eq_true rfl) rfl (by decide +kernel) (by decide +kernel) rfl rfl rfl rfl ?_
  refine k_go 99 [] T4_ended_ok (fun K hK => ?_)
  refine hK _ ?_
  exact k_ireturn d4_ended_14 rfl rfl rfl rfl (Nat.le_of_ble_eq_true rfl) (Nat.le_of_ble_eq_true rfl)
theorem h4_length_ok (hM : k_Met Y2_length [.ref 0, .int x] (hA F A G B o) (.inl (some (.int r)), hA F1 A1 G B o, 0, 0)) : k_Met Y4_length [.ref 0, .int x, .ref 44] (hA F A G B o) (.inl (some (.int (nI 0))), hA F1 A1 G B (vp_updL o 0 r.toInt64), 0, 0) := by
  refine k_introH (by decide +kernel) rfl (by decide) rfl rfl ?_
  refine k_go 99 [] T4_length_ok (fun K hK => ?_)
  refine hK _ ?_
  refine k_callV (Y' := Y2_length) (as := [.int x]) (st := [.int (nI 0), .ref 44]) hM rfl c4_64 rfl rfl rfl d4_length_4 (Nat.le_of_ble_eq_true rfl) (Nat.le_of_ble_eq_true rfl) rfl rfl ?_
  refine k_go 99 [] T4_length_ok (fun K hK => ?_)
  refine k_at (j := 0) (by decide) ?_
  refine hK _ ?_
  exact k_ireturn d4_length_16 rfl rfl rfl rfl (Nat.le_of_ble_eq_true rfl) (Nat.le_of_ble_eq_true rfl)
theorem h4_length_ex1 (hM : k_Met Y2_length [.ref 0, .int x] (hA F A G B o) (.inr "java/lang/IllegalArgumentException", hA F A G B o, 1, 6)) : k_Met Y4_length [.ref 0, .int x, .ref 44] (hA F A G B o) (.inl (some (.int (nI 1))), hA F A G B o, 1, 6) := by
  refine k_introH (by decide +kernel) rfl (by decide) rfl rfl ?_
  refine k_go 99 [] T4_length_ok (fun K hK => ?_)
  refine hK _ ?_
  refine k_callVC (Y' := Y2_length) (as := [.int x]) (st := [.int (nI 0), .ref 44]) [] ((0, 9, 12, 13), "java/lang/IllegalArgumentException") [] hM rfl c4_64 rfl rfl rfl d4_length_4 (Nat.le_of_ble_eq_true rfl) (Nat.le_of_ble_eq_true rfl) rfl (by decide +kernel) (by decide +kernel) rfl rfl rfl rfl ?_
  refine k_go 99 [] T4_length_ok (fun K hK => ?_)
  refine hK _ ?_
  exact k_ireturn d4_length_14 rfl rfl rfl rfl (Nat.le_of_ble_eq_true rfl) (Nat.le_of_ble_eq_true rfl)
theorem h4_unheard_ok (hM : k_Met Y2_unheard [.ref 0, .int x, .int y] (hA F A G B o) (.inl (some (.int r)), hA F1 A1 G B o, 0, 0)) : k_Met Y4_unheard [.ref 0, .int x, .int y, .ref 44] (hA F A G B o) (.inl (some (.int (nI 0))), hA F1 A1 G B (vp_updL o 0 r.toInt64), 0, 0) := by
  refine k_introH (by decide +kernel) rfl (by decide) rfl rfl ?_
  refine k_go 99 [] T4_unheard_ok (fun K hK => ?_)
  refine hK _ ?_
  refine k_callV (Y' := Y2_unheard) (as := [.int x, .int y]) (st := [.int (nI 0), .ref 44]) hM rfl c4_67 rfl rfl rfl d4_unheard_5 (Nat.le_of_ble_eq_true rfl) (Nat.le_of_ble_eq_true rfl) rfl rfl ?_
  refine k_go 99 [] T4_unheard_ok (fun K hK => ?_)
  refine k_at (j := 0) (by decide) ?_
  refine hK _ ?_
  exact k_ireturn d4_unheard_22 rfl rfl rfl rfl (Nat.le_of_ble_eq_true rfl) (Nat.le_of_ble_eq_true rfl)
theorem h4_unheard_ex1 (hM : k_Met Y2_unheard [.ref 0, .int x, .int y] (hA F A G B o) (.inr "java/lang/IllegalArgumentException", hA F A G B o, 1, 6)) : k_Met Y4_unheard [.ref 0, .int x, .int y, .ref 44] (hA F A G B o) (.inl (some (.int (nI 1))), hA F A G B o, 1, 6) := by
  refine k_introH (by decide +kernel) rfl (by decide) rfl rfl ?_
  refine k_go 99 [] T4_unheard_ok (fun K hK => ?_)
  refine hK _ ?_
  refine k_callVC (Y' := Y2_unheard) (as := [.int x, .int y]) (st := [.int (nI 0), .ref 44]) [] ((0, 10, 13, 13), "java/lang/IllegalArgumentException") [(0, 10, 17, 21)] hM rfl c4_67 rfl rfl rfl d4_unheard_5 (Nat.le_of_ble_eq_true rfl) (Nat.le_of_ble_eq_true rfl) rfl (by decide +kernel) (by decide +kernel) rfl rfl rfl rfl ?_
  refine k_go 99 [] T4_unheard_ok (fun K hK => ?_)
  refine hK _ ?_
  exact k_ireturn d4_unheard_16 rfl rfl rfl rfl (Nat.le_of_ble_eq_true rfl) (Nat.le_of_ble_eq_true rfl)
theorem h4_unheard_ex2 (hM : k_Met Y2_unheard [.ref 0, .int x, .int y] (hA F A G B o) (.inr "java/lang/IndexOutOfBoundsException", hA F A G B o, 1, 6)) : k_Met Y4_unheard [.ref 0, .int x, .int y, .ref 44] (hA F A G B o) (.inl (some (.int (nI 2))), hA F A G B o, 1, 6) := by
  refine k_introH (by decide +kernel) rfl (by decide) rfl rfl ?_
  refine k_go 99 [] T4_unheard_ok (fun K hK => ?_)
  refine hK _ ?_
  refine k_callVC (Y' := Y2_unheard) (as := [.int x, .int y]) (st := [.int (nI 0), .ref 44]) [((0, 10, 13, 13), "java/lang/IllegalArgumentException")] ((0, 10, 17, 21), "java/lang/IndexOutOfBoundsException") [] hM rfl c4_67 rfl rfl rfl d4_unheard_5 (Nat.le_of_ble_eq_true rfl) (Nat.le_of_ble_eq_true rfl) rfl (by decide +kernel) (by decide +kernel) rfl rfl rfl rfl ?_
  refine k_go 99 [] T4_unheard_ok (fun K hK => ?_)
  refine hK _ ?_
  exact k_ireturn d4_unheard_20 rfl rfl rfl rfl (Nat.le_of_ble_eq_true rfl) (Nat.le_of_ble_eq_true rfl)
theorem h4_used_ok (hM : k_Met Y2_used [.ref 0, .int x, .int y, .int z] (hA F A G B o) (.inl (some (.int r)), hA F1 A1 G B o, 0, 0)) : k_Met Y4_used [.ref 0, .int x, .int y, .int z, .ref 44] (hA F A G B o) (.inl (some (.int (nI 0))), hA F1 A1 G B (vp_updL o 0 r.toInt64), 0, 0) := by
  refine k_introH (by decide +kernel) rfl (by decide) rfl rfl ?_
  refine k_go 99 [] T4_used_ok (fun K hK => ?_)
  refine hK _ ?_
  refine k_callV (Y' := Y2_used) (as := [.int x, .int y, .int z]) (st := [.int (nI 0), .ref 44]) hM rfl c4_70 rfl rfl rfl d4_used_7 (Nat.le_of_ble_eq_true rfl) (Nat.le_of_ble_eq_true rfl) rfl rfl ?_
  refine k_go 99 [] T4_used_ok (fun K hK => ?_)
  refine k_at (j := 0) (by decide) ?_
  refine hK _ ?_
  exact k_ireturn d4_used_24 rfl rfl rfl rfl (Nat.le_of_ble_eq_true rfl) (Nat.le_of_ble_eq_true rfl)
theorem h4_used_ex1 (hM : k_Met Y2_used [.ref 0, .int x, .int y, .int z] (hA F A G B o) (.inr "java/lang/IllegalArgumentException", hA F A G B o, 1, 6)) : k_Met Y4_used [.ref 0, .int x, .int y, .int z, .ref 44] (hA F A G B o) (.inl (some (.int (nI 1))), hA F A G B o, 1, 6) := by
  refine k_introH (by decide +kernel) rfl (by decide) rfl rfl ?_
  refine k_go 99 [] T4_used_ok (fun K hK => ?_)
  refine hK _ ?_
  refine k_callVC (Y' := Y2_used) (as := [.int x, .int y, .int z]) (st := [.int (nI 0), .ref 44]) [] ((0, 12, 15, 13), "java/lang/IllegalArgumentException") [(0, 12, 19, 21)] hM rfl c4_70 rfl rfl rfl d4_used_7 (Nat.le_of_ble_eq_true rfl) (Nat.le_of_ble_eq_true rfl) rfl (by decide +kernel) (by decide +kernel) rfl rfl rfl rfl ?_
  refine k_go 99 [] T4_used_ok (fun K hK => ?_)
  refine hK _ ?_
  exact k_ireturn d4_used_18 rfl rfl rfl rfl (Nat.le_of_ble_eq_true rfl) (Nat.le_of_ble_eq_true rfl)
theorem h4_used_ex2 (hM : k_Met Y2_used [.ref 0, .int x, .int y, .int z] (hA F A G B o) (.inr "java/lang/IndexOutOfBoundsException", hA F A G B o, 1, 6)) : k_Met Y4_used [.ref 0, .int x, .int y, .int z, .ref 44] (hA F A G B o) (.inl (some (.int (nI 2))), hA F A G B o, 1, 6) := by
  refine k_introH (by decide +kernel) rfl (by decide) rfl rfl ?_
  refine k_go 99 [] T4_used_ok (fun K hK => ?_)
  refine hK _ ?_
  refine k_callVC (Y' := Y2_used) (as := [.int x, .int y, .int z]) (st := [.int (nI 0), .ref 44]) [((0, 12, 15, 13), "java/lang/IllegalArgumentException")] ((0, 12, 19, 21), "java/lang/IndexOutOfBoundsException") [] hM rfl c4_70 rfl rfl rfl d4_used_7 (Nat.le_of_ble_eq_true rfl) (Nat.le_of_ble_eq_true rfl) rfl (by decide +kernel) (by decide +kernel) rfl rfl rfl rfl ?_
  refine k_go 99 [] T4_used_ok (fun K hK => ?_)
  refine hK _ ?_
  exact k_ireturn d4_used_22 rfl rfl rfl rfl (Nat.le_of_ble_eq_true rfl) (Nat.le_of_ble_eq_true rfl)
end L4
