theorem cmp_self (x : Int64) : lg_cmp x x = 0 := by
  unfold lg_cmp
  simp [Int64.lt_irrefl]
theorem and15 (x : Int32) : ∃ j : Nat, j < 16 ∧ x &&& nI 15 = nI j := by
  refine ⟨(x.toBitVec &&& 15#32).toNat, ?_, ?_⟩
  · rw [BitVec.toNat_and]
    exact Nat.lt_of_le_of_lt Nat.and_le_right (by decide)
  · apply Int32.toBitVec_inj.mp
    rw [Int32.toBitVec_and]
    show x.toBitVec &&& (nI 15).toBitVec = (Int32.ofNat (x.toBitVec &&& 15#32).toNat).toBitVec
    rw [show (nI 15).toBitVec = 15#32 from by decide]
    apply BitVec.eq_of_toNat_eq
    simp
abbrev ls0 (i : Nat) : List (Nat × Value) := [(4, .int (nI i)), (3, .ref 44), (2, .ref 24), (1, .ref 0), (0, .ref 1000000)]
section LC
variable {F F1 : Nat → Int32} {A A1 : Nat → Nat → Int32} {G G1 : Nat → Int32} {B B1 : Nat → Nat → Int32} {o o1 : Nat → Int64} {L : Nat} {xs : Nat → Int32} {G9 : k_G} {i nc ns k mc ms : Nat} {r : Int32} {v : Bool}
theorem m3_thr : k_Met Y3_thrown [.ref 24] (hA F A G B o) (.inl (some (.int (G 0))), hA F A G B o, 0, 0) := by
  refine k_intro (by decide +kernel) rfl rfl rfl ?_
  refine k_go 99 [] T3_thrown_ok (fun K hK => ?_)
  refine hK _ ?_
  exact k_ireturn d3_thrown_4 rfl rfl rfl rfl (Nat.le_of_ble_eq_true rfl) (Nat.le_of_ble_eq_true rfl)
theorem m3_thk (h : G 0 = nI k) : k_Met Y3_thrown [.ref 24] (hA F A G B o) (.inl (some (.int (nI k))), hA F A G B o, 0, 0) := by
  have := m3_thr (F := F) (A := A) (G := G) (B := B) (o := o)
  rw [h] at this
  exact this
theorem lc_day (hi : i + 4 < L) (hL : L ≤ 2560)
    (hH : k_Met Y4_day [.ref 0, .int (xs (i + 1))] (hA F A G B o) (.inl (some (.int (nI k))), hA F1 A1 G B o1, mc, ms))
    (hM : k_Met Y3_day [.ref 24, .int (xs (i + 1))] (hA F1 A1 G B o1) (.inl none, hA F1 A1 G1 B1 o1, 0, 0))
    (hT : G1 0 = nI k) (hk : k < 10) (h1 : nc + mc ≤ G9.2.2.1) (h2 : ns + ms ≤ G9.2.2.2)
    (next : k_W Y4_law (some (L, xs)) G9 (1158, ls0 i, [], hA F1 A1 G1 B1 o1, nc + mc, ns + ms)) : k_W Y4_law (some (L, xs)) G9 (112, ls0 i, [], hA F A G B o, nc, ns) := by
  have ht := m3_thk (F := F1) (A := A1) (B := B1) (o := o1) hT
  refine k_go 99 [1158] T4_law2_ok (fun K hK => ?_)
  refine k_eq (z := nI (i + 1)) (nI_add i 1) ?_
  refine k_sa (j := i + 1) (by omega) (by omega) ?_
  refine hK _ ?_
  refine k_callSW (Y' := Y4_day) (as := [.ref 0, .int (xs (i + 1))]) (st := []) hH rfl c4_78 rfl rfl d4_law_119 h1 h2 rfl rfl ?_
  refine k_go 99 [1158] T4_law2_ok (fun K hK => ?_)
  refine k_eq (z := nI (i + 1)) (nI_add i 1) ?_
  refine k_sa (j := i + 1) (by omega) (by omega) ?_
  refine hK _ ?_
  refine k_callV (Y' := Y3_day) (as := [.int (xs (i + 1))]) (st := []) hM rfl c4_83 rfl rfl rfl d4_law_131 h1 h2 rfl rfl ?_
  refine k_go 99 [1158] T4_law2_ok (fun K hK => ?_)
  refine hK _ ?_
  refine k_callV (Y' := Y3_thrown) (as := []) (st := []) ht rfl c4_84 rfl rfl rfl d4_law_135 h1 h2 rfl rfl ?_
  refine k_go 99 [1158] T4_law2_ok (fun K hK => ?_)
  refine b_eq (a := k) (b := k) (by omega) (by omega) (fun _ => ?_) (fun q => absurd rfl q)
  refine hK _ ?_
  refine k_sub5 (i1 := 4) (i2 := 3) (i3 := 2) (i4 := 1) (i5 := 0) rfl rfl rfl rfl rfl ?_
  exact next
theorem lc_unit (hi : i + 4 < L) (hL : L ≤ 2560)
    (hH : k_Met Y4_unit [.ref 0, .int (xs (i + 1)), .int (xs (i + 2)), .int (xs (i + 3)), .int (xs (i + 4)), .ref 44] (hA F A G B o) (.inl (some (.int (nI k))), hA F1 A1 G B o1, mc, ms))
    (hM : k_Met Y3_unit [.ref 24, .int (xs (i + 1)), .int (xs (i + 2)), .int (xs (i + 3)), .int (xs (i + 4))] (hA F1 A1 G B o1) (.inl (some (.int r)), hA F1 A1 G1 B1 o1, 0, 0))
    (hT : G1 0 = nI k) (hk : k < 10) (ho : k = 0 → o1 0 = r.toInt64) (h1 : nc + mc ≤ G9.2.2.1) (h2 : ns + ms ≤ G9.2.2.2)
    (next : k_W Y4_law (some (L, xs)) G9 (1158, ls0 i, [], hA F1 A1 G1 B1 o1, nc + mc, ns + ms)) : k_W Y4_law (some (L, xs)) G9 (148, ls0 i, [], hA F A G B o, nc, ns) := by
  have ht := m3_thk (F := F1) (A := A1) (B := B1) (o := o1) hT
  refine k_go 99 [1158] T4_law3_ok (fun K hK => ?_)
  refine k_eq (z := nI (i + 1)) (nI_add i 1) ?_
  refine k_sa (j := i + 1) (by omega) (by omega) ?_
  refine k_eq (z := nI (i + 2)) (nI_add i 2) ?_
  refine k_sa (j := i + 2) (by omega) (by omega) ?_
  refine k_eq (z := nI (i + 3)) (nI_add i 3) ?_
  refine k_sa (j := i + 3) (by omega) (by omega) ?_
  refine k_eq (z := nI (i + 4)) (nI_add i 4) ?_
  refine k_sa (j := i + 4) (by omega) (by omega) ?_
  refine hK _ ?_
  refine k_callSW (Y' := Y4_unit) (as := [.ref 0, .int (xs (i + 1)), .int (xs (i + 2)), .int (xs (i + 3)), .int (xs (i + 4)), .ref 44]) (st := []) hH rfl c4_88 rfl rfl d4_law_174 h1 h2 rfl rfl ?_
  refine k_go 99 [1158] T4_law3_ok (fun K hK => ?_)
  refine k_eq (z := nI (i + 1)) (nI_add i 1) ?_
  refine k_sa (j := i + 1) (by omega) (by omega) ?_
  refine k_eq (z := nI (i + 2)) (nI_add i 2) ?_
  refine k_sa (j := i + 2) (by omega) (by omega) ?_
  refine k_eq (z := nI (i + 3)) (nI_add i 3) ?_
  refine k_sa (j := i + 3) (by omega) (by omega) ?_
  refine k_eq (z := nI (i + 4)) (nI_add i 4) ?_
  refine k_sa (j := i + 4) (by omega) (by omega) ?_
  refine hK _ ?_
  refine k_callV (Y' := Y3_unit) (as := [.int (xs (i + 1)), .int (xs (i + 2)), .int (xs (i + 3)), .int (xs (i + 4))]) (st := []) hM rfl c4_91 rfl rfl rfl d4_law_204 h1 h2 rfl rfl ?_
  refine k_go 99 [1158] T4_law3_ok (fun K hK => ?_)
  refine hK _ ?_
  refine k_callV (Y' := Y3_thrown) (as := []) (st := []) ht rfl c4_84 rfl rfl rfl d4_law_210 h1 h2 rfl rfl ?_
  refine k_go 99 [1158] T4_law3_ok (fun K hK => ?_)
  refine b_eq (a := k) (b := k) (by omega) (by omega) (fun _ => ?_) (fun q => absurd rfl q)
  refine z_ne (a := k) (by omega) (fun _ => ?_) (fun h0 => ?_)
  · refine hK _ ?_
    refine k_sub5 (i1 := 4) (i2 := 3) (i3 := 2) (i4 := 1) (i5 := 0) rfl rfl rfl rfl rfl ?_
    exact next
  · have ho := ho h0
    refine k_at (j := 0) (by decide) ?_
    refine And.intro (fun _ => ?_) (fun q => absurd (by rw [ho]; exact cmp_self _) q)
    refine hK _ ?_
    refine k_sub5 (i1 := 4) (i2 := 3) (i3 := 2) (i4 := 1) (i5 := 0) rfl rfl rfl rfl rfl ?_
    exact next
theorem lc_go (hi : i + 4 < L) (hL : L ≤ 2560)
    (hH : k_Met Y4_go [.ref 0, .int (xs (i + 1)), .int (xs (i + 2)), .int (xs (i + 3)), .int (xs (i + 4))] (hA F A G B o) (.inl (some (.int (nI k))), hA F1 A1 G B o1, mc, ms))
    (hM : k_Met Y3_go [.ref 24, .int (xs (i + 1)), .int (xs (i + 2)), .int (xs (i + 3)), .int (xs (i + 4))] (hA F1 A1 G B o1) (.inl none, hA F1 A1 G1 B1 o1, 0, 0))
    (hT : G1 0 = nI k) (hk : k < 10) (h1 : nc + mc ≤ G9.2.2.1) (h2 : ns + ms ≤ G9.2.2.2)
    (next : k_W Y4_law (some (L, xs)) G9 (1158, ls0 i, [], hA F1 A1 G1 B1 o1, nc + mc, ns + ms)) : k_W Y4_law (some (L, xs)) G9 (240, ls0 i, [], hA F A G B o, nc, ns) := by
  have ht := m3_thk (F := F1) (A := A1) (B := B1) (o := o1) hT
  refine k_go 99 [1158] T4_law4_ok (fun K hK => ?_)
  refine k_eq (z := nI (i + 1)) (nI_add i 1) ?_
  refine k_sa (j := i + 1) (by omega) (by omega) ?_
  refine k_eq (z := nI (i + 2)) (nI_add i 2) ?_
  refine k_sa (j := i + 2) (by omega) (by omega) ?_
  refine k_eq (z := nI (i + 3)) (nI_add i 3) ?_
  refine k_sa (j := i + 3) (by omega) (by omega) ?_
  refine k_eq (z := nI (i + 4)) (nI_add i 4) ?_
  refine k_sa (j := i + 4) (by omega) (by omega) ?_
  refine hK _ ?_
  refine k_callSW (Y' := Y4_go) (as := [.ref 0, .int (xs (i + 1)), .int (xs (i + 2)), .int (xs (i + 3)), .int (xs (i + 4))]) (st := []) hH rfl c4_92 rfl rfl d4_law_265 h1 h2 rfl rfl ?_
  refine k_go 99 [1158] T4_law4_ok (fun K hK => ?_)
  refine k_eq (z := nI (i + 1)) (nI_add i 1) ?_
  refine k_sa (j := i + 1) (by omega) (by omega) ?_
  refine k_eq (z := nI (i + 2)) (nI_add i 2) ?_
  refine k_sa (j := i + 2) (by omega) (by omega) ?_
  refine k_eq (z := nI (i + 3)) (nI_add i 3) ?_
  refine k_sa (j := i + 3) (by omega) (by omega) ?_
  refine k_eq (z := nI (i + 4)) (nI_add i 4) ?_
  refine k_sa (j := i + 4) (by omega) (by omega) ?_
  refine hK _ ?_
  refine k_callV (Y' := Y3_go) (as := [.int (xs (i + 1)), .int (xs (i + 2)), .int (xs (i + 3)), .int (xs (i + 4))]) (st := []) hM rfl c4_95 rfl rfl rfl d4_law_295 h1 h2 rfl rfl ?_
  refine k_go 99 [1158] T4_law4_ok (fun K hK => ?_)
  refine hK _ ?_
  refine k_callV (Y' := Y3_thrown) (as := []) (st := []) ht rfl c4_84 rfl rfl rfl d4_law_299 h1 h2 rfl rfl ?_
  refine k_go 99 [1158] T4_law4_ok (fun K hK => ?_)
  refine b_eq (a := k) (b := k) (by omega) (by omega) (fun _ => ?_) (fun q => absurd rfl q)
  refine hK _ ?_
  refine k_sub5 (i1 := 4) (i2 := 3) (i3 := 2) (i4 := 1) (i5 := 0) rfl rfl rfl rfl rfl ?_
  exact next
theorem lc_repeater (hi : i + 4 < L) (hL : L ≤ 2560)
    (hH : k_Met Y4_repeater [.ref 0, .int (xs (i + 1)), .int (xs (i + 2)), .int (xs (i + 3)), .int (xs (i + 4)), .ref 44] (hA F A G B o) (.inl (some (.int (nI k))), hA F1 A1 G B o1, mc, ms))
    (hM : k_Met Y3_repeater [.ref 24, .int (xs (i + 1)), .int (xs (i + 2)), .int (xs (i + 3)), .int (xs (i + 4))] (hA F1 A1 G B o1) (.inl (some (.int r)), hA F1 A1 G1 B1 o1, 0, 0))
    (hT : G1 0 = nI k) (hk : k < 10) (ho : k = 0 → o1 0 = r.toInt64) (h1 : nc + mc ≤ G9.2.2.1) (h2 : ns + ms ≤ G9.2.2.2)
    (next : k_W Y4_law (some (L, xs)) G9 (1158, ls0 i, [], hA F1 A1 G1 B1 o1, nc + mc, ns + ms)) : k_W Y4_law (some (L, xs)) G9 (312, ls0 i, [], hA F A G B o, nc, ns) := by
  have ht := m3_thk (F := F1) (A := A1) (B := B1) (o := o1) hT
  refine k_go 99 [1158] T4_law5_ok (fun K hK => ?_)
  refine k_eq (z := nI (i + 1)) (nI_add i 1) ?_
  refine k_sa (j := i + 1) (by omega) (by omega) ?_
  refine k_eq (z := nI (i + 2)) (nI_add i 2) ?_
  refine k_sa (j := i + 2) (by omega) (by omega) ?_
  refine k_eq (z := nI (i + 3)) (nI_add i 3) ?_
  refine k_sa (j := i + 3) (by omega) (by omega) ?_
  refine k_eq (z := nI (i + 4)) (nI_add i 4) ?_
  refine k_sa (j := i + 4) (by omega) (by omega) ?_
  refine hK _ ?_
  refine k_callSW (Y' := Y4_repeater) (as := [.ref 0, .int (xs (i + 1)), .int (xs (i + 2)), .int (xs (i + 3)), .int (xs (i + 4)), .ref 44]) (st := []) hH rfl c4_96 rfl rfl d4_law_338 h1 h2 rfl rfl ?_
  refine k_go 99 [1158] T4_law5_ok (fun K hK => ?_)
  refine k_eq (z := nI (i + 1)) (nI_add i 1) ?_
  refine k_sa (j := i + 1) (by omega) (by omega) ?_
  refine k_eq (z := nI (i + 2)) (nI_add i 2) ?_
  refine k_sa (j := i + 2) (by omega) (by omega) ?_
  refine k_eq (z := nI (i + 3)) (nI_add i 3) ?_
  refine k_sa (j := i + 3) (by omega) (by omega) ?_
  refine k_eq (z := nI (i + 4)) (nI_add i 4) ?_
  refine k_sa (j := i + 4) (by omega) (by omega) ?_
  refine hK _ ?_
  refine k_callV (Y' := Y3_repeater) (as := [.int (xs (i + 1)), .int (xs (i + 2)), .int (xs (i + 3)), .int (xs (i + 4))]) (st := []) hM rfl c4_98 rfl rfl rfl d4_law_368 h1 h2 rfl rfl ?_
  refine k_go 99 [1158] T4_law5_ok (fun K hK => ?_)
  refine hK _ ?_
  refine k_callV (Y' := Y3_thrown) (as := []) (st := []) ht rfl c4_84 rfl rfl rfl d4_law_374 h1 h2 rfl rfl ?_
  refine k_go 99 [1158] T4_law5_ok (fun K hK => ?_)
  refine b_eq (a := k) (b := k) (by omega) (by omega) (fun _ => ?_) (fun q => absurd rfl q)
  refine z_ne (a := k) (by omega) (fun _ => ?_) (fun h0 => ?_)
  · refine hK _ ?_
    refine k_sub5 (i1 := 4) (i2 := 3) (i3 := 2) (i4 := 1) (i5 := 0) rfl rfl rfl rfl rfl ?_
    exact next
  · have ho := ho h0
    refine k_at (j := 0) (by decide) ?_
    refine And.intro (fun _ => ?_) (fun q => absurd (by rw [ho]; exact cmp_self _) q)
    refine hK _ ?_
    refine k_sub5 (i1 := 4) (i2 := 3) (i3 := 2) (i4 := 1) (i5 := 0) rfl rfl rfl rfl rfl ?_
    exact next
theorem lc_patch (hi : i + 4 < L) (hL : L ≤ 2560)
    (hH : k_Met Y4_patch [.ref 0, .int (xs (i + 1)), .int (xs (i + 2)), .ref 44] (hA F A G B o) (.inl (some (.int (nI k))), hA F1 A1 G B o1, mc, ms))
    (hM : k_Met Y3_patch [.ref 24, .int (xs (i + 1)), .int (xs (i + 2))] (hA F1 A1 G B o1) (.inl (some (.int (bB v))), hA F1 A1 G1 B1 o1, 0, 0))
    (hT : G1 0 = nI k) (hk : k < 10) (ho : k = 0 → o1 0 = lN (cond v 1 0)) (h1 : nc + mc ≤ G9.2.2.1) (h2 : ns + ms ≤ G9.2.2.2)
    (next : k_W Y4_law (some (L, xs)) G9 (1158, ls0 i, [], hA F1 A1 G1 B1 o1, nc + mc, ns + ms)) : k_W Y4_law (some (L, xs)) G9 (404, ls0 i, [], hA F A G B o, nc, ns) := by
  have ht := m3_thk (F := F1) (A := A1) (B := B1) (o := o1) hT
  refine k_go 99 [1158] T4_law6_ok (fun K hK => ?_)
  refine k_eq (z := nI (i + 1)) (nI_add i 1) ?_
  refine k_sa (j := i + 1) (by omega) (by omega) ?_
  refine k_eq (z := nI (i + 2)) (nI_add i 2) ?_
  refine k_sa (j := i + 2) (by omega) (by omega) ?_
  refine hK _ ?_
  refine k_callSW (Y' := Y4_patch) (as := [.ref 0, .int (xs (i + 1)), .int (xs (i + 2)), .ref 44]) (st := []) hH rfl c4_99 rfl rfl d4_law_418 h1 h2 rfl rfl ?_
  refine k_go 99 [1158] T4_law6_ok (fun K hK => ?_)
  refine k_eq (z := nI (i + 1)) (nI_add i 1) ?_
  refine k_sa (j := i + 1) (by omega) (by omega) ?_
  refine k_eq (z := nI (i + 2)) (nI_add i 2) ?_
  refine k_sa (j := i + 2) (by omega) (by omega) ?_
  refine hK _ ?_
  refine k_callV (Y' := Y3_patch) (as := [.int (xs (i + 1)), .int (xs (i + 2))]) (st := []) hM rfl c4_102 rfl rfl rfl d4_law_436 h1 h2 rfl rfl ?_
  refine k_go 99 [1158] T4_law6_ok (fun K hK => ?_)
  refine hK _ ?_
  refine k_callV (Y' := Y3_thrown) (as := []) (st := []) ht rfl c4_84 rfl rfl rfl d4_law_442 h1 h2 rfl rfl ?_
  refine k_go 99 [1158] T4_law6_ok (fun K hK => ?_)
  refine b_eq (a := k) (b := k) (by omega) (by omega) (fun _ => ?_) (fun q => absurd rfl q)
  refine z_ne (a := k) (by omega) (fun _ => ?_) (fun h0 => ?_)
  · refine hK _ ?_
    refine k_sub5 (i1 := 4) (i2 := 3) (i3 := 2) (i4 := 1) (i5 := 0) rfl rfl rfl rfl rfl ?_
    exact next
  · have ho := ho h0
    refine k_at (j := 0) (by decide) ?_
    refine q_eq (fun hv => ?_) (fun hv => ?_)
    · rw [hv] at ho
      refine And.intro (fun _ => ?_) (fun q => absurd (by rw [ho]; exact cmp_self _) q)
      refine hK _ ?_
      refine k_sub5 (i1 := 4) (i2 := 3) (i3 := 2) (i4 := 1) (i5 := 0) rfl rfl rfl rfl rfl ?_
      exact next
    · rw [hv] at ho
      refine And.intro (fun _ => ?_) (fun q => absurd (by rw [ho]; exact cmp_self _) q)
      refine hK _ ?_
      refine k_sub5 (i1 := 4) (i2 := 3) (i3 := 2) (i4 := 1) (i5 := 0) rfl rfl rfl rfl rfl ?_
      exact next
theorem lc_limit (hi : i + 4 < L) (hL : L ≤ 2560)
    (hH : k_Met Y4_limit [.ref 0, .int (xs (i + 1))] (hA F A G B o) (.inl (some (.int (nI k))), hA F1 A1 G B o1, mc, ms))
    (hM : k_Met Y3_limit [.ref 24, .int (xs (i + 1))] (hA F1 A1 G B o1) (.inl none, hA F1 A1 G1 B1 o1, 0, 0))
    (hT : G1 0 = nI k) (hk : k < 10) (h1 : nc + mc ≤ G9.2.2.1) (h2 : ns + ms ≤ G9.2.2.2)
    (next : k_W Y4_law (some (L, xs)) G9 (1158, ls0 i, [], hA F1 A1 G1 B1 o1, nc + mc, ns + ms)) : k_W Y4_law (some (L, xs)) G9 (479, ls0 i, [], hA F A G B o, nc, ns) := by
  have ht := m3_thk (F := F1) (A := A1) (B := B1) (o := o1) hT
  refine k_go 99 [1158] T4_law7_ok (fun K hK => ?_)
  refine k_eq (z := nI (i + 1)) (nI_add i 1) ?_
  refine k_sa (j := i + 1) (by omega) (by omega) ?_
  refine hK _ ?_
  refine k_callSW (Y' := Y4_limit) (as := [.ref 0, .int (xs (i + 1))]) (st := []) hH rfl c4_103 rfl rfl d4_law_486 h1 h2 rfl rfl ?_
  refine k_go 99 [1158] T4_law7_ok (fun K hK => ?_)
  refine k_eq (z := nI (i + 1)) (nI_add i 1) ?_
  refine k_sa (j := i + 1) (by omega) (by omega) ?_
  refine hK _ ?_
  refine k_callV (Y' := Y3_limit) (as := [.int (xs (i + 1))]) (st := []) hM rfl c4_105 rfl rfl rfl d4_law_498 h1 h2 rfl rfl ?_
  refine k_go 99 [1158] T4_law7_ok (fun K hK => ?_)
  refine hK _ ?_
  refine k_callV (Y' := Y3_thrown) (as := []) (st := []) ht rfl c4_84 rfl rfl rfl d4_law_502 h1 h2 rfl rfl ?_
  refine k_go 99 [1158] T4_law7_ok (fun K hK => ?_)
  refine b_eq (a := k) (b := k) (by omega) (by omega) (fun _ => ?_) (fun q => absurd rfl q)
  refine hK _ ?_
  refine k_sub5 (i1 := 4) (i2 := 3) (i3 := 2) (i4 := 1) (i5 := 0) rfl rfl rfl rfl rfl ?_
  exact next
theorem lc_speak (hi : i + 4 < L) (hL : L ≤ 2560)
    (hH : k_Met Y4_speak [.ref 0, .int (xs (i + 1)), .int (xs (i + 2)), .int (xs (i + 3)), .int (xs (i + 4)), .ref 44] (hA F A G B o) (.inl (some (.int (nI k))), hA F1 A1 G B o1, mc, ms))
    (hM : k_Met Y3_speak [.ref 24, .int (xs (i + 1)), .int (xs (i + 2)), .int (xs (i + 3)), .int (xs (i + 4))] (hA F1 A1 G B o1) (.inl (some (.int r)), hA F1 A1 G1 B1 o1, 0, 0))
    (hT : G1 0 = nI k) (hk : k < 10) (ho : k = 0 → o1 0 = r.toInt64) (h1 : nc + mc ≤ G9.2.2.1) (h2 : ns + ms ≤ G9.2.2.2)
    (next : k_W Y4_law (some (L, xs)) G9 (1158, ls0 i, [], hA F1 A1 G1 B1 o1, nc + mc, ns + ms)) : k_W Y4_law (some (L, xs)) G9 (515, ls0 i, [], hA F A G B o, nc, ns) := by
  have ht := m3_thk (F := F1) (A := A1) (B := B1) (o := o1) hT
  refine k_go 99 [1158] T4_law8_ok (fun K hK => ?_)
  refine k_eq (z := nI (i + 1)) (nI_add i 1) ?_
  refine k_sa (j := i + 1) (by omega) (by omega) ?_
  refine k_eq (z := nI (i + 2)) (nI_add i 2) ?_
  refine k_sa (j := i + 2) (by omega) (by omega) ?_
  refine k_eq (z := nI (i + 3)) (nI_add i 3) ?_
  refine k_sa (j := i + 3) (by omega) (by omega) ?_
  refine k_eq (z := nI (i + 4)) (nI_add i 4) ?_
  refine k_sa (j := i + 4) (by omega) (by omega) ?_
  refine hK _ ?_
  refine k_callSW (Y' := Y4_speak) (as := [.ref 0, .int (xs (i + 1)), .int (xs (i + 2)), .int (xs (i + 3)), .int (xs (i + 4)), .ref 44]) (st := []) hH rfl c4_106 rfl rfl d4_law_541 h1 h2 rfl rfl ?_
  refine k_go 99 [1158] T4_law8_ok (fun K hK => ?_)
  refine k_eq (z := nI (i + 1)) (nI_add i 1) ?_
  refine k_sa (j := i + 1) (by omega) (by omega) ?_
  refine k_eq (z := nI (i + 2)) (nI_add i 2) ?_
  refine k_sa (j := i + 2) (by omega) (by omega) ?_
  refine k_eq (z := nI (i + 3)) (nI_add i 3) ?_
  refine k_sa (j := i + 3) (by omega) (by omega) ?_
  refine k_eq (z := nI (i + 4)) (nI_add i 4) ?_
  refine k_sa (j := i + 4) (by omega) (by omega) ?_
  refine hK _ ?_
  refine k_callV (Y' := Y3_speak) (as := [.int (xs (i + 1)), .int (xs (i + 2)), .int (xs (i + 3)), .int (xs (i + 4))]) (st := []) hM rfl c4_108 rfl rfl rfl d4_law_571 h1 h2 rfl rfl ?_
  refine k_go 99 [1158] T4_law8_ok (fun K hK => ?_)
  refine hK _ ?_
  refine k_callV (Y' := Y3_thrown) (as := []) (st := []) ht rfl c4_84 rfl rfl rfl d4_law_577 h1 h2 rfl rfl ?_
  refine k_go 99 [1158] T4_law8_ok (fun K hK => ?_)
  refine b_eq (a := k) (b := k) (by omega) (by omega) (fun _ => ?_) (fun q => absurd rfl q)
  refine z_ne (a := k) (by omega) (fun _ => ?_) (fun h0 => ?_)
  · refine hK _ ?_
    refine k_sub5 (i1 := 4) (i2 := 3) (i3 := 2) (i4 := 1) (i5 := 0) rfl rfl rfl rfl rfl ?_
    exact next
  · have ho := ho h0
    refine k_at (j := 0) (by decide) ?_
    refine And.intro (fun _ => ?_) (fun q => absurd (by rw [ho]; exact cmp_self _) q)
    refine hK _ ?_
    refine k_sub5 (i1 := 4) (i2 := 3) (i3 := 2) (i4 := 1) (i5 := 0) rfl rfl rfl rfl rfl ?_
    exact next
theorem lc_relay (hi : i + 4 < L) (hL : L ≤ 2560)
    (hH : k_Met Y4_relay [.ref 0, .int (xs (i + 1)), .int (xs (i + 2)), .int (xs (i + 3)), .int (xs (i + 4)), .ref 44] (hA F A G B o) (.inl (some (.int (nI k))), hA F1 A1 G B o1, mc, ms))
    (hM : k_Met Y3_relay [.ref 24, .int (xs (i + 1)), .int (xs (i + 2)), .int (xs (i + 3)), .int (xs (i + 4))] (hA F1 A1 G B o1) (.inl (some (.int r)), hA F1 A1 G1 B1 o1, 0, 0))
    (hT : G1 0 = nI k) (hk : k < 10) (ho : k = 0 → o1 0 = r.toInt64) (h1 : nc + mc ≤ G9.2.2.1) (h2 : ns + ms ≤ G9.2.2.2)
    (next : k_W Y4_law (some (L, xs)) G9 (1158, ls0 i, [], hA F1 A1 G1 B1 o1, nc + mc, ns + ms)) : k_W Y4_law (some (L, xs)) G9 (607, ls0 i, [], hA F A G B o, nc, ns) := by
  have ht := m3_thk (F := F1) (A := A1) (B := B1) (o := o1) hT
  refine k_go 99 [1158] T4_law9_ok (fun K hK => ?_)
  refine k_eq (z := nI (i + 1)) (nI_add i 1) ?_
  refine k_sa (j := i + 1) (by omega) (by omega) ?_
  refine k_eq (z := nI (i + 2)) (nI_add i 2) ?_
  refine k_sa (j := i + 2) (by omega) (by omega) ?_
  refine k_eq (z := nI (i + 3)) (nI_add i 3) ?_
  refine k_sa (j := i + 3) (by omega) (by omega) ?_
  refine k_eq (z := nI (i + 4)) (nI_add i 4) ?_
  refine k_sa (j := i + 4) (by omega) (by omega) ?_
  refine hK _ ?_
  refine k_callSW (Y' := Y4_relay) (as := [.ref 0, .int (xs (i + 1)), .int (xs (i + 2)), .int (xs (i + 3)), .int (xs (i + 4)), .ref 44]) (st := []) hH rfl c4_109 rfl rfl d4_law_633 h1 h2 rfl rfl ?_
  refine k_go 99 [1158] T4_law9_ok (fun K hK => ?_)
  refine k_eq (z := nI (i + 1)) (nI_add i 1) ?_
  refine k_sa (j := i + 1) (by omega) (by omega) ?_
  refine k_eq (z := nI (i + 2)) (nI_add i 2) ?_
  refine k_sa (j := i + 2) (by omega) (by omega) ?_
  refine k_eq (z := nI (i + 3)) (nI_add i 3) ?_
  refine k_sa (j := i + 3) (by omega) (by omega) ?_
  refine k_eq (z := nI (i + 4)) (nI_add i 4) ?_
  refine k_sa (j := i + 4) (by omega) (by omega) ?_
  refine hK _ ?_
  refine k_callV (Y' := Y3_relay) (as := [.int (xs (i + 1)), .int (xs (i + 2)), .int (xs (i + 3)), .int (xs (i + 4))]) (st := []) hM rfl c4_111 rfl rfl rfl d4_law_663 h1 h2 rfl rfl ?_
  refine k_go 99 [1158] T4_law9_ok (fun K hK => ?_)
  refine hK _ ?_
  refine k_callV (Y' := Y3_thrown) (as := []) (st := []) ht rfl c4_84 rfl rfl rfl d4_law_669 h1 h2 rfl rfl ?_
  refine k_go 99 [1158] T4_law9_ok (fun K hK => ?_)
  refine b_eq (a := k) (b := k) (by omega) (by omega) (fun _ => ?_) (fun q => absurd rfl q)
  refine z_ne (a := k) (by omega) (fun _ => ?_) (fun h0 => ?_)
  · refine hK _ ?_
    refine k_sub5 (i1 := 4) (i2 := 3) (i3 := 2) (i4 := 1) (i5 := 0) rfl rfl rfl rfl rfl ?_
    exact next
  · have ho := ho h0
    refine k_at (j := 0) (by decide) ?_
    refine And.intro (fun _ => ?_) (fun q => absurd (by rw [ho]; exact cmp_self _) q)
    refine hK _ ?_
    refine k_sub5 (i1 := 4) (i2 := 3) (i3 := 2) (i4 := 1) (i5 := 0) rfl rfl rfl rfl rfl ?_
    exact next
theorem lc_lose (hi : i + 4 < L) (hL : L ≤ 2560)
    (hH : k_Met Y4_lose [.ref 0, .int (xs (i + 1)), .ref 44] (hA F A G B o) (.inl (some (.int (nI k))), hA F1 A1 G B o1, mc, ms))
    (hM : k_Met Y3_lose [.ref 24, .int (xs (i + 1))] (hA F1 A1 G B o1) (.inl (some (.int (bB v))), hA F1 A1 G1 B1 o1, 0, 0))
    (hT : G1 0 = nI k) (hk : k < 10) (ho : k = 0 → o1 0 = lN (cond v 1 0)) (h1 : nc + mc ≤ G9.2.2.1) (h2 : ns + ms ≤ G9.2.2.2)
    (next : k_W Y4_law (some (L, xs)) G9 (1158, ls0 i, [], hA F1 A1 G1 B1 o1, nc + mc, ns + ms)) : k_W Y4_law (some (L, xs)) G9 (699, ls0 i, [], hA F A G B o, nc, ns) := by
  have ht := m3_thk (F := F1) (A := A1) (B := B1) (o := o1) hT
  refine k_go 99 [1158] T4_law10_ok (fun K hK => ?_)
  refine k_eq (z := nI (i + 1)) (nI_add i 1) ?_
  refine k_sa (j := i + 1) (by omega) (by omega) ?_
  refine hK _ ?_
  refine k_callSW (Y' := Y4_lose) (as := [.ref 0, .int (xs (i + 1)), .ref 44]) (st := []) hH rfl c4_112 rfl rfl d4_law_707 h1 h2 rfl rfl ?_
  refine k_go 99 [1158] T4_law10_ok (fun K hK => ?_)
  refine k_eq (z := nI (i + 1)) (nI_add i 1) ?_
  refine k_sa (j := i + 1) (by omega) (by omega) ?_
  refine hK _ ?_
  refine k_callV (Y' := Y3_lose) (as := [.int (xs (i + 1))]) (st := []) hM rfl c4_115 rfl rfl rfl d4_law_719 h1 h2 rfl rfl ?_
  refine k_go 99 [1158] T4_law10_ok (fun K hK => ?_)
  refine hK _ ?_
  refine k_callV (Y' := Y3_thrown) (as := []) (st := []) ht rfl c4_84 rfl rfl rfl d4_law_725 h1 h2 rfl rfl ?_
  refine k_go 99 [1158] T4_law10_ok (fun K hK => ?_)
  refine b_eq (a := k) (b := k) (by omega) (by omega) (fun _ => ?_) (fun q => absurd rfl q)
  refine z_ne (a := k) (by omega) (fun _ => ?_) (fun h0 => ?_)
  · refine hK _ ?_
    refine k_sub5 (i1 := 4) (i2 := 3) (i3 := 2) (i4 := 1) (i5 := 0) rfl rfl rfl rfl rfl ?_
    exact next
  · have ho := ho h0
    refine k_at (j := 0) (by decide) ?_
    refine q_eq (fun hv => ?_) (fun hv => ?_)
    · rw [hv] at ho
      refine And.intro (fun _ => ?_) (fun q => absurd (by rw [ho]; exact cmp_self _) q)
      refine hK _ ?_
      refine k_sub5 (i1 := 4) (i2 := 3) (i3 := 2) (i4 := 1) (i5 := 0) rfl rfl rfl rfl rfl ?_
      exact next
    · rw [hv] at ho
      refine And.intro (fun _ => ?_) (fun q => absurd (by rw [ho]; exact cmp_self _) q)
      refine hK _ ?_
      refine k_sub5 (i1 := 4) (i2 := 3) (i3 := 2) (i4 := 1) (i5 := 0) rfl rfl rfl rfl rfl ?_
      exact next
theorem lc_hears (hi : i + 4 < L) (hL : L ≤ 2560)
    (hH : k_Met Y4_hears [.ref 0, .int (xs (i + 1)), .int (xs (i + 2)), .ref 44] (hA F A G B o) (.inl (some (.int (nI k))), hA F1 A1 G B o1, mc, ms))
    (hM : k_Met Y3_hears [.ref 24, .int (xs (i + 1)), .int (xs (i + 2))] (hA F1 A1 G B o1) (.inl (some (.int r)), hA F1 A1 G1 B1 o1, 0, 0))
    (hT : G1 0 = nI k) (hk : k < 10) (ho : k = 0 → o1 0 = r.toInt64) (h1 : nc + mc ≤ G9.2.2.1) (h2 : ns + ms ≤ G9.2.2.2)
    (next : k_W Y4_law (some (L, xs)) G9 (1158, ls0 i, [], hA F1 A1 G1 B1 o1, nc + mc, ns + ms)) : k_W Y4_law (some (L, xs)) G9 (762, ls0 i, [], hA F A G B o, nc, ns) := by
  have ht := m3_thk (F := F1) (A := A1) (B := B1) (o := o1) hT
  refine k_go 99 [1158] T4_law11_ok (fun K hK => ?_)
  refine k_eq (z := nI (i + 1)) (nI_add i 1) ?_
  refine k_sa (j := i + 1) (by omega) (by omega) ?_
  refine k_eq (z := nI (i + 2)) (nI_add i 2) ?_
  refine k_sa (j := i + 2) (by omega) (by omega) ?_
  refine hK _ ?_
  refine k_callSW (Y' := Y4_hears) (as := [.ref 0, .int (xs (i + 1)), .int (xs (i + 2)), .ref 44]) (st := []) hH rfl c4_116 rfl rfl d4_law_776 h1 h2 rfl rfl ?_
  refine k_go 99 [1158] T4_law11_ok (fun K hK => ?_)
  refine k_eq (z := nI (i + 1)) (nI_add i 1) ?_
  refine k_sa (j := i + 1) (by omega) (by omega) ?_
  refine k_eq (z := nI (i + 2)) (nI_add i 2) ?_
  refine k_sa (j := i + 2) (by omega) (by omega) ?_
  refine hK _ ?_
  refine k_callV (Y' := Y3_hears) (as := [.int (xs (i + 1)), .int (xs (i + 2))]) (st := []) hM rfl c4_118 rfl rfl rfl d4_law_794 h1 h2 rfl rfl ?_
  refine k_go 99 [1158] T4_law11_ok (fun K hK => ?_)
  refine hK _ ?_
  refine k_callV (Y' := Y3_thrown) (as := []) (st := []) ht rfl c4_84 rfl rfl rfl d4_law_800 h1 h2 rfl rfl ?_
  refine k_go 99 [1158] T4_law11_ok (fun K hK => ?_)
  refine b_eq (a := k) (b := k) (by omega) (by omega) (fun _ => ?_) (fun q => absurd rfl q)
  refine z_ne (a := k) (by omega) (fun _ => ?_) (fun h0 => ?_)
  · refine hK _ ?_
    refine k_sub5 (i1 := 4) (i2 := 3) (i3 := 2) (i4 := 1) (i5 := 0) rfl rfl rfl rfl rfl ?_
    exact next
  · have ho := ho h0
    refine k_at (j := 0) (by decide) ?_
    refine And.intro (fun _ => ?_) (fun q => absurd (by rw [ho]; exact cmp_self _) q)
    refine hK _ ?_
    refine k_sub5 (i1 := 4) (i2 := 3) (i3 := 2) (i4 := 1) (i5 := 0) rfl rfl rfl rfl rfl ?_
    exact next
theorem lc_on (hi : i + 4 < L) (hL : L ≤ 2560)
    (hH : k_Met Y4_on [.ref 0, .int (xs (i + 1)), .int (xs (i + 2)), .ref 44] (hA F A G B o) (.inl (some (.int (nI k))), hA F1 A1 G B o1, mc, ms))
    (hM : k_Met Y3_on [.ref 24, .int (xs (i + 1)), .int (xs (i + 2))] (hA F1 A1 G B o1) (.inl (some (.int r)), hA F1 A1 G1 B1 o1, 0, 0))
    (hT : G1 0 = nI k) (hk : k < 10) (ho : k = 0 → o1 0 = r.toInt64) (h1 : nc + mc ≤ G9.2.2.1) (h2 : ns + ms ≤ G9.2.2.2)
    (next : k_W Y4_law (some (L, xs)) G9 (1158, ls0 i, [], hA F1 A1 G1 B1 o1, nc + mc, ns + ms)) : k_W Y4_law (some (L, xs)) G9 (830, ls0 i, [], hA F A G B o, nc, ns) := by
  have ht := m3_thk (F := F1) (A := A1) (B := B1) (o := o1) hT
  refine k_go 99 [1158] T4_law12_ok (fun K hK => ?_)
  refine k_eq (z := nI (i + 1)) (nI_add i 1) ?_
  refine k_sa (j := i + 1) (by omega) (by omega) ?_
  refine k_eq (z := nI (i + 2)) (nI_add i 2) ?_
  refine k_sa (j := i + 2) (by omega) (by omega) ?_
  refine hK _ ?_
  refine k_callSW (Y' := Y4_on) (as := [.ref 0, .int (xs (i + 1)), .int (xs (i + 2)), .ref 44]) (st := []) hH rfl c4_119 rfl rfl d4_law_844 h1 h2 rfl rfl ?_
  refine k_go 99 [1158] T4_law12_ok (fun K hK => ?_)
  refine k_eq (z := nI (i + 1)) (nI_add i 1) ?_
  refine k_sa (j := i + 1) (by omega) (by omega) ?_
  refine k_eq (z := nI (i + 2)) (nI_add i 2) ?_
  refine k_sa (j := i + 2) (by omega) (by omega) ?_
  refine hK _ ?_
  refine k_callV (Y' := Y3_on) (as := [.int (xs (i + 1)), .int (xs (i + 2))]) (st := []) hM rfl c4_121 rfl rfl rfl d4_law_862 h1 h2 rfl rfl ?_
  refine k_go 99 [1158] T4_law12_ok (fun K hK => ?_)
  refine hK _ ?_
  refine k_callV (Y' := Y3_thrown) (as := []) (st := []) ht rfl c4_84 rfl rfl rfl d4_law_868 h1 h2 rfl rfl ?_
  refine k_go 99 [1158] T4_law12_ok (fun K hK => ?_)
  refine b_eq (a := k) (b := k) (by omega) (by omega) (fun _ => ?_) (fun q => absurd rfl q)
  refine z_ne (a := k) (by omega) (fun _ => ?_) (fun h0 => ?_)
  · refine hK _ ?_
    refine k_sub5 (i1 := 4) (i2 := 3) (i3 := 2) (i4 := 1) (i5 := 0) rfl rfl rfl rfl rfl ?_
    exact next
  · have ho := ho h0
    refine k_at (j := 0) (by decide) ?_
    refine And.intro (fun _ => ?_) (fun q => absurd (by rw [ho]; exact cmp_self _) q)
    refine hK _ ?_
    refine k_sub5 (i1 := 4) (i2 := 3) (i3 := 2) (i4 := 1) (i5 := 0) rfl rfl rfl rfl rfl ?_
    exact next
theorem lc_ended (hi : i + 4 < L) (hL : L ≤ 2560)
    (hH : k_Met Y4_ended [.ref 0, .int (xs (i + 1)), .ref 44] (hA F A G B o) (.inl (some (.int (nI k))), hA F1 A1 G B o1, mc, ms))
    (hM : k_Met Y3_ended [.ref 24, .int (xs (i + 1))] (hA F1 A1 G B o1) (.inl (some (.int r)), hA F1 A1 G1 B1 o1, 0, 0))
    (hT : G1 0 = nI k) (hk : k < 10) (ho : k = 0 → o1 0 = r.toInt64) (h1 : nc + mc ≤ G9.2.2.1) (h2 : ns + ms ≤ G9.2.2.2)
    (next : k_W Y4_law (some (L, xs)) G9 (1158, ls0 i, [], hA F1 A1 G1 B1 o1, nc + mc, ns + ms)) : k_W Y4_law (some (L, xs)) G9 (898, ls0 i, [], hA F A G B o, nc, ns) := by
  have ht := m3_thk (F := F1) (A := A1) (B := B1) (o := o1) hT
  refine k_go 99 [1158] T4_law13_ok (fun K hK => ?_)
  refine k_eq (z := nI (i + 1)) (nI_add i 1) ?_
  refine k_sa (j := i + 1) (by omega) (by omega) ?_
  refine hK _ ?_
  refine k_callSW (Y' := Y4_ended) (as := [.ref 0, .int (xs (i + 1)), .ref 44]) (st := []) hH rfl c4_122 rfl rfl d4_law_906 h1 h2 rfl rfl ?_
  refine k_go 99 [1158] T4_law13_ok (fun K hK => ?_)
  refine k_eq (z := nI (i + 1)) (nI_add i 1) ?_
  refine k_sa (j := i + 1) (by omega) (by omega) ?_
  refine hK _ ?_
  refine k_callV (Y' := Y3_ended) (as := [.int (xs (i + 1))]) (st := []) hM rfl c4_124 rfl rfl rfl d4_law_918 h1 h2 rfl rfl ?_
  refine k_go 99 [1158] T4_law13_ok (fun K hK => ?_)
  refine hK _ ?_
  refine k_callV (Y' := Y3_thrown) (as := []) (st := []) ht rfl c4_84 rfl rfl rfl d4_law_924 h1 h2 rfl rfl ?_
  refine k_go 99 [1158] T4_law13_ok (fun K hK => ?_)
  refine b_eq (a := k) (b := k) (by omega) (by omega) (fun _ => ?_) (fun q => absurd rfl q)
  refine z_ne (a := k) (by omega) (fun _ => ?_) (fun h0 => ?_)
  · refine hK _ ?_
    refine k_sub5 (i1 := 4) (i2 := 3) (i3 := 2) (i4 := 1) (i5 := 0) rfl rfl rfl rfl rfl ?_
    exact next
  · have ho := ho h0
    refine k_at (j := 0) (by decide) ?_
    refine And.intro (fun _ => ?_) (fun q => absurd (by rw [ho]; exact cmp_self _) q)
    refine hK _ ?_
    refine k_sub5 (i1 := 4) (i2 := 3) (i3 := 2) (i4 := 1) (i5 := 0) rfl rfl rfl rfl rfl ?_
    exact next
theorem lc_length (hi : i + 4 < L) (hL : L ≤ 2560)
    (hH : k_Met Y4_length [.ref 0, .int (xs (i + 1)), .ref 44] (hA F A G B o) (.inl (some (.int (nI k))), hA F1 A1 G B o1, mc, ms))
    (hM : k_Met Y3_length [.ref 24, .int (xs (i + 1))] (hA F1 A1 G B o1) (.inl (some (.int r)), hA F1 A1 G1 B1 o1, 0, 0))
    (hT : G1 0 = nI k) (hk : k < 10) (ho : k = 0 → o1 0 = r.toInt64) (h1 : nc + mc ≤ G9.2.2.1) (h2 : ns + ms ≤ G9.2.2.2)
    (next : k_W Y4_law (some (L, xs)) G9 (1158, ls0 i, [], hA F1 A1 G1 B1 o1, nc + mc, ns + ms)) : k_W Y4_law (some (L, xs)) G9 (954, ls0 i, [], hA F A G B o, nc, ns) := by
  have ht := m3_thk (F := F1) (A := A1) (B := B1) (o := o1) hT
  refine k_go 99 [1158] T4_law14_ok (fun K hK => ?_)
  refine k_eq (z := nI (i + 1)) (nI_add i 1) ?_
  refine k_sa (j := i + 1) (by omega) (by omega) ?_
  refine hK _ ?_
  refine k_callSW (Y' := Y4_length) (as := [.ref 0, .int (xs (i + 1)), .ref 44]) (st := []) hH rfl c4_125 rfl rfl d4_law_962 h1 h2 rfl rfl ?_
  refine k_go 99 [1158] T4_law14_ok (fun K hK => ?_)
  refine k_eq (z := nI (i + 1)) (nI_add i 1) ?_
  refine k_sa (j := i + 1) (by omega) (by omega) ?_
  refine hK _ ?_
  refine k_callV (Y' := Y3_length) (as := [.int (xs (i + 1))]) (st := []) hM rfl c4_127 rfl rfl rfl d4_law_974 h1 h2 rfl rfl ?_
  refine k_go 99 [1158] T4_law14_ok (fun K hK => ?_)
  refine hK _ ?_
  refine k_callV (Y' := Y3_thrown) (as := []) (st := []) ht rfl c4_84 rfl rfl rfl d4_law_980 h1 h2 rfl rfl ?_
  refine k_go 99 [1158] T4_law14_ok (fun K hK => ?_)
  refine b_eq (a := k) (b := k) (by omega) (by omega) (fun _ => ?_) (fun q => absurd rfl q)
  refine z_ne (a := k) (by omega) (fun _ => ?_) (fun h0 => ?_)
  · refine hK _ ?_
    refine k_sub5 (i1 := 4) (i2 := 3) (i3 := 2) (i4 := 1) (i5 := 0) rfl rfl rfl rfl rfl ?_
    exact next
  · have ho := ho h0
    refine k_at (j := 0) (by decide) ?_
    refine And.intro (fun _ => ?_) (fun q => absurd (by rw [ho]; exact cmp_self _) q)
    refine hK _ ?_
    refine k_sub5 (i1 := 4) (i2 := 3) (i3 := 2) (i4 := 1) (i5 := 0) rfl rfl rfl rfl rfl ?_
    exact next
theorem lc_unheard (hi : i + 4 < L) (hL : L ≤ 2560)
    (hH : k_Met Y4_unheard [.ref 0, .int (xs (i + 1)), .int (xs (i + 2)), .ref 44] (hA F A G B o) (.inl (some (.int (nI k))), hA F1 A1 G B o1, mc, ms))
    (hM : k_Met Y3_unheard [.ref 24, .int (xs (i + 1)), .int (xs (i + 2))] (hA F1 A1 G B o1) (.inl (some (.int r)), hA F1 A1 G1 B1 o1, 0, 0))
    (hT : G1 0 = nI k) (hk : k < 10) (ho : k = 0 → o1 0 = r.toInt64) (h1 : nc + mc ≤ G9.2.2.1) (h2 : ns + ms ≤ G9.2.2.2)
    (next : k_W Y4_law (some (L, xs)) G9 (1158, ls0 i, [], hA F1 A1 G1 B1 o1, nc + mc, ns + ms)) : k_W Y4_law (some (L, xs)) G9 (1010, ls0 i, [], hA F A G B o, nc, ns) := by
  have ht := m3_thk (F := F1) (A := A1) (B := B1) (o := o1) hT
  refine k_go 99 [1158] T4_law15_ok (fun K hK => ?_)
  refine k_eq (z := nI (i + 1)) (nI_add i 1) ?_
  refine k_sa (j := i + 1) (by omega) (by omega) ?_
  refine k_eq (z := nI (i + 2)) (nI_add i 2) ?_
  refine k_sa (j := i + 2) (by omega) (by omega) ?_
  refine hK _ ?_
  refine k_callSW (Y' := Y4_unheard) (as := [.ref 0, .int (xs (i + 1)), .int (xs (i + 2)), .ref 44]) (st := []) hH rfl c4_128 rfl rfl d4_law_1024 h1 h2 rfl rfl ?_
  refine k_go 99 [1158] T4_law15_ok (fun K hK => ?_)
  refine k_eq (z := nI (i + 1)) (nI_add i 1) ?_
  refine k_sa (j := i + 1) (by omega) (by omega) ?_
  refine k_eq (z := nI (i + 2)) (nI_add i 2) ?_
  refine k_sa (j := i + 2) (by omega) (by omega) ?_
  refine hK _ ?_
  refine k_callV (Y' := Y3_unheard) (as := [.int (xs (i + 1)), .int (xs (i + 2))]) (st := []) hM rfl c4_130 rfl rfl rfl d4_law_1042 h1 h2 rfl rfl ?_
  refine k_go 99 [1158] T4_law15_ok (fun K hK => ?_)
  refine hK _ ?_
  refine k_callV (Y' := Y3_thrown) (as := []) (st := []) ht rfl c4_84 rfl rfl rfl d4_law_1048 h1 h2 rfl rfl ?_
  refine k_go 99 [1158] T4_law15_ok (fun K hK => ?_)
  refine b_eq (a := k) (b := k) (by omega) (by omega) (fun _ => ?_) (fun q => absurd rfl q)
  refine z_ne (a := k) (by omega) (fun _ => ?_) (fun h0 => ?_)
  · refine hK _ ?_
    refine k_sub5 (i1 := 4) (i2 := 3) (i3 := 2) (i4 := 1) (i5 := 0) rfl rfl rfl rfl rfl ?_
    exact next
  · have ho := ho h0
    refine k_at (j := 0) (by decide) ?_
    refine And.intro (fun _ => ?_) (fun q => absurd (by rw [ho]; exact cmp_self _) q)
    refine hK _ ?_
    refine k_sub5 (i1 := 4) (i2 := 3) (i3 := 2) (i4 := 1) (i5 := 0) rfl rfl rfl rfl rfl ?_
    exact next
theorem lc_used (hi : i + 4 < L) (hL : L ≤ 2560)
    (hH : k_Met Y4_used [.ref 0, .int (xs (i + 1)), .int (xs (i + 2)), .int (xs (i + 3)), .ref 44] (hA F A G B o) (.inl (some (.int (nI k))), hA F1 A1 G B o1, mc, ms))
    (hM : k_Met Y3_used [.ref 24, .int (xs (i + 1)), .int (xs (i + 2)), .int (xs (i + 3))] (hA F1 A1 G B o1) (.inl (some (.int r)), hA F1 A1 G1 B1 o1, 0, 0))
    (hT : G1 0 = nI k) (hk : k < 10) (ho : k = 0 → o1 0 = r.toInt64) (h1 : nc + mc ≤ G9.2.2.1) (h2 : ns + ms ≤ G9.2.2.2)
    (next : k_W Y4_law (some (L, xs)) G9 (1158, ls0 i, [], hA F1 A1 G1 B1 o1, nc + mc, ns + ms)) : k_W Y4_law (some (L, xs)) G9 (1078, ls0 i, [], hA F A G B o, nc, ns) := by
  have ht := m3_thk (F := F1) (A := A1) (B := B1) (o := o1) hT
  refine k_go 99 [1158] T4_law16_ok (fun K hK => ?_)
  refine k_eq (z := nI (i + 1)) (nI_add i 1) ?_
  refine k_sa (j := i + 1) (by omega) (by omega) ?_
  refine k_eq (z := nI (i + 2)) (nI_add i 2) ?_
  refine k_sa (j := i + 2) (by omega) (by omega) ?_
  refine k_eq (z := nI (i + 3)) (nI_add i 3) ?_
  refine k_sa (j := i + 3) (by omega) (by omega) ?_
  refine hK _ ?_
  refine k_callSW (Y' := Y4_used) (as := [.ref 0, .int (xs (i + 1)), .int (xs (i + 2)), .int (xs (i + 3)), .ref 44]) (st := []) hH rfl c4_131 rfl rfl d4_law_1098 h1 h2 rfl rfl ?_
  refine k_go 99 [1158] T4_law16_ok (fun K hK => ?_)
  refine k_eq (z := nI (i + 1)) (nI_add i 1) ?_
  refine k_sa (j := i + 1) (by omega) (by omega) ?_
  refine k_eq (z := nI (i + 2)) (nI_add i 2) ?_
  refine k_sa (j := i + 2) (by omega) (by omega) ?_
  refine k_eq (z := nI (i + 3)) (nI_add i 3) ?_
  refine k_sa (j := i + 3) (by omega) (by omega) ?_
  refine hK _ ?_
  refine k_callV (Y' := Y3_used) (as := [.int (xs (i + 1)), .int (xs (i + 2)), .int (xs (i + 3))]) (st := []) hM rfl c4_134 rfl rfl rfl d4_law_1122 h1 h2 rfl rfl ?_
  refine k_go 99 [1158] T4_law16_ok (fun K hK => ?_)
  refine hK _ ?_
  refine k_callV (Y' := Y3_thrown) (as := []) (st := []) ht rfl c4_84 rfl rfl rfl d4_law_1128 h1 h2 rfl rfl ?_
  refine k_go 99 [1158] T4_law16_ok (fun K hK => ?_)
  refine b_eq (a := k) (b := k) (by omega) (by omega) (fun _ => ?_) (fun q => absurd rfl q)
  refine z_ne (a := k) (by omega) (fun _ => ?_) (fun h0 => ?_)
  · refine hK _ ?_
    refine k_sub5 (i1 := 4) (i2 := 3) (i3 := 2) (i4 := 1) (i5 := 0) rfl rfl rfl rfl rfl ?_
    exact next
  · have ho := ho h0
    refine k_at (j := 0) (by decide) ?_
    refine And.intro (fun _ => ?_) (fun q => absurd (by rw [ho]; exact cmp_self _) q)
    refine hK _ ?_
    refine k_sub5 (i1 := 4) (i2 := 3) (i3 := 2) (i4 := 1) (i5 := 0) rfl rfl rfl rfl rfl ?_
    exact next
end LC
