abbrev zI (n : Nat) : k_O := .inl (0, n, .inl (fun _ => nI 0))
abbrev zB (n : Nat) : k_O := .inl (1, n, .inl (fun _ => nI 0))
section KN
variable {Y : k_Y} {sc : k_Sc} {G : k_G} {pc : Nat} {ls : List (Nat × Value)} {st : List Value} {h : List k_O} {nc ns : Nat}
theorem k_newI {N : Nat} (hN : Nat.ble N 2000 = true) (d : decode (k_cc Y) pc = .ok (.newarray .int, 2)) (hc : nc + 1 ≤ G.2.2.1) (hs : ns + N ≤ G.2.2.2) (hok : h.all (k_oko h.length) = true) (hl : Nat.blt h.length 1000000 = true) (ho1 : ls.all (fun q => k_okv h.length q.2) = true) (ho2 : st.all (k_okv h.length) = true) (k : k_W Y sc G (pc + 2, ls, .ref h.length :: st, h ++ [zI N], nc + 1, ns + N)) : k_W Y sc G (pc, ls, .int (nI N) :: st, h, nc, ns) := by
  have hN := Nat.le_of_ble_eq_true hN
  refine k_newa (t := 0) (ty := .int) (a0 := (N, .inl (fun _ => nI 0))) rfl (fun _ => rfl) (fun U x y h1 h2 => Option.some.inj (Eq.trans (Eq.symm h1) h2)) (by decide +kernel) (fun cA => ?_) (by omega) ?_ d hc hs hok hl ho1 ho2 k
  · show arrV cA N (fun _ => Value.int (nI 0)) = arrV cA N (fun _ => defaultValue .int)
    rw [nI_0]; rfl
  · show N * 4 ≤ 536870912
    omega
theorem k_newB {N : Nat} (hN : Nat.ble N 2000 = true) (d : decode (k_cc Y) pc = .ok (.newarray .boolean, 2)) (hc : nc + 1 ≤ G.2.2.1) (hs : ns + N ≤ G.2.2.2) (hok : h.all (k_oko h.length) = true) (hl : Nat.blt h.length 1000000 = true) (ho1 : ls.all (fun q => k_okv h.length q.2) = true) (ho2 : st.all (k_okv h.length) = true) (k : k_W Y sc G (pc + 2, ls, .ref h.length :: st, h ++ [zB N], nc + 1, ns + N)) : k_W Y sc G (pc, ls, .int (nI N) :: st, h, nc, ns) := by
  have hN := Nat.le_of_ble_eq_true hN
  refine k_newa (t := 1) (ty := .boolean) (a0 := (N, .inl (fun _ => nI 0))) rfl (fun _ => rfl) (fun U x y h1 h2 => Option.some.inj (Eq.trans (Eq.symm h1) h2)) (by decide +kernel) (fun cA => ?_) (by omega) ?_ d hc hs hok hl ho1 ho2 k
  · show arrV cA N (fun _ => Value.int (nI 0)) = arrV cA N (fun _ => defaultValue .boolean)
    rw [nI_0]; rfl
  · show N * 1 ≤ 536870912
    omega
theorem k_newL {N : Nat} (hN : Nat.ble N 2000 = true) (d : decode (k_cc Y) pc = .ok (.newarray .long, 2)) (hc : nc + 1 ≤ G.2.2.1) (hs : ns + N ≤ G.2.2.2) (hok : h.all (k_oko h.length) = true) (hl : Nat.blt h.length 1000000 = true) (ho1 : ls.all (fun q => k_okv h.length q.2) = true) (ho2 : st.all (k_okv h.length) = true) (k : k_W Y sc G (pc + 2, ls, .ref h.length :: st, h ++ [.inl (2, N, .inr (.inl (fun _ => 0)))], nc + 1, ns + N)) : k_W Y sc G (pc, ls, .int (nI N) :: st, h, nc, ns) := by
  have hN := Nat.le_of_ble_eq_true hN
  refine k_newa (t := 2) (ty := .long) (a0 := (N, .inr (.inl (fun _ => 0)))) rfl (fun _ => rfl) (fun U x y h1 h2 => Option.some.inj (Eq.trans (Eq.symm h1) h2)) (by decide +kernel) (fun cA => rfl) (by omega) ?_ d hc hs hok hl ho1 ho2 k
  show N * 8 ≤ 536870912
  omega
end KN
theorem dp1_init_6 : decode (k_cc Y1_init) 6 = .ok (.putfield 7, 3) := by decide +kernel
theorem dp1_init_13 : decode (k_cc Y1_init) 13 = .ok (.putfield 13, 3) := by decide +kernel
theorem dp1_init_20 : decode (k_cc Y1_init) 20 = .ok (.putfield 17, 3) := by decide +kernel
theorem dp1_init_27 : decode (k_cc Y1_init) 27 = .ok (.putfield 20, 3) := by decide +kernel
theorem dp1_init_34 : decode (k_cc Y1_init) 34 = .ok (.putfield 23, 3) := by decide +kernel
theorem m1_init20 : k_Met Y1_init [.ref 1, .int (nI 20)] ([.inr (2, [.null, .null, .null, .null, .null, .null, .int 0, .int 0]), .inr (1, [.int 0, .null, .null, .null, .null, .int 0])]) (.inl none, [.inr (2, [.null, .null, .null, .null, .null, .null, .int 0, .int 0]), .inr (1, [.int (nI 20), .ref 2, .ref 3, .ref 4, .ref 5, .int 0]), zI 20, zI 20, zI 20, zI 20], 4, 80) := by
  refine k_intro (by decide +kernel) rfl rfl rfl ?_
  refine k_go 99 [1] T1_init_ok (fun K hK => ?_)
  refine hK _ ?_
  refine k_objInit (by decide +kernel) d1_init_1 rfl rfl rfl ?_
  refine k_go 99 [6] T1_init_ok (fun K hK => ?_)
  refine hK _ ?_
  refine k_putF (q := (1, 0)) (z := (RX1, TX1, 6)) (ty := .int) rfl rfl rfl rfl rfl rfl rfl (fun ad => ⟨rfl, rfl⟩) dp1_init_6 rfl rfl (by decide) ?_
  refine k_heq (h' := [.inr (2, [.null, .null, .null, .null, .null, .null, .int 0, .int 0]), .inr (1, [.int (nI 20), .null, .null, .null, .null, .int 0])]) rfl ?_
  refine k_go 99 [11] T1_init_ok (fun K hK => ?_)
  refine hK _ ?_
  refine k_newI (N := 20) rfl d1_init_11 (Nat.le_of_ble_eq_true rfl) (Nat.le_of_ble_eq_true rfl) rfl rfl rfl rfl ?_
  refine k_heq (h' := [.inr (2, [.null, .null, .null, .null, .null, .null, .int 0, .int 0]), .inr (1, [.int (nI 20), .null, .null, .null, .null, .int 0]), zI 20]) rfl ?_
  refine k_putF (q := (1, 1)) (z := (RX1, TX1, 6)) (ty := .array .int) rfl rfl rfl rfl rfl rfl rfl (fun ad => ⟨rfl, rfl⟩) dp1_init_13 rfl rfl (by decide) ?_
  refine k_heq (h' := [.inr (2, [.null, .null, .null, .null, .null, .null, .int 0, .int 0]), .inr (1, [.int (nI 20), .ref 2, .null, .null, .null, .int 0]), zI 20]) rfl ?_
  refine k_go 99 [18] T1_init_ok (fun K hK => ?_)
  refine hK _ ?_
  refine k_newI (N := 20) rfl d1_init_18 (Nat.le_of_ble_eq_true rfl) (Nat.le_of_ble_eq_true rfl) rfl rfl rfl rfl ?_
  refine k_heq (h' := [.inr (2, [.null, .null, .null, .null, .null, .null, .int 0, .int 0]), .inr (1, [.int (nI 20), .ref 2, .null, .null, .null, .int 0]), zI 20, zI 20]) rfl ?_
  refine k_putF (q := (1, 2)) (z := (RX1, TX1, 6)) (ty := .array .int) rfl rfl rfl rfl rfl rfl rfl (fun ad => ⟨rfl, rfl⟩) dp1_init_20 rfl rfl (by decide) ?_
  refine k_heq (h' := [.inr (2, [.null, .null, .null, .null, .null, .null, .int 0, .int 0]), .inr (1, [.int (nI 20), .ref 2, .ref 3, .null, .null, .int 0]), zI 20, zI 20]) rfl ?_
  refine k_go 99 [25] T1_init_ok (fun K hK => ?_)
  refine hK _ ?_
  refine k_newI (N := 20) rfl d1_init_25 (Nat.le_of_ble_eq_true rfl) (Nat.le_of_ble_eq_true rfl) rfl rfl rfl rfl ?_
  refine k_heq (h' := [.inr (2, [.null, .null, .null, .null, .null, .null, .int 0, .int 0]), .inr (1, [.int (nI 20), .ref 2, .ref 3, .null, .null, .int 0]), zI 20, zI 20, zI 20]) rfl ?_
  refine k_putF (q := (1, 3)) (z := (RX1, TX1, 6)) (ty := .array .int) rfl rfl rfl rfl rfl rfl rfl (fun ad => ⟨rfl, rfl⟩) dp1_init_27 rfl rfl (by decide) ?_
  refine k_heq (h' := [.inr (2, [.null, .null, .null, .null, .null, .null, .int 0, .int 0]), .inr (1, [.int (nI 20), .ref 2, .ref 3, .ref 4, .null, .int 0]), zI 20, zI 20, zI 20]) rfl ?_
  refine k_go 99 [32] T1_init_ok (fun K hK => ?_)
  refine hK _ ?_
  refine k_newI (N := 20) rfl d1_init_32 (Nat.le_of_ble_eq_true rfl) (Nat.le_of_ble_eq_true rfl) rfl rfl rfl rfl ?_
  refine k_heq (h' := [.inr (2, [.null, .null, .null, .null, .null, .null, .int 0, .int 0]), .inr (1, [.int (nI 20), .ref 2, .ref 3, .ref 4, .null, .int 0]), zI 20, zI 20, zI 20, zI 20]) rfl ?_
  refine k_putF (q := (1, 4)) (z := (RX1, TX1, 6)) (ty := .array .int) rfl rfl rfl rfl rfl rfl rfl (fun ad => ⟨rfl, rfl⟩) dp1_init_34 rfl rfl (by decide) ?_
  refine k_heq (h' := [.inr (2, [.null, .null, .null, .null, .null, .null, .int 0, .int 0]), .inr (1, [.int (nI 20), .ref 2, .ref 3, .ref 4, .ref 5, .int 0]), zI 20, zI 20, zI 20, zI 20]) rfl ?_
  exact k_return d1_init_37 rfl rfl rfl (Nat.le_of_ble_eq_true rfl) (Nat.le_of_ble_eq_true rfl)
theorem m1_init8 : k_Met Y1_init [.ref 6, .int (nI 8)] ([.inr (2, [.ref 1, .null, .null, .null, .null, .null, .int 0, .int 0]), .inr (1, [.int (nI 20), .ref 2, .ref 3, .ref 4, .ref 5, .int 0]), zI 20, zI 20, zI 20, zI 20, .inr (1, [.int 0, .null, .null, .null, .null, .int 0])]) (.inl none, [.inr (2, [.ref 1, .null, .null, .null, .null, .null, .int 0, .int 0]), .inr (1, [.int (nI 20), .ref 2, .ref 3, .ref 4, .ref 5, .int 0]), zI 20, zI 20, zI 20, zI 20, .inr (1, [.int (nI 8), .ref 7, .ref 8, .ref 9, .ref 10, .int 0]), zI 8, zI 8, zI 8, zI 8], 4, 32) := by
  refine k_intro (by decide +kernel) rfl rfl rfl ?_
  refine k_go 99 [1] T1_init_ok (fun K hK => ?_)
  refine hK _ ?_
  refine k_objInit (by decide +kernel) d1_init_1 rfl rfl rfl ?_
  refine k_go 99 [6] T1_init_ok (fun K hK => ?_)
  refine hK _ ?_
  refine k_putF (q := (1, 0)) (z := (RX1, TX1, 6)) (ty := .int) rfl rfl rfl rfl rfl rfl rfl (fun ad => ⟨rfl, rfl⟩) dp1_init_6 rfl rfl (by decide) ?_
  refine k_heq (h' := [.inr (2, [.ref 1, .null, .null, .null, .null, .null, .int 0, .int 0]), .inr (1, [.int (nI 20), .ref 2, .ref 3, .ref 4, .ref 5, .int 0]), zI 20, zI 20, zI 20, zI 20, .inr (1, [.int (nI 8), .null, .null, .null, .null, .int 0])]) rfl ?_
  refine k_go 99 [11] T1_init_ok (fun K hK => ?_)
  refine hK _ ?_
  refine k_newI (N := 8) rfl d1_init_11 (Nat.le_of_ble_eq_true rfl) (Nat.le_of_ble_eq_true rfl) rfl rfl rfl rfl ?_
  refine k_heq (h' := [.inr (2, [.ref 1, .null, .null, .null, .null, .null, .int 0, .int 0]), .inr (1, [.int (nI 20), .ref 2, .ref 3, .ref 4, .ref 5, .int 0]), zI 20, zI 20, zI 20, zI 20, .inr (1, [.int (nI 8), .null, .null, .null, .null, .int 0]), zI 8]) rfl ?_
  refine k_putF (q := (1, 1)) (z := (RX1, TX1, 6)) (ty := .array .int) rfl rfl rfl rfl rfl rfl rfl (fun ad => ⟨rfl, rfl⟩) dp1_init_13 rfl rfl (by decide) ?_
  refine k_heq (h' := [.inr (2, [.ref 1, .null, .null, .null, .null, .null, .int 0, .int 0]), .inr (1, [.int (nI 20), .ref 2, .ref 3, .ref 4, .ref 5, .int 0]), zI 20, zI 20, zI 20, zI 20, .inr (1, [.int (nI 8), .ref 7, .null, .null, .null, .int 0]), zI 8]) rfl ?_
  refine k_go 99 [18] T1_init_ok (fun K hK => ?_)
  refine hK _ ?_
  refine k_newI (N := 8) rfl d1_init_18 (Nat.le_of_ble_eq_true rfl) (Nat.le_of_ble_eq_true rfl) rfl rfl rfl rfl ?_
  refine k_heq (h' := [.inr (2, [.ref 1, .null, .null, .null, .null, .null, .int 0, .int 0]), .inr (1, [.int (nI 20), .ref 2, .ref 3, .ref 4, .ref 5, .int 0]), zI 20, zI 20, zI 20, zI 20, .inr (1, [.int (nI 8), .ref 7, .null, .null, .null, .int 0]), zI 8, zI 8]) rfl ?_
  refine k_putF (q := (1, 2)) (z := (RX1, TX1, 6)) (ty := .array .int) rfl rfl rfl rfl rfl rfl rfl (fun ad => ⟨rfl, rfl⟩) dp1_init_20 rfl rfl (by decide) ?_
  refine k_heq (h' := [.inr (2, [.ref 1, .null, .null, .null, .null, .null, .int 0, .int 0]), .inr (1, [.int (nI 20), .ref 2, .ref 3, .ref 4, .ref 5, .int 0]), zI 20, zI 20, zI 20, zI 20, .inr (1, [.int (nI 8), .ref 7, .ref 8, .null, .null, .int 0]), zI 8, zI 8]) rfl ?_
  refine k_go 99 [25] T1_init_ok (fun K hK => ?_)
  refine hK _ ?_
  refine k_newI (N := 8) rfl d1_init_25 (Nat.le_of_ble_eq_true rfl) (Nat.le_of_ble_eq_true rfl) rfl rfl rfl rfl ?_
  refine k_heq (h' := [.inr (2, [.ref 1, .null, .null, .null, .null, .null, .int 0, .int 0]), .inr (1, [.int (nI 20), .ref 2, .ref 3, .ref 4, .ref 5, .int 0]), zI 20, zI 20, zI 20, zI 20, .inr (1, [.int (nI 8), .ref 7, .ref 8, .null, .null, .int 0]), zI 8, zI 8, zI 8]) rfl ?_
  refine k_putF (q := (1, 3)) (z := (RX1, TX1, 6)) (ty := .array .int) rfl rfl rfl rfl rfl rfl rfl (fun ad => ⟨rfl, rfl⟩) dp1_init_27 rfl rfl (by decide) ?_
  refine k_heq (h' := [.inr (2, [.ref 1, .null, .null, .null, .null, .null, .int 0, .int 0]), .inr (1, [.int (nI 20), .ref 2, .ref 3, .ref 4, .ref 5, .int 0]), zI 20, zI 20, zI 20, zI 20, .inr (1, [.int (nI 8), .ref 7, .ref 8, .ref 9, .null, .int 0]), zI 8, zI 8, zI 8]) rfl ?_
  refine k_go 99 [32] T1_init_ok (fun K hK => ?_)
  refine hK _ ?_
  refine k_newI (N := 8) rfl d1_init_32 (Nat.le_of_ble_eq_true rfl) (Nat.le_of_ble_eq_true rfl) rfl rfl rfl rfl ?_
  refine k_heq (h' := [.inr (2, [.ref 1, .null, .null, .null, .null, .null, .int 0, .int 0]), .inr (1, [.int (nI 20), .ref 2, .ref 3, .ref 4, .ref 5, .int 0]), zI 20, zI 20, zI 20, zI 20, .inr (1, [.int (nI 8), .ref 7, .ref 8, .ref 9, .null, .int 0]), zI 8, zI 8, zI 8, zI 8]) rfl ?_
  refine k_putF (q := (1, 4)) (z := (RX1, TX1, 6)) (ty := .array .int) rfl rfl rfl rfl rfl rfl rfl (fun ad => ⟨rfl, rfl⟩) dp1_init_34 rfl rfl (by decide) ?_
  refine k_heq (h' := [.inr (2, [.ref 1, .null, .null, .null, .null, .null, .int 0, .int 0]), .inr (1, [.int (nI 20), .ref 2, .ref 3, .ref 4, .ref 5, .int 0]), zI 20, zI 20, zI 20, zI 20, .inr (1, [.int (nI 8), .ref 7, .ref 8, .ref 9, .ref 10, .int 0]), zI 8, zI 8, zI 8, zI 8]) rfl ?_
  exact k_return d1_init_37 rfl rfl rfl (Nat.le_of_ble_eq_true rfl) (Nat.le_of_ble_eq_true rfl)
theorem dp0_init_8 : decode (k_cc Y0_init) 8 = .ok (.putfield 9, 3) := by decide +kernel
theorem dp0_init_15 : decode (k_cc Y0_init) 15 = .ok (.putfield 15, 3) := by decide +kernel
theorem dp0_init_22 : decode (k_cc Y0_init) 22 = .ok (.putfield 18, 3) := by decide +kernel
theorem dp0_init_29 : decode (k_cc Y0_init) 29 = .ok (.putfield 21, 3) := by decide +kernel
theorem dp0_init_36 : decode (k_cc Y0_init) 36 = .ok (.putfield 24, 3) := by decide +kernel
theorem dp0_init_43 : decode (k_cc Y0_init) 43 = .ok (.putfield 27, 3) := by decide +kernel
theorem dp0_init_50 : decode (k_cc Y0_init) 50 = .ok (.putfield 30, 3) := by decide +kernel
theorem dp0_init_57 : decode (k_cc Y0_init) 57 = .ok (.putfield 33, 3) := by decide +kernel
theorem dp0_init_64 : decode (k_cc Y0_init) 64 = .ok (.putfield 36, 3) := by decide +kernel
theorem m0_init60 : k_Met Y0_init [.ref 11, .int (nI 60)] ([.inr (2, [.ref 1, .ref 6, .null, .null, .null, .null, .int 0, .int 0]), .inr (1, [.int (nI 20), .ref 2, .ref 3, .ref 4, .ref 5, .int 0]), zI 20, zI 20, zI 20, zI 20, .inr (1, [.int (nI 8), .ref 7, .ref 8, .ref 9, .ref 10, .int 0]), zI 8, zI 8, zI 8, zI 8, .inr (0, [.null, .null, .null, .null, .null, .null, .null, .null, .null, .int 0])]) (.inl none, [.inr (2, [.ref 1, .ref 6, .null, .null, .null, .null, .int 0, .int 0]), .inr (1, [.int (nI 20), .ref 2, .ref 3, .ref 4, .ref 5, .int 0]), zI 20, zI 20, zI 20, zI 20, .inr (1, [.int (nI 8), .ref 7, .ref 8, .ref 9, .ref 10, .int 0]), zI 8, zI 8, zI 8, zI 8, .inr (0, [.ref 12, .ref 13, .ref 14, .ref 15, .ref 16, .ref 17, .ref 18, .ref 19, .ref 20, .int 0]), zI 60, zI 60, zI 60, zI 60, zI 60, zI 60, zI 60, zI 60, zI 60], 9, 540) := by
  refine k_intro (by decide +kernel) rfl rfl rfl ?_
  refine k_go 99 [1] T0_init_ok (fun K hK => ?_)
  refine hK _ ?_
  refine k_objInit (by decide +kernel) d0_init_1 rfl rfl rfl ?_
  refine k_go 99 [6] T0_init_ok (fun K hK => ?_)
  refine hK _ ?_
  refine k_newI (N := 60) rfl d0_init_6 (Nat.le_of_ble_eq_true rfl) (Nat.le_of_ble_eq_true rfl) rfl rfl rfl rfl ?_
  refine k_heq (h' := [.inr (2, [.ref 1, .ref 6, .null, .null, .null, .null, .int 0, .int 0]), .inr (1, [.int (nI 20), .ref 2, .ref 3, .ref 4, .ref 5, .int 0]), zI 20, zI 20, zI 20, zI 20, .inr (1, [.int (nI 8), .ref 7, .ref 8, .ref 9, .ref 10, .int 0]), zI 8, zI 8, zI 8, zI 8, .inr (0, [.null, .null, .null, .null, .null, .null, .null, .null, .null, .int 0]), zI 60]) rfl ?_
  refine k_putF (q := (0, 0)) (z := (RX0, TX0, 10)) (ty := .array .int) rfl rfl rfl rfl rfl rfl rfl (fun ad => ⟨rfl, rfl⟩) dp0_init_8 rfl rfl (by decide) ?_
  refine k_heq (h' := [.inr (2, [.ref 1, .ref 6, .null, .null, .null, .null, .int 0, .int 0]), .inr (1, [.int (nI 20), .ref 2, .ref 3, .ref 4, .ref 5, .int 0]), zI 20, zI 20, zI 20, zI 20, .inr (1, [.int (nI 8), .ref 7, .ref 8, .ref 9, .ref 10, .int 0]), zI 8, zI 8, zI 8, zI 8, .inr (0, [.ref 12, .null, .null, .null, .null, .null, .null, .null, .null, .int 0]), zI 60]) rfl ?_
  refine k_go 99 [13] T0_init_ok (fun K hK => ?_)
  refine hK _ ?_
  refine k_newI (N := 60) rfl d0_init_13 (Nat.le_of_ble_eq_true rfl) (Nat.le_of_ble_eq_true rfl) rfl rfl rfl rfl ?_
  refine k_heq (h' := [.inr (2, [.ref 1, .ref 6, .null, .null, .null, .null, .int 0, .int 0]), .inr (1, [.int (nI 20), .ref 2, .ref 3, .ref 4, .ref 5, .int 0]), zI 20, zI 20, zI 20, zI 20, .inr (1, [.int (nI 8), .ref 7, .ref 8, .ref 9, .ref 10, .int 0]), zI 8, zI 8, zI 8, zI 8, .inr (0, [.ref 12, .null, .null, .null, .null, .null, .null, .null, .null, .int 0]), zI 60, zI 60]) rfl ?_
  refine k_putF (q := (0, 1)) (z := (RX0, TX0, 10)) (ty := .array .int) rfl rfl rfl rfl rfl rfl rfl (fun ad => ⟨rfl, rfl⟩) dp0_init_15 rfl rfl (by decide) ?_
  refine k_heq (h' := [.inr (2, [.ref 1, .ref 6, .null, .null, .null, .null, .int 0, .int 0]), .inr (1, [.int (nI 20), .ref 2, .ref 3, .ref 4, .ref 5, .int 0]), zI 20, zI 20, zI 20, zI 20, .inr (1, [.int (nI 8), .ref 7, .ref 8, .ref 9, .ref 10, .int 0]), zI 8, zI 8, zI 8, zI 8, .inr (0, [.ref 12, .ref 13, .null, .null, .null, .null, .null, .null, .null, .int 0]), zI 60, zI 60]) rfl ?_
  refine k_go 99 [20] T0_init_ok (fun K hK => ?_)
  refine hK _ ?_
  refine k_newI (N := 60) rfl d0_init_20 (Nat.le_of_ble_eq_true rfl) (Nat.le_of_ble_eq_true rfl) rfl rfl rfl rfl ?_
  refine k_heq (h' := [.inr (2, [.ref 1, .ref 6, .null, .null, .null, .null, .int 0, .int 0]), .inr (1, [.int (nI 20), .ref 2, .ref 3, .ref 4, .ref 5, .int 0]), zI 20, zI 20, zI 20, zI 20, .inr (1, [.int (nI 8), .ref 7, .ref 8, .ref 9, .ref 10, .int 0]), zI 8, zI 8, zI 8, zI 8, .inr (0, [.ref 12, .ref 13, .null, .null, .null, .null, .null, .null, .null, .int 0]), zI 60, zI 60, zI 60]) rfl ?_
  refine k_putF (q := (0, 2)) (z := (RX0, TX0, 10)) (ty := .array .int) rfl rfl rfl rfl rfl rfl rfl (fun ad => ⟨rfl, rfl⟩) dp0_init_22 rfl rfl (by decide) ?_
  refine k_heq (h' := [.inr (2, [.ref 1, .ref 6, .null, .null, .null, .null, .int 0, .int 0]), .inr (1, [.int (nI 20), .ref 2, .ref 3, .ref 4, .ref 5, .int 0]), zI 20, zI 20, zI 20, zI 20, .inr (1, [.int (nI 8), .ref 7, .ref 8, .ref 9, .ref 10, .int 0]), zI 8, zI 8, zI 8, zI 8, .inr (0, [.ref 12, .ref 13, .ref 14, .null, .null, .null, .null, .null, .null, .int 0]), zI 60, zI 60, zI 60]) rfl ?_
  refine k_go 99 [27] T0_init_ok (fun K hK => ?_)
  refine hK _ ?_
  refine k_newI (N := 60) rfl d0_init_27 (Nat.le_of_ble_eq_true rfl) (Nat.le_of_ble_eq_true rfl) rfl rfl rfl rfl ?_
  refine k_heq (h' := [.inr (2, [.ref 1, .ref 6, .null, .null, .null, .null, .int 0, .int 0]), .inr (1, [.int (nI 20), .ref 2, .ref 3, .ref 4, .ref 5, .int 0]), zI 20, zI 20, zI 20, zI 20, .inr (1, [.int (nI 8), .ref 7, .ref 8, .ref 9, .ref 10, .int 0]), zI 8, zI 8, zI 8, zI 8, .inr (0, [.ref 12, .ref 13, .ref 14, .null, .null, .null, .null, .null, .null, .int 0]), zI 60, zI 60, zI 60, zI 60]) rfl ?_
  refine k_putF (q := (0, 3)) (z := (RX0, TX0, 10)) (ty := .array .int) rfl rfl rfl rfl rfl rfl rfl (fun ad => ⟨rfl, rfl⟩) dp0_init_29 rfl rfl (by decide) ?_
  refine k_heq (h' := [.inr (2, [.ref 1, .ref 6, .null, .null, .null, .null, .int 0, .int 0]), .inr (1, [.int (nI 20), .ref 2, .ref 3, .ref 4, .ref 5, .int 0]), zI 20, zI 20, zI 20, zI 20, .inr (1, [.int (nI 8), .ref 7, .ref 8, .ref 9, .ref 10, .int 0]), zI 8, zI 8, zI 8, zI 8, .inr (0, [.ref 12, .ref 13, .ref 14, .ref 15, .null, .null, .null, .null, .null, .int 0]), zI 60, zI 60, zI 60, zI 60]) rfl ?_
  refine k_go 99 [34] T0_init_ok (fun K hK => ?_)
  refine hK _ ?_
  refine k_newI (N := 60) rfl d0_init_34 (Nat.le_of_ble_eq_true rfl) (Nat.le_of_ble_eq_true rfl) rfl rfl rfl rfl ?_
  refine k_heq (h' := [.inr (2, [.ref 1, .ref 6, .null, .null, .null, .null, .int 0, .int 0]), .inr (1, [.int (nI 20), .ref 2, .ref 3, .ref 4, .ref 5, .int 0]), zI 20, zI 20, zI 20, zI 20, .inr (1, [.int (nI 8), .ref 7, .ref 8, .ref 9, .ref 10, .int 0]), zI 8, zI 8, zI 8, zI 8, .inr (0, [.ref 12, .ref 13, .ref 14, .ref 15, .null, .null, .null, .null, .null, .int 0]), zI 60, zI 60, zI 60, zI 60, zI 60]) rfl ?_
  refine k_putF (q := (0, 4)) (z := (RX0, TX0, 10)) (ty := .array .int) rfl rfl rfl rfl rfl rfl rfl (fun ad => ⟨rfl, rfl⟩) dp0_init_36 rfl rfl (by decide) ?_
  refine k_heq (h' := [.inr (2, [.ref 1, .ref 6, .null, .null, .null, .null, .int 0, .int 0]), .inr (1, [.int (nI 20), .ref 2, .ref 3, .ref 4, .ref 5, .int 0]), zI 20, zI 20, zI 20, zI 20, .inr (1, [.int (nI 8), .ref 7, .ref 8, .ref 9, .ref 10, .int 0]), zI 8, zI 8, zI 8, zI 8, .inr (0, [.ref 12, .ref 13, .ref 14, .ref 15, .ref 16, .null, .null, .null, .null, .int 0]), zI 60, zI 60, zI 60, zI 60, zI 60]) rfl ?_
  refine k_go 99 [41] T0_init_ok (fun K hK => ?_)
  refine hK _ ?_
  refine k_newI (N := 60) rfl d0_init_41 (Nat.le_of_ble_eq_true rfl) (Nat.le_of_ble_eq_true rfl) rfl rfl rfl rfl ?_
  refine k_heq (h' := [.inr (2, [.ref 1, .ref 6, .null, .null, .null, .null, .int 0, .int 0]), .inr (1, [.int (nI 20), .ref 2, .ref 3, .ref 4, .ref 5, .int 0]), zI 20, zI 20, zI 20, zI 20, .inr (1, [.int (nI 8), .ref 7, .ref 8, .ref 9, .ref 10, .int 0]), zI 8, zI 8, zI 8, zI 8, .inr (0, [.ref 12, .ref 13, .ref 14, .ref 15, .ref 16, .null, .null, .null, .null, .int 0]), zI 60, zI 60, zI 60, zI 60, zI 60, zI 60]) rfl ?_
  refine k_putF (q := (0, 5)) (z := (RX0, TX0, 10)) (ty := .array .int) rfl rfl rfl rfl rfl rfl rfl (fun ad => ⟨rfl, rfl⟩) dp0_init_43 rfl rfl (by decide) ?_
  refine k_heq (h' := [.inr (2, [.ref 1, .ref 6, .null, .null, .null, .null, .int 0, .int 0]), .inr (1, [.int (nI 20), .ref 2, .ref 3, .ref 4, .ref 5, .int 0]), zI 20, zI 20, zI 20, zI 20, .inr (1, [.int (nI 8), .ref 7, .ref 8, .ref 9, .ref 10, .int 0]), zI 8, zI 8, zI 8, zI 8, .inr (0, [.ref 12, .ref 13, .ref 14, .ref 15, .ref 16, .ref 17, .null, .null, .null, .int 0]), zI 60, zI 60, zI 60, zI 60, zI 60, zI 60]) rfl ?_
  refine k_go 99 [48] T0_init_ok (fun K hK => ?_)
  refine hK _ ?_
  refine k_newI (N := 60) rfl d0_init_48 (Nat.le_of_ble_eq_true rfl) (Nat.le_of_ble_eq_true rfl) rfl rfl rfl rfl ?_
  refine k_heq (h' := [.inr (2, [.ref 1, .ref 6, .null, .null, .null, .null, .int 0, .int 0]), .inr (1, [.int (nI 20), .ref 2, .ref 3, .ref 4, .ref 5, .int 0]), zI 20, zI 20, zI 20, zI 20, .inr (1, [.int (nI 8), .ref 7, .ref 8, .ref 9, .ref 10, .int 0]), zI 8, zI 8, zI 8, zI 8, .inr (0, [.ref 12, .ref 13, .ref 14, .ref 15, .ref 16, .ref 17, .null, .null, .null, .int 0]), zI 60, zI 60, zI 60, zI 60, zI 60, zI 60, zI 60]) rfl ?_
  refine k_putF (q := (0, 6)) (z := (RX0, TX0, 10)) (ty := .array .int) rfl rfl rfl rfl rfl rfl rfl (fun ad => ⟨rfl, rfl⟩) dp0_init_50 rfl rfl (by decide) ?_
  refine k_heq (h' := [.inr (2, [.ref 1, .ref 6, .null, .null, .null, .null, .int 0, .int 0]), .inr (1, [.int (nI 20), .ref 2, .ref 3, .ref 4, .ref 5, .int 0]), zI 20, zI 20, zI 20, zI 20, .inr (1, [.int (nI 8), .ref 7, .ref 8, .ref 9, .ref 10, .int 0]), zI 8, zI 8, zI 8, zI 8, .inr (0, [.ref 12, .ref 13, .ref 14, .ref 15, .ref 16, .ref 17, .ref 18, .null, .null, .int 0]), zI 60, zI 60, zI 60, zI 60, zI 60, zI 60, zI 60]) rfl ?_
  refine k_go 99 [55] T0_init_ok (fun K hK => ?_)
  refine hK _ ?_
  refine k_newI (N := 60) rfl d0_init_55 (Nat.le_of_ble_eq_true rfl) (Nat.le_of_ble_eq_true rfl) rfl rfl rfl rfl ?_
  refine k_heq (h' := [.inr (2, [.ref 1, .ref 6, .null, .null, .null, .null, .int 0, .int 0]), .inr (1, [.int (nI 20), .ref 2, .ref 3, .ref 4, .ref 5, .int 0]), zI 20, zI 20, zI 20, zI 20, .inr (1, [.int (nI 8), .ref 7, .ref 8, .ref 9, .ref 10, .int 0]), zI 8, zI 8, zI 8, zI 8, .inr (0, [.ref 12, .ref 13, .ref 14, .ref 15, .ref 16, .ref 17, .ref 18, .null, .null, .int 0]), zI 60, zI 60, zI 60, zI 60, zI 60, zI 60, zI 60, zI 60]) rfl ?_
  refine k_putF (q := (0, 7)) (z := (RX0, TX0, 10)) (ty := .array .int) rfl rfl rfl rfl rfl rfl rfl (fun ad => ⟨rfl, rfl⟩) dp0_init_57 rfl rfl (by decide) ?_
  refine k_heq (h' := [.inr (2, [.ref 1, .ref 6, .null, .null, .null, .null, .int 0, .int 0]), .inr (1, [.int (nI 20), .ref 2, .ref 3, .ref 4, .ref 5, .int 0]), zI 20, zI 20, zI 20, zI 20, .inr (1, [.int (nI 8), .ref 7, .ref 8, .ref 9, .ref 10, .int 0]), zI 8, zI 8, zI 8, zI 8, .inr (0, [.ref 12, .ref 13, .ref 14, .ref 15, .ref 16, .ref 17, .ref 18, .ref 19, .null, .int 0]), zI 60, zI 60, zI 60, zI 60, zI 60, zI 60, zI 60, zI 60]) rfl ?_
  refine k_go 99 [62] T0_init_ok (fun K hK => ?_)
  refine hK _ ?_
  refine k_newI (N := 60) rfl d0_init_62 (Nat.le_of_ble_eq_true rfl) (Nat.le_of_ble_eq_true rfl) rfl rfl rfl rfl ?_
  refine k_heq (h' := [.inr (2, [.ref 1, .ref 6, .null, .null, .null, .null, .int 0, .int 0]), .inr (1, [.int (nI 20), .ref 2, .ref 3, .ref 4, .ref 5, .int 0]), zI 20, zI 20, zI 20, zI 20, .inr (1, [.int (nI 8), .ref 7, .ref 8, .ref 9, .ref 10, .int 0]), zI 8, zI 8, zI 8, zI 8, .inr (0, [.ref 12, .ref 13, .ref 14, .ref 15, .ref 16, .ref 17, .ref 18, .ref 19, .null, .int 0]), zI 60, zI 60, zI 60, zI 60, zI 60, zI 60, zI 60, zI 60, zI 60]) rfl ?_
  refine k_putF (q := (0, 8)) (z := (RX0, TX0, 10)) (ty := .array .int) rfl rfl rfl rfl rfl rfl rfl (fun ad => ⟨rfl, rfl⟩) dp0_init_64 rfl rfl (by decide) ?_
  refine k_heq (h' := [.inr (2, [.ref 1, .ref 6, .null, .null, .null, .null, .int 0, .int 0]), .inr (1, [.int (nI 20), .ref 2, .ref 3, .ref 4, .ref 5, .int 0]), zI 20, zI 20, zI 20, zI 20, .inr (1, [.int (nI 8), .ref 7, .ref 8, .ref 9, .ref 10, .int 0]), zI 8, zI 8, zI 8, zI 8, .inr (0, [.ref 12, .ref 13, .ref 14, .ref 15, .ref 16, .ref 17, .ref 18, .ref 19, .ref 20, .int 0]), zI 60, zI 60, zI 60, zI 60, zI 60, zI 60, zI 60, zI 60, zI 60]) rfl ?_
  exact k_return d0_init_67 rfl rfl rfl (Nat.le_of_ble_eq_true rfl) (Nat.le_of_ble_eq_true rfl)
theorem hC_eq {F F' : Nat → Int32} {A A' : Nat → Nat → Int32} (h1 : F = F') (h2 : A = A') : hC F A = hC F' A' := by rw [h1, h2]
section FG
variable {f : Nat → Nat} {a : Nat → Nat → Nat}
theorem m2_forget0_2 : ∀ (n i : Nat), 6 - i < n → i ≤ 6 →
    k_W Y2_forgetAll none (.inl none, hC (cF f) (cA (rowA a 18 (flR (a 18) (fun c => c) 6))), 0, 0) (58, [(1, .int (nI i)), (0, .ref 0)], [], hC (cF f) (cA (rowA a 18 (flR (a 18) (fun c => c) i))), 0, 0) := by
  intro n
  induction n with
  | zero => intro i h; omega
  | succ n ih =>
    intro i hn hi
    refine k_go 99 [58] T2_forgetAll_ok (fun K hK => ?_)
    refine b_ge (a := i) (b := 6) (by omega) (by omega) (fun h => ?_) (fun h => ?_)
    · have e : i = 6 := by omega
      subst e
      refine hK _ ?_
      exact k_return d2_forgetAll_77 rfl rfl rfl (Nat.le_refl _) (Nat.le_refl _)
    · refine k_at (j := i) (by omega) ?_
      refine k_eq (z := nI (i + 1)) (nI_add i 1) ?_
      refine hK _ ?_
      refine k_heq (hC_eq rfl ((cA_up (rowA a 18 (flR (a 18) (fun c => c) i)) 18 i i).trans (congrArg cA ((up2_row a 18 i i _).trans (congrArg (rowA a 18) (flR_s (a 18) (fun c => c) i)))))) ?_
      exact ih (i + 1) (by omega) (by omega)
theorem m2_forget0_1 : ∀ (n i : Nat), 1000 - i < n → i ≤ 1000 →
    k_W Y2_forgetAll none (.inl none, hC (cF f) (cA (fgA a)), 0, 0) (36, [(1, .int (nI i)), (0, .ref 0)], [], hC (cF f) (cA (rowA a 17 (flR (a 17) (fun _ => 0) i))), 0, 0) := by
  intro n
  induction n with
  | zero => intro i h; omega
  | succ n ih =>
    intro i hn hi
    refine k_go 99 [36, 58] T2_forgetAll_ok (fun K hK => ?_)
    refine b_ge (a := i) (b := 1000) (by omega) (by omega) (fun h => ?_) (fun h => ?_)
    · have e : i = 1000 := by omega
      subst e
      refine hK _ ?_
      have := m2_forget0_2 (f := f) (a := rowA a 17 (flR (a 17) (fun _ => 0) 1000))  7 0 (by omega) (by omega)
      rw [flR_0, rowA_self] at this
      exact this
    · refine And.intro (Or.inl rfl) ?_
      refine k_at (j := i) (by omega) ?_
      refine k_eq (z := nI (i + 1)) (nI_add i 1) ?_
      refine hK _ ?_
      refine k_heq (hC_eq rfl ((cA_up (rowA a 17 (flR (a 17) (fun _ => 0) i)) 17 i 0).trans (congrArg cA ((up2_row a 17 i 0 _).trans (congrArg (rowA a 17) (flR_s (a 17) (fun _ => 0) i)))))) ?_
      exact ih (i + 1) (by omega) (by omega)
theorem m2_forget0 : k_Met Y2_forgetAll [.ref 0] (hC (cF f) (cA a)) (.inl none, hC (cF (fgF f)) (cA (fgA a)), 0, 0) := by
  refine k_intro (by decide +kernel) rfl rfl rfl ?_
  refine k_go 99 [36] T2_forgetAll_ok (fun K hK => ?_)
  refine hK _ ?_
  refine k_heq (hC_eq (cF_up' (v := 0) (k := 4) (cF_up' (v := 0) (k := 3) (cF_up' (v := 0) (k := 2) (cF_up' (v := 0) (k := 1) (cF_up' (f := f) (k := 0) (v := 0) rfl))))) rfl) ?_
  have := m2_forget0_1 (f := fgF f) (a := a)  1001 0 (by omega) (by omega)
  rw [flR_0, rowA_self] at this
  exact this
end FG
theorem dp2_init_14 : decode (k_cc Y2_init) 14 = .ok (.putfield 14, 3) := by decide +kernel
theorem dp2_init_27 : decode (k_cc Y2_init) 27 = .ok (.putfield 18, 3) := by decide +kernel
theorem dp2_init_40 : decode (k_cc Y2_init) 40 = .ok (.putfield 24, 3) := by decide +kernel
theorem dp2_init_49 : decode (k_cc Y2_init) 49 = .ok (.putfield 28, 3) := by decide +kernel
theorem dp2_init_57 : decode (k_cc Y2_init) 57 = .ok (.putfield 32, 3) := by decide +kernel
theorem dp2_init_65 : decode (k_cc Y2_init) 65 = .ok (.putfield 36, 3) := by decide +kernel
theorem m2_init : k_Met Y2_init [.ref 0] ([.inr (2, [.null, .null, .null, .null, .null, .null, .int 0, .int 0])]) (.inl none, hC (cF (fgF (fun _ => 0))) (cA (fgA (fun _ _ => 0))), 23, 1686) := by
  refine k_intro (by decide +kernel) rfl rfl rfl ?_
  refine k_go 99 [1] T2_init_ok (fun K hK => ?_)
  refine hK _ ?_
  refine k_objInit (by decide +kernel) d2_init_1 rfl rfl rfl ?_
  refine k_go 99 [5] T2_init_ok (fun K hK => ?_)
  refine hK _ ?_
  refine k_new (ci := 1) (z := (RX1, TX1, 6)) (fs := [.int 0, .null, .null, .null, .null, .int 0]) rfl (by decide +kernel) (by decide +kernel) rfl d2_init_5 (Nat.le_of_ble_eq_true rfl) (Nat.le_of_ble_eq_true rfl) rfl rfl rfl rfl ?_
  refine k_heq (h' := [.inr (2, [.null, .null, .null, .null, .null, .null, .int 0, .int 0]), .inr (1, [.int 0, .null, .null, .null, .null, .int 0])]) rfl ?_
  refine k_go 99 [11] T2_init_ok (fun K hK => ?_)
  refine hK _ ?_
  refine k_callI (Y' := Y1_init) (as := [.int (nI 20)]) (st := [.ref 1, .ref 0]) m1_init20 rfl c2_11 rfl rfl d2_init_11 (Nat.le_of_ble_eq_true rfl) (Nat.le_of_ble_eq_true rfl) rfl rfl ?_
  refine k_heq (h' := [.inr (2, [.null, .null, .null, .null, .null, .null, .int 0, .int 0]), .inr (1, [.int (nI 20), .ref 2, .ref 3, .ref 4, .ref 5, .int 0]), zI 20, zI 20, zI 20, zI 20]) rfl ?_
  refine k_putF (q := (2, 0)) (z := (RX2, TX2, 8)) (ty := .object "ChannelRows$Stations") rfl rfl rfl rfl rfl rfl rfl (fun ad => ⟨rfl, rfl⟩) dp2_init_14 rfl rfl (by decide) ?_
  refine k_heq (h' := [.inr (2, [.ref 1, .null, .null, .null, .null, .null, .int 0, .int 0]), .inr (1, [.int (nI 20), .ref 2, .ref 3, .ref 4, .ref 5, .int 0]), zI 20, zI 20, zI 20, zI 20]) rfl ?_
  refine k_go 99 [18] T2_init_ok (fun K hK => ?_)
  refine hK _ ?_
  refine k_new (ci := 1) (z := (RX1, TX1, 6)) (fs := [.int 0, .null, .null, .null, .null, .int 0]) rfl (by decide +kernel) (by decide +kernel) rfl d2_init_18 (Nat.le_of_ble_eq_true rfl) (Nat.le_of_ble_eq_true rfl) rfl rfl rfl rfl ?_
  refine k_heq (h' := [.inr (2, [.ref 1, .null, .null, .null, .null, .null, .int 0, .int 0]), .inr (1, [.int (nI 20), .ref 2, .ref 3, .ref 4, .ref 5, .int 0]), zI 20, zI 20, zI 20, zI 20, .inr (1, [.int 0, .null, .null, .null, .null, .int 0])]) rfl ?_
  refine k_go 99 [24] T2_init_ok (fun K hK => ?_)
  refine hK _ ?_
  refine k_callI (Y' := Y1_init) (as := [.int (nI 8)]) (st := [.ref 6, .ref 0]) m1_init8 rfl c2_11 rfl rfl d2_init_24 (Nat.le_of_ble_eq_true rfl) (Nat.le_of_ble_eq_true rfl) rfl rfl ?_
  refine k_heq (h' := [.inr (2, [.ref 1, .null, .null, .null, .null, .null, .int 0, .int 0]), .inr (1, [.int (nI 20), .ref 2, .ref 3, .ref 4, .ref 5, .int 0]), zI 20, zI 20, zI 20, zI 20, .inr (1, [.int (nI 8), .ref 7, .ref 8, .ref 9, .ref 10, .int 0]), zI 8, zI 8, zI 8, zI 8]) rfl ?_
  refine k_putF (q := (2, 1)) (z := (RX2, TX2, 8)) (ty := .object "ChannelRows$Stations") rfl rfl rfl rfl rfl rfl rfl (fun ad => ⟨rfl, rfl⟩) dp2_init_27 rfl rfl (by decide) ?_
  refine k_heq (h' := [.inr (2, [.ref 1, .ref 6, .null, .null, .null, .null, .int 0, .int 0]), .inr (1, [.int (nI 20), .ref 2, .ref 3, .ref 4, .ref 5, .int 0]), zI 20, zI 20, zI 20, zI 20, .inr (1, [.int (nI 8), .ref 7, .ref 8, .ref 9, .ref 10, .int 0]), zI 8, zI 8, zI 8, zI 8]) rfl ?_
  refine k_go 99 [31] T2_init_ok (fun K hK => ?_)
  refine hK _ ?_
  refine k_new (ci := 0) (z := (RX0, TX0, 10)) (fs := [.null, .null, .null, .null, .null, .null, .null, .null, .null, .int 0]) rfl (by decide +kernel) (by decide +kernel) rfl d2_init_31 (Nat.le_of_ble_eq_true rfl) (Nat.le_of_ble_eq_true rfl) rfl rfl rfl rfl ?_
  refine k_heq (h' := [.inr (2, [.ref 1, .ref 6, .null, .null, .null, .null, .int 0, .int 0]), .inr (1, [.int (nI 20), .ref 2, .ref 3, .ref 4, .ref 5, .int 0]), zI 20, zI 20, zI 20, zI 20, .inr (1, [.int (nI 8), .ref 7, .ref 8, .ref 9, .ref 10, .int 0]), zI 8, zI 8, zI 8, zI 8, .inr (0, [.null, .null, .null, .null, .null, .null, .null, .null, .null, .int 0])]) rfl ?_
  refine k_go 99 [37] T2_init_ok (fun K hK => ?_)
  refine hK _ ?_
  refine k_callI (Y' := Y0_init) (as := [.int (nI 60)]) (st := [.ref 11, .ref 0]) m0_init60 rfl c2_23 rfl rfl d2_init_37 (Nat.le_of_ble_eq_true rfl) (Nat.le_of_ble_eq_true rfl) rfl rfl ?_
  refine k_heq (h' := [.inr (2, [.ref 1, .ref 6, .null, .null, .null, .null, .int 0, .int 0]), .inr (1, [.int (nI 20), .ref 2, .ref 3, .ref 4, .ref 5, .int 0]), zI 20, zI 20, zI 20, zI 20, .inr (1, [.int (nI 8), .ref 7, .ref 8, .ref 9, .ref 10, .int 0]), zI 8, zI 8, zI 8, zI 8, .inr (0, [.ref 12, .ref 13, .ref 14, .ref 15, .ref 16, .ref 17, .ref 18, .ref 19, .ref 20, .int 0]), zI 60, zI 60, zI 60, zI 60, zI 60, zI 60, zI 60, zI 60, zI 60]) rfl ?_
  refine k_putF (q := (2, 2)) (z := (RX2, TX2, 8)) (ty := .object "ChannelRows$Messages") rfl rfl rfl rfl rfl rfl rfl (fun ad => ⟨rfl, rfl⟩) dp2_init_40 rfl rfl (by decide) ?_
  refine k_heq (h' := [.inr (2, [.ref 1, .ref 6, .ref 11, .null, .null, .null, .int 0, .int 0]), .inr (1, [.int (nI 20), .ref 2, .ref 3, .ref 4, .ref 5, .int 0]), zI 20, zI 20, zI 20, zI 20, .inr (1, [.int (nI 8), .ref 7, .ref 8, .ref 9, .ref 10, .int 0]), zI 8, zI 8, zI 8, zI 8, .inr (0, [.ref 12, .ref 13, .ref 14, .ref 15, .ref 16, .ref 17, .ref 18, .ref 19, .ref 20, .int 0]), zI 60, zI 60, zI 60, zI 60, zI 60, zI 60, zI 60, zI 60, zI 60]) rfl ?_
  refine k_go 99 [47] T2_init_ok (fun K hK => ?_)
  refine hK _ ?_
  refine k_newB (N := 1000) rfl d2_init_47 (Nat.le_of_ble_eq_true rfl) (Nat.le_of_ble_eq_true rfl) rfl rfl rfl rfl ?_
  refine k_heq (h' := [.inr (2, [.ref 1, .ref 6, .ref 11, .null, .null, .null, .int 0, .int 0]), .inr (1, [.int (nI 20), .ref 2, .ref 3, .ref 4, .ref 5, .int 0]), zI 20, zI 20, zI 20, zI 20, .inr (1, [.int (nI 8), .ref 7, .ref 8, .ref 9, .ref 10, .int 0]), zI 8, zI 8, zI 8, zI 8, .inr (0, [.ref 12, .ref 13, .ref 14, .ref 15, .ref 16, .ref 17, .ref 18, .ref 19, .ref 20, .int 0]), zI 60, zI 60, zI 60, zI 60, zI 60, zI 60, zI 60, zI 60, zI 60, zB 1000]) rfl ?_
  refine k_putF (q := (2, 3)) (z := (RX2, TX2, 8)) (ty := .array .boolean) rfl rfl rfl rfl rfl rfl rfl (fun ad => ⟨rfl, rfl⟩) dp2_init_49 rfl rfl (by decide) ?_
  refine k_heq (h' := [.inr (2, [.ref 1, .ref 6, .ref 11, .ref 21, .null, .null, .int 0, .int 0]), .inr (1, [.int (nI 20), .ref 2, .ref 3, .ref 4, .ref 5, .int 0]), zI 20, zI 20, zI 20, zI 20, .inr (1, [.int (nI 8), .ref 7, .ref 8, .ref 9, .ref 10, .int 0]), zI 8, zI 8, zI 8, zI 8, .inr (0, [.ref 12, .ref 13, .ref 14, .ref 15, .ref 16, .ref 17, .ref 18, .ref 19, .ref 20, .int 0]), zI 60, zI 60, zI 60, zI 60, zI 60, zI 60, zI 60, zI 60, zI 60, zB 1000]) rfl ?_
  refine k_go 99 [55] T2_init_ok (fun K hK => ?_)
  refine hK _ ?_
  refine k_newI (N := 6) rfl d2_init_55 (Nat.le_of_ble_eq_true rfl) (Nat.le_of_ble_eq_true rfl) rfl rfl rfl rfl ?_
  refine k_heq (h' := [.inr (2, [.ref 1, .ref 6, .ref 11, .ref 21, .null, .null, .int 0, .int 0]), .inr (1, [.int (nI 20), .ref 2, .ref 3, .ref 4, .ref 5, .int 0]), zI 20, zI 20, zI 20, zI 20, .inr (1, [.int (nI 8), .ref 7, .ref 8, .ref 9, .ref 10, .int 0]), zI 8, zI 8, zI 8, zI 8, .inr (0, [.ref 12, .ref 13, .ref 14, .ref 15, .ref 16, .ref 17, .ref 18, .ref 19, .ref 20, .int 0]), zI 60, zI 60, zI 60, zI 60, zI 60, zI 60, zI 60, zI 60, zI 60, zB 1000, zI 6]) rfl ?_
  refine k_putF (q := (2, 4)) (z := (RX2, TX2, 8)) (ty := .array .int) rfl rfl rfl rfl rfl rfl rfl (fun ad => ⟨rfl, rfl⟩) dp2_init_57 rfl rfl (by decide) ?_
  refine k_heq (h' := [.inr (2, [.ref 1, .ref 6, .ref 11, .ref 21, .ref 22, .null, .int 0, .int 0]), .inr (1, [.int (nI 20), .ref 2, .ref 3, .ref 4, .ref 5, .int 0]), zI 20, zI 20, zI 20, zI 20, .inr (1, [.int (nI 8), .ref 7, .ref 8, .ref 9, .ref 10, .int 0]), zI 8, zI 8, zI 8, zI 8, .inr (0, [.ref 12, .ref 13, .ref 14, .ref 15, .ref 16, .ref 17, .ref 18, .ref 19, .ref 20, .int 0]), zI 60, zI 60, zI 60, zI 60, zI 60, zI 60, zI 60, zI 60, zI 60, zB 1000, zI 6]) rfl ?_
  refine k_go 99 [63] T2_init_ok (fun K hK => ?_)
  refine hK _ ?_
  refine k_newI (N := 6) rfl d2_init_63 (Nat.le_of_ble_eq_true rfl) (Nat.le_of_ble_eq_true rfl) rfl rfl rfl rfl ?_
  refine k_heq (h' := [.inr (2, [.ref 1, .ref 6, .ref 11, .ref 21, .ref 22, .null, .int 0, .int 0]), .inr (1, [.int (nI 20), .ref 2, .ref 3, .ref 4, .ref 5, .int 0]), zI 20, zI 20, zI 20, zI 20, .inr (1, [.int (nI 8), .ref 7, .ref 8, .ref 9, .ref 10, .int 0]), zI 8, zI 8, zI 8, zI 8, .inr (0, [.ref 12, .ref 13, .ref 14, .ref 15, .ref 16, .ref 17, .ref 18, .ref 19, .ref 20, .int 0]), zI 60, zI 60, zI 60, zI 60, zI 60, zI 60, zI 60, zI 60, zI 60, zB 1000, zI 6, zI 6]) rfl ?_
  refine k_putF (q := (2, 5)) (z := (RX2, TX2, 8)) (ty := .array .int) rfl rfl rfl rfl rfl rfl rfl (fun ad => ⟨rfl, rfl⟩) dp2_init_65 rfl rfl (by decide) ?_
  refine k_heq (h' := [.inr (2, [.ref 1, .ref 6, .ref 11, .ref 21, .ref 22, .ref 23, .int 0, .int 0]), .inr (1, [.int (nI 20), .ref 2, .ref 3, .ref 4, .ref 5, .int 0]), zI 20, zI 20, zI 20, zI 20, .inr (1, [.int (nI 8), .ref 7, .ref 8, .ref 9, .ref 10, .int 0]), zI 8, zI 8, zI 8, zI 8, .inr (0, [.ref 12, .ref 13, .ref 14, .ref 15, .ref 16, .ref 17, .ref 18, .ref 19, .ref 20, .int 0]), zI 60, zI 60, zI 60, zI 60, zI 60, zI 60, zI 60, zI 60, zI 60, zB 1000, zI 6, zI 6]) rfl ?_
  refine k_go 99 [69] T2_init_ok (fun K hK => ?_)
  refine hK _ ?_
  refine k_heq (h' := hC (cF (fun _ => 0)) (cA (fun _ _ => 0))) rfl ?_
  refine k_callV (Y' := Y2_forgetAll) (as := []) (st := []) m2_forget0 rfl c2_39 rfl rfl rfl d2_init_69 (Nat.le_of_ble_eq_true rfl) (Nat.le_of_ble_eq_true rfl) rfl rfl ?_
  exact k_return d2_init_72 rfl rfl rfl (Nat.le_of_ble_eq_true rfl) (Nat.le_of_ble_eq_true rfl)
theorem dp3_init_9 : decode (k_cc Y3_init) 9 = .ok (.putfield 7, 3) := by decide +kernel
theorem dp3_init_17 : decode (k_cc Y3_init) 17 = .ok (.putfield 13, 3) := by decide +kernel
theorem dp3_init_25 : decode (k_cc Y3_init) 25 = .ok (.putfield 16, 3) := by decide +kernel
theorem dp3_init_33 : decode (k_cc Y3_init) 33 = .ok (.putfield 19, 3) := by decide +kernel
theorem dp3_init_41 : decode (k_cc Y3_init) 41 = .ok (.putfield 22, 3) := by decide +kernel
theorem dp3_init_49 : decode (k_cc Y3_init) 49 = .ok (.putfield 25, 3) := by decide +kernel
theorem dp3_init_57 : decode (k_cc Y3_init) 57 = .ok (.putfield 28, 3) := by decide +kernel
theorem dp3_init_65 : decode (k_cc Y3_init) 65 = .ok (.putfield 31, 3) := by decide +kernel
theorem dp3_init_73 : decode (k_cc Y3_init) 73 = .ok (.putfield 34, 3) := by decide +kernel
theorem dp3_init_81 : decode (k_cc Y3_init) 81 = .ok (.putfield 37, 3) := by decide +kernel
theorem dp3_init_89 : decode (k_cc Y3_init) 89 = .ok (.putfield 40, 3) := by decide +kernel
theorem dp3_init_97 : decode (k_cc Y3_init) 97 = .ok (.putfield 43, 3) := by decide +kernel
theorem dp3_init_105 : decode (k_cc Y3_init) 105 = .ok (.putfield 46, 3) := by decide +kernel
theorem dp3_init_113 : decode (k_cc Y3_init) 113 = .ok (.putfield 49, 3) := by decide +kernel
theorem dp3_init_122 : decode (k_cc Y3_init) 122 = .ok (.putfield 52, 3) := by decide +kernel
theorem dp3_init_131 : decode (k_cc Y3_init) 131 = .ok (.putfield 56, 3) := by decide +kernel
theorem dp3_init_140 : decode (k_cc Y3_init) 140 = .ok (.putfield 59, 3) := by decide +kernel
theorem dp3_init_148 : decode (k_cc Y3_init) 148 = .ok (.putfield 62, 3) := by decide +kernel
theorem dp3_init_156 : decode (k_cc Y3_init) 156 = .ok (.putfield 65, 3) := by decide +kernel
section IM
variable {F : Nat → Int32} {A : Nat → Nat → Int32} {g : Nat → Nat} {b : Nat → Nat → Nat}
theorem hM_eq {G G' : Nat → Int32} {B B' : Nat → Nat → Int32} (h1 : G = G') (h2 : B = B') : hC F A ++ hM G B = hC F A ++ hM G' B' := by rw [h1, h2]
theorem m3_init_loop : ∀ (n i : Nat), 6 - i < n → i ≤ 6 →
    k_W Y3_init none (.inl none, hC F A ++ hM (cF g) (cA (rowA b 0 (flR (b 0) (fun c => c) 6))), 19, 3538) (161, [(1, .int (nI i)), (0, .ref 24)], [], hC F A ++ hM (cF g) (cA (rowA b 0 (flR (b 0) (fun c => c) i))), 19, 3538) := by
  intro n
  induction n with
  | zero => intro i h; omega
  | succ n ih =>
    intro i hn hi
    refine k_go 99 [161] T3_init_ok (fun K hK => ?_)
    refine b_ge (a := i) (b := 6) (by omega) (by omega) (fun h => ?_) (fun h => ?_)
    · have e : i = 6 := by omega
      subst e
      refine hK _ ?_
      exact k_return d3_init_180 rfl rfl rfl (Nat.le_refl _) (Nat.le_refl _)
    · refine k_at (j := i) (by omega) ?_
      refine k_eq (z := nI (i + 1)) (nI_add i 1) ?_
      refine hK _ ?_
      refine k_heq (hM_eq rfl ((cA_up (rowA b 0 (flR (b 0) (fun c => c) i)) 0 i i).trans (congrArg cA ((up2_row b 0 i i _).trans (congrArg (rowA b 0) (flR_s (b 0) (fun c => c) i)))))) ?_
      exact ih (i + 1) (by omega) (by omega)
theorem m3_init : k_Met Y3_init [.ref 24] (hC F A ++ [.inr (3, [.int 0, .int 0, .int 0, .null, .int 0, .null, .null, .null, .null, .int 0, .null, .null, .null, .null, .int 0, .null, .null, .null, .null, .null, .null, .null, .null, .null, .null])]) (.inl none, hC F A ++ hM (cF (fun _ => 0)) (cA (rowA (fun _ _ => 0) 0 (flR (fun _ => 0) (fun c => c) 6))), 19, 3538) := by
  refine k_intro (by decide +kernel) rfl rfl rfl ?_
  have lo := m3_init_loop (F := F) (A := A) (g := (fun _ => 0)) (b := (fun _ _ => 0)) 7 0 (by omega) (by omega)
  rw [flR_0, rowA_self] at lo
  refine k_go 99 [1] T3_init_ok (fun K hK => ?_)
  refine hK _ ?_
  refine k_objInit (by decide +kernel) d3_init_1 rfl rfl rfl ?_
  refine k_go 99 [7] T3_init_ok (fun K hK => ?_)
  refine hK _ ?_
  refine k_newI (N := 6) rfl d3_init_7 (Nat.le_of_ble_eq_true rfl) (Nat.le_of_ble_eq_true rfl) rfl rfl rfl rfl ?_
  refine k_heq (h' := hC F A ++ [.inr (3, [.int 0, .int 0, .int 0, .null, .int 0, .null, .null, .null, .null, .int 0, .null, .null, .null, .null, .int 0, .null, .null, .null, .null, .null, .null, .null, .null, .null, .null]), zI 6]) rfl ?_
  refine k_putF (q := (3, 3)) (z := (RX3, TX3, 25)) (ty := .array .int) rfl rfl rfl rfl rfl rfl rfl (fun ad => ⟨rfl, rfl⟩) dp3_init_9 rfl rfl (by decide) ?_
  refine k_heq (h' := hC F A ++ [.inr (3, [.int 0, .int 0, .int 0, .ref 25, .int 0, .null, .null, .null, .null, .int 0, .null, .null, .null, .null, .int 0, .null, .null, .null, .null, .null, .null, .null, .null, .null, .null]), zI 6]) rfl ?_
  refine k_go 99 [15] T3_init_ok (fun K hK => ?_)
  refine hK _ ?_
  refine k_newI (N := 20) rfl d3_init_15 (Nat.le_of_ble_eq_true rfl) (Nat.le_of_ble_eq_true rfl) rfl rfl rfl rfl ?_
  refine k_heq (h' := hC F A ++ [.inr (3, [.int 0, .int 0, .int 0, .ref 25, .int 0, .null, .null, .null, .null, .int 0, .null, .null, .null, .null, .int 0, .null, .null, .null, .null, .null, .null, .null, .null, .null, .null]), zI 6, zI 20]) rfl ?_
  refine k_putF (q := (3, 5)) (z := (RX3, TX3, 25)) (ty := .array .int) rfl rfl rfl rfl rfl rfl rfl (fun ad => ⟨rfl, rfl⟩) dp3_init_17 rfl rfl (by decide) ?_
  refine k_heq (h' := hC F A ++ [.inr (3, [.int 0, .int 0, .int 0, .ref 25, .int 0, .ref 26, .null, .null, .null, .int 0, .null, .null, .null, .null, .int 0, .null, .null, .null, .null, .null, .null, .null, .null, .null, .null]), zI 6, zI 20]) rfl ?_
  refine k_go 99 [23] T3_init_ok (fun K hK => ?_)
  refine hK _ ?_
  refine k_newI (N := 20) rfl d3_init_23 (Nat.le_of_ble_eq_true rfl) (Nat.le_of_ble_eq_true rfl) rfl rfl rfl rfl ?_
  refine k_heq (h' := hC F A ++ [.inr (3, [.int 0, .int 0, .int 0, .ref 25, .int 0, .ref 26, .null, .null, .null, .int 0, .null, .null, .null, .null, .int 0, .null, .null, .null, .null, .null, .null, .null, .null, .null, .null]), zI 6, zI 20, zI 20]) rfl ?_
  refine k_putF (q := (3, 6)) (z := (RX3, TX3, 25)) (ty := .array .int) rfl rfl rfl rfl rfl rfl rfl (fun ad => ⟨rfl, rfl⟩) dp3_init_25 rfl rfl (by decide) ?_
  refine k_heq (h' := hC F A ++ [.inr (3, [.int 0, .int 0, .int 0, .ref 25, .int 0, .ref 26, .ref 27, .null, .null, .int 0, .null, .null, .null, .null, .int 0, .null, .null, .null, .null, .null, .null, .null, .null, .null, .null]), zI 6, zI 20, zI 20]) rfl ?_
  refine k_go 99 [31] T3_init_ok (fun K hK => ?_)
  refine hK _ ?_
  refine k_newI (N := 20) rfl d3_init_31 (Nat.le_of_ble_eq_true rfl) (Nat.le_of_ble_eq_true rfl) rfl rfl rfl rfl ?_
  refine k_heq (h' := hC F A ++ [.inr (3, [.int 0, .int 0, .int 0, .ref 25, .int 0, .ref 26, .ref 27, .null, .null, .int 0, .null, .null, .null, .null, .int 0, .null, .null, .null, .null, .null, .null, .null, .null, .null, .null]), zI 6, zI 20, zI 20, zI 20]) rfl ?_
  refine k_putF (q := (3, 7)) (z := (RX3, TX3, 25)) (ty := .array .int) rfl rfl rfl rfl rfl rfl rfl (fun ad => ⟨rfl, rfl⟩) dp3_init_33 rfl rfl (by decide) ?_
  refine k_heq (h' := hC F A ++ [.inr (3, [.int 0, .int 0, .int 0, .ref 25, .int 0, .ref 26, .ref 27, .ref 28, .null, .int 0, .null, .null, .null, .null, .int 0, .null, .null, .null, .null, .null, .null, .null, .null, .null, .null]), zI 6, zI 20, zI 20, zI 20]) rfl ?_
  refine k_go 99 [39] T3_init_ok (fun K hK => ?_)
  refine hK _ ?_
  refine k_newI (N := 20) rfl d3_init_39 (Nat.le_of_ble_eq_true rfl) (Nat.le_of_ble_eq_true rfl) rfl rfl rfl rfl ?_
  refine k_heq (h' := hC F A ++ [.inr (3, [.int 0, .int 0, .int 0, .ref 25, .int 0, .ref 26, .ref 27, .ref 28, .null, .int 0, .null, .null, .null, .null, .int 0, .null, .null, .null, .null, .null, .null, .null, .null, .null, .null]), zI 6, zI 20, zI 20, zI 20, zI 20]) rfl ?_
  refine k_putF (q := (3, 8)) (z := (RX3, TX3, 25)) (ty := .array .int) rfl rfl rfl rfl rfl rfl rfl (fun ad => ⟨rfl, rfl⟩) dp3_init_41 rfl rfl (by decide) ?_
  refine k_heq (h' := hC F A ++ [.inr (3, [.int 0, .int 0, .int 0, .ref 25, .int 0, .ref 26, .ref 27, .ref 28, .ref 29, .int 0, .null, .null, .null, .null, .int 0, .null, .null, .null, .null, .null, .null, .null, .null, .null, .null]), zI 6, zI 20, zI 20, zI 20, zI 20]) rfl ?_
  refine k_go 99 [47] T3_init_ok (fun K hK => ?_)
  refine hK _ ?_
  refine k_newI (N := 8) rfl d3_init_47 (Nat.le_of_ble_eq_true rfl) (Nat.le_of_ble_eq_true rfl) rfl rfl rfl rfl ?_
  refine k_heq (h' := hC F A ++ [.inr (3, [.int 0, .int 0, .int 0, .ref 25, .int 0, .ref 26, .ref 27, .ref 28, .ref 29, .int 0, .null, .null, .null, .null, .int 0, .null, .null, .null, .null, .null, .null, .null, .null, .null, .null]), zI 6, zI 20, zI 20, zI 20, zI 20, zI 8]) rfl ?_
  refine k_putF (q := (3, 10)) (z := (RX3, TX3, 25)) (ty := .array .int) rfl rfl rfl rfl rfl rfl rfl (fun ad => ⟨rfl, rfl⟩) dp3_init_49 rfl rfl (by decide) ?_
  refine k_heq (h' := hC F A ++ [.inr (3, [.int 0, .int 0, .int 0, .ref 25, .int 0, .ref 26, .ref 27, .ref 28, .ref 29, .int 0, .ref 30, .null, .null, .null, .int 0, .null, .null, .null, .null, .null, .null, .null, .null, .null, .null]), zI 6, zI 20, zI 20, zI 20, zI 20, zI 8]) rfl ?_
  refine k_go 99 [55] T3_init_ok (fun K hK => ?_)
  refine hK _ ?_
  refine k_newI (N := 8) rfl d3_init_55 (Nat.le_of_ble_eq_true rfl) (Nat.le_of_ble_eq_true rfl) rfl rfl rfl rfl ?_
  refine k_heq (h' := hC F A ++ [.inr (3, [.int 0, .int 0, .int 0, .ref 25, .int 0, .ref 26, .ref 27, .ref 28, .ref 29, .int 0, .ref 30, .null, .null, .null, .int 0, .null, .null, .null, .null, .null, .null, .null, .null, .null, .null]), zI 6, zI 20, zI 20, zI 20, zI 20, zI 8, zI 8]) rfl ?_
  refine k_putF (q := (3, 11)) (z := (RX3, TX3, 25)) (ty := .array .int) rfl rfl rfl rfl rfl rfl rfl (fun ad => ⟨rfl, rfl⟩) dp3_init_57 rfl rfl (by decide) ?_
  refine k_heq (h' := hC F A ++ [.inr (3, [.int 0, .int 0, .int 0, .ref 25, .int 0, .ref 26, .ref 27, .ref 28, .ref 29, .int 0, .ref 30, .ref 31, .null, .null, .int 0, .null, .null, .null, .null, .null, .null, .null, .null, .null, .null]), zI 6, zI 20, zI 20, zI 20, zI 20, zI 8, zI 8]) rfl ?_
  refine k_go 99 [63] T3_init_ok (fun K hK => ?_)
  refine hK _ ?_
  refine k_newI (N := 8) rfl d3_init_63 (Nat.le_of_ble_eq_true rfl) (Nat.le_of_ble_eq_true rfl) rfl rfl rfl rfl ?_
  refine k_heq (h' := hC F A ++ [.inr (3, [.int 0, .int 0, .int 0, .ref 25, .int 0, .ref 26, .ref 27, .ref 28, .ref 29, .int 0, .ref 30, .ref 31, .null, .null, .int 0, .null, .null, .null, .null, .null, .null, .null, .null, .null, .null]), zI 6, zI 20, zI 20, zI 20, zI 20, zI 8, zI 8, zI 8]) rfl ?_
  refine k_putF (q := (3, 12)) (z := (RX3, TX3, 25)) (ty := .array .int) rfl rfl rfl rfl rfl rfl rfl (fun ad => ⟨rfl, rfl⟩) dp3_init_65 rfl rfl (by decide) ?_
  refine k_heq (h' := hC F A ++ [.inr (3, [.int 0, .int 0, .int 0, .ref 25, .int 0, .ref 26, .ref 27, .ref 28, .ref 29, .int 0, .ref 30, .ref 31, .ref 32, .null, .int 0, .null, .null, .null, .null, .null, .null, .null, .null, .null, .null]), zI 6, zI 20, zI 20, zI 20, zI 20, zI 8, zI 8, zI 8]) rfl ?_
  refine k_go 99 [71] T3_init_ok (fun K hK => ?_)
  refine hK _ ?_
  refine k_newI (N := 8) rfl d3_init_71 (Nat.le_of_ble_eq_true rfl) (Nat.le_of_ble_eq_true rfl) rfl rfl rfl rfl ?_
  refine k_heq (h' := hC F A ++ [.inr (3, [.int 0, .int 0, .int 0, .ref 25, .int 0, .ref 26, .ref 27, .ref 28, .ref 29, .int 0, .ref 30, .ref 31, .ref 32, .null, .int 0, .null, .null, .null, .null, .null, .null, .null, .null, .null, .null]), zI 6, zI 20, zI 20, zI 20, zI 20, zI 8, zI 8, zI 8, zI 8]) rfl ?_
  refine k_putF (q := (3, 13)) (z := (RX3, TX3, 25)) (ty := .array .int) rfl rfl rfl rfl rfl rfl rfl (fun ad => ⟨rfl, rfl⟩) dp3_init_73 rfl rfl (by decide) ?_
  refine k_heq (h' := hC F A ++ [.inr (3, [.int 0, .int 0, .int 0, .ref 25, .int 0, .ref 26, .ref 27, .ref 28, .ref 29, .int 0, .ref 30, .ref 31, .ref 32, .ref 33, .int 0, .null, .null, .null, .null, .null, .null, .null, .null, .null, .null]), zI 6, zI 20, zI 20, zI 20, zI 20, zI 8, zI 8, zI 8, zI 8]) rfl ?_
  refine k_go 99 [79] T3_init_ok (fun K hK => ?_)
  refine hK _ ?_
  refine k_newI (N := 60) rfl d3_init_79 (Nat.le_of_ble_eq_true rfl) (Nat.le_of_ble_eq_true rfl) rfl rfl rfl rfl ?_
  refine k_heq (h' := hC F A ++ [.inr (3, [.int 0, .int 0, .int 0, .ref 25, .int 0, .ref 26, .ref 27, .ref 28, .ref 29, .int 0, .ref 30, .ref 31, .ref 32, .ref 33, .int 0, .null, .null, .null, .null, .null, .null, .null, .null, .null, .null]), zI 6, zI 20, zI 20, zI 20, zI 20, zI 8, zI 8, zI 8, zI 8, zI 60]) rfl ?_
  refine k_putF (q := (3, 15)) (z := (RX3, TX3, 25)) (ty := .array .int) rfl rfl rfl rfl rfl rfl rfl (fun ad => ⟨rfl, rfl⟩) dp3_init_81 rfl rfl (by decide) ?_
  refine k_heq (h' := hC F A ++ [.inr (3, [.int 0, .int 0, .int 0, .ref 25, .int 0, .ref 26, .ref 27, .ref 28, .ref 29, .int 0, .ref 30, .ref 31, .ref 32, .ref 33, .int 0, .ref 34, .null, .null, .null, .null, .null, .null, .null, .null, .null]), zI 6, zI 20, zI 20, zI 20, zI 20, zI 8, zI 8, zI 8, zI 8, zI 60]) rfl ?_
  refine k_go 99 [87] T3_init_ok (fun K hK => ?_)
  refine hK _ ?_
  refine k_newI (N := 60) rfl d3_init_87 (Nat.le_of_ble_eq_true rfl) (Nat.le_of_ble_eq_true rfl) rfl rfl rfl rfl ?_
  refine k_heq (h' := hC F A ++ [.inr (3, [.int 0, .int 0, .int 0, .ref 25, .int 0, .ref 26, .ref 27, .ref 28, .ref 29, .int 0, .ref 30, .ref 31, .ref 32, .ref 33, .int 0, .ref 34, .null, .null, .null, .null, .null, .null, .null, .null, .null]), zI 6, zI 20, zI 20, zI 20, zI 20, zI 8, zI 8, zI 8, zI 8, zI 60, zI 60]) rfl ?_
  refine k_putF (q := (3, 16)) (z := (RX3, TX3, 25)) (ty := .array .int) rfl rfl rfl rfl rfl rfl rfl (fun ad => ⟨rfl, rfl⟩) dp3_init_89 rfl rfl (by decide) ?_
  refine k_heq (h' := hC F A ++ [.inr (3, [.int 0, .int 0, .int 0, .ref 25, .int 0, .ref 26, .ref 27, .ref 28, .ref 29, .int 0, .ref 30, .ref 31, .ref 32, .ref 33, .int 0, .ref 34, .ref 35, .null, .null, .null, .null, .null, .null, .null, .null]), zI 6, zI 20, zI 20, zI 20, zI 20, zI 8, zI 8, zI 8, zI 8, zI 60, zI 60]) rfl ?_
  refine k_go 99 [95] T3_init_ok (fun K hK => ?_)
  refine hK _ ?_
  refine k_newI (N := 60) rfl d3_init_95 (Nat.le_of_ble_eq_true rfl) (Nat.le_of_ble_eq_true rfl) rfl rfl rfl rfl ?_
  refine k_heq (h' := hC F A ++ [.inr (3, [.int 0, .int 0, .int 0, .ref 25, .int 0, .ref 26, .ref 27, .ref 28, .ref 29, .int 0, .ref 30, .ref 31, .ref 32, .ref 33, .int 0, .ref 34, .ref 35, .null, .null, .null, .null, .null, .null, .null, .null]), zI 6, zI 20, zI 20, zI 20, zI 20, zI 8, zI 8, zI 8, zI 8, zI 60, zI 60, zI 60]) rfl ?_
  refine k_putF (q := (3, 17)) (z := (RX3, TX3, 25)) (ty := .array .int) rfl rfl rfl rfl rfl rfl rfl (fun ad => ⟨rfl, rfl⟩) dp3_init_97 rfl rfl (by decide) ?_
  refine k_heq (h' := hC F A ++ [.inr (3, [.int 0, .int 0, .int 0, .ref 25, .int 0, .ref 26, .ref 27, .ref 28, .ref 29, .int 0, .ref 30, .ref 31, .ref 32, .ref 33, .int 0, .ref 34, .ref 35, .ref 36, .null, .null, .null, .null, .null, .null, .null]), zI 6, zI 20, zI 20, zI 20, zI 20, zI 8, zI 8, zI 8, zI 8, zI 60, zI 60, zI 60]) rfl ?_
  refine k_go 99 [103] T3_init_ok (fun K hK => ?_)
  refine hK _ ?_
  refine k_newI (N := 60) rfl d3_init_103 (Nat.le_of_ble_eq_true rfl) (Nat.le_of_ble_eq_true rfl) rfl rfl rfl rfl ?_
  refine k_heq (h' := hC F A ++ [.inr (3, [.int 0, .int 0, .int 0, .ref 25, .int 0, .ref 26, .ref 27, .ref 28, .ref 29, .int 0, .ref 30, .ref 31, .ref 32, .ref 33, .int 0, .ref 34, .ref 35, .ref 36, .null, .null, .null, .null, .null, .null, .null]), zI 6, zI 20, zI 20, zI 20, zI 20, zI 8, zI 8, zI 8, zI 8, zI 60, zI 60, zI 60, zI 60]) rfl ?_
  refine k_putF (q := (3, 18)) (z := (RX3, TX3, 25)) (ty := .array .int) rfl rfl rfl rfl rfl rfl rfl (fun ad => ⟨rfl, rfl⟩) dp3_init_105 rfl rfl (by decide) ?_
  refine k_heq (h' := hC F A ++ [.inr (3, [.int 0, .int 0, .int 0, .ref 25, .int 0, .ref 26, .ref 27, .ref 28, .ref 29, .int 0, .ref 30, .ref 31, .ref 32, .ref 33, .int 0, .ref 34, .ref 35, .ref 36, .ref 37, .null, .null, .null, .null, .null, .null]), zI 6, zI 20, zI 20, zI 20, zI 20, zI 8, zI 8, zI 8, zI 8, zI 60, zI 60, zI 60, zI 60]) rfl ?_
  refine k_go 99 [111] T3_init_ok (fun K hK => ?_)
  refine hK _ ?_
  refine k_newI (N := 60) rfl d3_init_111 (Nat.le_of_ble_eq_true rfl) (Nat.le_of_ble_eq_true rfl) rfl rfl rfl rfl ?_
  refine k_heq (h' := hC F A ++ [.inr (3, [.int 0, .int 0, .int 0, .ref 25, .int 0, .ref 26, .ref 27, .ref 28, .ref 29, .int 0, .ref 30, .ref 31, .ref 32, .ref 33, .int 0, .ref 34, .ref 35, .ref 36, .ref 37, .null, .null, .null, .null, .null, .null]), zI 6, zI 20, zI 20, zI 20, zI 20, zI 8, zI 8, zI 8, zI 8, zI 60, zI 60, zI 60, zI 60, zI 60]) rfl ?_
  refine k_putF (q := (3, 19)) (z := (RX3, TX3, 25)) (ty := .array .int) rfl rfl rfl rfl rfl rfl rfl (fun ad => ⟨rfl, rfl⟩) dp3_init_113 rfl rfl (by decide) ?_
  refine k_heq (h' := hC F A ++ [.inr (3, [.int 0, .int 0, .int 0, .ref 25, .int 0, .ref 26, .ref 27, .ref 28, .ref 29, .int 0, .ref 30, .ref 31, .ref 32, .ref 33, .int 0, .ref 34, .ref 35, .ref 36, .ref 37, .ref 38, .null, .null, .null, .null, .null]), zI 6, zI 20, zI 20, zI 20, zI 20, zI 8, zI 8, zI 8, zI 8, zI 60, zI 60, zI 60, zI 60, zI 60]) rfl ?_
  refine k_go 99 [120] T3_init_ok (fun K hK => ?_)
  refine hK _ ?_
  refine k_newB (N := 1000) rfl d3_init_120 (Nat.le_of_ble_eq_true rfl) (Nat.le_of_ble_eq_true rfl) rfl rfl rfl rfl ?_
  refine k_heq (h' := hC F A ++ [.inr (3, [.int 0, .int 0, .int 0, .ref 25, .int 0, .ref 26, .ref 27, .ref 28, .ref 29, .int 0, .ref 30, .ref 31, .ref 32, .ref 33, .int 0, .ref 34, .ref 35, .ref 36, .ref 37, .ref 38, .null, .null, .null, .null, .null]), zI 6, zI 20, zI 20, zI 20, zI 20, zI 8, zI 8, zI 8, zI 8, zI 60, zI 60, zI 60, zI 60, zI 60, zB 1000]) rfl ?_
  refine k_putF (q := (3, 20)) (z := (RX3, TX3, 25)) (ty := .array .boolean) rfl rfl rfl rfl rfl rfl rfl (fun ad => ⟨rfl, rfl⟩) dp3_init_122 rfl rfl (by decide) ?_
  refine k_heq (h' := hC F A ++ [.inr (3, [.int 0, .int 0, .int 0, .ref 25, .int 0, .ref 26, .ref 27, .ref 28, .ref 29, .int 0, .ref 30, .ref 31, .ref 32, .ref 33, .int 0, .ref 34, .ref 35, .ref 36, .ref 37, .ref 38, .ref 39, .null, .null, .null, .null]), zI 6, zI 20, zI 20, zI 20, zI 20, zI 8, zI 8, zI 8, zI 8, zI 60, zI 60, zI 60, zI 60, zI 60, zB 1000]) rfl ?_
  refine k_go 99 [129] T3_init_ok (fun K hK => ?_)
  refine hK _ ?_
  refine k_newI (N := 1000) rfl d3_init_129 (Nat.le_of_ble_eq_true rfl) (Nat.le_of_ble_eq_true rfl) rfl rfl rfl rfl ?_
  refine k_heq (h' := hC F A ++ [.inr (3, [.int 0, .int 0, .int 0, .ref 25, .int 0, .ref 26, .ref 27, .ref 28, .ref 29, .int 0, .ref 30, .ref 31, .ref 32, .ref 33, .int 0, .ref 34, .ref 35, .ref 36, .ref 37, .ref 38, .ref 39, .null, .null, .null, .null]), zI 6, zI 20, zI 20, zI 20, zI 20, zI 8, zI 8, zI 8, zI 8, zI 60, zI 60, zI 60, zI 60, zI 60, zB 1000, zI 1000]) rfl ?_
  refine k_putF (q := (3, 21)) (z := (RX3, TX3, 25)) (ty := .array .int) rfl rfl rfl rfl rfl rfl rfl (fun ad => ⟨rfl, rfl⟩) dp3_init_131 rfl rfl (by decide) ?_
  refine k_heq (h' := hC F A ++ [.inr (3, [.int 0, .int 0, .int 0, .ref 25, .int 0, .ref 26, .ref 27, .ref 28, .ref 29, .int 0, .ref 30, .ref 31, .ref 32, .ref 33, .int 0, .ref 34, .ref 35, .ref 36, .ref 37, .ref 38, .ref 39, .ref 40, .null, .null, .null]), zI 6, zI 20, zI 20, zI 20, zI 20, zI 8, zI 8, zI 8, zI 8, zI 60, zI 60, zI 60, zI 60, zI 60, zB 1000, zI 1000]) rfl ?_
  refine k_go 99 [138] T3_init_ok (fun K hK => ?_)
  refine hK _ ?_
  refine k_newI (N := 1000) rfl d3_init_138 (Nat.le_of_ble_eq_true rfl) (Nat.le_of_ble_eq_true rfl) rfl rfl rfl rfl ?_
  refine k_heq (h' := hC F A ++ [.inr (3, [.int 0, .int 0, .int 0, .ref 25, .int 0, .ref 26, .ref 27, .ref 28, .ref 29, .int 0, .ref 30, .ref 31, .ref 32, .ref 33, .int 0, .ref 34, .ref 35, .ref 36, .ref 37, .ref 38, .ref 39, .ref 40, .null, .null, .null]), zI 6, zI 20, zI 20, zI 20, zI 20, zI 8, zI 8, zI 8, zI 8, zI 60, zI 60, zI 60, zI 60, zI 60, zB 1000, zI 1000, zI 1000]) rfl ?_
  refine k_putF (q := (3, 22)) (z := (RX3, TX3, 25)) (ty := .array .int) rfl rfl rfl rfl rfl rfl rfl (fun ad => ⟨rfl, rfl⟩) dp3_init_140 rfl rfl (by decide) ?_
  refine k_heq (h' := hC F A ++ [.inr (3, [.int 0, .int 0, .int 0, .ref 25, .int 0, .ref 26, .ref 27, .ref 28, .ref 29, .int 0, .ref 30, .ref 31, .ref 32, .ref 33, .int 0, .ref 34, .ref 35, .ref 36, .ref 37, .ref 38, .ref 39, .ref 40, .ref 41, .null, .null]), zI 6, zI 20, zI 20, zI 20, zI 20, zI 8, zI 8, zI 8, zI 8, zI 60, zI 60, zI 60, zI 60, zI 60, zB 1000, zI 1000, zI 1000]) rfl ?_
  refine k_go 99 [146] T3_init_ok (fun K hK => ?_)
  refine hK _ ?_
  refine k_newI (N := 60) rfl d3_init_146 (Nat.le_of_ble_eq_true rfl) (Nat.le_of_ble_eq_true rfl) rfl rfl rfl rfl ?_
  refine k_heq (h' := hC F A ++ [.inr (3, [.int 0, .int 0, .int 0, .ref 25, .int 0, .ref 26, .ref 27, .ref 28, .ref 29, .int 0, .ref 30, .ref 31, .ref 32, .ref 33, .int 0, .ref 34, .ref 35, .ref 36, .ref 37, .ref 38, .ref 39, .ref 40, .ref 41, .null, .null]), zI 6, zI 20, zI 20, zI 20, zI 20, zI 8, zI 8, zI 8, zI 8, zI 60, zI 60, zI 60, zI 60, zI 60, zB 1000, zI 1000, zI 1000, zI 60]) rfl ?_
  refine k_putF (q := (3, 23)) (z := (RX3, TX3, 25)) (ty := .array .int) rfl rfl rfl rfl rfl rfl rfl (fun ad => ⟨rfl, rfl⟩) dp3_init_148 rfl rfl (by decide) ?_
  refine k_heq (h' := hC F A ++ [.inr (3, [.int 0, .int 0, .int 0, .ref 25, .int 0, .ref 26, .ref 27, .ref 28, .ref 29, .int 0, .ref 30, .ref 31, .ref 32, .ref 33, .int 0, .ref 34, .ref 35, .ref 36, .ref 37, .ref 38, .ref 39, .ref 40, .ref 41, .ref 42, .null]), zI 6, zI 20, zI 20, zI 20, zI 20, zI 8, zI 8, zI 8, zI 8, zI 60, zI 60, zI 60, zI 60, zI 60, zB 1000, zI 1000, zI 1000, zI 60]) rfl ?_
  refine k_go 99 [154] T3_init_ok (fun K hK => ?_)
  refine hK _ ?_
  refine k_newI (N := 60) rfl d3_init_154 (Nat.le_of_ble_eq_true rfl) (Nat.le_of_ble_eq_true rfl) rfl rfl rfl rfl ?_
  refine k_heq (h' := hC F A ++ [.inr (3, [.int 0, .int 0, .int 0, .ref 25, .int 0, .ref 26, .ref 27, .ref 28, .ref 29, .int 0, .ref 30, .ref 31, .ref 32, .ref 33, .int 0, .ref 34, .ref 35, .ref 36, .ref 37, .ref 38, .ref 39, .ref 40, .ref 41, .ref 42, .null]), zI 6, zI 20, zI 20, zI 20, zI 20, zI 8, zI 8, zI 8, zI 8, zI 60, zI 60, zI 60, zI 60, zI 60, zB 1000, zI 1000, zI 1000, zI 60, zI 60]) rfl ?_
  refine k_putF (q := (3, 24)) (z := (RX3, TX3, 25)) (ty := .array .int) rfl rfl rfl rfl rfl rfl rfl (fun ad => ⟨rfl, rfl⟩) dp3_init_156 rfl rfl (by decide) ?_
  refine k_heq (h' := hC F A ++ [.inr (3, [.int 0, .int 0, .int 0, .ref 25, .int 0, .ref 26, .ref 27, .ref 28, .ref 29, .int 0, .ref 30, .ref 31, .ref 32, .ref 33, .int 0, .ref 34, .ref 35, .ref 36, .ref 37, .ref 38, .ref 39, .ref 40, .ref 41, .ref 42, .ref 43]), zI 6, zI 20, zI 20, zI 20, zI 20, zI 8, zI 8, zI 8, zI 8, zI 60, zI 60, zI 60, zI 60, zI 60, zB 1000, zI 1000, zI 1000, zI 60, zI 60]) rfl ?_
  refine k_go 99 [161] T3_init_ok (fun K hK => ?_)
  refine hK _ ?_
  refine k_heq (h' := hC F A ++ hM (cF (fun _ => 0)) (cA (fun _ _ => 0))) rfl ?_
  exact lo
end IM
