section LL
variable {L : Nat} {xs : Nat → Int32} {G9 : k_G} {i nc ns : Nat} {F : Nat → Int32} {A : Nat → Nat → Int32} {G : Nat → Int32} {B : Nat → Nat → Int32} {o : Nat → Int64}
theorem law_head (hi : i + 5 ≤ L) (hL : L ≤ 2560) (k : k_W Y4_law (some (L, xs)) G9 (39, ls0 i, [.int (xs i &&& nI 15)], hA F A G B o, nc, ns)) : k_W Y4_law (some (L, xs)) G9 (23, ls0 i, [], hA F A G B o, nc, ns) := by
  refine k_go 99 [39, 1164] T4_law0_ok (fun K hK => ?_)
  refine k_eq (z := nI (L - 5)) (pk_sub (a := L) (b := 5) (by omega)) ?_
  refine b_gt (a := i) (b := L - 5) (by omega) (by omega) (fun h => absurd h (by omega)) (fun _ => ?_)
  refine k_sa (j := i) (by omega) (by omega) ?_
  refine k_eq rfl ?_
  exact hK _ k
theorem law_tail (k : k_W Y4_law (some (L, xs)) G9 (23, ls0 (i + 5), [], hA F A G B o, nc, ns)) : k_W Y4_law (some (L, xs)) G9 (1158, ls0 i, [], hA F A G B o, nc, ns) := by
  refine k_go 99 [23] T4_law17_ok (fun K hK => ?_)
  refine k_eq (z := nI (i + 5)) (nI_add i 5) ?_
  exact hK _ k
theorem neg5 : ∀ L, L < 5 → nI L - nI 5 < 0 := by decide +kernel
theorem law_exit (hi : ¬ i + 5 ≤ L) (hi2 : i ≤ L) (hL : L ≤ 2560) (h1 : nc ≤ 601024) (h2 : ns ≤ 7293034) : k_W Y4_law (some (L, xs)) (.inl (some (.int 1)), hA F A G B o, 601024, 7293034) (23, ls0 i, [], hA F A G B o, nc, ns) := by
  have fin : k_W Y4_law (some (L, xs)) (.inl (some (.int 1)), hA F A G B o, 601024, 7293034) (1164, ls0 i, [], hA F A G B o, nc, ns) := by
    refine k_go 99 [] T4_law17_ok (fun K hK => ?_)
    refine hK _ ?_
    exact k_ireturn d4_law_1165 rfl rfl rfl rfl h1 h2
  have hgt : nI L - nI 5 < nI i := by
    by_cases h5 : 5 ≤ L
    · rw [pk_sub (a := L) (b := 5) (by omega)]
      exact (nI_ltI (by omega) (by omega)).mpr (by omega)
    · have n := neg5 L (by omega)
      have p := nI_pos' (n := i) (by omega)
      rw [Int32.lt_iff_toInt_lt] at n ⊢
      rw [Int32.le_iff_toInt_le] at p
      have z : (0 : Int32).toInt = 0 := rfl
      omega
  refine k_go 99 [39, 1164] T4_law0_ok (fun K hK => ?_)
  refine k_eq rfl ?_
  refine And.intro (fun _ => hK _ fin) (fun q => absurd hgt q)
end LL
theorem law_step {L : Nat} {xs : Nat → Int32} {i : Nat} {f g : Nat → Nat} {a b : Nat → Nat → Nat} {o : Nat → Int64} (R : Rel f a g b) (hi : i + 5 ≤ L) (hL : L ≤ 2560) : StpR L xs i 23 f a g b o := by
  have hi4 : i + 4 < L := by omega
  obtain ⟨j, hj, ej⟩ := and15 (xs i)
  have put : ∀ P : Nat, StpR L xs i P f a g b o → (∀ (G9 : k_G) (nc ns : Nat), k_W Y4_law (some (L, xs)) G9 (P, ls0 i, [], hA (cF f) (cA a) (cF g) (cA b) o, nc, ns) → k_W Y4_law (some (L, xs)) G9 (39, ls0 i, [.int (nI j)], hA (cF f) (cA a) (cF g) (cA b) o, nc, ns)) → StpR L xs i 23 f a g b o := by
    rintro P ⟨f1, a1, g1, b1, o1, mc, ms, R1, h1, h2, h3⟩ sw
    refine ⟨f1, a1, g1, b1, o1, mc, ms, R1, h1, h2, fun G9 nc ns q1 q2 nx => law_head hi hL ?_⟩
    rw [ej]
    exact sw G9 nc ns (h3 G9 nc ns q1 q2 nx)
  match j, hj with
  | 0, _ => exact put 112 (st_day R hi4 hL) (fun G9 nc ns k => k_tableIn (j := 0) (off := 73) d4_law_39 (by decide) (by decide) (by decide) rfl (by decide) k)
  | 1, _ => exact put 148 (st_unit R hi4 hL) (fun G9 nc ns k => k_tableIn (j := 1) (off := 109) d4_law_39 (by decide) (by decide) (by decide) rfl (by decide) k)
  | 2, _ => exact put 240 (st_go R hi4 hL) (fun G9 nc ns k => k_tableIn (j := 2) (off := 201) d4_law_39 (by decide) (by decide) (by decide) rfl (by decide) k)
  | 3, _ => exact put 312 (st_repeater R hi4 hL) (fun G9 nc ns k => k_tableIn (j := 3) (off := 273) d4_law_39 (by decide) (by decide) (by decide) rfl (by decide) k)
  | 4, _ => exact put 404 (st_patch R hi4 hL) (fun G9 nc ns k => k_tableIn (j := 4) (off := 365) d4_law_39 (by decide) (by decide) (by decide) rfl (by decide) k)
  | 5, _ => exact put 479 (st_limit R hi4 hL) (fun G9 nc ns k => k_tableIn (j := 5) (off := 440) d4_law_39 (by decide) (by decide) (by decide) rfl (by decide) k)
  | 6, _ => exact put 515 (st_speak R hi4 hL) (fun G9 nc ns k => k_tableIn (j := 6) (off := 476) d4_law_39 (by decide) (by decide) (by decide) rfl (by decide) k)
  | 7, _ => exact put 607 (st_relay R hi4 hL) (fun G9 nc ns k => k_tableIn (j := 7) (off := 568) d4_law_39 (by decide) (by decide) (by decide) rfl (by decide) k)
  | 8, _ => exact put 699 (st_lose R hi4 hL) (fun G9 nc ns k => k_tableIn (j := 8) (off := 660) d4_law_39 (by decide) (by decide) (by decide) rfl (by decide) k)
  | 9, _ => exact put 762 (st_hears R hi4 hL) (fun G9 nc ns k => k_tableIn (j := 9) (off := 723) d4_law_39 (by decide) (by decide) (by decide) rfl (by decide) k)
  | 10, _ => exact put 830 (st_on R hi4 hL) (fun G9 nc ns k => k_tableIn (j := 10) (off := 791) d4_law_39 (by decide) (by decide) (by decide) rfl (by decide) k)
  | 11, _ => exact put 898 (st_ended R hi4 hL) (fun G9 nc ns k => k_tableIn (j := 11) (off := 859) d4_law_39 (by decide) (by decide) (by decide) rfl (by decide) k)
  | 12, _ => exact put 954 (st_length R hi4 hL) (fun G9 nc ns k => k_tableIn (j := 12) (off := 915) d4_law_39 (by decide) (by decide) (by decide) rfl (by decide) k)
  | 13, _ => exact put 1010 (st_unheard R hi4 hL) (fun G9 nc ns k => k_tableIn (j := 13) (off := 971) d4_law_39 (by decide) (by decide) (by decide) rfl (by decide) k)
  | 14, _ => exact put 1078 (st_used R hi4 hL) (fun G9 nc ns k => k_tableIn (j := 14) (off := 1039) d4_law_39 (by decide) (by decide) (by decide) rfl (by decide) k)
  | 15, _ => exact put 1158 ⟨f, a, g, b, o, 0, 0, R, by decide, by decide, fun G9 nc ns _ _ nx => nx⟩ (fun G9 nc ns k => k_tableOut (j := 15) d4_law_39 (by decide) (Or.inr (by decide)) (by decide) k)
  | j + 16, h => exact absurd h (by omega)
theorem law_loop {L : Nat} {xs : Nat → Int32} (hL : L ≤ 2560) : ∀ (n i : Nat) (f : Nat → Nat) (a : Nat → Nat → Nat) (g : Nat → Nat) (b : Nat → Nat → Nat) (o : Nat → Int64) (nc ns : Nat), L - i < n → i ≤ L → Rel f a g b → nc ≤ 45 + i → ns ≤ 5258 + 6 * i →
    ∃ h : List k_O, k_W Y4_law (some (L, xs)) (.inl (some (.int 1)), h, 601024, 7293034) (23, ls0 i, [], hA (cF f) (cA a) (cF g) (cA b) o, nc, ns) := by
  intro n
  induction n with
  | zero => intro i f a g b o nc ns h; omega
  | succ n ih =>
    intro i f a g b o nc ns hn hi R hc hs
    by_cases h5 : i + 5 ≤ L
    · obtain ⟨f1, a1, g1, b1, o1, mc, ms, R1, h1, h2, h3⟩ := law_step (xs := xs) (o := o) R h5 hL
      obtain ⟨h, hk⟩ := ih (i + 5) f1 a1 g1 b1 o1 (nc + mc) (ns + ms) (by omega) h5 R1 (by omega) (by omega)
      exact ⟨h, h3 _ nc ns (by show nc + mc ≤ 601024; omega) (by show ns + ms ≤ 7293034; omega) (law_tail hk)⟩
    · exact ⟨_, law_exit h5 hi hL (by omega) (by omega)⟩
theorem law_main {L : Nat} {xs : Nat → Int32} (hL : L ≤ 2560) : ∃ h : List k_O, k_W Y4_law (some (L, xs)) (.inl (some (.int 1)), h, 601024, 7293034) (0, [(0, .ref 1000000)], [], [], 0, 0) := by
  obtain ⟨h, hk⟩ := law_loop (xs := xs) hL (L + 1) 0 _ _ _ _ (fun _ => 0) 45 5258 (by omega) (Nat.zero_le _) Rel_new (by omega) (by omega)
  refine ⟨h, ?_⟩
  have r1 : ∀ n, Nat.ble n 601024 = true → n ≤ ((.inl (some (.int 1)), h, 601024, 7293034) : k_G).2.2.1 := fun n q => Nat.le_of_ble_eq_true q
  have r2 : ∀ n, Nat.ble n 7293034 = true → n ≤ ((.inl (some (.int 1)), h, 601024, 7293034) : k_G).2.2.2 := fun n q => Nat.le_of_ble_eq_true q
  generalize ((.inl (some (.int 1)), h, 601024, 7293034) : k_G) = G9 at hk r1 r2 ⊢
  refine k_new (ci := 2) (z := (RX2, TX2, 8)) (fs := [.null, .null, .null, .null, .null, .null, .int 0, .int 0]) rfl (by decide +kernel) (by decide +kernel) rfl d4_law_0 (r1 _ rfl) (r2 _ rfl) rfl rfl rfl rfl ?_
  refine k_go 99 [4] T4_law0_ok (fun K hK => ?_)
  refine hK _ ?_
  refine k_callI (Y' := Y2_init) (as := []) (st := [.ref 0]) m2_init rfl c4_74 rfl rfl d4_law_4 (r1 _ rfl) (r2 _ rfl) rfl rfl ?_
  refine k_go 99 [8] T4_law0_ok (fun K hK => ?_)
  refine hK _ ?_
  refine k_new (ci := 3) (z := (RX3, TX3, 25)) (fs := [.int 0, .int 0, .int 0, .null, .int 0, .null, .null, .null, .null, .int 0, .null, .null, .null, .null, .int 0, .null, .null, .null, .null, .null, .null, .null, .null, .null, .null]) rfl (by decide +kernel) (by decide +kernel) rfl d4_law_8 (r1 _ rfl) (r2 _ rfl) rfl rfl rfl rfl ?_
  refine k_go 99 [12] T4_law0_ok (fun K hK => ?_)
  refine hK _ ?_
  refine k_callI (Y' := Y3_init) (as := []) (st := [.ref 24]) m3_init rfl c4_77 rfl rfl d4_law_12 (r1 _ rfl) (r2 _ rfl) rfl rfl ?_
  refine k_go 99 [17] T4_law0_ok (fun K hK => ?_)
  refine hK _ ?_
  refine k_newL (N := 1) rfl d4_law_17 (r1 _ rfl) (r2 _ rfl) rfl rfl rfl rfl ?_
  refine k_go 99 [23] T4_law0_ok (fun K hK => ?_)
  refine hK _ ?_
  refine k_heq (h' := hA (cF (fgF (fun _ => 0))) (cA (fgA (fun _ _ => 0))) (cF (fun _ => 0)) (cA (rowA (fun _ _ => 0) 0 (flR (fun _ => 0) (fun c => c) 6))) (fun _ => 0)) (List.append_assoc _ _ _) ?_
  exact hk
