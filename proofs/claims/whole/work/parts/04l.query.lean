def fnd (P : Nat → Bool) : Nat → Nat → Nat
  | 0, _ => NONE
  | n + 1, i => if P i = true then i else fnd P n (i + 1)
def exB (P : Nat → Bool) : Nat → Nat → Bool
  | 0, _ => false
  | n + 1, i => P i || exB P n (i + 1)
def msP (a : Nat → Nat → Nat) (c s m : Nat) : Bool := decide (onP a m s) && decide (a 18 c = a 18 (a 9 m))
def msOn (f : Nat → Nat) (a : Nat → Nat → Nat) (c s : Nat) : Nat := fnd (msP a c s) (f 4) 0
def lsB (a : Nat → Nat → Nat) (u m : Nat) : Bool := decide (u ≠ a 8 m) && decide (a 18 (a 3 u) = a 18 (a 9 m))
def rpP (a : Nat → Nat → Nat) (u m r : Nat) : Bool := decide (a 18 (a 7 r) = a 18 (a 9 m)) && decide (nearI (a 0 (a 8 m)) (a 1 (a 8 m)) (a 4 r) (a 5 r) (a 2 (a 8 m))) && decide (nearI (a 4 r) (a 5 r) (a 0 u) (a 1 u) (a 6 r))
def rpB (f : Nat → Nat) (a : Nat → Nat → Nat) (u m : Nat) : Bool := exB (rpP a u m) (f 3) 0
def rcB (f : Nat → Nat) (a : Nat → Nat → Nat) (u m : Nat) : Bool := lsB a u m && (decide (nearI (a 0 (a 8 m)) (a 1 (a 8 m)) (a 0 u) (a 1 u) (a 2 (a 8 m))) || rpB f a u m)
def nzB (f : Nat → Nat) (a : Nat → Nat → Nat) (m : Nat) : Bool := exB (fun s => decide (a 17 s ≠ 0)) (min (a 13 m + a 14 m) (f 0) - a 13 m) (a 13 m)
def haB (f : Nat → Nat) (a : Nat → Nat → Nat) (u m : Nat) : Bool := decide (0 < a 14 m) && rcB f a u m && !nzB f a m
def mdB (f : Nat → Nat) (a : Nat → Nat → Nat) (u m : Nat) : Bool := lsB a u m && !haB f a u m
def nth (P : Nat → Bool) (i : Nat) : Nat → Nat → Nat → Nat
  | 0, _, _ => NONE
  | n + 1, u, b => if P u = true then (if b = i then u else nth P i n (u + 1) (b + 1)) else nth P i n (u + 1) b
def usS (a : Nat → Nat → Nat) (c x y : Nat) : Nat → Nat → Nat → Nat
  | 0, _, t => t
  | n + 1, m, t => usS a c x y n (m + 1) (if a 18 c = a 18 (a 9 m) then t + (min y (a 13 m + a 14 m) - max x (a 13 m)) else t)
theorem rbB {h : List k_O} {mc ms : Nat} {r b : Bool} (e : r = b) : ((.inl (some (.int (bB r))), h, mc, ms) : k_G).1 = .inl (some (.int (bB b))) := by rw [e]
theorem rnN {h : List k_O} {mc ms : Nat} {r b : Nat} (e : r = b) : ((.inl (some (.int (nI r))), h, mc, ms) : k_G).1 = .inl (some (.int (nI b))) := by rw [e]
theorem rn1 {h : List k_O} {mc ms : Nat} {r : Nat} (e : r = NONE) : ((.inl (some (.int (nI r))), h, mc, ms) : k_G).1 = .inl (some (.int (-1))) := by rw [e, neg1]
section QY
variable {f : Nat → Nat} {a : Nat → Nat → Nat} {G : Nat → Int32} {B : Nat → Nat → Int32} {o : Nat → Int64} {x y z w : Int32}
theorem m2_messageOn_loop (I : IvA f a) {c s : Nat} (hc : c < 6) (hs : s < 10000) : ∀ (n i : Nat), f 4 - i = n → i ≤ f 4 → ∀ (r : Nat), r = fnd (msP a c s) n i →
    k_W Y2_messageOn none (.inl (some (.int (nI r))), hX f a G B o, 0, 0) (2, [(3, .int (nI i)), (0, .ref 0), (1, .int (nI c)), (2, .int (nI s))], [], hX f a G B o, 0, 0) := by
  have h4 := I.2.2.2.2.2.2.2.2.2.1
  intro n
  induction n with
  | zero =>
    intro i hn hi r hr
    refine k_go 99 [2] T2_messageOn_ok (fun K hK => ?_)
    refine b_ge (a := i) (b := f 4) (by omega) (by omega) (fun h => ?_) (fun h => absurd h (by omega))
    refine hK _ ?_
    exact k_ireturn d2_messageOn_51 rfl rfl (rn1 hr) rfl (Nat.le_of_ble_eq_true rfl) (Nat.le_of_ble_eq_true rfl)
  | succ n ih =>
    intro i hn hi r hr
    have hr2 : r = if msP a c s i = true then i else fnd (msP a c s) n (i + 1) := hr
    refine k_go 99 [2] T2_messageOn_ok (fun K hK => ?_)
    refine b_ge (a := i) (b := f 4) (by omega) (by omega) (fun h => absurd h (by omega)) (fun h => ?_)
    refine hK _ ?_
    refine k_callV (Y' := Y0_isOn) (as := [.int (nI i), .int (nI s)]) (st := []) (m0_isOn I.1 (by omega) hs) rfl c2_235 rfl rfl rfl d2_messageOn_19 (Nat.le_of_ble_eq_true rfl) (Nat.le_of_ble_eq_true rfl) rfl rfl ?_
    refine k_go 99 [2] T2_messageOn_ok (fun K hK => ?_)
    refine p_eq (fun h1 => ?_) (fun h1 => ?_)
    · rw [if_neg (by simp [msP, h1])] at hr2
      refine k_eq (z := nI (i + 1)) (nI_add i 1) ?_
      refine hK _ ?_
      exact ih (i + 1) (by omega) (by omega) r hr2
    · refine k_at (j := i) (by omega) ?_
      refine hK _ ?_
      refine k_callV (Y' := Y2_areJoined) (as := [.int (nI c), .int (nI (a 9 i))]) (st := []) (m2_areJoined I.1 hc (I.2.2.1 i)) rfl c2_82 rfl rfl rfl d2_messageOn_36 (Nat.le_of_ble_eq_true rfl) (Nat.le_of_ble_eq_true rfl) rfl rfl ?_
      refine k_go 99 [2] T2_messageOn_ok (fun K hK => ?_)
      refine p_eq (fun h2 => ?_) (fun h2 => ?_)
      · rw [if_neg (by simp [msP, h2])] at hr2
        refine k_eq (z := nI (i + 1)) (nI_add i 1) ?_
        refine hK _ ?_
        exact ih (i + 1) (by omega) (by omega) r hr2
      · rw [if_pos (by simp only [msP, decide_eq_true h1, decide_eq_true h2, Bool.and_self])] at hr2
        refine hK _ ?_
        exact k_ireturn d2_messageOn_43 rfl rfl (rnN hr2) rfl (Nat.le_of_ble_eq_true rfl) (Nat.le_of_ble_eq_true rfl)
theorem m2_messageOn (I : IvA f a) {c s : Nat} (hc : c < 6) (hs : s < 10000) : k_Met Y2_messageOn [.ref 0, .int (nI c), .int (nI s)] (hX f a G B o) (.inl (some (.int (nI (msOn f a c s)))), hX f a G B o, 0, 0) := by
  refine k_intro (by decide +kernel) rfl rfl rfl ?_
  refine k_go 99 [2] T2_messageOn_ok (fun K hK => ?_)
  refine hK _ ?_
  exact m2_messageOn_loop I hc hs (f 4) 0 (by omega) (by omega) _ rfl
theorem m2_listensTo (I : IvA f a) {u m : Nat} (hu : u < 20) (hm : m < 60) : k_Met Y2_listensTo [.ref 0, .int (nI u), .int (nI m)] (hX f a G B o) (.inl (some (.int (bB (lsB a u m)))), hX f a G B o, 0, 0) := by
  have h8 := I.2.2.2.2.2.2.2.2.2.2.1 m
  refine k_intro (by decide +kernel) rfl rfl rfl ?_
  refine k_go 99 [] T2_listensTo_ok (fun K hK => ?_)
  refine k_at hm ?_
  refine b_eq (a := u) (b := a 8 m) (by omega) (by omega) (fun h => ?_) (fun h => ?_)
  · refine hK _ ?_
    exact k_ireturn d2_listensTo_43 rfl rfl (rbB (b := false) (by simp [lsB, h])) rfl (Nat.le_of_ble_eq_true rfl) (Nat.le_of_ble_eq_true rfl)
  · refine k_at (j := u) hu ?_
    refine k_at hm ?_
    refine hK _ ?_
    refine k_callV (Y' := Y2_areJoined) (as := [.int (nI (a 3 u)), .int (nI (a 9 m))]) (st := []) (m2_areJoined I.1 (I.2.2.2.2.2.2.2.2.2.2.2.2.2.2.1 u) (I.2.2.1 m)) rfl c2_82 rfl rfl rfl d2_listensTo_32 (Nat.le_of_ble_eq_true rfl) (Nat.le_of_ble_eq_true rfl) rfl rfl ?_
    refine k_go 99 [] T2_listensTo_ok (fun K hK => ?_)
    refine p_eq (fun h2 => ?_) (fun h2 => ?_)
    · refine hK _ ?_
      exact k_ireturn d2_listensTo_43 rfl rfl (rbB (b := false) (by simp [lsB, h2])) rfl (Nat.le_of_ble_eq_true rfl) (Nat.le_of_ble_eq_true rfl)
    · refine hK _ ?_
      exact k_ireturn d2_listensTo_43 rfl rfl (rbB (b := true) (by simp only [lsB, decide_eq_true h, decide_eq_true h2, Bool.and_self])) rfl (Nat.le_of_ble_eq_true rfl) (Nat.le_of_ble_eq_true rfl)
theorem m2_byRep_loop (I : IvA f a) {u m : Nat} (hu : u < 20) (hm : m < 60) : ∀ (n i : Nat), f 3 - i = n → i ≤ f 3 → ∀ (r : Bool), r = exB (rpP a u m) n i →
    k_W Y2_receivesByRepeater none (.inl (some (.int (bB r))), hX f a G B o, 0, 0) (13, [(4, .int (nI i)), (3, .int (nI (a 8 m))), (0, .ref 0), (1, .int (nI u)), (2, .int (nI m))], [], hX f a G B o, 0, 0) := by
  have h3 := I.2.2.2.2.2.2.2.2.2.2.2.2.2.1
  have h8 := I.2.2.2.2.2.2.2.2.2.2.1 m
  intro n
  induction n with
  | zero =>
    intro i hn hi r hr
    refine k_go 99 [13] T2_receivesByRepeater_ok (fun K hK => ?_)
    refine b_ge (a := i) (b := f 3) (by omega) (by omega) (fun h => ?_) (fun h => absurd h (by omega))
    refine hK _ ?_
    exact k_ireturn d2_receivesByRepeater_94 rfl rfl (rbB (b := false) hr) rfl (Nat.le_of_ble_eq_true rfl) (Nat.le_of_ble_eq_true rfl)
  | succ n ih =>
    intro i hn hi r hr
    have hr2 : r = (rpP a u m i || exB (rpP a u m) n (i + 1)) := hr
    have next : rpP a u m i = false → k_W Y2_receivesByRepeater none (.inl (some (.int (bB r))), hX f a G B o, 0, 0) (87, [(4, .int (nI i)), (3, .int (nI (a 8 m))), (0, .ref 0), (1, .int (nI u)), (2, .int (nI m))], [], hX f a G B o, 0, 0) := by
      intro e
      rw [e, Bool.false_or] at hr2
      refine k_go 99 [13] T2_receivesByRepeater_ok (fun K hK => ?_)
      refine k_eq (z := nI (i + 1)) (nI_add i 1) ?_
      refine hK _ ?_
      exact ih (i + 1) (by omega) (by omega) r hr2
    refine k_go 99 [13, 87] T2_receivesByRepeater_ok (fun K hK => ?_)
    refine b_ge (a := i) (b := f 3) (by omega) (by omega) (fun h => absurd h (by omega)) (fun h => ?_)
    refine k_at (j := i) (by omega) ?_
    refine k_at hm ?_
    refine hK _ ?_
    refine k_callV (Y' := Y2_areJoined) (as := [.int (nI (a 7 i)), .int (nI (a 9 m))]) (st := []) (m2_areJoined I.1 (I.2.2.2.2.2.2.2.2.2.2.2.2.2.2.2.1 i) (I.2.2.1 m)) rfl c2_82 rfl rfl rfl d2_receivesByRepeater_45 (Nat.le_of_ble_eq_true rfl) (Nat.le_of_ble_eq_true rfl) rfl rfl ?_
    refine k_go 99 [13, 87] T2_receivesByRepeater_ok (fun K hK => ?_)
    refine p_eq (fun h1 => ?_) (fun h1 => ?_)
    · refine hK _ ?_
      exact next (by simp [rpP, h1])
    · refine hK _ ?_
      refine k_callV (Y' := Y1_reaches) (as := [.int (nI (a 8 m)), .ref 6, .int (nI i)]) (st := []) (m1_reachesUR h8 (by omega)) rfl c2_267 rfl rfl rfl d2_receivesByRepeater_62 (Nat.le_of_ble_eq_true rfl) (Nat.le_of_ble_eq_true rfl) rfl rfl ?_
      refine k_go 99 [13, 87] T2_receivesByRepeater_ok (fun K hK => ?_)
      refine p_eq (fun h2 => ?_) (fun h2 => ?_)
      · refine hK _ ?_
        exact next (by unfold rpP; rw [decide_eq_false h2]; simp)
      · refine hK _ ?_
        refine k_callV (Y' := Y1_reaches) (as := [.int (nI i), .ref 1, .int (nI u)]) (st := []) (m1_reachesRU (by omega) hu) rfl c2_267 rfl rfl rfl d2_receivesByRepeater_79 (Nat.le_of_ble_eq_true rfl) (Nat.le_of_ble_eq_true rfl) rfl rfl ?_
        refine k_go 99 [13, 87] T2_receivesByRepeater_ok (fun K hK => ?_)
        refine p_eq (fun h5 => ?_) (fun h5 => ?_)
        · refine hK _ ?_
          exact next (by unfold rpP; rw [decide_eq_false h5]; simp)
        · refine hK _ ?_
          have e : rpP a u m i = true := by unfold rpP; rw [decide_eq_true h1, decide_eq_true h2, decide_eq_true h5]; rfl
          rw [e, Bool.true_or] at hr2
          exact k_ireturn d2_receivesByRepeater_86 rfl rfl (rbB (b := true) hr2) rfl (Nat.le_of_ble_eq_true rfl) (Nat.le_of_ble_eq_true rfl)
theorem m2_byRep (I : IvA f a) {u m : Nat} (hu : u < 20) (hm : m < 60) : k_Met Y2_receivesByRepeater [.ref 0, .int (nI u), .int (nI m)] (hX f a G B o) (.inl (some (.int (bB (rpB f a u m)))), hX f a G B o, 0, 0) := by
  refine k_intro (by decide +kernel) rfl rfl rfl ?_
  refine k_go 99 [13] T2_receivesByRepeater_ok (fun K hK => ?_)
  refine k_at hm ?_
  refine hK _ ?_
  exact m2_byRep_loop I hu hm (f 3) 0 (by omega) (by omega) _ rfl
theorem m2_receives (I : IvA f a) {u m : Nat} (hu : u < 20) (hm : m < 60) : k_Met Y2_receives [.ref 0, .int (nI u), .int (nI m)] (hX f a G B o) (.inl (some (.int (bB (rcB f a u m)))), hX f a G B o, 0, 0) := by
  have h8 := I.2.2.2.2.2.2.2.2.2.2.1 m
  refine k_intro (by decide +kernel) rfl rfl rfl ?_
  refine k_go 99 [] T2_receives_ok (fun K hK => ?_)
  refine hK _ ?_
  refine k_callV (Y' := Y2_listensTo) (as := [.int (nI u), .int (nI m)]) (st := []) (m2_listensTo I hu hm) rfl c2_264 rfl rfl rfl d2_receives_3 (Nat.le_of_ble_eq_true rfl) (Nat.le_of_ble_eq_true rfl) rfl rfl ?_
  refine k_go 99 [] T2_receives_ok (fun K hK => ?_)
  refine q_eq (fun h1 => ?_) (fun h1 => ?_)
  · refine hK _ ?_
    exact k_ireturn d2_receives_47 rfl rfl (rbB (b := false) (by unfold rcB; rw [h1]; rfl)) rfl (Nat.le_of_ble_eq_true rfl) (Nat.le_of_ble_eq_true rfl)
  · refine k_at hm ?_
    refine hK _ ?_
    refine k_callV (Y' := Y1_reaches) (as := [.int (nI (a 8 m)), .ref 1, .int (nI u)]) (st := []) (m1_reachesUU h8 hu) rfl c2_267 rfl rfl rfl d2_receives_27 (Nat.le_of_ble_eq_true rfl) (Nat.le_of_ble_eq_true rfl) rfl rfl ?_
    refine k_go 99 [] T2_receives_ok (fun K hK => ?_)
    refine p_ne (fun h2 => ?_) (fun h2 => ?_)
    · refine hK _ ?_
      exact k_ireturn d2_receives_47 rfl rfl (rbB (b := true) (by unfold rcB; rw [h1, decide_eq_true h2]; rfl)) rfl (Nat.le_of_ble_eq_true rfl) (Nat.le_of_ble_eq_true rfl)
    · refine hK _ ?_
      refine k_callV (Y' := Y2_receivesByRepeater) (as := [.int (nI u), .int (nI m)]) (st := []) (m2_byRep I hu hm) rfl c2_271 rfl rfl rfl d2_receives_36 (Nat.le_of_ble_eq_true rfl) (Nat.le_of_ble_eq_true rfl) rfl rfl ?_
      refine k_go 99 [] T2_receives_ok (fun K hK => ?_)
      refine q_eq (fun h5 => ?_) (fun h5 => ?_)
      · refine hK _ ?_
        exact k_ireturn d2_receives_47 rfl rfl (rbB (b := false) (by unfold rcB; rw [h1, decide_eq_false h2, h5]; rfl)) rfl (Nat.le_of_ble_eq_true rfl) (Nat.le_of_ble_eq_true rfl)
      · refine hK _ ?_
        exact k_ireturn d2_receives_47 rfl rfl (rbB (b := true) (by unfold rcB; rw [h1, decide_eq_false h2, h5]; rfl)) rfl (Nat.le_of_ble_eq_true rfl) (Nat.le_of_ble_eq_true rfl)
theorem m2_hasNoise_loop (I : IvA f a) {m v b : Nat} (hb : b ≤ 1000) : ∀ (n i : Nat), b - i = n → ∀ (r : Bool), r = exB (fun s => decide (a 17 s ≠ 0)) n i → i < 10000 →
    k_W Y2_hasNoise none (.inl (some (.int (bB r))), hX f a G B o, 0, 0) (32, [(4, .int (nI i)), (3, .int (nI b)), (2, .int (nI v)), (0, .ref 0), (1, .int (nI m))], [], hX f a G B o, 0, 0) := by
  intro n
  induction n with
  | zero =>
    intro i hn r hr hi
    refine k_go 99 [32] T2_hasNoise_ok (fun K hK => ?_)
    refine b_ge (a := i) (b := b) (by omega) (by omega) (fun h => ?_) (fun h => absurd h (by omega))
    refine hK _ ?_
    exact k_ireturn d2_hasNoise_57 rfl rfl (rbB (b := false) hr) rfl (Nat.le_of_ble_eq_true rfl) (Nat.le_of_ble_eq_true rfl)
  | succ n ih =>
    intro i hn r hr hi
    have h17 := I.2.2.2.2.2.2.2.2.2.2.2.2.2.2.2.2 i
    have hr2 : r = (decide (a 17 i ≠ 0) || exB (fun s => decide (a 17 s ≠ 0)) n (i + 1)) := hr
    refine k_go 99 [32] T2_hasNoise_ok (fun K hK => ?_)
    refine b_ge (a := i) (b := b) (by omega) (by omega) (fun h => absurd h (by omega)) (fun h => ?_)
    refine k_at (j := i) (by omega) ?_
    refine z_eq (a := a 17 i) (by omega) (fun h1 => ?_) (fun h1 => ?_)
    · rw [decide_eq_false (by omega), Bool.false_or] at hr2
      refine k_eq (z := nI (i + 1)) (nI_add i 1) ?_
      refine hK _ ?_
      exact ih (i + 1) (by omega) r hr2 (by omega)
    · rw [decide_eq_true (by omega), Bool.true_or] at hr2
      refine hK _ ?_
      exact k_ireturn d2_hasNoise_49 rfl rfl (rbB (b := true) hr2) rfl (Nat.le_of_ble_eq_true rfl) (Nat.le_of_ble_eq_true rfl)
theorem m2_hasNoise (I : IvA f a) {m : Nat} (hm : m < 60) : k_Met Y2_hasNoise [.ref 0, .int (nI m)] (hX f a G B o) (.inl (some (.int (bB (nzB f a m)))), hX f a G B o, 0, 0) := by
  have h0 := I.2.2.2.2.2.2.2.1
  have h13 := I.1 13 m (by omega)
  have h14 := I.1 14 m (by omega)
  refine k_intro (by decide +kernel) rfl rfl rfl ?_
  refine k_go 99 [] T2_hasNoise_ok (fun K hK => ?_)
  refine k_at hm ?_
  refine k_at hm ?_
  refine k_eq (z := nI (a 13 m + a 14 m)) (nI_add _ _) ?_
  refine hK _ ?_
  refine k_mmin (x := nI (a 13 m + a 14 m)) (y := nI (f 0)) (z := nI (min (a 13 m + a 14 m) (f 0))) c2_280m (mnN (by omega) (by omega)) d2_hasNoise_25 rfl rfl (Nat.le_refl _) (Nat.le_refl _) ?_
  refine k_go 99 [32] T2_hasNoise_ok (fun K hK => ?_)
  refine hK _ ?_
  exact m2_hasNoise_loop I (by omega) _ (a 13 m) rfl _ rfl h13
theorem m2_heard (I : IvA f a) {u m : Nat} (hu : u < 20) (hm : m < 60) : k_Met Y2_heardAllSlots [.ref 0, .int (nI u), .int (nI m)] (hX f a G B o) (.inl (some (.int (bB (haB f a u m)))), hX f a G B o, 0, 0) := by
  have h14 := I.1 14 m (by omega)
  refine k_intro (by decide +kernel) rfl rfl rfl ?_
  refine k_go 99 [] T2_heardAllSlots_ok (fun K hK => ?_)
  refine k_at hm ?_
  refine z_le (a := a 14 m) (by omega) (fun h1 => ?_) (fun h1 => ?_)
  · refine hK _ ?_
    exact k_ireturn d2_heardAllSlots_34 rfl rfl (rbB (b := false) (by unfold haB; rw [decide_eq_false (by omega)]; rfl)) rfl (Nat.le_of_ble_eq_true rfl) (Nat.le_of_ble_eq_true rfl)
  · refine hK _ ?_
    refine k_callV (Y' := Y2_receives) (as := [.int (nI u), .int (nI m)]) (st := []) (m2_receives I hu hm) rfl c2_140 rfl rfl rfl d2_heardAllSlots_15 (Nat.le_of_ble_eq_true rfl) (Nat.le_of_ble_eq_true rfl) rfl rfl ?_
    refine k_go 99 [] T2_heardAllSlots_ok (fun K hK => ?_)
    refine q_eq (fun h2 => ?_) (fun h2 => ?_)
    · refine hK _ ?_
      exact k_ireturn d2_heardAllSlots_34 rfl rfl (rbB (b := false) (by unfold haB; rw [h2, decide_eq_true h1]; rfl)) rfl (Nat.le_of_ble_eq_true rfl) (Nat.le_of_ble_eq_true rfl)
    · refine hK _ ?_
      refine k_callV (Y' := Y2_hasNoise) (as := [.int (nI m)]) (st := []) (m2_hasNoise I hm) rfl c2_274 rfl rfl rfl d2_heardAllSlots_23 (Nat.le_of_ble_eq_true rfl) (Nat.le_of_ble_eq_true rfl) rfl rfl ?_
      refine k_go 99 [] T2_heardAllSlots_ok (fun K hK => ?_)
      refine q_ne (fun h5 => ?_) (fun h5 => ?_)
      · refine hK _ ?_
        exact k_ireturn d2_heardAllSlots_34 rfl rfl (rbB (b := false) (by unfold haB; rw [h2, h5, decide_eq_true h1]; rfl)) rfl (Nat.le_of_ble_eq_true rfl) (Nat.le_of_ble_eq_true rfl)
      · refine hK _ ?_
        exact k_ireturn d2_heardAllSlots_34 rfl rfl (rbB (b := true) (by unfold haB; rw [h2, h5, decide_eq_true h1]; rfl)) rfl (Nat.le_of_ble_eq_true rfl) (Nat.le_of_ble_eq_true rfl)
theorem m2_missed (I : IvA f a) {u m : Nat} (hu : u < 20) (hm : m < 60) : k_Met Y2_missed [.ref 0, .int (nI u), .int (nI m)] (hX f a G B o) (.inl (some (.int (bB (mdB f a u m)))), hX f a G B o, 0, 0) := by
  refine k_intro (by decide +kernel) rfl rfl rfl ?_
  refine k_go 99 [] T2_missed_ok (fun K hK => ?_)
  refine hK _ ?_
  refine k_callV (Y' := Y2_listensTo) (as := [.int (nI u), .int (nI m)]) (st := []) (m2_listensTo I hu hm) rfl c2_264 rfl rfl rfl d2_missed_3 (Nat.le_of_ble_eq_true rfl) (Nat.le_of_ble_eq_true rfl) rfl rfl ?_
  refine k_go 99 [] T2_missed_ok (fun K hK => ?_)
  refine q_eq (fun h1 => ?_) (fun h1 => ?_)
  · refine hK _ ?_
    exact k_ireturn d2_missed_23 rfl rfl (rbB (b := false) (by unfold mdB; rw [h1]; rfl)) rfl (Nat.le_of_ble_eq_true rfl) (Nat.le_of_ble_eq_true rfl)
  · refine hK _ ?_
    refine k_callV (Y' := Y2_heardAllSlots) (as := [.int (nI u), .int (nI m)]) (st := []) (m2_heard I hu hm) rfl c2_119 rfl rfl rfl d2_missed_12 (Nat.le_of_ble_eq_true rfl) (Nat.le_of_ble_eq_true rfl) rfl rfl ?_
    refine k_go 99 [] T2_missed_ok (fun K hK => ?_)
    refine q_ne (fun h2 => ?_) (fun h2 => ?_)
    · refine hK _ ?_
      exact k_ireturn d2_missed_23 rfl rfl (rbB (b := false) (by unfold mdB; rw [h1, h2]; rfl)) rfl (Nat.le_of_ble_eq_true rfl) (Nat.le_of_ble_eq_true rfl)
    · refine hK _ ?_
      exact k_ireturn d2_missed_23 rfl rfl (rbB (b := true) (by unfold mdB; rw [h1, h2]; rfl)) rfl (Nat.le_of_ble_eq_true rfl) (Nat.le_of_ble_eq_true rfl)
end QY
