theorem k_heq {Y : k_Y} {sc : k_Sc} {G : k_G} {pc : Nat} {ls : List (Nat × Value)} {st : List Value} {h h' : List k_O} {nc ns : Nat} (e : h = h') (k : k_W Y sc G (pc, ls, st, h', nc, ns)) : k_W Y sc G (pc, ls, st, h, nc, ns) := e ▸ k
theorem cA_up' {A : Nat → Nat → Int32} {a : Nat → Nat → Nat} {k j v : Nat} {r : Nat → Int32} (h1 : A = cA a) (h2 : r = cA a k) : upA A k (upd r j (nI v)) = cA (up2 a k j v) := by
  subst h1; subst h2; exact cA_up a k j v
theorem cF_up' {F : Nat → Int32} {f : Nat → Nat} {k v : Nat} (h1 : F = cF f) : upF F k (nI v) = cF (up1 f k v) := by
  subst h1; exact cF_up f k v
theorem hX_eq {F F' : Nat → Int32} {A A' : Nat → Nat → Int32} {G : Nat → Int32} {B : Nat → Nat → Int32} {o : Nat → Int64} (h1 : F = F') (h2 : A = A') : hA F A G B o = hA F' A' G B o := by rw [h1, h2]
theorem mxN {a b : Nat} (ha : a < 2 ^ 31) (hb : b < 2 ^ 31) : (if nI a < nI b then nI b else nI a) = nI (max a b) := by
  by_cases h : a < b
  · rw [if_pos ((nI_ltI ha hb).mpr h), Nat.max_eq_right (by omega)]
  · rw [if_neg (fun q => h ((nI_ltI ha hb).mp q)), Nat.max_eq_left (by omega)]
theorem mnN {a b : Nat} (ha : a < 2 ^ 31) (hb : b < 2 ^ 31) : (if nI b < nI a then nI b else nI a) = nI (min a b) := by
  by_cases h : b < a
  · rw [if_pos ((nI_ltI hb ha).mpr h), Nat.min_eq_right (by omega)]
  · rw [if_neg (fun q => h ((nI_ltI hb ha).mp q)), Nat.min_eq_left (by omega)]
theorem mx0 {x y : Nat} (hx : x < 2 ^ 30) (hy : y < 2 ^ 30) : (if (0 : Int32) < nI y - nI x then nI y - nI x else 0) = nI (y - x) := by
  by_cases h : x ≤ y
  · rw [pk_sub h]
    by_cases h2 : y - x = 0
    · rw [h2, nI_0]; rfl
    · rw [if_pos]
      have := nI_lt (a := 0) (b := y - x) (by omega) (by omega)
      rw [nI_0] at this; exact this
  · have h1 := pk_sneg (a := y) (b := x) hx (by omega)
    have h2 : ¬ (0 : Int32) < nI y - nI x := fun q => absurd (Int32.lt_trans q h1) (by decide)
    rw [if_neg h2, show y - x = 0 by omega, nI_0]
theorem c0_47m : k_okM 0 47 Lib.Math.max.name Lib.Math.max.code = true := by decide +kernel
theorem c0_53m : k_okM 0 53 Lib.Math.min.name Lib.Math.min.code = true := by decide +kernel
section MS
variable {f : Nat → Nat} {a : Nat → Nat → Nat} {G : Nat → Int32} {B : Nat → Nat → Int32} {o : Nat → Int64}
theorem m0_beginsWith (hB : Bd a) {p m : Nat} (hp : p < 60) (hm : m < 60) (hq : a 16 p < 60) : k_Met Y0_beginsWith [.ref 11, .int (nI p), .int (nI m)] (hX f a G B o) (.inl (some (.int (bI (a 10 (a 16 p) = a 10 m)))), hX f a G B o, 0, 0) := by
  have h1 := hB 10 (a 16 p) (by omega)
  have h2 := hB 10 m (by omega)
  refine k_intro (by decide +kernel) rfl rfl rfl ?_
  refine k_go 99 [] T0_beginsWith_ok (fun K hK => ?_)
  refine k_at hp ?_
  refine k_at (j := a 16 p) hq ?_
  refine k_at hm ?_
  refine b_ne (a := a 10 (a 16 p)) (b := a 10 m) (by omega) (by omega) (fun h => ?_) (fun h => ?_)
  · refine hK _ ?_
    exact k_ireturn d0_beginsWith_25 rfl rfl (k_rb (by rw [bI_f h]; rfl)) rfl (Nat.le_refl _) (Nat.le_refl _)
  · refine hK _ ?_
    exact k_ireturn d0_beginsWith_25 rfl rfl (k_rb (by rw [bI_t h]; rfl)) rfl (Nat.le_refl _) (Nat.le_refl _)
def cutA (a : Nat → Nat → Nat) (m s : Nat) : Nat → Nat → Nat := if s - a 13 m + 1 < a 14 m then sOn a m (a 13 m) (s - a 13 m + 1) 1 else a
theorem m0_cutAfter (hB : Bd a) {m s : Nat} (hm : m < 60) (hs : s < 10000) (h13 : a 13 m ≤ s) : k_Met Y0_cutAfter [.ref 11, .int (nI m), .int (nI s)] (hX f a G B o) (.inl none, hX f (cutA a m s) G B o, 0, 0) := by
  have h14 := hB 14 m (by omega)
  refine k_intro (by decide +kernel) rfl rfl rfl ?_
  refine k_go 99 [] T0_cutAfter_ok (fun K hK => ?_)
  refine k_at hm ?_
  refine k_eq (z := nI (s - a 13 m)) (pk_sub h13) ?_
  refine k_eq (z := nI (s - a 13 m + 1)) (nI_add _ 1) ?_
  refine k_at hm ?_
  refine b_ge (a := s - a 13 m + 1) (b := a 14 m) (by omega) (by omega) (fun h => ?_) (fun h => ?_)
  · refine hK _ ?_
    exact k_return d0_cutAfter_34 rfl rfl (by simp only [cutA]; rw [if_neg (by omega)]) (Nat.le_refl _) (Nat.le_refl _)
  · refine k_at hm ?_
    refine hK _ ?_
    refine k_callV (Y' := Y0_setOn) (as := [.int (nI m), .int (nI (a 13 m)), .int (nI (s - a 13 m + 1)), .int (nI 1)]) (st := []) (m0_setOnN hm (a 13 m) (s - a 13 m + 1) 1) rfl c0_43 rfl rfl rfl d0_cutAfter_31 (Nat.le_refl _) (Nat.le_refl _) rfl rfl ?_
    exact k_return d0_cutAfter_34 rfl rfl (by simp only [cutA]; rw [if_pos h]) (Nat.le_refl _) (Nat.le_refl _)
theorem m0_wordIn (hB : Bd a) {m s : Nat} (hm : m < 60) (hs : s < 10000) (h13 : a 13 m ≤ s) : k_Met Y0_wordIn [.ref 11, .int (nI m), .int (nI s)] (hX f a G B o) (.inl (some (.int (nI (if a 11 m = 0 then 0 else s - a 13 m + 1)))), hX f a G B o, 0, 0) := by
  have h11 := hB 11 m (by omega)
  refine k_intro (by decide +kernel) rfl rfl rfl ?_
  refine k_go 99 [] T0_wordIn_ok (fun K hK => ?_)
  refine k_at hm ?_
  refine z_ne (a := a 11 m) (by omega) (fun h => ?_) (fun h => ?_)
  · refine k_at hm ?_
    refine k_eq (z := nI (s - a 13 m)) (pk_sub h13) ?_
    refine k_eq (z := nI (s - a 13 m + 1)) (nI_add _ 1) ?_
    refine hK _ ?_
    exact k_ireturn d0_wordIn_23 rfl rfl (by rw [if_neg (by omega)]) rfl (Nat.le_refl _) (Nat.le_refl _)
  · refine hK _ ?_
    exact k_ireturn d0_wordIn_23 rfl rfl (by rw [if_pos h]; rfl) rfl (Nat.le_refl _) (Nat.le_refl _)
theorem m0_slotsOnWithin (hB : Bd a) {m x y : Nat} (hm : m < 60) (hx : x < 10000) (hy : y < 10000) : k_Met Y0_slotsOnWithin [.ref 11, .int (nI m), .int (nI x), .int (nI y)] (hX f a G B o) (.inl (some (.int (nI (min y (a 13 m + a 14 m) - max x (a 13 m))))), hX f a G B o, 0, 0) := by
  have h13 := hB 13 m (by omega)
  have h14 := hB 14 m (by omega)
  refine k_intro (by decide +kernel) rfl rfl rfl ?_
  refine k_go 99 [] T0_slotsOnWithin_ok (fun K hK => ?_)
  refine k_at hm ?_
  refine hK _ ?_
  refine k_mmax (x := nI x) (y := nI (a 13 m)) c0_47m (mxN (by omega) (by omega)) d0_slotsOnWithin_7 rfl rfl (Nat.le_refl _) (Nat.le_refl _) ?_
  refine k_go 99 [] T0_slotsOnWithin_ok (fun K hK => ?_)
  refine k_at hm ?_
  refine k_at hm ?_
  refine k_eq (z := nI (a 13 m + a 14 m)) (nI_add _ _) ?_
  refine hK _ ?_
  refine k_mmin (x := nI y) (y := nI (a 13 m + a 14 m)) c0_53m (mnN (by omega) (by omega)) d0_slotsOnWithin_26 rfl rfl (Nat.le_refl _) (Nat.le_refl _) ?_
  refine k_go 99 [] T0_slotsOnWithin_ok (fun K hK => ?_)
  refine k_eq rfl ?_
  refine hK _ ?_
  refine k_mmax (x := nI 0) (y := nI (min y (a 13 m + a 14 m)) - nI (max x (a 13 m))) c0_47m (mx0 (by omega) (by omega)) d0_slotsOnWithin_37 rfl rfl (Nat.le_refl _) (Nat.le_refl _) ?_
  exact k_ireturn d0_slotsOnWithin_40 rfl rfl rfl rfl (Nat.le_refl _) (Nat.le_refl _)
/-- the unit has one that begins there -/
abbrev hasB (f : Nat → Nat) (a : Nat → Nat → Nat) (u s : Nat) : Prop := ∃ m, m < f 4 ∧ a 8 m = u ∧ a 10 m = s
theorem m0_hasBegin_loop (hB : Bd a) (h4 : f 4 ≤ 60) {u s : Nat} (hu : u < 10000) (hs : s < 10000) [Decidable (hasB f a u s)] : ∀ (n i : Nat), f 4 - i < n → i ≤ f 4 → (∀ m, m < i → ¬ (a 8 m = u ∧ a 10 m = s)) →
    k_W Y0_hasBegin none (.inl (some (.int (bI (hasB f a u s)))), hX f a G B o, 0, 0) (2, [(3, .int (nI i)), (0, .ref 11), (1, .int (nI u)), (2, .int (nI s))], [], hX f a G B o, 0, 0) := by
  intro n
  induction n with
  | zero => intro i h; omega
  | succ n ih =>
    intro i hn hi hb
    refine k_go 99 [2] T0_hasBegin_ok (fun K hK => ?_)
    refine b_ge (a := i) (b := f 4) (by omega) (by omega) (fun h => ?_) (fun h => ?_)
    · refine hK _ ?_
      exact k_ireturn d0_hasBegin_39 rfl rfl (k_rb (by
        rw [bI_f]; rfl
        rintro ⟨m, h1, h2⟩
        exact hb m (by omega) h2)) rfl (Nat.le_refl _) (Nat.le_refl _)
    · have h8 := hB 8 i (by omega)
      have h10 := hB 10 i (by omega)
      refine k_at (j := i) (by omega) ?_
      refine b_ne (a := a 8 i) (b := u) (by omega) (by omega) (fun h2 => ?_) (fun h2 => ?_)
      · refine k_eq (z := nI (i + 1)) (nI_add i 1) ?_
        refine hK _ ?_
        exact ih (i + 1) (by omega) (by omega) (lt_s hb (fun q => h2 q.1))
      · refine k_at (j := i) (by omega) ?_
        refine b_ne (a := a 10 i) (b := s) (by omega) (by omega) (fun h3 => ?_) (fun h3 => ?_)
        · refine k_eq (z := nI (i + 1)) (nI_add i 1) ?_
          refine hK _ ?_
          exact ih (i + 1) (by omega) (by omega) (lt_s hb (fun q => h3 q.2))
        · refine hK _ ?_
          exact k_ireturn d0_hasBegin_31 rfl rfl (k_rb (by rw [bI_t ⟨i, h, h2, h3⟩]; rfl)) rfl (Nat.le_refl _) (Nat.le_refl _)
theorem m0_hasBegin (hB : Bd a) (h4 : f 4 ≤ 60) {u s : Nat} (hu : u < 10000) (hs : s < 10000) [Decidable (hasB f a u s)] : k_Met Y0_hasBegin [.ref 11, .int (nI u), .int (nI s)] (hX f a G B o) (.inl (some (.int (bI (hasB f a u s)))), hX f a G B o, 0, 0) := by
  refine k_intro (by decide +kernel) rfl rfl rfl ?_
  refine k_go 99 [2] T0_hasBegin_ok (fun K hK => ?_)
  refine hK _ ?_
  exact m0_hasBegin_loop hB h4 hu hs (f 4 + 1) 0 (by omega) (by omega) (fun m h => by omega)
/-- the place for one more, and the row as it is when the place is found -/
def insA (w : Nat) : Nat → (Nat → Nat → Nat) → (Nat → Nat → Nat) × Nat
  | 0, a => (a, 0)
  | p + 1, a => if w < a 10 (a 16 p) then insA w p (up2 a 16 (p + 1) (a 16 p)) else (a, p + 1)
/-- one more message -/
def addA (f : Nat → Nat) (a : Nat → Nat → Nat) (u c w n r : Nat) : Nat → Nat → Nat :=
  up2 (up2 (up2 (up2 (up2 (up2 (insA w (f 4) a).1 16 (insA w (f 4) a).2 (f 4)) 8 (f 4) u) 9 (f 4) c) 10 (f 4) w) 11 (f 4) n) 12 (f 4) r
theorem m0_add_loop {u c w n r : Nat} (h4 : f 4 < 60) (hw : w < 10000) : ∀ (p : Nat) (a : Nat → Nat → Nat), p ≤ f 4 → Bd a → (∀ j, a 16 j < 60) → ∀ (G9 : k_G), G9 = (.inl (some (.int (nI (f 4)))), hX (up1 f 4 (f 4 + 1)) (up2 (up2 (up2 (up2 (up2 (up2 (insA w p a).1 16 (insA w p a).2 (f 4)) 8 (f 4) u) 9 (f 4) c) 10 (f 4) w) 11 (f 4) n) 12 (f 4) r) G B o, 0, 0) →
    k_W Y0_add none G9 (10, [(7, .int (nI p)), (6, .int (nI (f 4))), (0, .ref 11), (1, .int (nI u)), (2, .int (nI c)), (3, .int (nI w)), (4, .int (nI n)), (5, .int (nI r))], [], hX f a G B o, 0, 0) := by
  have fin : ∀ (p : Nat) (a : Nat → Nat → Nat), p < 60 → k_W Y0_add none (.inl (some (.int (nI (f 4)))), hX (up1 f 4 (f 4 + 1)) (up2 (up2 (up2 (up2 (up2 (up2 a 16 p (f 4)) 8 (f 4) u) 9 (f 4) c) 10 (f 4) w) 11 (f 4) n) 12 (f 4) r) G B o, 0, 0) (55, [(7, .int (nI p)), (6, .int (nI (f 4))), (0, .ref 11), (1, .int (nI u)), (2, .int (nI c)), (3, .int (nI w)), (4, .int (nI n)), (5, .int (nI r))], [], hX f a G B o, 0, 0) := by
    intro p a hp
    refine k_go 99 [10] T0_add_ok (fun K hK => ?_)
    refine k_at hp ?_
    refine k_eq (z := nI (f 4 + 1)) (nI_add _ 1) ?_
    refine k_at h4 ?_
    refine k_at h4 ?_
    refine k_at h4 ?_
    refine k_at h4 ?_
    refine k_at h4 ?_
    refine hK _ ?_
    exact k_ireturn d0_add_118 rfl rfl rfl (hX_eq (cF_up' rfl) (cA_up' (cA_up' (cA_up' (cA_up' (cA_up' (cA_up' (a := a) rfl rfl) rfl) rfl) rfl) rfl) rfl)).symm (Nat.le_refl _) (Nat.le_refl _)
  intro p
  induction p with
  | zero =>
    intro a hp hB h16 G9 hG
    subst hG
    refine k_go 99 [10, 55] T0_add_ok (fun K hK => ?_)
    refine z_le (a := 0) (by omega) (fun h => ?_) (fun h => absurd h (by omega))
    refine hK _ ?_
    exact fin 0 a (by omega)
  | succ p ih =>
    intro a hp hB h16 G9 hG
    refine k_go 99 [10, 55] T0_add_ok (fun K hK => ?_)
    refine z_le (a := p + 1) (by omega) (fun h => absurd h (by omega)) (fun h => ?_)
    refine k_eq (z := nI p) (nI_pred p) ?_
    refine k_at (j := p) (by omega) ?_
    have h10 := hB 10 (a 16 p) (by omega)
    refine k_at (j := a 16 p) (h16 p) ?_
    refine b_le (a := a 10 (a 16 p)) (b := w) (by omega) (by omega) (fun h2 => ?_) (fun h2 => ?_)
    · refine hK _ ?_
      have e : insA w (p + 1) a = (a, p + 1) := by
        show (if w < a 10 (a 16 p) then insA w p (up2 a 16 (p + 1) (a 16 p)) else (a, p + 1)) = _
        rw [if_neg (by omega)]
      rw [e] at hG
      subst hG
      exact fin (p + 1) a (by omega)
    · refine k_eq (z := nI p) (nI_pred p) ?_
      refine k_at (j := p) (by omega) ?_
      refine k_at (j := p + 1) (by omega) ?_
      refine k_eq (z := nI p) (pk_m1 p) ?_
      refine hK _ ?_
      have e : insA w (p + 1) a = insA w p (up2 a 16 (p + 1) (a 16 p)) := by
        show (if w < a 10 (a 16 p) then insA w p (up2 a 16 (p + 1) (a 16 p)) else (a, p + 1)) = _
        rw [if_pos h2]
      rw [e] at hG
      refine k_heq (hX_eq rfl (cA_up a 16 (p + 1) (a 16 p))) ?_
      refine ih (up2 a 16 (p + 1) (a 16 p)) (by omega) ?_ ?_ G9 hG
      · intro k j hk
        unfold up2
        split
        · unfold up1
          split
          · have := h16 p; omega
          · exact hB k j hk
        · exact hB k j hk
      · intro j
        show up1 (a 16) (p + 1) (a 16 p) j < 60
        unfold up1
        split
        · exact h16 p
        · exact h16 j
theorem m0_add {u c w n r : Nat} (hB : Bd a) (h16 : ∀ j, a 16 j < 60) (h4 : f 4 < 60) (hw : w < 10000) : k_Met Y0_add [.ref 11, .int (nI u), .int (nI c), .int (nI w), .int (nI n), .int (nI r)] (hX f a G B o) (.inl (some (.int (nI (f 4)))), hX (up1 f 4 (f 4 + 1)) (addA f a u c w n r) G B o, 0, 0) := by
  refine k_intro (by decide +kernel) rfl rfl rfl ?_
  refine k_go 99 [10] T0_add_ok (fun K hK => ?_)
  refine hK _ ?_
  exact m0_add_loop h4 hw (f 4) a (Nat.le_refl _) hB h16 _ rfl
end MS
