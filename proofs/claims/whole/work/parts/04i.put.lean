/-- putOn in numbers -/
def putA (f : Nat → Nat) (a : Nat → Nat → Nat) (m s : Nat) : Nat → Nat → Nat :=
  let a1 := up2 a 19 (a 18 (a 9 m)) m
  let w := max 1 (a 11 m)
  if f 1 = 0 ∨ w ≤ f 1 then (if w ≤ f 0 - s then sOn a1 m s w 0 else sOn (sOn a1 m s w 0) m s (f 0 - s) 4)
  else (if f 1 ≤ f 0 - s then sOn a1 m s (f 1) 2 else sOn (sOn a1 m s (f 1) 2) m s (f 0 - s) 4)
theorem sOn_14 (a : Nat → Nat → Nat) (m x y z : Nat) : sOn a m x y z 14 m = y := by
  simp [sOn, up2, up1]
theorem c2_253m : k_okM 2 253 Lib.Math.max.name Lib.Math.max.code = true := by decide +kernel
theorem c2_280m : k_okM 2 280 Lib.Math.min.name Lib.Math.min.code = true := by decide +kernel
section PU
variable {f : Nat → Nat} {a : Nat → Nat → Nat} {G : Nat → Int32} {B : Nat → Nat → Int32} {o : Nat → Int64} {x y z : Int32}
theorem m2_putOn (I : IvA f a) {m s : Nat} (hm : m < 60) (hs : s ≤ f 0) : k_Met Y2_putOn [.ref 0, .int (nI m), .int (nI s)] (hX f a G B o) (.inl none, hX f (putA f a m s) G B o, 0, 0) := by
  have h0 := I.2.2.2.2.2.2.2.1
  have h1 := I.2.2.2.2.2.2.2.2.1
  have h11 := I.2.2.2.2.2.2.2.2.2.2.2.1 m
  have h9 := I.2.2.1 m
  have h18 := I.2.2.2.1 (a 9 m)
  have fin : ∀ (G9 : k_G) (a2 : Nat → Nat → Nat) (w y z : Nat), a2 14 m = y → y < 10000 → G9 = (.inl none, hX f (if y ≤ f 0 - s then a2 else sOn a2 m s (f 0 - s) 4) G B o, 0, 0) → k_W Y2_putOn none G9 (77, [(3, .int (nI w)), (0, .ref 0), (1, .int (nI m)), (2, .int (nI s))], [], hX f a2 G B o, 0, 0) := by
    intro G9 a2 w y z e hy hG
    refine k_go 99 [] T2_putOn_ok (fun K hK => ?_)
    refine k_eq (z := nI (f 0 - s)) (pk_sub hs) ?_
    refine k_at hm ?_
    refine b_le (a := a2 14 m) (b := f 0 - s) (by omega) (by omega) (fun h => ?_) (fun h => ?_)
    · refine hK _ ?_
      rw [if_pos (by omega)] at hG
      subst hG
      exact k_return d2_putOn_111 rfl rfl rfl (Nat.le_of_ble_eq_true rfl) (Nat.le_of_ble_eq_true rfl)
    · rw [if_neg (by omega)] at hG
      subst hG
      refine hK _ ?_
      refine k_callV (Y' := Y0_setOn) (as := [.int (nI m), .int (nI s), .int (nI (f 0 - s)), .int (nI 4)]) (st := []) (m0_setOnN hm s (f 0 - s) 4) rfl c2_258 rfl rfl rfl d2_putOn_108 (Nat.le_of_ble_eq_true rfl) (Nat.le_of_ble_eq_true rfl) rfl rfl ?_
      exact k_return d2_putOn_111 rfl rfl rfl (Nat.le_of_ble_eq_true rfl) (Nat.le_of_ble_eq_true rfl)
  have e0 : f 1 = 0 ∨ max 1 (a 11 m) ≤ f 1 → putA f a m s = if max 1 (a 11 m) ≤ f 0 - s then sOn (up2 a 19 (a 18 (a 9 m)) m) m s (max 1 (a 11 m)) 0 else sOn (sOn (up2 a 19 (a 18 (a 9 m)) m) m s (max 1 (a 11 m)) 0) m s (f 0 - s) 4 := fun h => if_pos h
  have e2 : ¬ (f 1 = 0 ∨ max 1 (a 11 m) ≤ f 1) → putA f a m s = if f 1 ≤ f 0 - s then sOn (up2 a 19 (a 18 (a 9 m)) m) m s (f 1) 2 else sOn (sOn (up2 a 19 (a 18 (a 9 m)) m) m s (f 1) 2) m s (f 0 - s) 4 := fun h => if_neg h
  refine k_intro (by decide +kernel) rfl rfl rfl ?_
  generalize hG : ((.inl none, hX f (putA f a m s) G B o, 0, 0) : k_G) = G9
  have hmc : G9.2.2.1 = 0 ∧ G9.2.2.2 = 0 := by rw [← hG]; exact ⟨rfl, rfl⟩
  refine k_go 99 [] T2_putOn_ok (fun K hK => ?_)
  refine k_at hm ?_
  refine k_at (j := a 9 m) h9 ?_
  refine k_at (j := a 18 (a 9 m)) h18 ?_
  refine k_at hm ?_
  refine hK _ ?_
  refine k_heq (hX_eq rfl (cA_up a 19 (a 18 (a 9 m)) m)) ?_
  refine k_mmax (x := nI 1) (y := nI (a 11 m)) (z := nI (max 1 (a 11 m))) c2_253m (mxN (by omega) (by omega)) d2_putOn_30 rfl rfl (Nat.zero_le _) (Nat.zero_le _) ?_
  refine k_go 99 [] T2_putOn_ok (fun K hK => ?_)
  refine z_le (a := f 1) (by omega) (fun h => ?_) (fun h => ?_)
  · refine hK _ ?_
    refine k_callV (Y' := Y0_setOn) (as := [.int (nI m), .int (nI s), .int (nI (max 1 (a 11 m))), .int (nI 0)]) (st := []) (m0_setOnN hm s (max 1 (a 11 m)) 0) rfl c2_258 rfl rfl rfl d2_putOn_74 (Nat.zero_le _) (Nat.zero_le _) rfl rfl ?_
    exact fin _ _ _ (max 1 (a 11 m)) 0 (sOn_14 _ _ _ _ _) (by omega) (hG.symm.trans (by rw [e0 (Or.inl h)]))
  · refine b_ge (a := f 1) (b := max 1 (a 11 m)) (by omega) (by omega) (fun h3 => ?_) (fun h3 => ?_)
    · refine hK _ ?_
      refine k_callV (Y' := Y0_setOn) (as := [.int (nI m), .int (nI s), .int (nI (max 1 (a 11 m))), .int (nI 0)]) (st := []) (m0_setOnN hm s (max 1 (a 11 m)) 0) rfl c2_258 rfl rfl rfl d2_putOn_74 (Nat.zero_le _) (Nat.zero_le _) rfl rfl ?_
      exact fin _ _ _ (max 1 (a 11 m)) 0 (sOn_14 _ _ _ _ _) (by omega) (hG.symm.trans (by rw [e0 (Or.inr h3)]))
    · refine hK _ ?_
      refine k_callV (Y' := Y0_setOn) (as := [.int (nI m), .int (nI s), .int (nI (f 1)), .int (nI 2)]) (st := []) (m0_setOnN hm s (f 1) 2) rfl c2_258 rfl rfl rfl d2_putOn_60 (Nat.zero_le _) (Nat.zero_le _) rfl rfl ?_
      refine k_go 99 [77] T2_putOn_ok (fun K hK => ?_)
      refine hK _ ?_
      exact fin _ _ _ (f 1) 0 (sOn_14 _ _ _ _ _) (by omega) (hG.symm.trans (by rw [e2 (by omega)]))
end PU
