section MS
variable {f : Nat → Nat} {a : Nat → Nat → Nat} {G : Nat → Int32} {B : Nat → Nat → Int32} {o : Nat → Int64}
theorem m0_setOn {F : Nat → Int32} {A : Nat → Nat → Int32} {m : Nat} (hm : m < 60) (x y z : Int32) : k_Met Y0_setOn [.ref 11, .int (nI m), .int x, .int y, .int z] (hA F A G B o) (.inl none, hA F (upA (upA (upA A 13 (upd (A 13) m x)) 14 (upd (A 14) m y)) 15 (upd (A 15) m z)) G B o, 0, 0) := by
  refine k_intro (by decide +kernel) rfl rfl rfl ?_
  refine k_go 99 [] T0_setOn_ok (fun K hK => ?_)
  refine k_at hm ?_
  refine k_at hm ?_
  refine k_at hm ?_
  refine hK _ ?_
  exact k_return d0_setOn_22 rfl rfl rfl (Nat.le_refl _) (Nat.le_refl _)
/-- setOn in numbers -/
def sOn (a : Nat → Nat → Nat) (m x y z : Nat) : Nat → Nat → Nat := up2 (up2 (up2 a 13 m x) 14 m y) 15 m z
theorem m0_setOnN {m : Nat} (hm : m < 60) (x y z : Nat) : k_Met Y0_setOn [.ref 11, .int (nI m), .int (nI x), .int (nI y), .int (nI z)] (hX f a G B o) (.inl none, hX f (sOn a m x y z) G B o, 0, 0) := by
  have h := m0_setOn (G := G) (B := B) (o := o) (F := cF f) (A := cA a) hm (nI x) (nI y) (nI z)
  have e : upA (upA (upA (cA a) 13 (upd (cA a 13) m (nI x))) 14 (upd (cA a 14) m (nI y))) 15 (upd (cA a 15) m (nI z)) = cA (sOn a m x y z) := by
    have e1 := cA_up a 13 m x
    have e2 := cA_up (up2 a 13 m x) 14 m y
    have e3 := cA_up (up2 (up2 a 13 m x) 14 m y) 15 m z
    rw [e1]
    exact (congrArg (fun z9 => upA z9 15 _) e2).trans e3
  rw [e] at h
  exact h
theorem m0_markLost {m : Nat} (hm : m < 60) : k_Met Y0_markLost [.ref 11, .int (nI m)] (hX f a G B o) (.inl none, hX f (sOn a m (a 10 m) 0 3) G B o, 0, 0) := by
  refine k_intro (by decide +kernel) rfl rfl rfl ?_
  refine k_go 99 [] T0_markLost_ok (fun K hK => ?_)
  refine k_at hm ?_
  refine hK _ ?_
  refine k_callV (Y' := Y0_setOn) (as := [.int (nI m), .int (nI (a 10 m)), .int (nI 0), .int (nI 3)]) (st := []) (m0_setOnN hm (a 10 m) 0 3) rfl c0_43 rfl rfl rfl d0_markLost_10 (Nat.le_refl _) (Nat.le_refl _) rfl rfl ?_
  exact k_return d0_markLost_13 rfl rfl rfl (Nat.le_refl _) (Nat.le_refl _)
theorem m0_isOn (hB : Bd a) {m s : Nat} (hm : m < 60) (hs : s < 10000) : k_Met Y0_isOn [.ref 11, .int (nI m), .int (nI s)] (hX f a G B o) (.inl (some (.int (bI (onP a m s)))), hX f a G B o, 0, 0) := by
  have h13 := hB 13 m (by omega)
  have h14 := hB 14 m (by omega)
  refine k_intro (by decide +kernel) rfl rfl rfl ?_
  refine k_go 99 [] T0_isOn_ok (fun K hK => ?_)
  refine k_at hm ?_
  refine b_lt (a := s) (b := a 13 m) (by omega) (by omega) (fun h => ?_) (fun h => ?_)
  · refine hK _ ?_
    exact k_ireturn d0_isOn_32 rfl rfl (k_rb (by rw [bI_f (by omega)]; rfl)) rfl (Nat.le_refl _) (Nat.le_refl _)
  · refine k_at hm ?_
    refine k_eq (z := nI (s - a 13 m)) (pk_sub h) ?_
    refine k_at hm ?_
    refine b_ge (a := s - a 13 m) (b := a 14 m) (by omega) (by omega) (fun h2 => ?_) (fun h2 => ?_)
    · refine hK _ ?_
      exact k_ireturn d0_isOn_32 rfl rfl (k_rb (by rw [bI_f (by omega)]; rfl)) rfl (Nat.le_refl _) (Nat.le_refl _)
    · refine hK _ ?_
      exact k_ireturn d0_isOn_32 rfl rfl (k_rb (by rw [bI_t (by omega)]; rfl)) rfl (Nat.le_refl _) (Nat.le_refl _)
end MS
