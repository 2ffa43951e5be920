/-- the scan down from a place, and up from it -/
def dnS (a : Nat → Nat → Nat) (m : Nat) : Nat → Bool → Bool
  | 0, b => b
  | k + 1, b => if a 10 (a 16 k) = a 10 m then dnS a m k (b || decide (kpP a (a 16 k) m)) else b
def upS (a : Nat → Nat → Nat) (m : Nat) : Nat → Nat → Bool → Bool
  | 0, _, b => b
  | n + 1, p, b => if a 10 (a 16 p) = a 10 m then upS a m n (p + 1) (b || decide (kpP a (a 16 p) m)) else b
def meB (f : Nat → Nat) (a : Nat → Nat → Nat) (p : Nat) : Bool := upS a (a 16 p) (f 4 - (p + 1)) (p + 1) (dnS a (a 16 p) p false)
section ME
variable {f : Nat → Nat} {a : Nat → Nat → Nat} {G : Nat → Int32} {B : Nat → Nat → Int32} {o : Nat → Int64} {x y z : Int32}
theorem m2_meets_up (I : IvA f a) {p m : Nat} (hm : m < 60) : ∀ (n q : Nat) (b : Bool), f 4 - q ≤ n → q ≤ 60 → ∀ (r : Bool), r = upS a m (f 4 - q) q b →
    k_W Y2_meetsItsBetter none (.inl (some (.int (bB r))), hX f a G B o, 0, 0) (74, [(4, .int (nI q)), (3, .int (bB b)), (2, .int (nI m)), (0, .ref 0), (1, .int (nI p))], [], hX f a G B o, 0, 0) := by
  have h4 := I.2.2.2.2.2.2.2.2.2.1
  intro n
  induction n with
  | zero =>
    intro q b hn hq r hr
    refine k_go 99 [74] T2_meetsItsBetter_ok (fun K hK => ?_)
    refine b_ge (a := q) (b := f 4) (by omega) (by omega) (fun h => ?_) (fun h => absurd h (by omega))
    refine hK _ ?_
    rw [show f 4 - q = 0 by omega] at hr
    exact k_ireturn d2_meetsItsBetter_134 rfl (bB_nar b) (by rw [hr]; rfl) rfl (Nat.le_refl _) (Nat.le_refl _)
  | succ n ih =>
    intro q b hn hq r hr
    refine k_go 99 [74] T2_meetsItsBetter_ok (fun K hK => ?_)
    refine b_ge (a := q) (b := f 4) (by omega) (by omega) (fun h => ?_) (fun h => ?_)
    · refine hK _ ?_
      rw [show f 4 - q = 0 by omega] at hr
      exact k_ireturn d2_meetsItsBetter_134 rfl (bB_nar b) (by rw [hr]; rfl) rfl (Nat.le_refl _) (Nat.le_refl _)
    · have h16 := I.2.1 q
      rw [show f 4 - q = (f 4 - (q + 1)) + 1 by omega] at hr
      have hr2 : r = if a 10 (a 16 q) = a 10 m then upS a m (f 4 - (q + 1)) (q + 1) (b || decide (kpP a (a 16 q) m)) else b := hr
      refine hK _ ?_
      refine k_callV (Y' := Y0_beginsWith) (as := [.int (nI q), .int (nI m)]) (st := []) (m0_beginsWith I.1 (by omega) hm h16) rfl c2_247 rfl rfl rfl d2_meetsItsBetter_93 (Nat.le_of_ble_eq_true rfl) (Nat.le_of_ble_eq_true rfl) rfl rfl ?_
      refine k_go 99 [74] T2_meetsItsBetter_ok (fun K hK => ?_)
      refine p_eq (fun h2 => ?_) (fun h2 => ?_)
      · refine hK _ ?_
        rw [if_neg h2] at hr2
        exact k_ireturn d2_meetsItsBetter_134 rfl (bB_nar b) (by rw [hr2]) rfl (Nat.le_refl _) (Nat.le_refl _)
      · rw [if_pos h2] at hr2
        refine q_ne (fun h3 => ?_) (fun h3 => ?_)
        · refine k_eq (z := nI (q + 1)) (nI_add q 1) ?_
          refine hK _ ?_
          rw [h3] at hr2
          exact ih (q + 1) true (by omega) (by omega) r hr2
        · refine k_at (j := q) (by omega) ?_
          refine hK _ ?_
          refine k_callV (Y' := Y2_keepsFromCalling) (as := [.int (nI (a 16 q)), .int (nI m)]) (st := []) (m2_keeps I h16 hm) rfl c2_250 rfl rfl rfl d2_meetsItsBetter_115 (Nat.le_of_ble_eq_true rfl) (Nat.le_of_ble_eq_true rfl) rfl rfl ?_
          refine k_go 99 [74] T2_meetsItsBetter_ok (fun K hK => ?_)
          refine p_eq (fun h5 => ?_) (fun h5 => ?_)
          · refine k_eq (z := nI (q + 1)) (nI_add q 1) ?_
            refine hK _ ?_
            rw [h3, decide_eq_false h5] at hr2
            exact ih (q + 1) false (by omega) (by omega) r hr2
          · refine k_eq (z := nI (q + 1)) (nI_add q 1) ?_
            refine hK _ ?_
            rw [h3, decide_eq_true h5] at hr2
            exact ih (q + 1) true (by omega) (by omega) r hr2
theorem m2_meets_dn (I : IvA f a) {p m : Nat} (hp : p < 60) (hm : m < 60) : ∀ (k : Nat) (b : Bool), k ≤ p → ∀ (r : Bool), r = upS a m (f 4 - (p + 1)) (p + 1) (dnS a m k b) →
    k_W Y2_meetsItsBetter none (.inl (some (.int (bB r))), hX f a G B o, 0, 0) (17, [(4, .int (nI k + (-1))), (3, .int (bB b)), (2, .int (nI m)), (0, .ref 0), (1, .int (nI p))], [], hX f a G B o, 0, 0) := by
  have up : ∀ (b : Bool) (r : Bool) (v : Int32), r = upS a m (f 4 - (p + 1)) (p + 1) b → k_W Y2_meetsItsBetter none (.inl (some (.int (bB r))), hX f a G B o, 0, 0) (69, [(4, .int v), (3, .int (bB b)), (2, .int (nI m)), (0, .ref 0), (1, .int (nI p))], [], hX f a G B o, 0, 0) := by
    intro b r v hr
    refine k_go 99 [74] T2_meetsItsBetter_ok (fun K hK => ?_)
    refine k_eq (z := nI (p + 1)) (nI_add p 1) ?_
    refine hK _ ?_
    exact m2_meets_up I hm (f 4) (p + 1) b (by omega) (by omega) r hr
  intro k
  induction k with
  | zero =>
    intro b hk r hr
    refine k_go 99 [17, 69] T2_meetsItsBetter_ok (fun K hK => ?_)
    refine And.intro (fun _ => ?_) (fun q => absurd (show nI 0 + (-1 : Int32) < 0 by decide) q)
    refine hK _ ?_
    exact up b r _ hr
  | succ k ih =>
    intro b hk r hr
    have e1 : nI (k + 1) + (-1 : Int32) = nI k := pk_m1 k
    rw [e1]
    have h16 := I.2.1 k
    have hr2 : r = upS a m (f 4 - (p + 1)) (p + 1) (if a 10 (a 16 k) = a 10 m then dnS a m k (b || decide (kpP a (a 16 k) m)) else b) := hr
    refine k_go 99 [17, 69] T2_meetsItsBetter_ok (fun K hK => ?_)
    refine z_lt (a := k) (by omega) ?_
    refine hK _ ?_
    refine k_callV (Y' := Y0_beginsWith) (as := [.int (nI k), .int (nI m)]) (st := []) (m0_beginsWith I.1 (by omega) hm h16) rfl c2_247 rfl rfl rfl d2_meetsItsBetter_29 (Nat.le_of_ble_eq_true rfl) (Nat.le_of_ble_eq_true rfl) rfl rfl ?_
    refine k_go 99 [17, 69] T2_meetsItsBetter_ok (fun K hK => ?_)
    refine p_eq (fun h2 => ?_) (fun h2 => ?_)
    · refine hK _ ?_
      rw [if_neg h2] at hr2
      exact up b r _ hr2
    · rw [if_pos h2] at hr2
      refine q_ne (fun h3 => ?_) (fun h3 => ?_)
      · refine k_eq rfl ?_
        refine hK _ ?_
        rw [h3] at hr2
        exact ih true (by omega) r hr2
      · refine k_at (j := k) (by omega) ?_
        refine hK _ ?_
        refine k_callV (Y' := Y2_keepsFromCalling) (as := [.int (nI (a 16 k)), .int (nI m)]) (st := []) (m2_keeps I h16 hm) rfl c2_250 rfl rfl rfl d2_meetsItsBetter_51 (Nat.le_of_ble_eq_true rfl) (Nat.le_of_ble_eq_true rfl) rfl rfl ?_
        refine k_go 99 [17, 69] T2_meetsItsBetter_ok (fun K hK => ?_)
        refine p_eq (fun h5 => ?_) (fun h5 => ?_)
        · refine k_eq rfl ?_
          refine hK _ ?_
          rw [h3, decide_eq_false h5] at hr2
          exact ih false (by omega) r hr2
        · refine k_eq rfl ?_
          refine hK _ ?_
          rw [h3, decide_eq_true h5] at hr2
          exact ih true (by omega) r hr2
theorem m2_meets (I : IvA f a) {p : Nat} (hp : p < 60) : k_Met Y2_meetsItsBetter [.ref 0, .int (nI p)] (hX f a G B o) (.inl (some (.int (bB (meB f a p)))), hX f a G B o, 0, 0) := by
  refine k_intro (by decide +kernel) rfl rfl rfl ?_
  refine k_go 99 [17] T2_meetsItsBetter_ok (fun K hK => ?_)
  refine k_at hp ?_
  refine k_eq (z := nI p + (-1)) (by
    show nI p - nI 1 = nI p + (-1)
    rw [show (-1 : Int32) = -(nI 1) from rfl, Int32.sub_eq_add_neg]) ?_
  refine hK _ ?_
  exact m2_meets_dn I hp (I.2.1 p) p false (Nat.le_refl _) _ rfl
/-- putOn in numbers -/
def putA (f : Nat → Nat) (a : Nat → Nat → Nat) (m s : Nat) : Nat → Nat → Nat :=
  let a1 := up2 a 19 (a 18 (a 9 m)) m
  let w := max 1 (a 11 m)
  if f 1 = 0 ∨ w ≤ f 1 then (if w ≤ f 0 - s then sOn a1 m s w 0 else sOn (sOn a1 m s w 0) m s (f 0 - s) 4)
  else (if f 1 ≤ f 0 - s then sOn a1 m s (f 1) 2 else sOn (sOn a1 m s (f 1) 2) m s (f 0 - s) 4)
theorem sOn_14 (a : Nat → Nat → Nat) (m x y z : Nat) : sOn a m x y z 14 m = y := by
  simp [sOn, up2, up1]
theorem c2_253m : k_okM 2 253 Lib.Math.max.name Lib.Math.max.code = true := by decide +kernel
theorem c2_280m : k_okM 2 280 Lib.Math.min.name Lib.Math.min.code = true := by decide +kernel
theorem m2_putOn (I : IvA f a) {m s : Nat} (hm : m < 60) (hs : s ≤ f 0) : k_Met Y2_putOn [.ref 0, .int (nI m), .int (nI s)] (hX f a G B o) (.inl none, hX f (putA f a m s) G B o, 0, 0) := by
  have h0 := I.2.2.2.2.2.2.2.1
  have h1 := I.2.2.2.2.2.2.2.2.1
  have h11 := I.2.2.2.2.2.2.2.2.2.2.2.1 m
  have h9 := I.2.2.1 m
  have h18 := I.2.2.2.1 (a 9 m)
  have fin : ∀ (G9 : k_G) (a2 : Nat → Nat → Nat) (w y z : Nat), a2 14 m = y → y < 10000 → G9 = (.inl none, hX f (if y ≤ f 0 - s then a2 else sOn a2 m s (f 0 - s) 4) G B o, 0, 0) → k_W Y2_putOn none G9 (77, [(3, .int (nI w)), (0, .ref 0), (1, .int (nI m)), (2, .int (nI s))], [], hX f a2 G B o, 0, 0) := by
    intro G9 a2 w y z e hy hG
    refine k_go 99 [] T2_putOn_ok (fun K hK => ?_)
    refine k_eq (z := nI (f 0 - s)) (pk_sub hs) ?_
    refine k_at hm ?_
    refine b_le (a := a2 14 m) (b := f 0 - s) (by omega) (by omega) (fun h => ?_) (fun h => ?_)
    · refine hK _ ?_
      rw [if_pos (by omega)] at hG
      subst hG
      exact k_return d2_putOn_111 rfl rfl rfl (Nat.le_of_ble_eq_true rfl) (Nat.le_of_ble_eq_true rfl)
    · rw [if_neg (by omega)] at hG
      subst hG
      refine hK _ ?_
      refine k_callV (Y' := Y0_setOn) (as := [.int (nI m), .int (nI s), .int (nI (f 0 - s)), .int (nI 4)]) (st := []) (m0_setOnN hm s (f 0 - s) 4) rfl c2_258 rfl rfl rfl d2_putOn_108 (Nat.le_of_ble_eq_true rfl) (Nat.le_of_ble_eq_true rfl) rfl rfl ?_
      exact k_return d2_putOn_111 rfl rfl rfl (Nat.le_of_ble_eq_true rfl) (Nat.le_of_ble_eq_true rfl)
  refine k_intro (by decide +kernel) rfl rfl rfl ?_
  refine k_go 99 [] T2_putOn_ok (fun K hK => ?_)
  refine k_at hm ?_
  refine k_at (j := a 9 m) h9 ?_
  refine k_at (j := a 18 (a 9 m)) h18 ?_
  refine k_at hm ?_
  refine hK _ ?_
  refine k_heq (hX_eq rfl (cA_up a 19 (a 18 (a 9 m)) m)) ?_
  refine k_mmax (x := nI 1) (y := nI (a 11 m)) c2_253m (mxN (by omega) (by omega)) d2_putOn_30 rfl rfl (Nat.le_refl _) (Nat.le_refl _) ?_
  refine k_go 99 [] T2_putOn_ok (fun K hK => ?_)
  have e0 : f 1 = 0 ∨ max 1 (a 11 m) ≤ f 1 → putA f a m s = if max 1 (a 11 m) ≤ f 0 - s then sOn (up2 a 19 (a 18 (a 9 m)) m) m s (max 1 (a 11 m)) 0 else sOn (sOn (up2 a 19 (a 18 (a 9 m)) m) m s (max 1 (a 11 m)) 0) m s (f 0 - s) 4 := fun h => if_pos h
  have e2 : ¬ (f 1 = 0 ∨ max 1 (a 11 m) ≤ f 1) → putA f a m s = if f 1 ≤ f 0 - s then sOn (up2 a 19 (a 18 (a 9 m)) m) m s (f 1) 2 else sOn (sOn (up2 a 19 (a 18 (a 9 m)) m) m s (f 1) 2) m s (f 0 - s) 4 := fun h => if_neg h
  refine z_le (a := f 1) (by omega) (fun h => ?_) (fun h => ?_)
  · rw [e0 (Or.inl h)]
    refine hK _ ?_
    refine k_callV (Y' := Y0_setOn) (as := [.int (nI m), .int (nI s), .int (nI (max 1 (a 11 m))), .int (nI 0)]) (st := []) (m0_setOnN hm s (max 1 (a 11 m)) 0) rfl c2_258 rfl rfl rfl d2_putOn_74 (Nat.le_of_ble_eq_true rfl) (Nat.le_of_ble_eq_true rfl) rfl rfl ?_
    exact fin _ _ _ (max 1 (a 11 m)) 0 (sOn_14 _ _ _ _ _) (by omega) rfl
  · refine b_ge (a := f 1) (b := max 1 (a 11 m)) (by omega) (by omega) (fun h3 => ?_) (fun h3 => ?_)
    · rw [e0 (Or.inr h3)]
      refine hK _ ?_
      refine k_callV (Y' := Y0_setOn) (as := [.int (nI m), .int (nI s), .int (nI (max 1 (a 11 m))), .int (nI 0)]) (st := []) (m0_setOnN hm s (max 1 (a 11 m)) 0) rfl c2_258 rfl rfl rfl d2_putOn_74 (Nat.le_of_ble_eq_true rfl) (Nat.le_of_ble_eq_true rfl) rfl rfl ?_
      exact fin _ _ _ (max 1 (a 11 m)) 0 (sOn_14 _ _ _ _ _) (by omega) rfl
    · rw [e2 (by omega)]
      refine hK _ ?_
      refine k_callV (Y' := Y0_setOn) (as := [.int (nI m), .int (nI s), .int (nI (f 1)), .int (nI 2)]) (st := []) (m0_setOnN hm s (f 1) 2) rfl c2_258 rfl rfl rfl d2_putOn_60 (Nat.le_of_ble_eq_true rfl) (Nat.le_of_ble_eq_true rfl) rfl rfl ?_
      refine k_go 99 [77] T2_putOn_ok (fun K hK => ?_)
      refine hK _ ?_
      exact fin _ _ _ (f 1) 0 (sOn_14 _ _ _ _ _) (by omega) rfl
end ME
