/-- the scan down from a place, and up from it -/
def dnS (a : Nat → Nat → Nat) (m : Nat) : Nat → Bool → Bool
  | 0, b => b
  | k + 1, b => if a 10 (a 16 k) = a 10 m then dnS a m k (b || decide (kpP a (a 16 k) m)) else b
def upS (a : Nat → Nat → Nat) (m : Nat) : Nat → Nat → Bool → Bool
  | 0, _, b => b
  | n + 1, p, b => if a 10 (a 16 p) = a 10 m then upS a m n (p + 1) (b || decide (kpP a (a 16 p) m)) else b
def meB (f : Nat → Nat) (a : Nat → Nat → Nat) (p : Nat) : Bool := upS a (a 16 p) (f 4 - (p + 1)) (p + 1) (dnS a (a 16 p) p false)
section ME
variable {f : Nat → Nat} {a : Nat → Nat → Nat} {G : Nat → Int32} {B : Nat → Nat → Int32} {o : Nat → Int64} {x y z : Int32}
theorem m2_meets_up (I : IvA f a) {p m : Nat} (hm : m < 60) : ∀ (n q : Nat) (b : Bool), f 4 - q ≤ n → q ≤ 60 → ∀ (r : Bool), r = upS a m (f 4 - q) q b →
    k_W Y2_meetsItsBetter none (.inl (some (.int (bB r))), hX f a G B o, 0, 0) (74, [(4, .int (nI q)), (3, .int (bB b)), (2, .int (nI m)), (0, .ref 0), (1, .int (nI p))], [], hX f a G B o, 0, 0) := by
  have h4 := I.2.2.2.2.2.2.2.2.2.1
  intro n
  induction n with
  | zero =>
    intro q b hn hq r hr
    refine k_go 99 [74] T2_meetsItsBetter_ok (fun K hK => ?_)
    refine b_ge (a := q) (b := f 4) (by omega) (by omega) (fun h => ?_) (fun h => absurd h (by omega))
    refine hK _ ?_
    rw [show f 4 - q = 0 by omega] at hr
    exact k_ireturn d2_meetsItsBetter_134 rfl (bB_nar b) (by rw [hr]; rfl) rfl (Nat.le_refl _) (Nat.le_refl _)
  | succ n ih =>
    intro q b hn hq r hr
    refine k_go 99 [74] T2_meetsItsBetter_ok (fun K hK => ?_)
    refine b_ge (a := q) (b := f 4) (by omega) (by omega) (fun h => ?_) (fun h => ?_)
    · refine hK _ ?_
      rw [show f 4 - q = 0 by omega] at hr
      exact k_ireturn d2_meetsItsBetter_134 rfl (bB_nar b) (by rw [hr]; rfl) rfl (Nat.le_refl _) (Nat.le_refl _)
    · have h16 := I.2.1 q
      rw [show f 4 - q = (f 4 - (q + 1)) + 1 by omega] at hr
      have hr2 : r = if a 10 (a 16 q) = a 10 m then upS a m (f 4 - (q + 1)) (q + 1) (b || decide (kpP a (a 16 q) m)) else b := hr
      refine hK _ ?_
      refine k_callV (Y' := Y0_beginsWith) (as := [.int (nI q), .int (nI m)]) (st := []) (m0_beginsWith I.1 (by omega) hm h16) rfl c2_247 rfl rfl rfl d2_meetsItsBetter_93 (Nat.le_of_ble_eq_true rfl) (Nat.le_of_ble_eq_true rfl) rfl rfl ?_
      refine k_go 99 [74] T2_meetsItsBetter_ok (fun K hK => ?_)
      refine p_eq (fun h2 => ?_) (fun h2 => ?_)
      · refine hK _ ?_
        rw [if_neg h2] at hr2
        exact k_ireturn d2_meetsItsBetter_134 rfl (bB_nar b) (by rw [hr2]) rfl (Nat.le_refl _) (Nat.le_refl _)
      · rw [if_pos h2] at hr2
        refine q_ne (fun h3 => ?_) (fun h3 => ?_)
        · refine k_eq (z := nI (q + 1)) (nI_add q 1) ?_
          refine hK _ ?_
          rw [h3] at hr2
          exact ih (q + 1) true (by omega) (by omega) r hr2
        · refine k_at (j := q) (by omega) ?_
          refine hK _ ?_
          refine k_callV (Y' := Y2_keepsFromCalling) (as := [.int (nI (a 16 q)), .int (nI m)]) (st := []) (m2_keeps I h16 hm) rfl c2_250 rfl rfl rfl d2_meetsItsBetter_115 (Nat.le_of_ble_eq_true rfl) (Nat.le_of_ble_eq_true rfl) rfl rfl ?_
          refine k_go 99 [74] T2_meetsItsBetter_ok (fun K hK => ?_)
          refine p_eq (fun h5 => ?_) (fun h5 => ?_)
          · refine k_eq (z := nI (q + 1)) (nI_add q 1) ?_
            refine hK _ ?_
            rw [h3, decide_eq_false h5] at hr2
            exact ih (q + 1) false (by omega) (by omega) r hr2
          · refine k_eq (z := nI (q + 1)) (nI_add q 1) ?_
            refine hK _ ?_
            rw [h3, decide_eq_true h5] at hr2
            exact ih (q + 1) true (by omega) (by omega) r hr2
theorem m2_meets_dn (I : IvA f a) {p m : Nat} (hp : p < 60) (hm : m < 60) : ∀ (k : Nat) (b : Bool), k ≤ p → ∀ (r : Bool), r = upS a m (f 4 - (p + 1)) (p + 1) (dnS a m k b) →
    k_W Y2_meetsItsBetter none (.inl (some (.int (bB r))), hX f a G B o, 0, 0) (17, [(4, .int (nI k + (-1))), (3, .int (bB b)), (2, .int (nI m)), (0, .ref 0), (1, .int (nI p))], [], hX f a G B o, 0, 0) := by
  have up : ∀ (b : Bool) (r : Bool) (v : Int32), r = upS a m (f 4 - (p + 1)) (p + 1) b → k_W Y2_meetsItsBetter none (.inl (some (.int (bB r))), hX f a G B o, 0, 0) (69, [(4, .int v), (3, .int (bB b)), (2, .int (nI m)), (0, .ref 0), (1, .int (nI p))], [], hX f a G B o, 0, 0) := by
    intro b r v hr
    refine k_go 99 [74] T2_meetsItsBetter_ok (fun K hK => ?_)
    refine k_eq (z := nI (p + 1)) (nI_add p 1) ?_
    refine hK _ ?_
    exact m2_meets_up I hm (f 4) (p + 1) b (by omega) (by omega) r hr
  intro k
  induction k with
  | zero =>
    intro b hk r hr
    refine k_go 99 [17, 69] T2_meetsItsBetter_ok (fun K hK => ?_)
    refine And.intro (fun _ => ?_) (fun q => absurd (show nI 0 + (-1 : Int32) < 0 by decide) q)
    refine hK _ ?_
    exact up b r _ hr
  | succ k ih =>
    intro b hk r hr
    have e1 : nI (k + 1) + (-1 : Int32) = nI k := pk_m1 k
    rw [e1]
    have h16 := I.2.1 k
    have hr2 : r = upS a m (f 4 - (p + 1)) (p + 1) (if a 10 (a 16 k) = a 10 m then dnS a m k (b || decide (kpP a (a 16 k) m)) else b) := hr
    refine k_go 99 [17, 69] T2_meetsItsBetter_ok (fun K hK => ?_)
    refine z_lt (a := k) (by omega) ?_
    refine hK _ ?_
    refine k_callV (Y' := Y0_beginsWith) (as := [.int (nI k), .int (nI m)]) (st := []) (m0_beginsWith I.1 (by omega) hm h16) rfl c2_247 rfl rfl rfl d2_meetsItsBetter_29 (Nat.le_of_ble_eq_true rfl) (Nat.le_of_ble_eq_true rfl) rfl rfl ?_
    refine k_go 99 [17, 69] T2_meetsItsBetter_ok (fun K hK => ?_)
    refine p_eq (fun h2 => ?_) (fun h2 => ?_)
    · refine hK _ ?_
      rw [if_neg h2] at hr2
      exact up b r _ hr2
    · rw [if_pos h2] at hr2
      refine q_ne (fun h3 => ?_) (fun h3 => ?_)
      · refine k_eq rfl ?_
        refine hK _ ?_
        rw [h3] at hr2
        exact ih true (by omega) r hr2
      · refine k_at (j := k) (by omega) ?_
        refine hK _ ?_
        refine k_callV (Y' := Y2_keepsFromCalling) (as := [.int (nI (a 16 k)), .int (nI m)]) (st := []) (m2_keeps I h16 hm) rfl c2_250 rfl rfl rfl d2_meetsItsBetter_51 (Nat.le_of_ble_eq_true rfl) (Nat.le_of_ble_eq_true rfl) rfl rfl ?_
        refine k_go 99 [17, 69] T2_meetsItsBetter_ok (fun K hK => ?_)
        refine p_eq (fun h5 => ?_) (fun h5 => ?_)
        · refine k_eq rfl ?_
          refine hK _ ?_
          rw [h3, decide_eq_false h5] at hr2
          exact ih false (by omega) r hr2
        · refine k_eq rfl ?_
          refine hK _ ?_
          rw [h3, decide_eq_true h5] at hr2
          exact ih true (by omega) r hr2
theorem m2_meets (I : IvA f a) {p : Nat} (hp : p < 60) : k_Met Y2_meetsItsBetter [.ref 0, .int (nI p)] (hX f a G B o) (.inl (some (.int (bB (meB f a p)))), hX f a G B o, 0, 0) := by
  refine k_intro (by decide +kernel) rfl rfl rfl ?_
  refine k_go 99 [17] T2_meetsItsBetter_ok (fun K hK => ?_)
  refine k_at hp ?_
  refine k_eq (z := nI p + (-1)) (by
    show nI p - nI 1 = nI p + (-1)
    rw [show (-1 : Int32) = -(nI 1) from rfl, Int32.sub_eq_add_neg]) ?_
  refine hK _ ?_
  exact m2_meets_dn I hp (I.2.1 p) p false (Nat.le_refl _) _ rfl
end ME
