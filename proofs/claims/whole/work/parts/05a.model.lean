abbrev hY (g : Nat → Nat) (b : Nat → Nat → Nat) (F : Nat → Int32) (A : Nat → Nat → Int32) (o : Nat → Int64) : List k_O := hA F A (cF g) (cA b) o
theorem hY_eq {F : Nat → Int32} {A : Nat → Nat → Int32} {G G' : Nat → Int32} {B B' : Nat → Nat → Int32} {o : Nat → Int64} (h1 : G = G') (h2 : B = B') : hA F A G B o = hA F A G' B' o := by rw [h1, h2]
theorem and_nI : ∀ k, k < 16 → ∀ c, c < 17 → nI k &&& nI c = nI (k &&& c) := by decide +kernel
def gbit (kn rg st ro : Bool) : Nat := if kn = false then 1 else if rg = false then 2 else if st = false then 4 else if ro = false then 8 else 0
def gl (k bit : Nat) : Nat → Nat → Nat → Nat
  | 0, _, t => t
  | n + 1, c, t => if bit < c then t else gl k bit n (2 * c) (if 0 < k &&& c then t + 1 else t)
def gth (k bit : Nat) : Nat := gl k bit 5 1 0
theorem in_suc {x : Int32} {n : Nat} (hn : n + 1 < 2 ^ 31) : (¬ x < 0 ∧ ¬ nI n < x) ↔ inR x (n + 1) := by
  rw [lt_suc hn]
theorem in_pre {x : Int32} {n : Nat} (hn : n < 2 ^ 31) : (¬ x < 0 ∧ ¬ nI n - nI 1 < x) ↔ inR x n := by
  cases n with
  | zero =>
    constructor
    · intro h
      exfalso
      obtain ⟨h1, h2⟩ := h
      have e : nI 0 - nI 1 = -1 := by decide
      rw [e] at h2
      rw [Int32.lt_iff_toInt_lt] at h1 h2
      have e1 : (0 : Int32).toInt = 0 := rfl
      have e2 : (-1 : Int32).toInt = -1 := rfl
      rw [e1] at h1; rw [e2] at h2
      omega
    · intro h
      exact absurd h.2 (by rw [nI_0]; exact h.1)
  | succ n =>
    rw [show nI (n + 1) - nI 1 = nI n from nI_pred n]
    exact in_suc hn
section MD
variable {g : Nat → Nat} {b : Nat → Nat → Nat} {F : Nat → Int32} {A : Nat → Nat → Int32} {o : Nat → Int64} {x y z w : Int32}
theorem m3_thrown  : k_Met Y3_thrown [.ref 24] (hY g b F A o) (.inl (some (.int (nI (g 0)))), hY g b F A o, 0, 0) := by
  refine k_intro (by decide +kernel) rfl rfl rfl ?_
  refine k_go 99 [] T3_thrown_ok (fun K hK => ?_)
  refine hK _ ?_
  exact k_ireturn d3_thrown_4 rfl rfl rfl rfl (Nat.le_of_ble_eq_true rfl) (Nat.le_of_ble_eq_true rfl)
theorem m3_in  : k_Met Y3_in [.int x, .int y, .int z] (hY g b F A o) (.inl (some (.int (bB (decide (¬ x < y ∧ ¬ z < x))))), hY g b F A o, 0, 0) := by
  refine k_intro (by decide +kernel) rfl rfl rfl ?_
  refine k_go 99 [] T3_in_ok (fun K hK => ?_)
  refine And.intro (fun h => ?_) (fun h => ?_)
  · refine hK _ ?_
    exact k_ireturn d3_in_15 rfl rfl (rbB (b := false) (decide_eq_false (fun q => q.1 h))) rfl (Nat.le_of_ble_eq_true rfl) (Nat.le_of_ble_eq_true rfl)
  · refine And.intro (fun h2 => ?_) (fun h2 => ?_)
    · refine hK _ ?_
      exact k_ireturn d3_in_15 rfl rfl (rbB (b := false) (decide_eq_false (fun q => q.2 h2))) rfl (Nat.le_of_ble_eq_true rfl) (Nat.le_of_ble_eq_true rfl)
    · refine hK _ ?_
      exact k_ireturn d3_in_15 rfl rfl (rbB (b := true) (decide_eq_true ⟨h, h2⟩)) rfl (Nat.le_of_ble_eq_true rfl) (Nat.le_of_ble_eq_true rfl)
theorem m3_inR {n : Nat} (hn : n + 1 < 2 ^ 31) : k_Met Y3_in [.int x, .int (nI 0), .int (nI n)] (hY g b F A o) (.inl (some (.int (bB (decide (inR x (n + 1)))))), hY g b F A o, 0, 0) := by
  have h := m3_in (g := g) (b := b) (F := F) (A := A) (o := o) (x := x) (y := nI 0) (z := nI n)
  have e : decide (¬ x < nI 0 ∧ ¬ nI n < x) = decide (inR x (n + 1)) := decide_eq_decide.mpr (by rw [nI_0]; exact in_suc hn)
  rw [e] at h
  exact h
theorem m3_isPoint  : k_Met Y3_isPoint [.int x, .int y] (hY g b F A o) (.inl (some (.int (bB (decide (inR x 10000) && decide (inR y 10000))))), hY g b F A o, 0, 0) := by
  refine k_intro (by decide +kernel) rfl rfl rfl ?_
  refine k_go 99 [] T3_isPoint_ok (fun K hK => ?_)
  refine hK _ ?_
  refine k_callS (Y' := Y3_in) (as := [.int x, .int (nI 0), .int (nI 9999)]) (st := []) (m3_inR (n := 9999) (by omega)) rfl c3_72 rfl rfl d3_isPoint_5 (Nat.le_of_ble_eq_true rfl) (Nat.le_of_ble_eq_true rfl) rfl rfl ?_
  refine k_go 99 [] T3_isPoint_ok (fun K hK => ?_)
  refine q_eq (fun h => ?_) (fun h => ?_)
  · refine hK _ ?_
    exact k_ireturn d3_isPoint_27 rfl rfl (rbB (b := false) (by rw [h]; rfl)) rfl (Nat.le_of_ble_eq_true rfl) (Nat.le_of_ble_eq_true rfl)
  · refine hK _ ?_
    refine k_callS (Y' := Y3_in) (as := [.int y, .int (nI 0), .int (nI 9999)]) (st := []) (m3_inR (n := 9999) (by omega)) rfl c3_72 rfl rfl d3_isPoint_16 (Nat.le_of_ble_eq_true rfl) (Nat.le_of_ble_eq_true rfl) rfl rfl ?_
    refine k_go 99 [] T3_isPoint_ok (fun K hK => ?_)
    refine q_eq (fun h2 => ?_) (fun h2 => ?_)
    · refine hK _ ?_
      exact k_ireturn d3_isPoint_27 rfl rfl (rbB (b := false) (by rw [h, h2]; rfl)) rfl (Nat.le_of_ble_eq_true rfl) (Nat.le_of_ble_eq_true rfl)
    · refine hK _ ?_
      exact k_ireturn d3_isPoint_27 rfl rfl (rbB (b := true) (by rw [h, h2]; rfl)) rfl (Nat.le_of_ble_eq_true rfl) (Nat.le_of_ble_eq_true rfl)
theorem m3_isChannel  : k_Met Y3_isChannel [.int x] (hY g b F A o) (.inl (some (.int (bB (decide (inR x 6))))), hY g b F A o, 0, 0) := by
  refine k_intro (by decide +kernel) rfl rfl rfl ?_
  refine k_go 99 [] T3_isChannel_ok (fun K hK => ?_)
  refine hK _ ?_
  refine k_callS (Y' := Y3_in) (as := [.int x, .int (nI 0), .int (nI 5)]) (st := []) (m3_inR (n := 5) (by omega)) rfl c3_72 rfl rfl d3_isChannel_3 (Nat.le_of_ble_eq_true rfl) (Nat.le_of_ble_eq_true rfl) rfl rfl ?_
  exact k_ireturn d3_isChannel_6 rfl (bB_nar _) rfl rfl (Nat.le_of_ble_eq_true rfl) (Nat.le_of_ble_eq_true rfl)
theorem m3_isUnit (hf : g 3 < 2 ^ 31) : k_Met Y3_isUnit [.ref 24, .int x] (hY g b F A o) (.inl (some (.int (bB (decide (inR x (g 3)))))), hY g b F A o, 0, 0) := by
  have h := m3_in (g := g) (b := b) (F := F) (A := A) (o := o) (x := x) (y := nI 0) (z := nI (g 3) - nI 1)
  have e : decide (¬ x < nI 0 ∧ ¬ nI (g 3) - nI 1 < x) = decide (inR x (g 3)) := decide_eq_decide.mpr (by rw [nI_0]; exact in_pre hf)
  rw [e] at h
  refine k_intro (by decide +kernel) rfl rfl rfl ?_
  refine k_go 99 [] T3_isUnit_ok (fun K hK => ?_)
  refine k_eq rfl ?_
  refine hK _ ?_
  refine k_callS (Y' := Y3_in) (as := [.int x, .int (nI 0), .int (nI (g 3) - nI 1)]) (st := []) (h) rfl c3_72 rfl rfl d3_isUnit_8 (Nat.le_of_ble_eq_true rfl) (Nat.le_of_ble_eq_true rfl) rfl rfl ?_
  exact k_ireturn d3_isUnit_11 rfl (bB_nar _) rfl rfl (Nat.le_of_ble_eq_true rfl) (Nat.le_of_ble_eq_true rfl)
theorem m3_isMessage (hf : g 5 < 2 ^ 31) : k_Met Y3_isMessage [.ref 24, .int x] (hY g b F A o) (.inl (some (.int (bB (decide (inR x (g 5)))))), hY g b F A o, 0, 0) := by
  have h := m3_in (g := g) (b := b) (F := F) (A := A) (o := o) (x := x) (y := nI 0) (z := nI (g 5) - nI 1)
  have e : decide (¬ x < nI 0 ∧ ¬ nI (g 5) - nI 1 < x) = decide (inR x (g 5)) := decide_eq_decide.mpr (by rw [nI_0]; exact in_pre hf)
  rw [e] at h
  refine k_intro (by decide +kernel) rfl rfl rfl ?_
  refine k_go 99 [] T3_isMessage_ok (fun K hK => ?_)
  refine k_eq rfl ?_
  refine hK _ ?_
  refine k_callS (Y' := Y3_in) (as := [.int x, .int (nI 0), .int (nI (g 5) - nI 1)]) (st := []) (h) rfl c3_72 rfl rfl d3_isMessage_8 (Nat.le_of_ble_eq_true rfl) (Nat.le_of_ble_eq_true rfl) rfl rfl ?_
  exact k_ireturn d3_isMessage_11 rfl (bB_nar _) rfl rfl (Nat.le_of_ble_eq_true rfl) (Nat.le_of_ble_eq_true rfl)
theorem m3_isSlot (hf : g 1 < 2 ^ 31) : k_Met Y3_isSlot [.ref 24, .int x] (hY g b F A o) (.inl (some (.int (bB (decide (inR x (g 1)))))), hY g b F A o, 0, 0) := by
  have h := m3_in (g := g) (b := b) (F := F) (A := A) (o := o) (x := x) (y := nI 0) (z := nI (g 1) - nI 1)
  have e : decide (¬ x < nI 0 ∧ ¬ nI (g 1) - nI 1 < x) = decide (inR x (g 1)) := decide_eq_decide.mpr (by rw [nI_0]; exact in_pre hf)
  rw [e] at h
  refine k_intro (by decide +kernel) rfl rfl rfl ?_
  refine k_go 99 [] T3_isSlot_ok (fun K hK => ?_)
  refine k_eq rfl ?_
  refine hK _ ?_
  refine k_callS (Y' := Y3_in) (as := [.int x, .int (nI 0), .int (nI (g 1) - nI 1)]) (st := []) (h) rfl c3_72 rfl rfl d3_isSlot_8 (Nat.le_of_ble_eq_true rfl) (Nat.le_of_ble_eq_true rfl) rfl rfl ?_
  exact k_ireturn d3_isSlot_11 rfl (bB_nar _) rfl rfl (Nat.le_of_ble_eq_true rfl) (Nat.le_of_ble_eq_true rfl)
theorem m3_goes_loop {k bit : Nat} (hk : k < 16) (hbit : bit < 16) {v1 v2 v3 v4 : Int32} : ∀ (n c t : Nat) (g : Nat → Nat), g 0 = t → c * 2 ^ n = 32 → t + n ≤ 5 → t + n ≤ 10 → ∀ (r : Nat), r = gl k bit n c t →
    k_W Y3_goes none (.inl (some (.int (bB (decide (bit = 0))))), hY (up1 g 0 r) b F A o, 0, 0) (46, [(7, .int (nI c)), (6, .int (nI bit)), (0, .ref 24), (1, .int (nI k)), (2, .int v1), (3, .int v2), (4, .int v3), (5, .int v4)], [], hY g b F A o, 0, 0) := by
  have fin : ∀ (c : Nat) (g : Nat → Nat) (r : Nat), g 0 = r → k_W Y3_goes none (.inl (some (.int (bB (decide (bit = 0))))), hY (up1 g 0 r) b F A o, 0, 0) (79, [(7, .int (nI c)), (6, .int (nI bit)), (0, .ref 24), (1, .int (nI k)), (2, .int v1), (3, .int v2), (4, .int v3), (5, .int v4)], [], hY g b F A o, 0, 0) := by
    intro c g r e
    have e9 : up1 g 0 r = g := by
      funext j
      unfold up1
      split
      · next h => rw [h, e]
      · rfl
    rw [e9]
    refine k_go 99 [] T3_goes_ok (fun K hK => ?_)
    refine z_ne (a := bit) (by omega) (fun h => ?_) (fun h => ?_)
    · refine hK _ ?_
      exact k_ireturn d3_goes_89 rfl rfl (rbB (b := false) (decide_eq_false (by omega))) rfl (Nat.le_of_ble_eq_true rfl) (Nat.le_of_ble_eq_true rfl)
    · refine hK _ ?_
      exact k_ireturn d3_goes_89 rfl rfl (rbB (b := true) (decide_eq_true h)) rfl (Nat.le_of_ble_eq_true rfl) (Nat.le_of_ble_eq_true rfl)
  intro n
  induction n with
  | zero =>
    intro c t g e hc ht htn r hr
    have hc : c = 32 := by omega
    subst hc
    refine k_go 99 [46, 79] T3_goes_ok (fun K hK => ?_)
    refine b_gt (a := 32) (b := bit) (by omega) (by omega) (fun h => ?_) (fun h => absurd h (by omega))
    refine hK _ ?_
    exact fin 32 g r (e.trans hr.symm)
  | succ n ih =>
    intro c t g e hc ht htn r hr
    have hr2 : r = if bit < c then t else gl k bit n (2 * c) (if 0 < k &&& c then t + 1 else t) := hr
    have hc2 : 2 * c * 2 ^ n = 32 := by rw [← hc, Nat.pow_succ, Nat.mul_comm 2 c, Nat.mul_assoc, Nat.mul_comm 2 (2 ^ n)]
    have hpos : 0 < 2 ^ n := Nat.two_pow_pos n
    have hc17 : c < 17 := by
      have h1 : 2 * c ≤ 2 * c * 2 ^ n := Nat.le_mul_of_pos_right _ hpos
      omega
    refine k_go 99 [46, 79] T3_goes_ok (fun K hK => ?_)
    refine b_gt (a := c) (b := bit) (by omega) (by omega) (fun h => ?_) (fun h => ?_)
    · rw [if_pos h] at hr2
      refine hK _ ?_
      exact fin c g r (e.trans hr2.symm)
    · rw [if_neg (by omega)] at hr2
      have hand : k &&& c < 2 ^ 31 := Nat.lt_of_le_of_lt Nat.and_le_left (by omega)
      refine k_eq (z := nI (k &&& c)) (and_nI k hk c hc17) ?_
      refine z_le (a := k &&& c) hand (fun h2 => ?_) (fun h2 => ?_)
      · rw [if_neg (by omega)] at hr2
        refine k_eq (z := nI (2 * c)) (pk_mul 2 c) ?_
        refine hK _ ?_
        exact ih (2 * c) t g e hc2 (by omega) (by omega) r hr2
      · rw [if_pos h2] at hr2
        refine k_eq (z := nI (g 0 + 1)) (nI_add _ 1) ?_
        refine k_eq (z := nI (2 * c)) (pk_mul 2 c) ?_
        refine hK _ ?_
        refine k_heq (hY_eq (cF_up' (f := g) (k := 0) (v := g 0 + 1) rfl) rfl) ?_
        have e2 : up1 (up1 g 0 (g 0 + 1)) 0 r = up1 g 0 r := by
          funext j; unfold up1; split <;> rfl
        have := ih (2 * c) (t + 1) (up1 g 0 (g 0 + 1)) (by show g 0 + 1 = t + 1; omega) hc2 (by omega) (by omega) r hr2
        rw [e2] at this
        exact this
theorem m3_goes {k : Nat} (hk : k < 16) (kn rg st ro : Bool) : k_Met Y3_goes [.ref 24, .int (nI k), .int (bB kn), .int (bB rg), .int (bB st), .int (bB ro)] (hY g b F A o) (.inl (some (.int (bB (kn && rg && st && ro)))), hY (up1 g 0 (gth k (gbit kn rg st ro))) b F A o, 0, 0) := by
  have main : ∀ (bit : Nat), bit < 16 → gbit kn rg st ro = bit → (kn && rg && st && ro) = decide (bit = 0) → k_W Y3_goes none (.inl (some (.int (bB (kn && rg && st && ro)))), hY (up1 g 0 (gth k (gbit kn rg st ro))) b F A o, 0, 0) (36, [(0, .ref 24), (1, .int (nI k)), (2, .int (bB kn)), (3, .int (bB rg)), (4, .int (bB st)), (5, .int (bB ro))], [.int (nI bit)], hY g b F A o, 0, 0) := by
    intro bit hb e1 e2
    rw [e1, e2]
    refine k_go 99 [46] T3_goes_ok (fun K hK => ?_)
    refine hK _ ?_
    refine k_heq (hY_eq (cF_up' (f := g) (k := 0) (v := 0) rfl) rfl) ?_
    have e3 : up1 (up1 g 0 0) 0 (gth k bit) = up1 g 0 (gth k bit) := by
      funext j; unfold up1; split <;> rfl
    have := m3_goes_loop (b := b) (F := F) (A := A) (o := o) hk hb (v1 := bB kn) (v2 := bB rg) (v3 := bB st) (v4 := bB ro) 5 1 0 (up1 g 0 0) rfl (by decide) (by omega) (by omega) (gth k bit) rfl
    rw [e3] at this
    exact this
  refine k_intro (by decide +kernel) rfl rfl rfl ?_
  generalize ((.inl (some (.int (bB (kn && rg && st && ro)))), hY (up1 g 0 (gth k (gbit kn rg st ro))) b F A o, 0, 0) : k_G) = G9 at main ⊢
  refine k_go 99 [36] T3_goes_ok (fun K hK => ?_)
  refine q_ne (fun h1 => ?_) (fun h1 => ?_)
  · refine q_ne (fun h2 => ?_) (fun h2 => ?_)
    · refine q_ne (fun h3 => ?_) (fun h3 => ?_)
      · refine q_ne (fun h4 => ?_) (fun h4 => ?_)
        · exact hK _ (main 0 (by omega) (by rw [h1, h2, h3, h4]; rfl) (by rw [h1, h2, h3, h4]; rfl))
        · exact hK _ (main 8 (by omega) (by rw [h1, h2, h3, h4]; rfl) (by rw [h1, h2, h3, h4]; rfl))
      · exact hK _ (main 4 (by omega) (by rw [h1, h2, h3]; rfl) (by rw [h1, h2, h3]; rfl))
    · exact hK _ (main 2 (by omega) (by rw [h1, h2]; rfl) (by rw [h1, h2]; rfl))
  · exact hK _ (main 1 (by omega) (by rw [h1]; rfl) (by rw [h1]; rfl))
end MD
