theorem Bd_up2 {a : Nat → Nat → Nat} {k j v : Nat} (h : Bd a) (hv : v < 10000) : Bd (up2 a k j v) := by
  intro i t hi
  unfold up2
  split
  · unfold up1
    split
    · exact hv
    · exact h i t hi
  · exact h i t hi
theorem Bd_19 {a : Nat → Nat → Nat} {j v : Nat} (h : Bd a) : Bd (up2 a 19 j v) := by
  intro i t hi
  unfold up2
  rw [if_neg (by omega)]
  exact h i t hi
theorem IvA_sOn {f : Nat → Nat} {a : Nat → Nat → Nat} {m x y z : Nat} (I : IvA f a) (hx : x < 10000) (hy : y < 10000) (hz : z < 10000) : IvA f (sOn a m x y z) := ⟨Bd_up2 (Bd_up2 (Bd_up2 I.1 hx) hy) hz, I.2⟩
theorem IvA_19 {f : Nat → Nat} {a : Nat → Nat → Nat} {j m : Nat} (I : IvA f a) (hm : m < 60) : IvA f (up2 a 19 j m) := by
  refine ⟨Bd_19 I.1, I.2.1, I.2.2.1, I.2.2.2.1, fun t => ?_, I.2.2.2.2.2⟩
  show up1 (a 19) j m t = NONE ∨ up1 (a 19) j m t < 60
  unfold up1
  split
  · exact Or.inr hm
  · exact I.2.2.2.2.1 t
theorem IvA_put {f : Nat → Nat} {a : Nat → Nat → Nat} {m s : Nat} (I : IvA f a) (hm : m < 60) (hs : s < 10000) : IvA f (putA f a m s) := by
  have h0 := I.2.2.2.2.2.2.2.1
  have h1 := I.2.2.2.2.2.2.2.2.1
  have h11 := I.2.2.2.2.2.2.2.2.2.2.2.1 m
  have I1 : IvA f (up2 a 19 (a 18 (a 9 m)) m) := IvA_19 I hm
  unfold putA
  dsimp only
  split
  · split
    · exact IvA_sOn I1 hs (by omega) (by omega)
    · exact IvA_sOn (IvA_sOn I1 hs (by omega) (by omega)) hs (by omega) (by omega)
  · split
    · exact IvA_sOn I1 hs (by omega) (by omega)
    · exact IvA_sOn (IvA_sOn I1 hs (by omega) (by omega)) hs (by omega) (by omega)
theorem IvA_cut {f : Nat → Nat} {a : Nat → Nat → Nat} {m s : Nat} (I : IvA f a) : IvA f (cutA a m s) := by
  have h13 := I.1 13 m (by omega)
  have h14 := I.1 14 m (by omega)
  unfold cutA
  split
  · exact IvA_sOn I h13 (by omega) (by omega)
  · exact I
/-- plan in numbers: m the message at the place, s its begin, l the latest of its group -/
def planX (f : Nat → Nat) (a : Nat → Nat → Nat) (p m s l : Nat) : Nat → Nat → Nat :=
  if meB f a p = true then sOn a m s 0 3
  else if l = NONE ∨ ¬ onP a l s then putA f a m s
  else if a 12 l < a 12 m then putA f (cutA a l s) m (s + 1) else sOn a m s 0 3
def planA (f : Nat → Nat) (a : Nat → Nat → Nat) (p : Nat) : Nat → Nat → Nat := planX f a p (a 16 p) (a 10 (a 16 p)) (a 19 (a 18 (a 9 (a 16 p))))
theorem IvA_plan {f : Nat → Nat} {a : Nat → Nat → Nat} {p : Nat} (I : IvA f a) (hp : p < f 4) : IvA f (planA f a p) := by
  have hs := I.1 10 (a 16 p) (by omega)
  have hm := I.2.1 p
  have hf := I.2.2.2.2.2.1
  have h0 := I.2.2.2.2.2.2.2.1
  unfold planA planX
  split
  · exact IvA_sOn I hs (by omega) (by omega)
  · split
    · exact IvA_put I hm hs
    · next h2 =>
      split
      · have h13 := I.1 13 (a 19 (a 18 (a 9 (a 16 p)))) (by omega)
        refine IvA_put (IvA_cut I) hm ?_
        have h5 := hf (a 16 p) (I.2.2.2.2.2.2.1 p hp)
        omega
      · exact IvA_sOn I hs (by omega) (by omega)
def planN (f : Nat → Nat) (a : Nat → Nat → Nat) : Nat → Nat → Nat → Nat
  | 0 => a
  | k + 1 => planA f (planN f a k) k
section PN
variable {f : Nat → Nat} {a : Nat → Nat → Nat} {G : Nat → Int32} {B : Nat → Nat → Int32} {o : Nat → Int64}
theorem m2_plan_body (I : IvA f a) {p m s l : Nat} (hp : p < 60) (hm : m < 60) (hs : s < f 0) (h19 : l = NONE ∨ l < 60) (es : a 10 m = s) : k_W Y2_plan none (.inl none, hX f (planX f a p m s l) G B o, 0, 0) (41, [(4, .int (nI l)), (3, .int (nI s)), (2, .int (nI m)), (0, .ref 0), (1, .int (nI p))], [], hX f a G B o, 0, 0) := by
  have h0 := I.2.2.2.2.2.2.2.1
  have hr2 := I.1 12 m (by omega)
  have R : ∀ (a2 : Nat → Nat → Nat) (ls : List (Nat × Value)), planX f a p m s l = a2 → k_W Y2_plan none (.inl none, hX f (planX f a p m s l) G B o, 0, 0) (139, ls, [], hX f a2 G B o, 0, 0) := by
    intro a2 ls e
    rw [e]
    exact k_return d2_plan_139 rfl rfl rfl (Nat.le_refl _) (Nat.le_refl _)
  have u1 : meB f a p = true → planX f a p m s l = sOn a m s 0 3 := fun h => if_pos h
  have u2 : ¬ meB f a p = true → (l = NONE ∨ ¬ onP a l s) → planX f a p m s l = putA f a m s := fun h h' => (if_neg h).trans (if_pos h')
  have u3 : ¬ meB f a p = true → ¬ (l = NONE ∨ ¬ onP a l s) → a 12 l < a 12 m → planX f a p m s l = putA f (cutA a l s) m (s + 1) := fun h h' h'' => (if_neg h).trans ((if_neg h').trans (if_pos h''))
  have u4 : ¬ meB f a p = true → ¬ (l = NONE ∨ ¬ onP a l s) → ¬ a 12 l < a 12 m → planX f a p m s l = sOn a m s 0 3 := fun h h' h'' => (if_neg h).trans ((if_neg h').trans (if_neg h''))
  generalize ((.inl none, hX f (planX f a p m s l) G B o, 0, 0) : k_G) = G9 at R ⊢
  have mk : k_Met Y0_markLost [.ref 11, .int (nI m)] (hX f a G B o) (.inl none, hX f (sOn a m s 0 3) G B o, 0, 0) := by rw [← es]; exact m0_markLost hm
  refine k_go 99 [] T2_plan_ok (fun K hK => ?_)
  refine hK _ ?_
  refine k_callV (Y' := Y2_meetsItsBetter) (as := [.int (nI p)]) (st := []) (m2_meets I hp) rfl c2_229 rfl rfl rfl d2_plan_43 (Nat.zero_le _) (Nat.zero_le _) rfl rfl ?_
  have put : planX f a p m s l = putA f a m s → k_W Y2_plan none G9 (79, [(4, .int (nI l)), (3, .int (nI s)), (2, .int (nI m)), (0, .ref 0), (1, .int (nI p))], [], hX f a G B o, 0, 0) := by
    intro e
    refine k_go 99 [139] T2_plan_ok (fun K hK => ?_)
    refine hK _ ?_
    refine k_callV (Y' := Y2_putOn) (as := [.int (nI m), .int (nI s)]) (st := []) (m2_putOn I hm (by omega)) rfl c2_238 rfl rfl rfl d2_plan_82 (Nat.zero_le _) (Nat.zero_le _) rfl rfl ?_
    refine k_go 99 [139] T2_plan_ok (fun K hK => ?_)
    refine hK _ ?_
    exact R _ _ e
  refine k_go 99 [79, 139] T2_plan_ok (fun K hK => ?_)
  refine q_eq (fun hb => ?_) (fun hb => ?_)
  · have hb2 : ¬ meB f a p = true := by rw [hb]; exact Bool.false_ne_true
    refine And.intro (fun hn => ?_) (fun hn => ?_)
    · have hl : l = NONE := by
        rcases h19 with h | h
        · exact h
        · exact absurd hn (nI_none (by omega))
      refine hK _ ?_
      exact put (u2 hb2 (Or.inl hl))
    · have hl : l < 60 := by
        rcases h19 with h | h
        · exact absurd (by rw [h]; exact neg1.symm) hn
        · exact h
      have hl2 : ¬ l = NONE := fun q => by rw [q] at hl; exact absurd hl (by decide)
      have hr1 := I.1 12 l (by omega)
      refine hK _ ?_
      refine k_callV (Y' := Y0_isOn) (as := [.int (nI l), .int (nI s)]) (st := []) (m0_isOn I.1 hl (by omega)) rfl c2_235 rfl rfl rfl d2_plan_73 (Nat.zero_le _) (Nat.zero_le _) rfl rfl ?_
      refine k_go 99 [79, 139] T2_plan_ok (fun K hK => ?_)
      refine p_ne (fun ho => ?_) (fun ho => ?_)
      · have h3 : ¬ (l = NONE ∨ ¬ onP a l s) := fun q => q.elim hl2 (fun q => q ho)
        refine k_at hl ?_
        refine k_at hm ?_
        refine b_ge (a := a 12 l) (b := a 12 m) (by omega) (by omega) (fun h5 => ?_) (fun h5 => ?_)
        · refine hK _ ?_
          refine k_callV (Y' := Y0_markLost) (as := [.int (nI m)]) (st := []) (mk) rfl c2_232 rfl rfl rfl d2_plan_136 (Nat.zero_le _) (Nat.zero_le _) rfl rfl ?_
          refine k_go 99 [139] T2_plan_ok (fun K hK => ?_)
          refine hK _ ?_
          exact R _ _ (u4 hb2 h3 (by omega))
        · refine hK _ ?_
          refine k_callV (Y' := Y0_cutAfter) (as := [.int (nI l), .int (nI s)]) (st := []) (m0_cutAfter I.1 hl (by omega) ho.1) rfl c2_244 rfl rfl rfl d2_plan_117 (Nat.zero_le _) (Nat.zero_le _) rfl rfl ?_
          refine k_go 99 [139] T2_plan_ok (fun K hK => ?_)
          refine k_eq (z := nI (s + 1)) (nI_add s 1) ?_
          refine hK _ ?_
          refine k_callV (Y' := Y2_putOn) (as := [.int (nI m), .int (nI (s + 1))]) (st := []) (m2_putOn (IvA_cut I) hm (by omega)) rfl c2_238 rfl rfl rfl d2_plan_125 (Nat.zero_le _) (Nat.zero_le _) rfl rfl ?_
          refine k_go 99 [139] T2_plan_ok (fun K hK => ?_)
          refine hK _ ?_
          exact R _ _ (u3 hb2 h3 h5)
      · refine hK _ ?_
        exact put (u2 hb2 (Or.inr ho))
  · refine hK _ ?_
    refine k_callV (Y' := Y0_markLost) (as := [.int (nI m)]) (st := []) (mk) rfl c2_232 rfl rfl rfl d2_plan_54 (Nat.zero_le _) (Nat.zero_le _) rfl rfl ?_
    refine k_go 99 [139] T2_plan_ok (fun K hK => ?_)
    refine hK _ ?_
    exact R _ _ (u1 hb)
theorem m2_plan (I : IvA f a) {p : Nat} (hp : p < f 4) : k_Met Y2_plan [.ref 0, .int (nI p)] (hX f a G B o) (.inl none, hX f (planA f a p) G B o, 0, 0) := by
  have h4 := I.2.2.2.2.2.2.2.2.2.1
  have hm := I.2.1 p
  have hm4 := I.2.2.2.2.2.2.1 p hp
  refine k_intro (by decide +kernel) rfl rfl rfl ?_
  refine k_go 99 [41] T2_plan_ok (fun K hK => ?_)
  refine k_at (j := p) (by omega) ?_
  refine k_at (j := a 16 p) hm ?_
  refine k_at (j := a 16 p) hm ?_
  refine k_at (j := a 9 (a 16 p)) (I.2.2.1 (a 16 p)) ?_
  refine k_at (j := a 18 (a 9 (a 16 p))) (I.2.2.2.1 (a 9 (a 16 p))) ?_
  refine hK _ ?_
  exact m2_plan_body I (by omega) hm (I.2.2.2.2.2.1 (a 16 p) hm4) (I.2.2.2.2.1 (a 18 (a 9 (a 16 p)))) rfl
theorem IvA_planN (I : IvA f a) : ∀ k, k ≤ f 4 → IvA f (planN f a k) := by
  intro k
  induction k with
  | zero => intro _; exact I
  | succ k ih => intro hk; exact IvA_plan (ih (by omega)) (by omega)
theorem m2_planAll_loop (I : IvA f a) : ∀ (n i : Nat), f 4 - i < n → i ≤ f 4 →
    k_W Y2_planAll none (.inl none, hX f (planN f a (f 4)) G B o, 0, 0) (10, [(1, .int (nI i)), (0, .ref 0)], [], hX f (planN f a i) G B o, 0, 0) := by
  have h4 := I.2.2.2.2.2.2.2.2.2.1
  intro n
  induction n with
  | zero => intro i h; omega
  | succ n ih =>
    intro i hn hi
    refine k_go 99 [10] T2_planAll_ok (fun K hK => ?_)
    refine b_ge (a := i) (b := f 4) (by omega) (by omega) (fun h => ?_) (fun h => ?_)
    · have e : i = f 4 := by omega
      refine hK _ ?_
      exact k_return d2_planAll_32 rfl rfl (by rw [e]) (Nat.le_refl _) (Nat.le_refl _)
    · refine hK _ ?_
      refine k_callV (Y' := Y2_plan) (as := [.int (nI i)]) (st := []) (m2_plan (IvA_planN I i hi) h) rfl c2_220 rfl rfl rfl d2_planAll_23 (Nat.le_of_ble_eq_true rfl) (Nat.le_of_ble_eq_true rfl) rfl rfl ?_
      refine k_go 99 [10] T2_planAll_ok (fun K hK => ?_)
      refine k_eq (z := nI (i + 1)) (nI_add i 1) ?_
      refine hK _ ?_
      exact ih (i + 1) (by omega) (by omega)
def clr (a : Nat → Nat → Nat) : Nat → Nat → Nat := rowA a 19 (flR (a 19) (fun _ => NONE) 6)
theorem IvA_clr (I : IvA f a) : IvA f (clr a) := by
  refine ⟨fun k j hk => ?_, I.2.1, I.2.2.1, I.2.2.2.1, fun t => ?_, I.2.2.2.2.2⟩
  · unfold clr rowA
    rw [if_neg (by omega)]
    exact I.1 k j hk
  · show flR (a 19) (fun _ => NONE) 6 t = NONE ∨ flR (a 19) (fun _ => NONE) 6 t < 60
    unfold flR
    split
    · exact Or.inl rfl
    · exact I.2.2.2.2.1 t
def plan0 (f : Nat → Nat) (a : Nat → Nat → Nat) : Nat → Nat → Nat := planN f (clr a) (f 4)
theorem m2_planAll (I : IvA f a) : k_Met Y2_planAll [.ref 0] (hX f a G B o) (.inl none, hX f (plan0 f a) G B o, 0, 0) := by
  have fl : k_Met Y5_fill [.ref 23, .int (-1)] (hX f a G B o) (.inl none, hX f (clr a) G B o, 0, 0) := by
    rw [neg1]; exact m5_fill
  refine k_intro (by decide +kernel) rfl rfl rfl ?_
  refine k_go 99 [10] T2_planAll_ok (fun K hK => ?_)
  refine hK _ ?_
  refine k_callS (Y' := Y5_fill) (as := [.ref 23, .int (-1)]) (st := []) fl rfl c2_214 rfl rfl d2_planAll_5 (Nat.le_refl _) (Nat.le_refl _) rfl rfl ?_
  refine k_go 99 [10] T2_planAll_ok (fun K hK => ?_)
  refine hK _ ?_
  exact m2_planAll_loop (IvA_clr I) (f 4 + 1) 0 (by omega) (by omega)
end PN
