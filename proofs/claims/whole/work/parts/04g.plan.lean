def NONE : Nat := 4294967295
theorem neg1 : (-1 : Int32) = nI NONE := by decide
theorem nI_none {n : Nat} (h : n < 2 ^ 31) : ¬ nI n = -1 := by
  intro q
  have h1 := nI_pos' h
  rw [q] at h1
  exact absurd h1 (by decide)
def bB (b : Bool) : Int32 := cond b 1 0
theorem q_eq {b : Bool} {P Q : Prop} (f : b = false → P) (g : b = true → Q) : (k_cnd .eq (bB b) 0 → P) ∧ (k_cnf .eq (bB b) 0 → Q) := by
  cases b with
  | true => exact ⟨fun h => absurd (show (1 : Int32) = 0 from h) (by decide), fun _ => g rfl⟩
  | false => exact ⟨fun _ => f rfl, fun h => absurd rfl h⟩
theorem q_ne {b : Bool} {P Q : Prop} (f : b = true → P) (g : b = false → Q) : (k_cnd .ne (bB b) 0 → P) ∧ (k_cnf .ne (bB b) 0 → Q) := by
  cases b with
  | true => exact ⟨fun _ => f rfl, fun h => absurd (show (1 : Int32) = 0 from h) (by decide)⟩
  | false => exact ⟨fun h => absurd rfl h, fun _ => g rfl⟩
theorem bB_dec {p : Prop} [Decidable p] : bI p = bB (decide p) := by
  by_cases h : p
  · rw [bI_t h, decide_eq_true h]; rfl
  · rw [bI_f h, decide_eq_false h]; rfl
theorem bB_nar (b : Bool) : narrow .boolean (.int (bB b)) = .int (bB b) := by cases b <;> rfl
def fgF (f : Nat → Nat) : Nat → Nat := up1 (up1 (up1 (up1 (up1 f 0 0) 1 0) 2 0) 3 0) 4 0
/-- the first n places of a row filled -/
def flR (g v : Nat → Nat) (n : Nat) : Nat → Nat := fun j => if j < n then v j else g j
theorem flR_0 (g v : Nat → Nat) : flR g v 0 = g := by funext c; unfold flR; rw [if_neg (by omega)]
theorem flR_s (g v : Nat → Nat) (n : Nat) : up1 (flR g v n) n (v n) = flR g v (n + 1) := by
  funext c
  unfold up1 flR
  by_cases h1 : c = n
  · subst h1; rw [if_pos rfl, if_pos (by omega)]
  · rw [if_neg h1]
    by_cases h2 : c < n
    · rw [if_pos h2, if_pos (by omega)]
    · rw [if_neg h2, if_neg (by omega)]
def fgA (a : Nat → Nat → Nat) : Nat → Nat → Nat := rowA (rowA a 17 (flR (a 17) (fun _ => 0) 1000)) 18 (flR (a 18) (fun c => c) 6)
section PL
variable {f : Nat → Nat} {a : Nat → Nat → Nat} {G : Nat → Int32} {B : Nat → Nat → Int32} {o : Nat → Int64} {x y z : Int32}
theorem m2_forgetAll_2 : ∀ (n i : Nat), 6 - i < n → i ≤ 6 →
    k_W Y2_forgetAll none (.inl none, hX f (rowA a 18 (flR (a 18) (fun c => c) 6)) G B o, 0, 0) (58, [(1, .int (nI i)), (0, .ref 0)], [], hX f (rowA a 18 (flR (a 18) (fun c => c) i)) G B o, 0, 0) := by
  intro n
  induction n with
  | zero => intro i h; omega
  | succ n ih =>
    intro i hn hi
    refine k_go 99 [58] T2_forgetAll_ok (fun K hK => ?_)
    refine b_ge (a := i) (b := 6) (by omega) (by omega) (fun h => ?_) (fun h => ?_)
    · have e : i = 6 := by omega
      subst e
      refine hK _ ?_
      exact k_return d2_forgetAll_77 rfl rfl rfl (Nat.le_refl _) (Nat.le_refl _)
    · refine k_at (j := i) (by omega) ?_
      refine k_eq (z := nI (i + 1)) (nI_add i 1) ?_
      refine hK _ ?_
      refine k_heq (hX_eq rfl ((cA_up (rowA a 18 (flR (a 18) (fun c => c) i)) 18 i i).trans (congrArg cA ((up2_row a 18 i i _).trans (congrArg (rowA a 18) (flR_s (a 18) (fun c => c) i)))))) ?_
      exact ih (i + 1) (by omega) (by omega)
theorem m2_forgetAll_1 : ∀ (n i : Nat), 1000 - i < n → i ≤ 1000 →
    k_W Y2_forgetAll none (.inl none, hX f (fgA a) G B o, 0, 0) (36, [(1, .int (nI i)), (0, .ref 0)], [], hX f (rowA a 17 (flR (a 17) (fun _ => 0) i)) G B o, 0, 0) := by
  intro n
  induction n with
  | zero => intro i h; omega
  | succ n ih =>
    intro i hn hi
    refine k_go 99 [36, 58] T2_forgetAll_ok (fun K hK => ?_)
    refine b_ge (a := i) (b := 1000) (by omega) (by omega) (fun h => ?_) (fun h => ?_)
    · have e : i = 1000 := by omega
      subst e
      refine hK _ ?_
      have := m2_forgetAll_2 (f := f) (a := rowA a 17 (flR (a 17) (fun _ => 0) 1000)) (G := G) (B := B) (o := o) 7 0 (by omega) (by omega)
      rw [flR_0, rowA_self] at this
      exact this
    · refine And.intro (Or.inl rfl) ?_
      refine k_at (j := i) (by omega) ?_
      refine k_eq (z := nI (i + 1)) (nI_add i 1) ?_
      refine hK _ ?_
      refine k_heq (hX_eq rfl ((cA_up (rowA a 17 (flR (a 17) (fun _ => 0) i)) 17 i 0).trans (congrArg cA ((up2_row a 17 i 0 _).trans (congrArg (rowA a 17) (flR_s (a 17) (fun _ => 0) i)))))) ?_
      exact ih (i + 1) (by omega) (by omega)
theorem m2_forgetAll : k_Met Y2_forgetAll [.ref 0] (hX f a G B o) (.inl none, hX (fgF f) (fgA a) G B o, 0, 0) := by
  refine k_intro (by decide +kernel) rfl rfl rfl ?_
  refine k_go 99 [36] T2_forgetAll_ok (fun K hK => ?_)
  refine hK _ ?_
  refine k_heq (hX_eq (cF_up' (v := 0) (k := 4) (cF_up' (v := 0) (k := 3) (cF_up' (v := 0) (k := 2) (cF_up' (v := 0) (k := 1) (cF_up' (f := f) (k := 0) (v := 0) rfl))))) rfl) ?_
  have := m2_forgetAll_1 (f := fgF f) (a := a) (G := G) (B := B) (o := o) 1001 0 (by omega) (by omega)
  rw [flR_0, rowA_self] at this
  exact this
theorem m5_fill_loop {v : Nat} : ∀ (n i : Nat), 6 - i < n → i ≤ 6 →
    k_W Y5_fill none (.inl none, hX f (rowA a 19 (flR (a 19) (fun _ => v) 6)) G B o, 0, 0) (5, [(2, .int (nI i)), (3, .int (nI 6)), (0, .ref 23), (1, .int (nI v))], [], hX f (rowA a 19 (flR (a 19) (fun _ => v) i)) G B o, 0, 0) := by
  intro n
  induction n with
  | zero => intro i h; omega
  | succ n ih =>
    intro i hn hi
    refine k_go 99 [5] T5_fill_ok (fun K hK => ?_)
    refine b_ge (a := i) (b := 6) (by omega) (by omega) (fun h => ?_) (fun h => ?_)
    · have e : i = 6 := by omega
      subst e
      refine hK _ ?_
      exact k_return d5_fill_20 rfl rfl rfl (Nat.le_refl _) (Nat.le_refl _)
    · refine k_at (j := i) (by omega) ?_
      refine k_eq (z := nI (i + 1)) (nI_add i 1) ?_
      refine hK _ ?_
      refine k_heq (hX_eq rfl ((cA_up (rowA a 19 (flR (a 19) (fun _ => v) i)) 19 i v).trans (congrArg cA ((up2_row a 19 i v _).trans (congrArg (rowA a 19) (flR_s (a 19) (fun _ => v) i)))))) ?_
      exact ih (i + 1) (by omega) (by omega)
theorem k_perm {Y : k_Y} {sc : k_Sc} {G : k_G} {pc : Nat} {ls ls' : List (Nat × Value)} {st : List Value} {h : List k_O} {nc ns : Nat} (e : ∀ q ∈ ls', q ∈ ls) (k : k_W Y sc G (pc, ls', st, h, nc, ns)) : k_W Y sc G (pc, ls, st, h, nc, ns) := by
  intro p l e9 s m args below meth c g cA A b ad0 n0 Q C E ad H locs la I hv
  refine k p l e9 s m args below meth c g cA A b ad0 n0 Q C E ad H locs la I ⟨hv.1, hv.2.1, fun q hq => ?_⟩
  obtain ⟨z, hz, hz2⟩ := List.mem_map.mp hq
  exact hv.2.2 q (List.mem_map.mpr ⟨z, e z hz, hz2⟩)
theorem m5_fill {v : Nat} : k_Met Y5_fill [.ref 23, .int (nI v)] (hX f a G B o) (.inl none, hX f (rowA a 19 (flR (a 19) (fun _ => v) 6)) G B o, 0, 0) := by
  refine k_intro (by decide +kernel) rfl rfl rfl ?_
  refine k_go 99 [5] T5_fill_ok (fun K hK => ?_)
  refine hK _ ?_
  have := m5_fill_loop (f := f) (a := a) (v := v) (G := G) (B := B) (o := o) 7 0 (by omega) (by omega)
  rw [flR_0, rowA_self] at this
  refine k_perm (ls' := [(2, .int (nI 0)), (3, .int (nI 6)), (0, .ref 23), (1, .int (nI v))]) (fun q hq => ?_) this
  simp only [List.mem_cons, List.not_mem_nil, or_false] at hq
  rcases hq with rfl | rfl | rfl | rfl
  · exact List.mem_cons_of_mem _ List.mem_cons_self
  · exact List.mem_cons_self
  · exact List.mem_cons_of_mem _ (List.mem_cons_of_mem _ List.mem_cons_self)
  · exact List.mem_cons_of_mem _ (List.mem_cons_of_mem _ (List.mem_cons_of_mem _ List.mem_cons_self))
/-- what every state of the class keeps -/
def IvA (f : Nat → Nat) (a : Nat → Nat → Nat) : Prop :=
  Bd a ∧ (∀ j, a 16 j < 60) ∧ (∀ j, a 9 j < 6) ∧ (∀ j, a 18 j < 6) ∧ (∀ j, a 19 j = NONE ∨ a 19 j < 60) ∧ (∀ j, j < f 4 → a 10 j < f 0) ∧ (∀ j, j < f 4 → a 16 j < f 4) ∧ f 0 ≤ 1000 ∧ f 1 ≤ 1000 ∧ f 4 ≤ 60 ∧ (∀ j, a 8 j < 20) ∧ (∀ j, a 11 j < 100) ∧ f 2 ≤ 20 ∧ f 3 ≤ 8 ∧ (∀ j, a 3 j < 6) ∧ (∀ j, a 7 j < 6) ∧ (∀ j, a 17 j < 2)
abbrev kpP (a : Nat → Nat → Nat) (q m : Nat) : Prop := a 18 (a 9 q) = a 18 (a 9 m) ∧ a 12 m ≤ a 12 q
theorem m2_keeps (I : IvA f a) {q m : Nat} (hq : q < 60) (hm : m < 60) : k_Met Y2_keepsFromCalling [.ref 0, .int (nI q), .int (nI m)] (hX f a G B o) (.inl (some (.int (bI (kpP a q m)))), hX f a G B o, 0, 0) := by
  have h1 := I.1 12 q (by omega)
  have h2 := I.1 12 m (by omega)
  refine k_intro (by decide +kernel) rfl rfl rfl ?_
  refine k_go 99 [] T2_keepsFromCalling_ok (fun K hK => ?_)
  refine k_at hq ?_
  refine k_at hm ?_
  refine hK _ ?_
  refine k_callV (Y' := Y2_areJoined) (as := [.int (nI (a 9 q)), .int (nI (a 9 m))]) (st := []) (m2_areJoined I.1 (I.2.2.1 q) (I.2.2.1 m)) rfl c2_82 rfl rfl rfl d2_keepsFromCalling_19 (Nat.le_of_ble_eq_true rfl) (Nat.le_of_ble_eq_true rfl) rfl rfl ?_
  refine k_go 99 [] T2_keepsFromCalling_ok (fun K hK => ?_)
  refine p_eq (fun h => ?_) (fun h => ?_)
  · refine hK _ ?_
    exact k_ireturn d2_keepsFromCalling_51 rfl rfl (k_rb (bI_f (fun q => h q.1)).symm) rfl (Nat.le_refl _) (Nat.le_refl _)
  · refine k_at hq ?_
    refine k_at hm ?_
    refine b_lt (a := a 12 q) (b := a 12 m) (by omega) (by omega) (fun h3 => ?_) (fun h3 => ?_)
    · refine hK _ ?_
      exact k_ireturn d2_keepsFromCalling_51 rfl rfl (k_rb (bI_f (fun q => absurd q.2 (by omega))).symm) rfl (Nat.le_refl _) (Nat.le_refl _)
    · refine hK _ ?_
      exact k_ireturn d2_keepsFromCalling_51 rfl rfl (k_rb (bI_t ⟨h, h3⟩).symm) rfl (Nat.le_refl _) (Nat.le_refl _)
end PL
