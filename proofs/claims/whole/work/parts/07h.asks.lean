theorem fnd_none {P : Nat → Bool} : ∀ (n i : Nat), i + n ≤ 60 → fnd P n i = NONE → ∀ j, i ≤ j → j < i + n → P j = false := by
  intro n
  induction n with
  | zero => intro i _ _ j h1 h2; omega
  | succ n ih =>
    intro i hi h j h1 h2
    have h : (if P i = true then i else fnd P n (i + 1)) = NONE := h
    by_cases hp : P i = true
    · rw [if_pos hp] at h; exact absurd h (n60 (by omega))
    · rw [if_neg hp] at h
      by_cases e : j = i
      · subst e
        cases e2 : P j with
        | false => rfl
        | true => exact absurd e2 hp
      · exact ih (i + 1) (by omega) h j (by omega) (by omega)
def rrA (f : Nat → Nat) (a : Nat → Nat → Nat) (u m : Nat) : Bool := decide (nearI (a 0 (a 8 m)) (a 1 (a 8 m)) (a 0 u) (a 1 u) (a 2 (a 8 m))) || rpB f a u m
def smN (h : Nat → Nat) : Nat → Nat → Nat
  | 0, _ => 0
  | n + 1, i => h i + smN h n (i + 1)
theorem smN_add {h k l : Nat → Nat} : ∀ (n i : Nat), (∀ j, i ≤ j → j < i + n → h j = k j + l j) → smN h n i = smN k n i + smN l n i := by
  intro n
  induction n with
  | zero => intro i _; rfl
  | succ n ih =>
    intro i hh
    show h i + smN h n (i + 1) = (k i + smN k n (i + 1)) + (l i + smN l n (i + 1))
    rw [hh i (by omega) (by omega), ih (i + 1) (fun j h1 h2 => hh j (by omega) (by omega))]
    omega
theorem smN_ind {l : Nat → Nat} {x : Nat} : ∀ (n i : Nat), (∀ j, i ≤ j → j < i + n → l j = if x = j then 1 else 0) → smN l n i = if i ≤ x ∧ x < i + n then 1 else 0 := by
  intro n
  induction n with
  | zero => intro i _; show 0 = _; rw [if_neg (by omega)]
  | succ n ih =>
    intro i hh
    show l i + smN l n (i + 1) = _
    rw [hh i (by omega) (by omega), ih (i + 1) (fun j h1 h2 => hh j (by omega) (by omega))]
    by_cases e : x = i
    · rw [if_pos e, if_neg (by omega), if_pos (by omega)]
    · rw [if_neg e]
      by_cases e2 : i + 1 ≤ x ∧ x < i + 1 + n
      · rw [if_pos e2, if_pos (by omega)]
      · rw [if_neg e2, if_neg (by omega)]
theorem smN_zero {l : Nat → Nat} : ∀ (n i : Nat), (∀ j, i ≤ j → j < i + n → l j = 0) → smN l n i = 0 := by
  intro n
  induction n with
  | zero => intro i _; rfl
  | succ n ih =>
    intro i hh
    show l i + smN l n (i + 1) = 0
    rw [hh i (by omega) (by omega), ih (i + 1) (fun j h1 h2 => hh j (by omega) (by omega))]
abbrev usH (a : Nat → Nat → Nat) (c x y m : Nat) : Nat := if a 18 c = a 18 (a 9 m) then min y (a 13 m + a 14 m) - max x (a 13 m) else 0
theorem usS_sm {a : Nat → Nat → Nat} {c x y : Nat} : ∀ (n m t : Nat), usS a c x y n m t = t + smN (usH a c x y) n m := by
  intro n
  induction n with
  | zero => intro m t; rfl
  | succ n ih =>
    intro m t
    show usS a c x y n (m + 1) (if a 18 c = a 18 (a 9 m) then t + (min y (a 13 m + a 14 m) - max x (a 13 m)) else t) = t + (usH a c x y m + smN (usH a c x y) n (m + 1))
    rw [ih]
    unfold usH
    split <;> omega
theorem cnB_add {P : Nat → Bool} : ∀ (n i t : Nat), cnB P (n + 1) i t = cnB P n i t + if P (i + n) = true then 1 else 0 := by
  intro n
  induction n with
  | zero =>
    intro i t
    show (if P i = true then t + 1 else t) = t + if P i = true then 1 else 0
    split <;> rfl
  | succ n ih =>
    intro i t
    show cnB P (n + 1) (i + 1) (if P i = true then t + 1 else t) = cnB P n (i + 1) (if P i = true then t + 1 else t) + _
    rw [ih, show i + 1 + n = i + (n + 1) from by omega]
section AQ
variable {f g : Nat → Nat} {a b : Nat → Nat → Nat}
theorem Rel_day (h : Rel f a g b) {γ : Nat} (hγ : γ < 6) : Rel f a g (day0B g b γ) := by
  have st := (day_rel h hγ).1
  obtain ⟨I, D, S, P, E, A⟩ := h
  obtain ⟨A18, A0, A1, A2, A3, A4, A5, A6, A7, A8, A9, A10, A11, A12, A17⟩ := A
  have s := fun k (h1 : k ≠ 15) (h2 : k ≠ 16) (h3 : k ≠ 17) (h4 : k ≠ 18) => (st k h1 h2 h3 h4).symm
  exact ⟨I, day0_ok D, S, P, E, A18.trans (s 0 (by decide) (by decide) (by decide) (by decide)), A0.trans (s 1 (by decide) (by decide) (by decide) (by decide)), A1.trans (s 2 (by decide) (by decide) (by decide) (by decide)), A2.trans (s 3 (by decide) (by decide) (by decide) (by decide)), A3.trans (s 4 (by decide) (by decide) (by decide) (by decide)), A4.trans (s 5 (by decide) (by decide) (by decide) (by decide)), A5.trans (s 6 (by decide) (by decide) (by decide) (by decide)), A6.trans (s 7 (by decide) (by decide) (by decide) (by decide)), A7.trans (s 8 (by decide) (by decide) (by decide) (by decide)), A8.trans (s 9 (by decide) (by decide) (by decide) (by decide)), A9.trans (s 13 (by decide) (by decide) (by decide) (by decide)), A10.trans (s 10 (by decide) (by decide) (by decide) (by decide)), A11.trans (s 11 (by decide) (by decide) (by decide) (by decide)), A12.trans (s 12 (by decide) (by decide) (by decide) (by decide)), A17.trans (s 14 (by decide) (by decide) (by decide) (by decide))⟩
theorem on_eq (h : Rel f a g b) {c s : Nat} (hs : s < f 0) : msOn f a c s = day0B g b (b 0 c) 15 s := by
  have hγ : b 0 c < 6 := h.2.1.1.1 c
  obtain ⟨-, -, q3, -⟩ := day_rel h hγ
  obtain ⟨x1, x2⟩ := q3 s hs
  have I := h.1
  have h60 := I.2.2.2.2.2.2.2.2.2.1
  have A18 : a 18 = b 0 := h.2.2.2.2.2.1
  have hP : ∀ m, msP a c s m = true ↔ onP a m s ∧ gmA a m = b 0 c := by
    intro m
    unfold msP
    rw [Bool.and_eq_true, decide_eq_true_eq, decide_eq_true_eq, ← A18]
    exact ⟨fun z => ⟨z.1, z.2.symm⟩, fun z => ⟨z.1, z.2.symm⟩⟩
  rcases fnd_lt (P := msP a c s) (f 4) 0 with e | ⟨e1, e2, e3⟩
  · have hn := fnd_none (f 4) 0 (by omega) e
    rcases x1 with z | ⟨z1, z2⟩
    · exact e.trans z.symm
    · have hf := hn (day0B g b (b 0 c) 15 s) (Nat.zero_le _) (by omega)
      rw [(hP _).mpr ⟨(x2 _ z1 z2).mp rfl, z2⟩] at hf
      cases hf
  · have q := (hP _).mp e3
    exact ((x2 _ (by omega) q.2).mpr q.1).symm
theorem rr_eq (E : RelF f g) (A : RelA a b) {u x : Nat} (hg : a 18 (a 3 u) = gmA a x) : rrB g b (b 9 x) u (b 0 (b 4 u)) = rrA f a u x := by
  obtain ⟨A18, A0, A1, A2, A3, A4, A5, A6, A7, A8, A9, A10, A11, A12, A17⟩ := A
  unfold rrB rrA rpB
  have e : rrP b (b 9 x) u (b 0 (b 4 u)) = rpP a u x := by
    funext r
    unfold rrP rpP
    rw [← A18, ← A3, hg, ← A0, ← A1, ← A2, ← A4, ← A5, ← A6, ← A7, ← A8]
  rw [e, ← A0, ← A1, ← A2, ← A8, E.2.2.2.1]
theorem gt_eq (E : RelF f g) (A : RelA a b) {u s : Nat} (hn : b 15 s ≠ NONE) (hg : a 18 (a 3 u) = gmA a (b 15 s)) : gtB g b u s = (decide (a 8 (b 15 s) ≠ u) && decide (a 17 s = 0) && rrA f a u (b 15 s)) := by
  unfold gtB
  rw [if_neg hn, rr_eq E A hg]
  obtain ⟨A18, A0, A1, A2, A3, A4, A5, A6, A7, A8, A9, A10, A11, A12, A17⟩ := A
  rw [A8, A17]
theorem hears_eq (h : Rel f a g b) {u s : Nat} (hs : s < f 0) : hrN f a u s = hrM g (day0B g b (b 0 (b 4 u))) u s := by
  have hγ : b 0 (b 4 u) < 6 := h.2.1.1.1 _
  have hd := day_rel h hγ
  have ho := on_eq h (c := a 3 u) hs
  have R2 := Rel_day h hγ
  have A3 : a 3 = b 4 := h.2.2.2.2.2.2.2.2.2.1
  have A18 : a 18 = b 0 := h.2.2.2.2.2.1
  have e0 : b 0 (b 4 u) = a 18 (a 3 u) := by rw [A18, A3]
  rw [A3] at ho
  obtain ⟨-, -, q3, q4⟩ := hd
  obtain ⟨x1, x2⟩ := q3 s hs
  have q4 := q4 s hs
  unfold hrN hrM
  rw [A3, ho]
  generalize day0B g b (b 0 (b 4 u)) = b2 at x1 x2 q4 R2 ⊢
  obtain ⟨-, -, -, -, E, A⟩ := R2
  rcases x1 with z | ⟨z1, z2⟩
  · have e1 : gtB g b2 u s = false := by unfold gtB; rw [if_pos z]
    rw [if_pos (Or.inl z), e1, if_neg (by decide)]
  · have hn : b2 15 s ≠ NONE := n60 (by have := h.1.2.2.2.2.2.2.2.2.2.1; omega)
    rw [gt_eq E A hn (by rw [z2, e0]), q4 hn]
    have er : rcB f a u (b2 15 s) = (decide (a 8 (b2 15 s) ≠ u) && rrA f a u (b2 15 s)) := by
      unfold rcB lsB rrA
      rw [decide_eq_true (p := a 18 (a 3 u) = a 18 (a 9 (b2 15 s))) (by rw [← e0]; exact z2.symm), Bool.and_true]
      congr 1
      exact decide_eq_decide.mpr ⟨Ne.symm, Ne.symm⟩
    have key : (b2 15 s = NONE ∨ a 17 s ≠ 0 ∨ rcB f a u (b2 15 s) = false) ↔ ¬ ((decide (a 8 (b2 15 s) ≠ u) && decide (a 17 s = 0) && rrA f a u (b2 15 s)) = true) := by
      rw [er]
      generalize decide (a 8 (b2 15 s) ≠ u) = p1
      generalize rrA f a u (b2 15 s) = p2
      by_cases h17 : a 17 s = 0
      · cases p1 <;> cases p2 <;> simp [h17, hn]
      · simp [h17]
    by_cases hc : (decide (a 8 (b2 15 s) ≠ u) && decide (a 17 s = 0) && rrA f a u (b2 15 s)) = true
    · rw [if_neg (fun z => key.mp z hc), if_pos hc]
    · rw [if_pos (key.mpr hc), if_neg hc]
theorem heard_eq (h : Rel f a g b) {u m : Nat} (hm : m < f 4) : hdB g (day0B g b (b 0 (b 13 m))) u m = haB f a u m := by
  have hγ : b 0 (b 13 m) < 6 := h.2.1.1.1 _
  obtain ⟨-, q2, q3, -⟩ := day_rel h hγ
  have R2 := Rel_day h hγ
  have A9 : a 9 = b 13 := h.2.2.2.2.2.2.2.2.2.2.2.2.2.2.2.1
  have A18 : a 18 = b 0 := h.2.2.2.2.2.1
  have em : gmA a m = b 0 (b 13 m) := by show a 18 (a 9 m) = _; rw [A18, A9]
  obtain ⟨m18, m17, mT⟩ := q2 m hm em
  generalize day0B g b (b 0 (b 13 m)) = b2 at m18 m17 q3 R2 ⊢
  obtain ⟨I, -, -, -, E, A⟩ := R2
  have h60 := I.2.2.2.2.2.2.2.2.2.1
  have hmn : m ≠ NONE := n60 (by omega)
  have B0 : b2 0 = a 18 := A.1.symm
  have B4 : b2 4 = a 3 := A.2.2.2.2.1.symm
  have B13 : b2 13 = a 9 := A.2.2.2.2.2.2.2.2.2.2.1.symm
  have E0 : g 1 = f 0 := E.1.symm
  unfold hdB haB nzB
  rw [B0, B4, B13, m18, E0, Nat.min_eq_left mT, show a 13 m + a 14 m - a 13 m = a 14 m from by omega]
  by_cases hg : a 18 (a 3 u) = a 18 (a 9 m)
  · have gt : ∀ s, s < f 0 → b2 15 s = m → gtB g b2 u s = (decide (a 8 m ≠ u) && decide (a 17 s = 0) && rrA f a u m) := fun s hs e => by
      have := gt_eq (u := u) (s := s) E A (by rw [e]; exact hmn) (by rw [e]; exact hg)
      rw [e] at this
      exact this
    have er : rcB f a u m = (decide (a 8 m ≠ u) && rrA f a u m) := by
      unfold rcB lsB rrA
      rw [decide_eq_true hg, Bool.and_true]
      congr 1
      exact decide_eq_decide.mpr ⟨Ne.symm, Ne.symm⟩
    rw [decide_eq_true hg, er, Bool.true_and]
    rw [Bool.eq_iff_iff]
    simp only [Bool.and_eq_true, decide_eq_true_eq, Bool.not_eq_true', ← Bool.not_eq_true]
    rw [exB_iff, exB_iff]
    constructor
    · rintro ⟨h1, h2⟩
      have all : ∀ s, onP a m s → (decide (a 8 m ≠ u) && decide (a 17 s = 0) && rrA f a u m) = true := by
        intro s hs
        have hsT : s < f 0 := by have := hs.2; omega
        have e := ((q3 s hsT).2 m hm em).mpr hs
        rw [← gt s hsT e]
        cases e3 : gtB g b2 u s with
        | true => rfl
        | false => exact absurd ⟨s, Nat.zero_le _, by omega, by rw [decide_eq_true e, e3]; rfl⟩ h2
      have h0 := all (a 13 m) ⟨Nat.le_refl _, by omega⟩
      simp only [Bool.and_eq_true, decide_eq_true_eq] at h0
      refine ⟨⟨h1, h0.1.1, h0.2⟩, ?_⟩
      rintro ⟨j, j1, j2, j3⟩
      have hj := all j ⟨j1, j2⟩
      simp only [Bool.and_eq_true, decide_eq_true_eq] at hj
      exact (of_decide_eq_true j3) hj.1.2
    · rintro ⟨⟨h1, h2, h3⟩, h4⟩
      refine ⟨h1, ?_⟩
      rintro ⟨s, s1, s2, s3⟩
      rw [Bool.and_eq_true, decide_eq_true_eq] at s3
      have hsT : s < f 0 := by omega
      have on := ((q3 s hsT).2 m hm em).mp s3.1
      have e := gt s hsT s3.1
      have h17 : a 17 s = 0 := by
        by_cases z : a 17 s = 0
        · exact z
        · exact absurd ⟨s, on.1, by have := on.2; omega, decide_eq_true z⟩ h4
      rw [e, decide_eq_true h2, decide_eq_true h17, h3] at s3
      exact absurd s3.2 (by decide)
  · have er : rcB f a u m = false := by
      unfold rcB lsB
      rw [decide_eq_false hg, Bool.and_false, Bool.false_and]
    rw [decide_eq_false hg, er]
    simp
theorem unheard_eq {m i : Nat} (hm : m < f 4) : ∀ (n u l : Nat) (b : Nat → Nat → Nat) (k : Nat), Rel f a g b → k ≤ i → l = i - k → (uhR g m n u l b).1 = nth (fun u => mdB f a u m) i n u k ∧ Rel f a g (uhR g m n u l b).2 := by
  intro n
  induction n with
  | zero => intro u l b k R _ _; exact ⟨rfl, R⟩
  | succ n ih =>
    intro u l b k R hk hl
    have hγ : b 0 (b 13 m) < 6 := R.2.1.1.1 _
    have hh := heard_eq R (u := u) hm
    have R2 := Rel_day R hγ
    have A18 : a 18 = b 0 := R.2.2.2.2.2.1
    have A3 : a 3 = b 4 := R.2.2.2.2.2.2.2.2.2.1
    have A8 : a 8 = b 9 := R.2.2.2.2.2.2.2.2.2.2.2.2.2.2.1
    have A9 : a 9 = b 13 := R.2.2.2.2.2.2.2.2.2.2.2.2.2.2.2.1
    show (if b 0 (b 4 u) ≠ b 0 (b 13 m) ∨ u = b 9 m then uhR g m n (u + 1) l b
      else if hdB g (day0B g b (b 0 (b 13 m))) u m = true then uhR g m n (u + 1) l (day0B g b (b 0 (b 13 m)))
      else if l = 0 then (u, day0B g b (b 0 (b 13 m))) else uhR g m n (u + 1) (l - 1) (day0B g b (b 0 (b 13 m)))).1 = (if mdB f a u m = true then (if k = i then u else nth (fun u => mdB f a u m) i n (u + 1) (k + 1)) else nth (fun u => mdB f a u m) i n (u + 1) k) ∧ Rel f a g (if b 0 (b 4 u) ≠ b 0 (b 13 m) ∨ u = b 9 m then uhR g m n (u + 1) l b
      else if hdB g (day0B g b (b 0 (b 13 m))) u m = true then uhR g m n (u + 1) l (day0B g b (b 0 (b 13 m)))
      else if l = 0 then (u, day0B g b (b 0 (b 13 m))) else uhR g m n (u + 1) (l - 1) (day0B g b (b 0 (b 13 m)))).2
    rw [hh]
    by_cases hc : b 0 (b 4 u) ≠ b 0 (b 13 m) ∨ u = b 9 m
    · have e : mdB f a u m = false := by
        unfold mdB lsB
        rw [A18, A3, A9, A8]
        rcases hc with z | z
        · rw [decide_eq_false (p := b 0 (b 4 u) = b 0 (b 13 m)) z]; simp
        · rw [decide_eq_false (p := u ≠ b 9 m) (fun y => y z)]; simp
      rw [if_pos hc, e, if_neg (by decide)]
      exact ih (u + 1) l b k R hk hl
    · have e : mdB f a u m = !haB f a u m := by
        unfold mdB lsB
        rw [A18, A3, A9, A8, decide_eq_true (p := u ≠ b 9 m) (fun y => hc (Or.inr y)), decide_eq_true (p := b 0 (b 4 u) = b 0 (b 13 m)) (Decidable.byContradiction (fun y => hc (Or.inl y)))]
        rfl
      rw [if_neg hc, e]
      cases hb : haB f a u m with
      | true =>
        rw [if_pos (show true = true from rfl), if_neg (show ¬ (!true) = true by decide)]
        exact ih (u + 1) l _ k R2 hk hl
      | false =>
        rw [if_neg (show ¬ false = true by decide), if_pos (show (!false) = true from rfl)]
        by_cases hki : k = i
        · rw [if_pos (by omega), if_pos hki]
          exact ⟨rfl, R2⟩
        · rw [if_neg (by omega), if_neg hki]
          exact ih (u + 1) (l - 1) _ (k + 1) R2 (by omega) (by omega)
theorem used_eq (h : Rel f a g b) {c p : Nat} : ∀ d, p + d ≤ f 0 → usN f a c p (p + d) = usM (day0B g b (b 0 c)) p (p + d) := by
  have hγ : b 0 c < 6 := h.2.1.1.1 c
  obtain ⟨-, -, q3, -⟩ := day_rel h hγ
  have I := h.1
  have h60 := I.2.2.2.2.2.2.2.2.2.1
  have A18 : a 18 = b 0 := h.2.2.2.2.2.1
  generalize hb2 : day0B g b (b 0 c) = b2 at q3 ⊢
  intro d
  unfold usN usM
  induction d with
  | zero =>
    intro _
    rw [usS_sm, Nat.add_zero, Nat.sub_self, smN_zero]
    · rfl
    · intro j _ _
      unfold usH
      split
      · omega
      · rfl
  | succ d ih =>
    intro hd
    have ih := ih (by omega)
    rw [usS_sm] at ih ⊢
    rw [show p + (d + 1) - p = (p + d - p) + 1 from by omega, cnB_add, ← ih, show p + (p + d - p) = p + d from by omega]
    have hq : p + d < f 0 := by omega
    obtain ⟨x1, x2⟩ := q3 (p + d) hq
    have add := smN_add (h := usH a c p (p + (d + 1))) (k := usH a c p (p + d)) (l := fun m => if a 18 c = a 18 (a 9 m) ∧ onP a m (p + d) then 1 else 0) (f 4) 0 (fun m _ _ => by
      unfold usH
      by_cases e1 : a 18 c = a 18 (a 9 m)
      · rw [if_pos e1, if_pos e1]
        by_cases e2 : onP a m (p + d)
        · rw [if_pos ⟨e1, e2⟩]; have := e2.1; have := e2.2; omega
        · rw [if_neg (fun z => e2 z.2)]
          unfold onP at e2
          omega
      · rw [if_neg e1, if_neg e1, if_neg (fun z => e1 z.1)])
    have ind := smN_ind (l := fun m => if a 18 c = a 18 (a 9 m) ∧ onP a m (p + d) then 1 else 0) (x := b2 15 (p + d)) (f 4) 0 (fun m _ hm => by
      by_cases e1 : gmA a m = b 0 c
      · have := x2 m (by omega) e1
        by_cases e2 : onP a m (p + d)
        · rw [if_pos ⟨(congrFun A18 c).trans e1.symm, e2⟩, if_pos (this.mpr e2)]
        · rw [if_neg (fun z => e2 z.2), if_neg (fun z => e2 (this.mp z))]
      · have n2 : ¬ b2 15 (p + d) = m := fun z => by
          rcases x1 with y | y
          · exact n60 (by omega) (z.symm.trans y)
          · exact e1 (z ▸ y.2)
        rw [if_neg (fun z => e1 (by show a 18 (a 9 m) = _; rw [← z.1, A18])), if_neg n2])
    have e2 : (if 0 ≤ b2 15 (p + d) ∧ b2 15 (p + d) < 0 + f 4 then 1 else 0) = if decide (b2 15 (p + d) ≠ NONE) = true then 1 else 0 := by
      rcases x1 with y | y
      · have n1 : ¬ (0 ≤ b2 15 (p + d) ∧ b2 15 (p + d) < 0 + f 4) := fun z => n60 (by omega) y
        have n2 : ¬ (decide (b2 15 (p + d) ≠ NONE) = true) := fun z => of_decide_eq_true z y
        rw [if_neg n1, if_neg n2]
      · have p1 : 0 ≤ b2 15 (p + d) ∧ b2 15 (p + d) < 0 + f 4 := ⟨Nat.zero_le _, by omega⟩
        have p2 : decide (b2 15 (p + d) ≠ NONE) = true := decide_eq_true (n60 (by omega))
        rw [if_pos p1, if_pos p2]
    rw [add, ind, e2, Nat.add_assoc]
theorem begins_iff (h : Rel f a g b) {u s : Nat} (hu : u < 10000) (hs : s < 10000) : bgB g b (nI u) (nI s) = true ↔ hasB f a u s := by
  obtain ⟨I, D, S, P, E, A⟩ := h
  have A8 : a 8 = b 9 := A.2.2.2.2.2.2.2.2.2.1
  have A10 : a 10 = b 10 := A.2.2.2.2.2.2.2.2.2.2.2.1
  have E4 : f 4 = g 5 := E.2.2.2.2
  unfold bgB hasB
  rw [exB_iff, E4, A8, A10]
  have i9 := D.1.2.2.2.1
  have i10 := D.1.2.2.2.2.1
  constructor
  · rintro ⟨j, j1, j2, j3⟩
    unfold bgP at j3
    rw [Bool.and_eq_true, decide_eq_true_eq, decide_eq_true_eq] at j3
    have := i9 j
    have := i10 j
    exact ⟨j, by omega, (nI_eq (by omega) (by omega)).mp j3.1, (nI_eq (by omega) (by omega)).mp j3.2⟩
  · rintro ⟨j, j1, j2, j3⟩
    refine ⟨j, Nat.zero_le _, by omega, ?_⟩
    unfold bgP
    rw [j2, j3, decide_eq_true rfl, decide_eq_true rfl]
    rfl
end AQ
