abbrev oA (f : Nat → Nat) (a : Nat → Nat → Nat) : List Nat := (List.range (f 4)).map (a 16)
abbrev pA (f : Nat → Nat) (a : Nat → Nat → Nat) (γ : Nat) : Vw → Nat → Vw := pstep (f 0) (f 1) (a 11) (a 12) (a 10) (gmA a) (mtB (f 4) (a 12) (a 10) (gmA a)) γ
/-- the rows of the plan are the plan of the messages as they stand -/
def Pl (f : Nat → Nat) (a : Nat → Nat → Nat) : Prop :=
  ∀ γ, γ < 6 → ∃ v0 : Vw, v0.1 = NONE ∧ ∀ m, m < f 4 → gmA a m = γ → ((oA f a).foldl (pA f a γ) v0).2 m = (a 13 m, a 14 m, a 15 m)
def RelF (f g : Nat → Nat) : Prop := f 0 = g 1 ∧ f 1 = g 2 ∧ f 2 = g 3 ∧ f 3 = g 4 ∧ f 4 = g 5
def RelA (a b : Nat → Nat → Nat) : Prop :=
  a 18 = b 0 ∧ a 0 = b 1 ∧ a 1 = b 2 ∧ a 2 = b 3 ∧ a 3 = b 4 ∧ a 4 = b 5 ∧ a 5 = b 6 ∧ a 6 = b 7 ∧ a 7 = b 8 ∧ a 8 = b 9 ∧ a 9 = b 13 ∧ a 10 = b 10 ∧ a 11 = b 11 ∧ a 12 = b 12 ∧ a 17 = b 14
/-- the two states agree -/
def Rel (f : Nat → Nat) (a : Nat → Nat → Nat) (g : Nat → Nat) (b : Nat → Nat → Nat) : Prop :=
  IvA f a ∧ IvD g b ∧ Srt (f 4) (a 16) (a 10) ∧ Pl f a ∧ RelF f g ∧ RelA a b
section PR
variable {f g : Nat → Nat} {a b : Nat → Nat → Nat}
theorem Pl_plan (I : IvA f a) (S : Srt (f 4) (a 16) (a 10)) : Pl f (plan0 f a) := by
  intro γ hγ
  have l19 : L19 (clr a) := by
    intro j hj
    left
    show (if j < 6 then NONE else a 19 j) = NONE
    rw [if_pos hj]
  have hv := planN_view (f := f) (a := clr a) S l19 I.2.2.2.1 γ (f 4) (Nat.le_refl _)
  have e : ∀ k, k ≠ 13 → k ≠ 14 → k ≠ 15 → k ≠ 19 → plan0 f a k = a k := fun k h1 h2 h3 h4 => by
    unfold plan0
    rw [planN_st h1 h2 h3 h4]
    unfold clr rowA
    rw [if_neg h4]
  have e9 := e 9 (by decide) (by decide) (by decide) (by decide)
  have e10 := e 10 (by decide) (by decide) (by decide) (by decide)
  have e11 := e 11 (by decide) (by decide) (by decide) (by decide)
  have e12 := e 12 (by decide) (by decide) (by decide) (by decide)
  have e16 := e 16 (by decide) (by decide) (by decide) (by decide)
  have e18 := e 18 (by decide) (by decide) (by decide) (by decide)
  have eg : gmA (plan0 f a) = gmA a := by funext m; show plan0 f a 18 (plan0 f a 9 m) = _; rw [e18, e9]
  refine ⟨view γ (clr a), ?_, fun m hm hg => ?_⟩
  · show (if γ < 6 then NONE else a 19 γ) = NONE
    rw [if_pos hγ]
  · unfold oA pA
    rw [eg, e10, e11, e12, e16]
    have hv : view γ (plan0 f a) = ((List.range (f 4)).map (a 16)).foldl (pstep (f 0) (f 1) (a 11) (a 12) (a 10) (gmA a) (mtB (f 4) (a 12) (a 10) (gmA a)) γ) (view γ (clr a)) := hv
    rw [← hv]
    exact view_at hg
theorem insA_spec (w : Nat) : ∀ (p : Nat) (a : Nat → Nat → Nat), (insA w p a).2 ≤ p ∧ (∀ j, j < (insA w p a).2 ∨ p < j → (insA w p a).1 16 j = a 16 j) ∧ (∀ j, (insA w p a).2 ≤ j → j < p → (insA w p a).1 16 (j + 1) = a 16 j) ∧ (∀ j, j + 1 = (insA w p a).2 → a 10 (a 16 j) ≤ w) ∧ (∀ j, (insA w p a).2 ≤ j → j < p → w < a 10 (a 16 j)) := by
  intro p
  induction p with
  | zero => intro a; exact ⟨Nat.le_refl _, fun _ _ => rfl, fun j _ h => absurd h (Nat.not_lt_zero _), fun j h => absurd h (Nat.succ_ne_zero _), fun j _ h => absurd h (Nat.not_lt_zero _)⟩
  | succ p ih =>
    intro a
    by_cases hw : w < a 10 (a 16 p)
    · have e : insA w (p + 1) a = insA w p (up2 a 16 (p + 1) (a 16 p)) := by
        show (if w < a 10 (a 16 p) then insA w p (up2 a 16 (p + 1) (a 16 p)) else (a, p + 1)) = _
        rw [if_pos hw]
      rw [e]
      obtain ⟨i1, i2, i3, i4, i5⟩ := ih (up2 a 16 (p + 1) (a 16 p))
      have u : ∀ j, j ≠ p + 1 → up2 a 16 (p + 1) (a 16 p) 16 j = a 16 j := fun j h => by rw [up2_same, up1_ne h]
      have u2 : up2 a 16 (p + 1) (a 16 p) 16 (p + 1) = a 16 p := by rw [up2_same, up1_same]
      have u10 : up2 a 16 (p + 1) (a 16 p) 10 = a 10 := rfl
      rw [u10] at i4 i5
      refine ⟨by omega, fun j h => ?_, fun j h1 h2 => ?_, fun j h => ?_, fun j h1 h2 => ?_⟩
      · rw [i2 j (by omega), u j (by omega)]
      · by_cases hj : j = p
        · subst hj; rw [i2 (j + 1) (by omega), u2]
        · rw [i3 j h1 (by omega), u j (by omega)]
      · have := i4 j h
        rw [u j (by omega)] at this
        exact this
      · by_cases hj : j = p
        · subst hj; exact hw
        · have := i5 j h1 (by omega)
          rw [u j (by omega)] at this
          exact this
    · have e : insA w (p + 1) a = (a, p + 1) := by
        show (if w < a 10 (a 16 p) then insA w p (up2 a 16 (p + 1) (a 16 p)) else (a, p + 1)) = _
        rw [if_neg hw]
      rw [e]
      refine ⟨Nat.le_refl _, fun _ _ => rfl, fun j h1 h2 => absurd h1 (by dsimp only; omega), fun j h => ?_, fun j h1 h2 => absurd h1 (by dsimp only; omega)⟩
      have : j = p := by dsimp only at h; omega
      rw [this]; omega
theorem Srt_ins {N w p : Nat} {r r2 bg : Nat → Nat} (S : Srt N r bg) (hp : p ≤ N) (h1 : ∀ j, j < p → r2 j = r j) (h2 : ∀ j, p ≤ j → j < N → r2 (j + 1) = r j) (h3 : ∀ j, j + 1 = p → bg (r j) ≤ w) (h4 : ∀ j, p ≤ j → j < N → w < bg (r j)) : Srt (N + 1) (up1 r2 p N) (up1 bg N w) := by
  obtain ⟨s1, s2, s3, s4⟩ := S
  have a1 : ∀ j, j < p → up1 r2 p N j = r j := fun j h => by rw [up1_ne (by omega), h1 j h]
  have a2 : up1 r2 p N p = N := up1_same _ _ _
  have a3 : ∀ j, p < j → j < N + 1 → up1 r2 p N j = r (j - 1) := fun j h h' => by
    obtain ⟨k, rfl⟩ : ∃ k, j = k + 1 := ⟨j - 1, by omega⟩
    rw [up1_ne (by omega), h2 k (by omega) (by omega)]
    rfl
  have b1 : ∀ j, j < N → up1 bg N w (r j) = bg (r j) := fun j h => up1_ne (by have := s4 j h; omega)
  have b2 : up1 bg N w N = w := up1_same _ _ _
  have low : ∀ j, j < p → bg (r j) ≤ w := fun j h => by
    obtain ⟨k, rfl⟩ : ∃ k, p = k + 1 := ⟨p - 1, by omega⟩
    have := h3 k rfl
    by_cases e : j = k
    · rw [e]; exact this
    · exact Nat.le_trans (s1 j k (by omega) (by omega)) this
  refine ⟨fun i j hij hj => ?_, fun i j hij hj => ?_, fun m hm => ?_, fun q hq => ?_⟩
  · rcases Nat.lt_trichotomy j p with hjp | hjp | hjp
    · rw [a1 i (by omega), a1 j hjp, b1 i (by omega), b1 j (by omega)]; exact s1 i j hij (by omega)
    · subst hjp
      rw [a1 i hij, a2, b1 i (by omega), b2]; exact low i hij
    · rw [a3 j hjp hj, b1 (j - 1) (by omega)]
      rcases Nat.lt_trichotomy i p with hip | hip | hip
      · rw [a1 i hip, b1 i (by omega)]; exact s1 i (j - 1) (by omega) (by omega)
      · subst hip; rw [a2, b2]; exact Nat.le_of_lt (h4 (j - 1) (by omega) (by omega))
      · rw [a3 i hip (by omega), b1 (i - 1) (by omega)]; exact s1 (i - 1) (j - 1) (by omega) (by omega)
  · rcases Nat.lt_trichotomy j p with hjp | hjp | hjp
    · rw [a1 i (by omega), a1 j hjp]; exact s2 i j hij (by omega)
    · subst hjp
      rw [a1 i hij, a2]; have := s4 i (by omega); omega
    · rw [a3 j hjp hj]
      rcases Nat.lt_trichotomy i p with hip | hip | hip
      · rw [a1 i hip]; exact s2 i (j - 1) (by omega) (by omega)
      · subst hip; rw [a2]; have := s4 (j - 1) (by omega); omega
      · rw [a3 i hip (by omega)]; exact s2 (i - 1) (j - 1) (by omega) (by omega)
  · by_cases e : m = N
    · exact ⟨p, by omega, by rw [a2, e]⟩
    · obtain ⟨q, hq, hqe⟩ := s3 m (by omega)
      by_cases hqp : q < p
      · exact ⟨q, by omega, by rw [a1 q hqp]; exact hqe⟩
      · exact ⟨q + 1, by omega, by rw [a3 (q + 1) (by omega) (by omega)]; exact hqe⟩
  · rcases Nat.lt_trichotomy q p with h | h | h
    · rw [a1 q h]; have := s4 q (by omega); omega
    · subst h; rw [a2]; omega
    · rw [a3 q h hq]; have := s4 (q - 1) (by omega); omega
theorem Srt_add {u c w n r : Nat} (S : Srt (f 4) (a 16) (a 10)) : Srt (f 4 + 1) (addA f a u c w n r 16) (addA f a u c w n r 10) := by
  obtain ⟨i1, i2, i3, i4, i5⟩ := insA_spec w (f 4) a
  have e10 : (insA w (f 4) a).1 10 = a 10 := insA_row w (f 4) a 10 (by decide)
  show Srt (f 4 + 1) (up1 ((insA w (f 4) a).1 16) (insA w (f 4) a).2 (f 4)) (up1 ((insA w (f 4) a).1 10) (f 4) w)
  rw [e10]
  exact Srt_ins S i1 (fun j h => i2 j (Or.inl h)) i3 i4 i5
theorem Rel_g0 {t : Nat} (h : Rel f a g b) : Rel f a (up1 g 0 t) b := by
  obtain ⟨I, D, S, P, E, A⟩ := h
  exact ⟨I, IvD_g0 D, S, P, ⟨E.1, E.2.1, E.2.2.1, E.2.2.2.1, E.2.2.2.2⟩, A⟩
theorem day_rel (h : Rel f a g b) {γ : Nat} (hγ : γ < 6) :
    (∀ k, k ≠ 15 → k ≠ 16 → k ≠ 17 → k ≠ 18 → day0B g b γ k = b k) ∧
    (∀ m, m < f 4 → gmA a m = γ → day0B g b γ 18 m = a 14 m ∧ day0B g b γ 17 m = a 15 m ∧ a 13 m + a 14 m ≤ f 0) ∧
    (∀ t, t < f 0 → (day0B g b γ 15 t = NONE ∨ (day0B g b γ 15 t < f 4 ∧ gmA a (day0B g b γ 15 t) = γ)) ∧ ∀ m, m < f 4 → gmA a m = γ → (day0B g b γ 15 t = m ↔ onP a m t)) ∧
    (∀ t, t < f 0 → day0B g b γ 15 t ≠ NONE → day0B g b γ 16 t = if a 11 (day0B g b γ 15 t) = 0 then 0 else t - a 13 (day0B g b γ 15 t) + 1) := by
  obtain ⟨I, D, S, P, E, A⟩ := h
  obtain ⟨v0, hv0, hv⟩ := P γ hγ
  obtain ⟨E0, E1, E2, E3, E4⟩ := E
  obtain ⟨A18, -, -, -, -, -, -, -, -, -, A9, A10, A11, A12, -⟩ := A
  have eg : gmA a = gmM b := by funext m; show a 18 (a 9 m) = b 0 (b 13 m); rw [A18, A9]
  have ep : pA f a γ = pM g b γ := by unfold pA pM; rw [E0, E1, E4, eg, A10, A11, A12]
  have h60 := I.2.2.2.2.2.2.2.2.2.1
  have hbg := I.2.2.2.2.2.1
  have hN : g 5 ≤ 60 := by omega
  obtain ⟨s1, s2, s3, s4⟩ := S
  have hO1 : (oA f a).Nodup := by
    refine List.pairwise_map.mpr (List.Pairwise.imp_of_mem ?_ List.pairwise_lt_range)
    intro i j hi hj hij
    exact s2 i j hij (List.mem_range.mp hj)
  have hO2 : ∀ m, m ∈ oA f a ↔ m < g 5 := by
    intro m
    rw [← E4]
    constructor
    · intro hm
      obtain ⟨p, hp, rfl⟩ := List.mem_map.mp hm
      exact s4 p (List.mem_range.mp hp)
    · intro hm
      obtain ⟨p, hp, hpe⟩ := s3 m hm
      exact List.mem_map.mpr ⟨p, List.mem_range.mpr hp, hpe⟩
  have hO3 : (oA f a).Pairwise (fun x y => b 10 x ≤ b 10 y) := by
    rw [← A10]
    refine List.pairwise_map.mpr (List.Pairwise.imp_of_mem ?_ List.pairwise_lt_range)
    intro i j hi hj hij
    exact s1 i j hij (List.mem_range.mp hj)
  have key := day_spec (g := g) (b0 := b) (γ := γ) hN hv0 hO1 hO2 hO3 (fun m hm => by rw [← A10, ← E0]; exact hbg m (by omega))
  rw [← ep] at key
  have ed : (d0N g γ (g 1) 0 (b, NONE, NONE)).1 = day0B g b γ := rfl
  obtain ⟨st, ⟨V1, V2⟩, ⟨r1, r2, r3, r4, r5⟩, -⟩ := key
  rw [ed] at st r1 r2 r3 r4 r5
  generalize day0B g b γ = b2 at st r1 r2 r3 r4 r5 ⊢
  generalize (oA f a).foldl (pA f a γ) v0 = v at hv V1 V2 r1 r2 r3 r4 r5
  have stt : ∀ m, m < f 4 → gmA a m = γ → Stt (g 5) (gmM b) (b 10) γ (g 1) m := fun m h1 h2 => ⟨by omega, by rw [← eg]; exact h2, by rw [← A10, ← E0]; exact hbg m h1⟩
  have bnd : ∀ m, m < f 4 → gmA a m = γ → (v.2 m).1 + (v.2 m).2.1 ≤ g 1 := by
    intro m h1 h2
    by_cases e : m = v.1
    · rcases V1 with h | ⟨h, h3, h4⟩
      · exact absurd (e.trans h) (n60 (by omega))
      · have h5 : (v.2 v.1).2.1 = min (mq (g 2) (b 11 v.1)) (g 1 - (v.2 v.1).1) := congrArg (fun z => z.2.1) h4
        rw [e]; omega
    · exact V2 m (stt m h1 h2) e
  refine ⟨st, fun m h1 h2 => ?_, fun t ht => ⟨?_, fun m h1 h2 => ?_⟩, fun t ht hne => ?_⟩
  · have hb := bnd m h1 h2
    have q1 := r1 m (stt m h1 h2)
    have q2 := r2 m (stt m h1 h2) hb
    rw [hv m h1 h2] at hb q1 q2
    dsimp only at hb q1 q2
    exact ⟨by omega, q2, by omega⟩
  · rcases r3 t (by omega) with h | h
    · exact Or.inl h
    · exact Or.inr ⟨by have := h.1; omega, by rw [eg]; exact h.2.1⟩
  · have := r4 t (by omega) m (stt m h1 h2)
    unfold vOn at this
    rw [hv m h1 h2] at this
    exact this
  · have q5 := r5 t (by omega) hne
    rcases r3 t (by omega) with h | h
    · exact absurd h hne
    · rw [q5, hv (b2 15 t) (by have := h.1; omega) (by rw [eg]; exact h.2.1), A11]
end PR
