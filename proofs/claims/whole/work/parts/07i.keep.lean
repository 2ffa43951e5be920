section KP
variable {f g f' : Nat → Nat} {a b a' : Nat → Nat → Nat}
theorem Pl_congr (e0 : f' 0 = f 0) (e1 : f' 1 = f 1) (e4 : f' 4 = f 4) (r : ∀ k, 9 ≤ k → k ≤ 18 → k ≠ 17 → a' k = a k) (h : Pl f a) : Pl f' a' := by
  have r9 := r 9 (by decide) (by decide) (by decide)
  have r10 := r 10 (by decide) (by decide) (by decide)
  have r11 := r 11 (by decide) (by decide) (by decide)
  have r12 := r 12 (by decide) (by decide) (by decide)
  have r13 := r 13 (by decide) (by decide) (by decide)
  have r14 := r 14 (by decide) (by decide) (by decide)
  have r15 := r 15 (by decide) (by decide) (by decide)
  have r16 := r 16 (by decide) (by decide) (by decide)
  have r18 := r 18 (by decide) (by decide) (by decide)
  have eg : gmA a' = gmA a := by funext m; show a' 18 (a' 9 m) = a 18 (a 9 m); rw [r18, r9]
  intro γ hγ
  obtain ⟨v0, h0, hv⟩ := h γ hγ
  refine ⟨v0, h0, fun m hm hg => ?_⟩
  unfold oA pA
  rw [eg, e0, e1, e4, r10, r11, r12, r13, r14, r15, r16]
  exact hv m (by rw [← e4]; exact hm) (by rw [← eg]; exact hg)
theorem plan0_st (k : Nat) (h13 : k ≠ 13) (h14 : k ≠ 14) (h15 : k ≠ 15) (h19 : k ≠ 19) : plan0 f a k = a k := by
  unfold plan0
  rw [planN_st h13 h14 h15 h19]
  unfold clr rowA
  rw [if_neg h19]
theorem IvA_plan0 (I : IvA f a) : IvA f (plan0 f a) := IvA_planN (IvA_clr I) (f 4) (Nat.le_refl _)
theorem RelA_plan (A : RelA a b) : RelA (plan0 f a) b := by
  obtain ⟨A18, A0, A1, A2, A3, A4, A5, A6, A7, A8, A9, A10, A11, A12, A17⟩ := A
  have s := fun k (h1 : k ≠ 13) (h2 : k ≠ 14) (h3 : k ≠ 15) (h4 : k ≠ 19) => plan0_st (f := f) (a := a) k h1 h2 h3 h4
  exact ⟨(s 18 (by decide) (by decide) (by decide) (by decide)).trans A18, (s 0 (by decide) (by decide) (by decide) (by decide)).trans A0, (s 1 (by decide) (by decide) (by decide) (by decide)).trans A1, (s 2 (by decide) (by decide) (by decide) (by decide)).trans A2, (s 3 (by decide) (by decide) (by decide) (by decide)).trans A3, (s 4 (by decide) (by decide) (by decide) (by decide)).trans A4, (s 5 (by decide) (by decide) (by decide) (by decide)).trans A5, (s 6 (by decide) (by decide) (by decide) (by decide)).trans A6, (s 7 (by decide) (by decide) (by decide) (by decide)).trans A7, (s 8 (by decide) (by decide) (by decide) (by decide)).trans A8, (s 9 (by decide) (by decide) (by decide) (by decide)).trans A9, (s 10 (by decide) (by decide) (by decide) (by decide)).trans A10, (s 11 (by decide) (by decide) (by decide) (by decide)).trans A11, (s 12 (by decide) (by decide) (by decide) (by decide)).trans A12, (s 17 (by decide) (by decide) (by decide) (by decide)).trans A17⟩
theorem Srt_plan (S : Srt (f 4) (a 16) (a 10)) : Srt (f 4) (plan0 f a 16) (plan0 f a 10) := by
  rw [plan0_st 16 (by decide) (by decide) (by decide) (by decide), plan0_st 10 (by decide) (by decide) (by decide) (by decide)]
  exact S
theorem Rel_plan (I : IvA f a) (D : IvD g b) (S : Srt (f 4) (a 16) (a 10)) (E : RelF f g) (A : RelA a b) : Rel f (plan0 f a) g b := ⟨IvA_plan0 I, D, Srt_plan S, Pl_plan I S, E, RelA_plan A⟩
theorem up1_bd {h : Nat → Nat} {k v n : Nat} (hh : ∀ j, h j < n) (hv : v < n) : ∀ j, up1 h k v j < n := up1_lt hh hv
theorem IvA_mvU (I : IvA f a) {u x y c : Nat} (hx : x < 10000) (hy : y < 10000) (hc : c < 6) : IvA f (mvU a u x y c) := by
  obtain ⟨i1, i2, i3, i4, i5, i6, i7, i8, i9, i10, i11, i12, i13, i14, i15, i16, i17⟩ := I
  exact ⟨Bd_up2 (Bd_up2 (Bd_up2 i1 hx) hy) (by omega), i2, i3, i4, i5, i6, i7, i8, i9, i10, i11, i12, i13, i14, up1_lt i15 hc, i16, i17⟩
theorem IvA_mvR (I : IvA f a) {u x y c : Nat} (hx : x < 10000) (hy : y < 10000) (hc : c < 6) : IvA f (mvR a u x y c) := by
  obtain ⟨i1, i2, i3, i4, i5, i6, i7, i8, i9, i10, i11, i12, i13, i14, i15, i16, i17⟩ := I
  exact ⟨Bd_up2 (Bd_up2 (Bd_up2 i1 hx) hy) (by omega), i2, i3, i4, i5, i6, i7, i8, i9, i10, i11, i12, i13, i14, i15, up1_lt i16 hc, i17⟩
theorem Rel_go (h : Rel f a g b) {u x y c : Nat} (hx : x < 10000) (hy : y < 10000) (hc : c < 6) : Rel f (mvU a u x y c) (up1 g 0 0) (goB b u x y c) := by
  obtain ⟨I, D, S, P, E, A⟩ := h
  refine ⟨IvA_mvU I hx hy hc, ?_, S, Pl_congr (f := f) (a := a) rfl rfl rfl (fun k h1 h2 h3 => ?_) P, ⟨E.1, E.2.1, E.2.2.1, E.2.2.2.1, E.2.2.2.2⟩, ?_⟩
  · obtain ⟨⟨h1, h2, h3, h4, h5, h6, h7, h8, h9, h10, h11, h12, h13, h14, h15, h16, h17⟩, D2⟩ := D
    exact ⟨⟨h1, up1_lt h2 hc, h3, h4, h5, h6, h7, h8, h9, h10, h11, h12, h13, h14, h15, h16, h17⟩, D2⟩
  · unfold mvU; rw [up2_ne (by omega), up2_ne (by omega), up2_ne (by omega)]
  · obtain ⟨A18, A0, A1, A2, A3, A4, A5, A6, A7, A8, A9, A10, A11, A12, A17⟩ := A
    refine ⟨A18, ?_, ?_, A2, ?_, A4, A5, A6, A7, A8, A9, A10, A11, A12, A17⟩
    · show up1 (a 0) u x = up1 (b 1) u x; rw [A0]
    · show up1 (a 1) u y = up1 (b 2) u y; rw [A1]
    · show up1 (a 3) u c = up1 (b 4) u c; rw [A3]
theorem Rel_unit (h : Rel f a g b) {x y r c : Nat} (hx : x < 10000) (hy : y < 10000) (hr : r < 10000) (hc : c < 6) (h20 : f 2 < 20) : Rel (up1 f 2 (f 2 + 1)) (mvU (up2 a 2 (f 2) r) (f 2) x y c) (up1 (up1 g 0 0) 3 (g 3 + 1)) (adunit b (g 3) x y r c) := by
  obtain ⟨I, D, S, P, E, A⟩ := h
  have e3 : f 2 = g 3 := E.2.2.1
  refine ⟨?_, ?_, S, Pl_congr (f := f) (a := a) rfl rfl rfl (fun k h1 h2 h3 => ?_) P, ⟨E.1, E.2.1, ?_, E.2.2.2.1, E.2.2.2.2⟩, ?_⟩
  · obtain ⟨i1, i2, i3, i4, i5, i6, i7, i8, i9, i10, i11, i12, i13, i14, i15, i16, i17⟩ := I
    refine IvA_mvU (f := up1 f 2 (f 2 + 1)) (a := up2 a 2 (f 2) r) ⟨Bd_up2 i1 hr, i2, i3, i4, i5, i6, i7, i8, i9, i10, i11, i12, ?_, i14, i15, i16, i17⟩ hx hy hc
    show f 2 + 1 ≤ 20
    omega
  · obtain ⟨⟨h1, h2, h3, h4, h5, h6, h7, h8, h9, h10, h11, h12, h13, h14, h15, h16, h17⟩, D2⟩ := D
    refine ⟨⟨h1, up1_lt h2 hc, h3, h4, h5, h6, h7, h8, h9, h10, h11, h12, h13, h14, ?_, h16, h17⟩, D2⟩
    show g 3 + 1 ≤ 20
    omega
  · unfold mvU; rw [up2_ne (by omega), up2_ne (by omega), up2_ne (by omega), up2_ne (by omega)]
  · show f 2 + 1 = g 3 + 1
    omega
  · obtain ⟨A18, A0, A1, A2, A3, A4, A5, A6, A7, A8, A9, A10, A11, A12, A17⟩ := A
    refine ⟨A18, ?_, ?_, ?_, ?_, A4, A5, A6, A7, A8, A9, A10, A11, A12, A17⟩
    · show up1 (a 0) (f 2) x = up1 (b 1) (g 3) x; rw [A0, e3]
    · show up1 (a 1) (f 2) y = up1 (b 2) (g 3) y; rw [A1, e3]
    · show up1 (a 2) (f 2) r = up1 (b 3) (g 3) r; rw [A2, e3]
    · show up1 (a 3) (f 2) c = up1 (b 4) (g 3) c; rw [A3, e3]
theorem Rel_repeater (h : Rel f a g b) {x y r c : Nat} (hx : x < 10000) (hy : y < 10000) (hr : r < 10000) (hc : c < 6) (h20 : f 3 < 8) : Rel (up1 f 3 (f 3 + 1)) (mvR (up2 a 6 (f 3) r) (f 3) x y c) (up1 (up1 g 0 0) 4 (g 4 + 1)) (adrepeater b (g 4) x y r c) := by
  obtain ⟨I, D, S, P, E, A⟩ := h
  have e3 : f 3 = g 4 := E.2.2.2.1
  refine ⟨?_, ?_, S, Pl_congr (f := f) (a := a) rfl rfl rfl (fun k h1 h2 h3 => ?_) P, ⟨E.1, E.2.1, E.2.2.1, ?_, E.2.2.2.2⟩, ?_⟩
  · obtain ⟨i1, i2, i3, i4, i5, i6, i7, i8, i9, i10, i11, i12, i13, i14, i15, i16, i17⟩ := I
    refine IvA_mvR (f := up1 f 3 (f 3 + 1)) (a := up2 a 6 (f 3) r) ⟨Bd_up2 i1 hr, i2, i3, i4, i5, i6, i7, i8, i9, i10, i11, i12, i13, ?_, i15, i16, i17⟩ hx hy hc
    show f 3 + 1 ≤ 8
    omega
  · obtain ⟨⟨h1, h2, h3, h4, h5, h6, h7, h8, h9, h10, h11, h12, h13, h14, h15, h16, h17⟩, D2⟩ := D
    refine ⟨⟨h1, h2, up1_lt h3 hc, h4, h5, h6, h7, h8, h9, h10, h11, h12, h13, h14, h15, ?_, h17⟩, D2⟩
    show g 4 + 1 ≤ 8
    omega
  · unfold mvR; rw [up2_ne (by omega), up2_ne (by omega), up2_ne (by omega), up2_ne (by omega)]
  · show f 3 + 1 = g 4 + 1
    omega
  · obtain ⟨A18, A0, A1, A2, A3, A4, A5, A6, A7, A8, A9, A10, A11, A12, A17⟩ := A
    refine ⟨A18, A0, A1, A2, A3, ?_, ?_, ?_, ?_, A8, A9, A10, A11, A12, A17⟩
    · show up1 (a 4) (f 3) x = up1 (b 5) (g 4) x; rw [A4, e3]
    · show up1 (a 5) (f 3) y = up1 (b 6) (g 4) y; rw [A5, e3]
    · show up1 (a 6) (f 3) r = up1 (b 7) (g 4) r; rw [A6, e3]
    · show up1 (a 7) (f 3) c = up1 (b 8) (g 4) c; rw [A7, e3]
theorem Rel_lose (h : Rel f a g b) {s v : Nat} (hv : v < 2) : Rel f (up2 a 17 s v) (up1 g 0 0) (up2 b 14 s v) := by
  obtain ⟨I, D, S, P, E, A⟩ := h
  refine ⟨?_, ?_, S, Pl_congr (f := f) (a := a) rfl rfl rfl (fun k h1 h2 h3 => up2_ne h3) P, ⟨E.1, E.2.1, E.2.2.1, E.2.2.2.1, E.2.2.2.2⟩, ?_⟩
  · obtain ⟨i1, i2, i3, i4, i5, i6, i7, i8, i9, i10, i11, i12, i13, i14, i15, i16, i17⟩ := I
    exact ⟨Bd_up2 i1 (by omega), i2, i3, i4, i5, i6, i7, i8, i9, i10, i11, i12, i13, i14, i15, i16, up1_lt i17 hv⟩
  · obtain ⟨⟨h1, h2, h3, h4, h5, h6, h7, h8, h9, h10, h11, h12, h13, h14, h15, h16, h17⟩, D2⟩ := D
    exact ⟨⟨h1, h2, h3, h4, h5, h6, h7, h8, up1_lt h9 hv, h10, h11, h12, h13, h14, h15, h16, h17⟩, D2⟩
  · obtain ⟨A18, A0, A1, A2, A3, A4, A5, A6, A7, A8, A9, A10, A11, A12, A17⟩ := A
    refine ⟨A18, A0, A1, A2, A3, A4, A5, A6, A7, A8, A9, A10, A11, A12, ?_⟩
    show up1 (a 17) s v = up1 (b 14) s v; rw [A17]
theorem Rel_limit (h : Rel f a g b) {n : Nat} (hn : n ≤ 1000) : Rel (up1 f 1 n) (plan0 (up1 f 1 n) a) (up1 (up1 g 0 0) 2 n) b := by
  obtain ⟨I, D, S, P, E, A⟩ := h
  refine Rel_plan (IvA_lim I hn) ?_ S ⟨E.1, rfl, E.2.2.1, E.2.2.2.1, E.2.2.2.2⟩ A
  obtain ⟨⟨h1, h2, h3, h4, h5, h6, h7, h8, h9, h10, h11, h12, h13, h14, h15, h16, h17⟩, D2⟩ := D
  exact ⟨⟨h1, h2, h3, h4, h5, h6, h7, h8, h9, h10, h11, h12, h13, hn, h15, h16, h17⟩, D2⟩
theorem Rel_patch (h : Rel f a g b) (p q : Nat) : Rel f (plan0 f (joinA a p q)) (up1 g 0 0) (rowA b 0 (jnR (b 0) (b 0 p) (b 0 q) 6)) := by
  obtain ⟨I, D, S, P, E, A⟩ := h
  refine Rel_plan (IvA_join I p q) ?_ S ⟨E.1, E.2.1, E.2.2.1, E.2.2.2.1, E.2.2.2.2⟩ ?_
  · obtain ⟨⟨h1, h2, h3, h4, h5, h6, h7, h8, h9, h10, h11, h12, h13, h14, h15, h16, h17⟩, D2⟩ := D
    refine ⟨⟨fun j => ?_, h2, h3, h4, h5, h6, h7, h8, h9, h10, h11, h12, h13, h14, h15, h16, h17⟩, D2⟩
    show jnR (b 0) (b 0 p) (b 0 q) 6 j < 6
    unfold jnR
    split
    · exact h1 p
    · exact h1 j
  · obtain ⟨A18, A0, A1, A2, A3, A4, A5, A6, A7, A8, A9, A10, A11, A12, A17⟩ := A
    refine ⟨?_, A0, A1, A2, A3, A4, A5, A6, A7, A8, A9, A10, A11, A12, A17⟩
    show jnR (a 18) (a 18 p) (a 18 q) 6 = jnR (b 0) (b 0 p) (b 0 q) 6
    rw [A18]
theorem Rel_tell (h : Rel f a g b) {u s n r : Nat} (h4 : f 4 < 60) (hu : u < 20) (hs : s < f 0) (hn : n < 100) (hr : r < 10) : Rel (up1 f 4 (f 4 + 1)) (telA f a u s n r) (up1 (up1 g 0 0) 5 (g 5 + 1)) (adB g b u s n r) := by
  obtain ⟨I, D, S, P, E, A⟩ := h
  have e4 : f 4 = g 5 := E.2.2.2.2
  have hc := I.2.2.2.2.2.2.2.2.2.2.2.2.2.2.1 u
  have h0 := I.2.2.2.2.2.2.2.1
  have hrow : ∀ k, k ≠ 16 → (insA s (f 4) a).1 k = a k := insA_row s (f 4) a
  refine Rel_plan (IvA_add I h4 hu hc hs hn hr) ?_ (Srt_add S) ⟨E.1, E.2.1, E.2.2.1, E.2.2.2.1, ?_⟩ ?_
  · obtain ⟨⟨h1, h2, h3, h4', h5, h6, h7, h8, h9, h10, h11, h12, h13, h14, h15, h16, h17⟩, D2⟩ := D
    refine ⟨⟨h1, h2, h3, up1_lt h4' hu, up1_lt h5 (by omega), up1_lt h6 hn, up1_lt h7 hr, up1_lt h8 (h2 u), h9, h10, h11, h12, h13, h14, h15, h16, ?_⟩, D2⟩
    show g 5 + 1 ≤ 60
    omega
  · show f 4 + 1 = g 5 + 1
    omega
  · obtain ⟨A18, A0, A1, A2, A3, A4, A5, A6, A7, A8, A9, A10, A11, A12, A17⟩ := A
    have w := fun k (hk : k ≠ 16) => hrow k hk
    refine ⟨(w 18 (by decide)).trans A18, (w 0 (by decide)).trans A0, (w 1 (by decide)).trans A1, (w 2 (by decide)).trans A2, (w 3 (by decide)).trans A3, (w 4 (by decide)).trans A4, (w 5 (by decide)).trans A5, (w 6 (by decide)).trans A6, (w 7 (by decide)).trans A7, ?_, ?_, ?_, ?_, ?_, (w 17 (by decide)).trans A17⟩
    · show up1 ((insA s (f 4) a).1 8) (f 4) u = up1 (b 9) (g 5) u; rw [w 8 (by decide), A8, e4]
    · show up1 ((insA s (f 4) a).1 9) (f 4) (a 3 u) = up1 (b 13) (g 5) (b 4 u); rw [w 9 (by decide), A9, e4, A3]
    · show up1 ((insA s (f 4) a).1 10) (f 4) s = up1 (b 10) (g 5) s; rw [w 10 (by decide), A10, e4]
    · show up1 ((insA s (f 4) a).1 11) (f 4) n = up1 (b 11) (g 5) n; rw [w 11 (by decide), A11, e4]
    · show up1 ((insA s (f 4) a).1 12) (f 4) r = up1 (b 12) (g 5) r; rw [w 12 (by decide), A12, e4]
theorem flR_lt {h v : Nat → Nat} {n k : Nat} (h1 : ∀ j, h j < k) (h2 : ∀ j, j < n → v j < k) : ∀ j, flR h v n j < k := fun j => by
  unfold flR
  split
  · exact h2 j (by assumption)
  · exact h1 j
theorem Rel_empty (hn : f' 0 ≤ 1000) (e1 : f' 1 = 0) (e2 : f' 2 = 0) (e3 : f' 3 = 0) (e4 : f' 4 = 0) {g' : Nat → Nat} {b' : Nat → Nat → Nat} (k1 : g' 1 = f' 0) (k2 : g' 2 = 0) (k3 : g' 3 = 0) (k4 : g' 4 = 0) (k5 : g' 5 = 0)
    (i1 : Bd a') (i2 : ∀ j, a' 16 j < 60) (i3 : ∀ j, a' 9 j < 6) (i4 : ∀ j, a' 18 j < 6) (i5 : ∀ j, a' 19 j = NONE ∨ a' 19 j < 60) (i11 : ∀ j, a' 8 j < 20) (i12 : ∀ j, a' 11 j < 100) (i15 : ∀ j, a' 3 j < 6) (i16 : ∀ j, a' 7 j < 6) (i17 : ∀ j, a' 17 j < 2)
    (A : RelA a' b') (m7 : ∀ j, b' 12 j < 10) (m10 : ∀ j, b' 15 j = NONE ∨ b' 15 j < 60) (m11 : ∀ j, b' 16 j < 10000) (m12 : ∀ j, b' 17 j < 10) (m18 : ∀ j, b' 18 j ≤ 1000) : Rel f' a' g' b' := by
  have A0 := A
  obtain ⟨A18, A0', A1, A2, A3, A4, A5, A6, A7, A8, A9, A10, A11, A12, A17⟩ := A0
  refine ⟨⟨i1, i2, i3, i4, i5, fun j h => by omega, fun j h => by omega, hn, by omega, by omega, i11, i12, by omega, by omega, i15, i16, i17⟩, ⟨⟨?_, ?_, ?_, ?_, ?_, ?_, m7, ?_, ?_, m10, m11, m12, by omega, by omega, by omega, by omega, by omega⟩, m18⟩, ⟨fun i j _ h => by omega, fun i j _ h => by omega, fun m h => by omega, fun p h => by omega⟩, fun γ _ => ⟨(NONE, fun _ => (0, 0, 0)), rfl, fun m h => by omega⟩, ⟨k1.symm, by omega, by omega, by omega, by omega⟩, A⟩
  · rw [← A18]; exact i4
  · rw [← A3]; exact i15
  · rw [← A7]; exact i16
  · rw [← A8]; exact i11
  · rw [← A10]; exact fun j => i1 10 j (by decide)
  · rw [← A11]; exact i12
  · rw [← A9]; exact i3
  · rw [← A17]; exact i17
theorem Bd_row {k : Nat} {r : Nat → Nat} (h : Bd a) (hr : ∀ j, r j < 10000) : Bd (rowA a k r) := by
  intro i j hi
  unfold rowA
  split
  · exact hr j
  · exact h i j hi
theorem Bd_fg (h : Bd a) : Bd (fgA a) := Bd_row (Bd_row h (flR_lt (fun j => h 17 j (by decide)) (fun j _ => by omega))) (flR_lt (fun j => h 18 j (by decide)) (fun j hj => by omega))
theorem Rel_newday (h : Rel f a g b) {n : Nat} (hn : n ≤ 1000) : Rel (up1 (fgF f) 0 n) (fgA a) (dyG g n) (dyB b) := by
  obtain ⟨I, D, S, P, E, A⟩ := h
  obtain ⟨i1, i2, i3, i4, i5, i6, i7, i8, i9, i10, i11, i12, i13, i14, i15, i16, i17⟩ := I
  obtain ⟨⟨h1, h2, h3, h4, h5, h6, h7, h8, h9, h10, h11, h12, h13, h14, h15, h16, h17⟩, D2⟩ := D
  obtain ⟨A18, A0, A1, A2, A3, A4, A5, A6, A7, A8, A9, A10, A11, A12, A17⟩ := A
  refine Rel_empty hn rfl rfl rfl rfl rfl rfl rfl rfl rfl (Bd_fg i1) i2 i3 (flR_lt i4 (fun j hj => hj)) i5 i11 i12 i15 i16 (flR_lt i17 (fun j _ => by omega)) ⟨?_, A0, A1, A2, A3, A4, A5, A6, A7, A8, A9, A10, A11, A12, ?_⟩ h7 h10 h11 h12 D2
  · show flR (a 18) (fun c => c) 6 = flR (b 0) (fun c => c) 6
    rw [A18]
  · show flR (a 17) (fun _ => 0) 1000 = flR (b 14) (fun _ => 0) 1000
    rw [A17]
theorem Rel_new : Rel (fgF (fun _ => 0)) (fgA (fun _ _ => 0)) (fun _ => 0) (rowA (fun _ _ => 0) 0 (flR (fun _ => 0) (fun c => c) 6)) := by
  have z : ∀ (n : Nat), 0 < n → ∀ j : Nat, (fun _ => 0 : Nat → Nat) j < n := fun n h _ => h
  refine Rel_empty (Nat.zero_le _) rfl rfl rfl rfl rfl rfl rfl rfl rfl (Bd_fg (fun k j _ => by decide)) (z 60 (by decide)) (z 6 (by decide)) (flR_lt (z 6 (by decide)) (fun j hj => hj)) (fun j => Or.inr (z 60 (by decide) j)) (z 20 (by decide)) (z 100 (by decide)) (z 6 (by decide)) (z 6 (by decide)) (flR_lt (z 2 (by decide)) (fun j _ => by decide)) ⟨rfl, rfl, rfl, rfl, rfl, rfl, rfl, rfl, rfl, rfl, rfl, rfl, rfl, rfl, ?_⟩ (z 10 (by decide)) (fun j => Or.inr (z 60 (by decide) j)) (z 10000 (by decide)) (z 10 (by decide)) (fun j => Nat.zero_le _)
  show flR (fun _ => 0) (fun _ => 0) 1000 = fun _ => 0
  funext j
  unfold flR
  split <;> rfl
end KP
