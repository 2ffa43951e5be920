theorem exB_iff {P : Nat → Bool} : ∀ (n i : Nat), exB P n i = true ↔ ∃ j, i ≤ j ∧ j < i + n ∧ P j = true := by
  intro n
  induction n with
  | zero => intro i; constructor
            · intro h; cases h
            · rintro ⟨j, h1, h2, _⟩; omega
  | succ n ih =>
    intro i
    show (P i || exB P n (i + 1)) = true ↔ _
    rw [Bool.or_eq_true, ih (i + 1)]
    constructor
    · rintro (h | ⟨j, h1, h2, h3⟩)
      · exact ⟨i, by omega, by omega, h⟩
      · exact ⟨j, by omega, by omega, h3⟩
    · rintro ⟨j, h1, h2, h3⟩
      by_cases hj : j = i
      · subst hj; exact Or.inl h3
      · exact Or.inr ⟨j, by omega, by omega, h3⟩
theorem dnS_iff {a : Nat → Nat → Nat} {m : Nat} : ∀ (k : Nat) (b : Bool), dnS a m k b = true ↔ b = true ∨ ∃ q, q < k ∧ (∀ j, q ≤ j → j < k → a 10 (a 16 j) = a 10 m) ∧ kpP a (a 16 q) m := by
  intro k
  induction k with
  | zero => intro b; constructor
            · intro h; exact Or.inl h
            · rintro (h | ⟨q, h, _⟩)
              · exact h
              · omega
  | succ k ih =>
    intro b
    show (if a 10 (a 16 k) = a 10 m then dnS a m k (b || decide (kpP a (a 16 k) m)) else b) = true ↔ _
    by_cases h : a 10 (a 16 k) = a 10 m
    · rw [if_pos h, ih, Bool.or_eq_true, decide_eq_true_eq]
      constructor
      · rintro ((h1 | h1) | ⟨q, h1, h2, h3⟩)
        · exact Or.inl h1
        · refine Or.inr ⟨k, by omega, fun j h2 h3 => ?_, h1⟩
          have : j = k := by omega
          rw [this]; exact h
        · refine Or.inr ⟨q, by omega, fun j h4 h5 => ?_, h3⟩
          by_cases hj : j = k
          · rw [hj]; exact h
          · exact h2 j h4 (by omega)
      · rintro (h1 | ⟨q, h1, h2, h3⟩)
        · exact Or.inl (Or.inl h1)
        · by_cases hq : q = k
          · subst hq; exact Or.inl (Or.inr h3)
          · exact Or.inr ⟨q, by omega, fun j h4 h5 => h2 j h4 (by omega), h3⟩
    · rw [if_neg h]
      constructor
      · exact fun h1 => Or.inl h1
      · rintro (h1 | ⟨q, h1, h2, h3⟩)
        · exact h1
        · exact absurd (h2 k (by omega) (by omega)) h
theorem upS_iff {a : Nat → Nat → Nat} {m : Nat} : ∀ (n p : Nat) (b : Bool), upS a m n p b = true ↔ b = true ∨ ∃ q, p ≤ q ∧ q < p + n ∧ (∀ j, p ≤ j → j ≤ q → a 10 (a 16 j) = a 10 m) ∧ kpP a (a 16 q) m := by
  intro n
  induction n with
  | zero => intro p b; constructor
            · intro h; exact Or.inl h
            · rintro (h | ⟨q, h, h1, _⟩)
              · exact h
              · omega
  | succ n ih =>
    intro p b
    show (if a 10 (a 16 p) = a 10 m then upS a m n (p + 1) (b || decide (kpP a (a 16 p) m)) else b) = true ↔ _
    by_cases h : a 10 (a 16 p) = a 10 m
    · rw [if_pos h, ih, Bool.or_eq_true, decide_eq_true_eq]
      constructor
      · rintro ((h1 | h1) | ⟨q, h1, h2, h3, h4⟩)
        · exact Or.inl h1
        · refine Or.inr ⟨p, by omega, by omega, fun j h2 h3 => ?_, h1⟩
          have : j = p := by omega
          rw [this]; exact h
        · refine Or.inr ⟨q, by omega, by omega, fun j h5 h6 => ?_, h4⟩
          by_cases hj : j = p
          · rw [hj]; exact h
          · exact h3 j (by omega) h6
      · rintro (h1 | ⟨q, h1, h2, h3, h4⟩)
        · exact Or.inl (Or.inl h1)
        · by_cases hq : q = p
          · subst hq; exact Or.inl (Or.inr h4)
          · exact Or.inr ⟨q, by omega, by omega, fun j h5 h6 => h3 j (by omega) h6, h4⟩
    · rw [if_neg h]
      constructor
      · exact fun h1 => Or.inl h1
      · rintro (h1 | ⟨q, h1, h2, h3, h4⟩)
        · exact h1
        · exact absurd (h3 p (by omega) (by omega)) h
/-- the places are sorted by begin, and each message has one -/
def Srt (N : Nat) (r bg : Nat → Nat) : Prop :=
  (∀ i j, i < j → j < N → bg (r i) ≤ bg (r j)) ∧ (∀ i j, i < j → j < N → r i ≠ r j) ∧ (∀ m, m < N → ∃ p, p < N ∧ r p = m) ∧ ∀ p, p < N → r p < N
def mtB (N : Nat) (rk bg gm : Nat → Nat) (m : Nat) : Bool := exB (fun q => decide (q ≠ m) && decide (bg q = bg m) && decide (gm q = gm m) && decide (rk m ≤ rk q)) N 0
theorem mtB_iff {N : Nat} {rk bg gm : Nat → Nat} {m : Nat} : mtB N rk bg gm m = true ↔ ∃ q, q < N ∧ q ≠ m ∧ bg q = bg m ∧ gm q = gm m ∧ rk m ≤ rk q := by
  unfold mtB
  rw [exB_iff]
  constructor
  · rintro ⟨j, _, h2, h3⟩
    simp only [Bool.and_eq_true, decide_eq_true_eq] at h3
    exact ⟨j, by omega, h3.1.1.1, h3.1.1.2, h3.1.2, h3.2⟩
  · rintro ⟨j, h1, h2, h3, h4, h5⟩
    refine ⟨j, by omega, by omega, ?_⟩
    simp only [Bool.and_eq_true, decide_eq_true_eq]
    exact ⟨⟨⟨h2, h3⟩, h4⟩, h5⟩
theorem meB_mt {f : Nat → Nat} {a : Nat → Nat → Nat} (S : Srt (f 4) (a 16) (a 10)) {p : Nat} (hp : p < f 4) : mtB (f 4) (a 12) (a 10) (gmA a) (a 16 p) = meB f a p := by
  obtain ⟨s1, s2, s3, s4⟩ := S
  rw [Bool.eq_iff_iff, mtB_iff]
  unfold meB
  rw [upS_iff, dnS_iff]
  constructor
  · rintro ⟨m', h1, h2, h3, h4, h5⟩
    obtain ⟨q, hq, rfl⟩ := s3 m' h1
    have hqp : q ≠ p := fun e => h2 (by rw [e])
    by_cases hlt : q < p
    · refine Or.inl (Or.inr ⟨q, hlt, fun j h6 h7 => ?_, h4, h5⟩)
      have e1 : a 10 (a 16 q) ≤ a 10 (a 16 j) := by
        by_cases e : q = j
        · rw [e]; exact Nat.le_refl _
        · exact s1 q j (by omega) (by omega)
      have e2 := s1 j p h7 hp
      omega
    · refine Or.inr ⟨q, by omega, by omega, fun j h6 h7 => ?_, h4, h5⟩
      have e1 : a 10 (a 16 j) ≤ a 10 (a 16 q) := by
        by_cases e : j = q
        · rw [e]; exact Nat.le_refl _
        · exact s1 j q (by omega) (by omega)
      have e2 := s1 p j (by omega) (by omega)
      omega
  · rintro ((h | ⟨q, h1, h2, h3⟩) | ⟨q, h1, h2, h3, h4⟩)
    · cases h
    · exact ⟨a 16 q, s4 q (by omega), s2 q p h1 hp, h2 q (by omega) h1, h3.1, h3.2⟩
    · exact ⟨a 16 q, s4 q (by omega), Ne.symm (s2 p q (by omega) (by omega)), h3 q (by omega) (by omega), h4.1, h4.2⟩
theorem planA_st {f : Nat → Nat} {a : Nat → Nat → Nat} {p k : Nat} (h13 : k ≠ 13) (h14 : k ≠ 14) (h15 : k ≠ 15) (h19 : k ≠ 19) : planA f a p k = a k := by
  have put : ∀ (a : Nat → Nat → Nat) (m s : Nat), putA f a m s k = a k := fun a m s => by
    rw [putA_eq, sOn_ne h13 h14 h15, up2_ne h19]
  unfold planA planX
  split
  · exact sOn_ne h13 h14 h15
  · split
    · exact put _ _ _
    · split
      · rw [put, cutA_st _ _ _ _ h13 h14 h15]
      · exact sOn_ne h13 h14 h15
def L19 (a : Nat → Nat → Nat) : Prop := ∀ j, j < 6 → a 19 j = NONE ∨ gmA a (a 19 j) = j
theorem L19_plan {f : Nat → Nat} {a : Nat → Nat → Nat} {p : Nat} (h : L19 a) : L19 (planA f a p) := by
  have s18 : planA f a p 18 = a 18 := planA_st (by decide) (by decide) (by decide) (by decide)
  have s9 : planA f a p 9 = a 9 := planA_st (by decide) (by decide) (by decide) (by decide)
  intro j hj
  show planA f a p 19 j = NONE ∨ planA f a p 18 (planA f a p 9 (planA f a p 19 j)) = j
  rw [s18, s9]
  have put : ∀ (b : Nat → Nat → Nat) (m s : Nat), b 18 = a 18 → b 9 = a 9 → b 19 = a 19 → putA f b m s 19 j = NONE ∨ a 18 (a 9 (putA f b m s 19 j)) = j := by
    intro b m s e18 e9 e19
    rw [putA_eq, sOn_ne (by decide) (by decide) (by decide), up2_same]
    unfold up1
    split
    · next e => right; rw [e]; show _ = b 18 (b 9 m); rw [e18, e9]
    · rw [e19]; exact h j hj
  unfold planA planX
  split
  · rw [sOn_ne (by decide) (by decide) (by decide)]; exact h j hj
  · split
    · exact put a _ _ rfl rfl rfl
    · split
      · exact put _ _ _ (cutA_st _ _ _ _ (by decide) (by decide) (by decide)) (cutA_st _ _ _ _ (by decide) (by decide) (by decide)) (cutA_st _ _ _ _ (by decide) (by decide) (by decide))
      · rw [sOn_ne (by decide) (by decide) (by decide)]; exact h j hj
theorem planN_st {f : Nat → Nat} {a : Nat → Nat → Nat} {k : Nat} (h13 : k ≠ 13) (h14 : k ≠ 14) (h15 : k ≠ 15) (h19 : k ≠ 19) : ∀ n, planN f a n k = a k := by
  intro n
  induction n with
  | zero => rfl
  | succ n ih => show planA f (planN f a n) n k = a k
                 rw [planA_st h13 h14 h15 h19, ih]
theorem L19_planN {f : Nat → Nat} {a : Nat → Nat → Nat} (h : L19 a) : ∀ n, L19 (planN f a n) := by
  intro n
  induction n with
  | zero => exact h
  | succ n ih => exact L19_plan ih
theorem planN_view {f : Nat → Nat} {a : Nat → Nat → Nat} (S : Srt (f 4) (a 16) (a 10)) (h19 : L19 a) (h18 : ∀ j, a 18 j < 6) (γ : Nat) : ∀ n, n ≤ f 4 →
    view γ (planN f a n) = ((List.range n).map (a 16)).foldl (pstep (f 0) (f 1) (a 11) (a 12) (a 10) (gmA a) (mtB (f 4) (a 12) (a 10) (gmA a)) γ) (view γ a) := by
  intro n
  induction n with
  | zero => intro _; rfl
  | succ n ih =>
    intro hn
    have e : ∀ k, k ≠ 13 → k ≠ 14 → k ≠ 15 → k ≠ 19 → planN f a n k = a k := fun k h1 h2 h3 h4 => planN_st h1 h2 h3 h4 n
    have e9 := e 9 (by decide) (by decide) (by decide) (by decide)
    have e10 := e 10 (by decide) (by decide) (by decide) (by decide)
    have e11 := e 11 (by decide) (by decide) (by decide) (by decide)
    have e12 := e 12 (by decide) (by decide) (by decide) (by decide)
    have e16 := e 16 (by decide) (by decide) (by decide) (by decide)
    have e18 := e 18 (by decide) (by decide) (by decide) (by decide)
    have eg : gmA (planN f a n) = gmA a := by funext m; show planN f a n 18 (planN f a n 9 m) = _; rw [e18, e9]
    have S2 : Srt (f 4) (planN f a n 16) (planN f a n 10) := by rw [e16, e10]; exact S
    have hme := meB_mt (f := f) (a := planN f a n) S2 (p := n) (by omega)
    rw [eg, e12, e10] at hme
    have h19n : planN f a n 19 (gmA (planN f a n) (planN f a n 16 n)) = NONE ∨ gmA (planN f a n) (planN f a n 19 (gmA (planN f a n) (planN f a n 16 n))) = gmA (planN f a n) (planN f a n 16 n) := by
      refine L19_planN h19 n _ ?_
      rw [eg]; exact h18 _
    have hv := planA_view (γ := γ) h19n (mt := mtB (f 4) (a 12) (a 10) (gmA a)) hme
    rw [eg, e10, e11, e12, e16] at hv
    show view γ (planA f (planN f a n) n) = _
    rw [hv, ih (by omega), List.range_succ, List.map_append, List.foldl_append]
    rfl
section FO
variable {T lm : Nat} {wd rk bg gm : Nat → Nat} {mt : Nat → Bool} {γ : Nat}
theorem fold_none {s : Nat} : ∀ (B : List Nat) (v : Vw), (∀ m ∈ B, bg m = s) → (∀ m ∈ B, gm m = γ → mt m = true) →
    B.foldl (pstep T lm wd rk bg gm mt γ) v = (v.1, fun m => if m ∈ B ∧ gm m = γ then (s, 0, 3) else v.2 m) := by
  intro B
  induction B with
  | nil => intro v _ _; refine Prod.ext rfl (funext fun m => ?_); simp
  | cons x B ih =>
    intro v h1 h2
    rw [List.foldl_cons, ih _ (fun m hm => h1 m (List.mem_cons_of_mem _ hm)) (fun m hm => h2 m (List.mem_cons_of_mem _ hm))]
    unfold pstep
    by_cases hg : gm x = γ
    · rw [if_pos hg, if_pos (h2 x List.mem_cons_self hg), h1 x List.mem_cons_self]
      refine Prod.ext rfl (funext fun m => ?_)
      show (if m ∈ B ∧ gm m = γ then (s, 0, 3) else (if m = x then (s, 0, 3) else v.2 m)) = if m ∈ x :: B ∧ gm m = γ then (s, 0, 3) else v.2 m
      by_cases hm : m = x
      · subst hm
        rw [if_pos rfl, if_pos (c := m ∈ m :: B ∧ gm m = γ) ⟨List.mem_cons_self, hg⟩]; split <;> rfl
      · rw [if_neg hm]
        simp [List.mem_cons, hm]
    · rw [if_neg hg]
      refine Prod.ext rfl (funext fun m => ?_)
      show (if m ∈ B ∧ gm m = γ then (s, 0, 3) else v.2 m) = if m ∈ x :: B ∧ gm m = γ then (s, 0, 3) else v.2 m
      by_cases hm : m = x
      · subst hm
        rw [if_neg (fun q => hg q.2), if_neg (fun q => hg q.2)]
      · simp [List.mem_cons, hm]
theorem vset_ne {v : Vw} {x m : Nat} {t : Nat × Nat × Nat} (h : m ≠ x) : (vset v x t).2 m = v.2 m := if_neg h
theorem vstep_set {v : Vw} {x c s : Nat} {t : Nat × Nat × Nat} (hc : x ≠ c) (hl : x ≠ v.1) : vstep T lm wd rk (vset v x t) c s = vset (vstep T lm wd rk v c s) x t := by
  have e1 : (vset v x t).1 = v.1 := rfl
  have e2 : (vset v x t).2 v.1 = v.2 v.1 := if_neg (Ne.symm hl)
  have cm : ∀ (g : Nat → Nat × Nat × Nat) (y z : Nat × Nat × Nat) (q : Nat), x ≠ q → (fun j => if j = q then y else (if j = x then z else g j)) = fun j => if j = x then z else (if j = q then y else g j) := by
    intro g y z q hq
    funext j
    by_cases h1 : j = q
    · rw [if_pos h1, if_neg (fun e => hq (e.symm.trans h1)), if_pos h1]
    · by_cases h2 : j = x
      · rw [if_neg h1, if_pos h2, if_pos h2]
      · rw [if_neg h1, if_neg h2, if_neg h2, if_neg h1]
  have cut : vcut (vset v x t) v.1 s = vset (vcut v v.1 s) x t := by
    unfold vcut
    rw [e2]
    split
    · exact Prod.ext rfl (cm v.2 _ t v.1 hl)
    · rfl
  unfold vstep
  unfold vOn
  rw [e1, e2]
  split
  · exact Prod.ext rfl (cm v.2 _ t c hc)
  · split
    · rw [cut]
      exact Prod.ext rfl (cm _ _ t c hc)
    · exact Prod.ext rfl (cm v.2 _ t c hc)
theorem fold_one {s c : Nat} : ∀ (B : List Nat) (v : Vw), B.Nodup → (∀ m ∈ B, bg m = s) → c ∈ B → gm c = γ → mt c = false → (∀ m ∈ B, m ≠ c → gm m = γ → mt m = true) → v.1 ∉ B →
    B.foldl (pstep T lm wd rk bg gm mt γ) v = ((vstep T lm wd rk v c s).1, fun m => if m ∈ B ∧ gm m = γ ∧ m ≠ c then (s, 0, 3) else (vstep T lm wd rk v c s).2 m) := by
  intro B
  induction B with
  | nil => intro v _ _ h; cases h
  | cons x B ih =>
    intro v hnd h1 hc hgc hmc h2 hl
    have hnd1 := (List.nodup_cons.mp hnd).1
    have hnd2 := (List.nodup_cons.mp hnd).2
    rw [List.foldl_cons]
    by_cases hx : x = c
    · subst hx
      rw [fold_none (s := s) B _ (fun m hm => h1 m (List.mem_cons_of_mem _ hm)) (fun m hm hg => h2 m (List.mem_cons_of_mem _ hm) (fun e => hnd1 (e ▸ hm)) hg)]
      unfold pstep
      rw [if_pos hgc, if_neg (by rw [hmc]; decide), h1 x List.mem_cons_self]
      refine Prod.ext rfl (funext fun m => ?_)
      dsimp only
      by_cases hm : m ∈ B ∧ gm m = γ
      · rw [if_pos hm, if_pos ⟨List.mem_cons_of_mem _ hm.1, hm.2, fun e => hnd1 (e ▸ hm.1)⟩]
      · rw [if_neg hm, if_neg]
        rintro ⟨q1, q2, q3⟩
        rcases List.mem_cons.mp q1 with q | q
        · exact q3 q
        · exact hm ⟨q, q2⟩
    · have hcB : c ∈ B := by
        rcases List.mem_cons.mp hc with q | q
        · exact absurd q.symm hx
        · exact q
      have hlx : x ≠ v.1 := fun e => hl (e ▸ List.mem_cons_self)
      have hlB : v.1 ∉ B := fun q => hl (List.mem_cons_of_mem _ q)
      by_cases hg : gm x = γ
      · have e0 : pstep T lm wd rk bg gm mt γ v x = vset v x (s, 0, 3) := by
          unfold pstep
          rw [if_pos hg, if_pos (h2 x List.mem_cons_self hx hg), h1 x List.mem_cons_self]
        rw [e0, ih (vset v x (s, 0, 3)) hnd2 (fun m hm => h1 m (List.mem_cons_of_mem _ hm)) hcB hgc hmc (fun m hm => h2 m (List.mem_cons_of_mem _ hm)) hlB, vstep_set hx hlx]
        refine Prod.ext rfl (funext fun m => ?_)
        dsimp only
        by_cases hm : m = x
        · subst hm
          rw [if_neg (fun q => hnd1 q.1), if_pos ⟨List.mem_cons_self, hg, hx⟩]
          exact if_pos rfl
        · rw [vset_ne hm]
          simp [List.mem_cons, hm]
      · have e0 : pstep T lm wd rk bg gm mt γ v x = v := by
          unfold pstep
          rw [if_neg hg]
        rw [e0, ih _ hnd2 (fun m hm => h1 m (List.mem_cons_of_mem _ hm)) hcB hgc hmc (fun m hm => h2 m (List.mem_cons_of_mem _ hm)) hlB]
        refine Prod.ext rfl (funext fun m => ?_)
        dsimp only
        by_cases hm : m = x
        · subst hm
          rw [if_neg (fun q => hg q.2.1), if_neg (fun q => hg q.2.1)]
        · simp [List.mem_cons, hm]
theorem filt_split {s : Nat} : ∀ (O : List Nat), O.Pairwise (fun x y => bg x ≤ bg y) → O.filter (fun m => decide (bg m < s + 1)) = O.filter (fun m => decide (bg m < s)) ++ O.filter (fun m => decide (bg m = s)) := by
  intro O
  induction O with
  | nil => intro _; rfl
  | cons x O ih =>
    intro h
    have hx := (List.pairwise_cons.mp h).1
    have hO := (List.pairwise_cons.mp h).2
    have ih := ih hO
    by_cases h1 : bg x < s
    · rw [List.filter_cons_of_pos (by simpa using Nat.lt_succ_of_lt h1), List.filter_cons_of_pos (by simpa using h1), List.filter_cons_of_neg (by simp; omega), ih]
      rfl
    · have none : O.filter (fun m => decide (bg m < s)) = [] := by
        rw [List.filter_eq_nil_iff]
        intro m hm
        have := hx m hm
        simp; omega
      rw [none, List.nil_append] at ih
      have e1 : (x :: O).filter (fun m => decide (bg m < s)) = [] := by rw [List.filter_cons_of_neg (by simpa using h1), none]
      rw [e1, List.nil_append]
      by_cases h2 : bg x = s
      · rw [List.filter_cons_of_pos (by simp; omega), List.filter_cons_of_pos (by simpa using h2), ih]
      · rw [List.filter_cons_of_neg (by simp; omega), List.filter_cons_of_neg (by simpa using h2), ih]
end FO
