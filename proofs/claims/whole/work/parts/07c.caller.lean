abbrev gmM (b : Nat → Nat → Nat) (m : Nat) : Nat := b 0 (b 13 m)
abbrev inG (b : Nat → Nat → Nat) (c s m : Nat) : Prop := gmM b m = c ∧ b 10 m = s
def CInv (b : Nat → Nat → Nat) (c s i : Nat) (q : k_T3) : Prop :=
  (∀ k, k ≠ 17 → k ≠ 18 → q.1 k = b k) ∧
  (∀ m, q.1 17 m = if m < i ∧ inG b c s m then 3 else b 17 m) ∧ (∀ m, q.1 18 m = if m < i ∧ inG b c s m then 0 else b 18 m) ∧
  (q.2.1 = NONE → q.2.2 = true ∧ ∀ m, m < i → ¬ inG b c s m) ∧
  (q.2.1 ≠ NONE → q.2.1 < i ∧ inG b c s q.2.1 ∧ (∀ m, m < i → inG b c s m → b 12 m ≤ b 12 q.2.1) ∧ (q.2.2 = true → ∀ m, m < i → inG b c s m → m ≠ q.2.1 → b 12 m < b 12 q.2.1) ∧
    (q.2.2 = false → ∃ m, m < i ∧ inG b c s m ∧ m ≠ q.2.1 ∧ b 12 q.2.1 ≤ b 12 m))
theorem CInv_s {b : Nat → Nat → Nat} {c s i : Nat} {q : k_T3} (hi : i < 60) (h : CInv b c s i q) : CInv b c s (i + 1) (cl1 c s i q) := by
  obtain ⟨hs, h17, h18, hN, hB⟩ := h
  have e0 := hs 0 (by decide) (by decide)
  have e10 := hs 10 (by decide) (by decide)
  have e12 := hs 12 (by decide) (by decide)
  have e13 := hs 13 (by decide) (by decide)
  have ni : i ≠ NONE := n60 hi
  have lt : ∀ m, m < i + 1 → m ≠ i → m < i := fun m h1 h2 => by omega
  unfold cl1
  by_cases hP : inG b c s i
  · rw [if_pos (by rw [e0, e13, e10]; exact hP)]
    have r17 : ∀ m, up1 (q.1 17) i 3 m = if m < i + 1 ∧ inG b c s m then 3 else b 17 m := by
      intro m
      by_cases hm : m = i
      · subst hm; rw [up1_same, if_pos ⟨by omega, hP⟩]
      · rw [up1_ne hm, h17]
        have : (m < i ∧ inG b c s m) ↔ (m < i + 1 ∧ inG b c s m) := ⟨fun q => ⟨by omega, q.2⟩, fun q => ⟨by omega, q.2⟩⟩
        simp only [this]
    have r18 : ∀ m, up1 (q.1 18) i 0 m = if m < i + 1 ∧ inG b c s m then 0 else b 18 m := by
      intro m
      by_cases hm : m = i
      · subst hm; rw [up1_same, if_pos ⟨by omega, hP⟩]
      · rw [up1_ne hm, h18]
        have : (m < i ∧ inG b c s m) ↔ (m < i + 1 ∧ inG b c s m) := ⟨fun q => ⟨by omega, q.2⟩, fun q => ⟨by omega, q.2⟩⟩
        simp only [this]
    have rs : ∀ k, k ≠ 17 → k ≠ 18 → up2 (up2 q.1 17 i 3) 18 i 0 k = b k := fun k h1 h2 => by rw [up2_ne h2, up2_ne h1, hs k h1 h2]
    by_cases hb : q.2.1 = NONE ∨ q.1 12 q.2.1 < q.1 12 i
    · rw [if_pos hb]
      refine ⟨rs, r17, r18, fun h => absurd h ni, fun _ => ⟨by dsimp only; omega, hP, ?_, fun _ => ?_, fun h => by cases h⟩⟩
      · intro m h1 h2
        by_cases hm : m = i
        · subst hm; exact Nat.le_refl _
        · rcases hb with hb | hb
          · exact absurd h2 ((hN hb).2 m (lt m h1 hm))
          · rw [e12] at hb
            by_cases hq : q.2.1 = NONE
            · exact absurd h2 ((hN hq).2 m (lt m h1 hm))
            · have := (hB hq).2.2.1 m (lt m h1 hm) h2
              dsimp only; omega
      · intro m h1 h2 hm
        rcases hb with hb | hb
        · exact absurd h2 ((hN hb).2 m (lt m h1 hm))
        · rw [e12] at hb
          by_cases hq : q.2.1 = NONE
          · exact absurd h2 ((hN hq).2 m (lt m h1 hm))
          · have := (hB hq).2.2.1 m (lt m h1 hm) h2
            dsimp only; omega
    · rw [if_neg hb]
      have hq : q.2.1 ≠ NONE := fun e => hb (Or.inl e)
      have hle : b 12 i ≤ b 12 q.2.1 := by
        rw [e12] at hb
        exact Nat.le_of_not_lt (fun h => hb (Or.inr h))
      obtain ⟨b1, b2, b3, b4, b5⟩ := hB hq
      refine ⟨rs, r17, r18, fun h => absurd h hq, fun _ => ⟨by dsimp only; omega, b2, ?_, ?_, ?_⟩⟩
      · intro m h1 h2
        by_cases hm : m = i
        · subst hm; exact hle
        · exact b3 m (lt m h1 hm) h2
      · dsimp only
        rw [e12]
        intro h m h1 h2 h3
        by_cases e : b 12 i = b 12 q.2.1
        · rw [if_pos e] at h; cases h
        · rw [if_neg e] at h
          by_cases hm : m = i
          · subst hm; omega
          · exact b4 h m (lt m h1 hm) h2 h3
      · dsimp only
        rw [e12]
        intro h
        by_cases e : b 12 i = b 12 q.2.1
        · exact ⟨i, by omega, hP, by omega, by omega⟩
        · rw [if_neg e] at h
          obtain ⟨m, m1, m2, m3, m4⟩ := b5 h
          exact ⟨m, by omega, m2, m3, m4⟩
  · rw [if_neg (by rw [e0, e13, e10]; exact hP)]
    have sam : ∀ m, (m < i ∧ inG b c s m) ↔ (m < i + 1 ∧ inG b c s m) := fun m => ⟨fun q => ⟨by omega, q.2⟩, fun q => ⟨by
      have : m ≠ i := fun e => hP (e ▸ q.2)
      omega, q.2⟩⟩
    refine ⟨hs, fun m => by rw [h17]; simp only [sam], fun m => by rw [h18]; simp only [sam], fun h => ⟨(hN h).1, fun m h1 h2 => (hN h).2 m ((sam m).mpr ⟨h1, h2⟩).1 h2⟩, fun h => ?_⟩
    obtain ⟨b1, b2, b3, b4, b5⟩ := hB h
    refine ⟨by omega, b2, fun m h1 h2 => b3 m ((sam m).mpr ⟨h1, h2⟩).1 h2, fun h0 m h1 h2 h3 => b4 h0 m ((sam m).mpr ⟨h1, h2⟩).1 h2 h3, fun h0 => ?_⟩
    obtain ⟨m, m1, m2, m3, m4⟩ := b5 h0
    exact ⟨m, by omega, m2, m3, m4⟩
theorem CInv_n {b : Nat → Nat → Nat} {c s : Nat} : ∀ (n i : Nat) (q : k_T3), i + n ≤ 60 → CInv b c s i q → CInv b c s (i + n) (clN c s n i q) := by
  intro n
  induction n with
  | zero => intro i q _ h; exact h
  | succ n ih =>
    intro i q h1 h
    have := ih (i + 1) (cl1 c s i q) (by omega) (CInv_s (by omega) h)
    rw [show i + 1 + n = i + (n + 1) from by omega] at this
    exact this
theorem caller_spec {g : Nat → Nat} {b : Nat → Nat → Nat} {c s : Nat} (h5 : g 5 ≤ 60) :
    (∀ k, k ≠ 17 → k ≠ 18 → (clr0 g b c s).1 k = b k) ∧ (∀ m, (clr0 g b c s).1 17 m = if m < g 5 ∧ inG b c s m then 3 else b 17 m) ∧ (∀ m, (clr0 g b c s).1 18 m = if m < g 5 ∧ inG b c s m then 0 else b 18 m) ∧
    ((clC (clr0 g b c s) = NONE ∧ ∀ m, m < g 5 → inG b c s m → mtB (g 5) (b 12) (b 10) (gmM b) m = true) ∨
     (clC (clr0 g b c s) < g 5 ∧ inG b c s (clC (clr0 g b c s)) ∧ mtB (g 5) (b 12) (b 10) (gmM b) (clC (clr0 g b c s)) = false ∧ ∀ m, m < g 5 → inG b c s m → m ≠ clC (clr0 g b c s) → mtB (g 5) (b 12) (b 10) (gmM b) m = true)) := by
  have h : CInv b c s (0 + g 5) (clr0 g b c s) := CInv_n (g 5) 0 (b, NONE, true) (by omega) ⟨fun _ _ _ => rfl, fun m => by rw [if_neg (by omega)], fun m => by rw [if_neg (by omega)], fun _ => ⟨rfl, fun m h => by omega⟩, fun h => absurd rfl h⟩
  rw [Nat.zero_add] at h
  obtain ⟨hs, h17, h18, hN, hB⟩ := h
  refine ⟨hs, h17, h18, ?_⟩
  unfold clC
  by_cases ho : (clr0 g b c s).2.2 = true
  · rw [if_pos ho]
    by_cases hq : (clr0 g b c s).2.1 = NONE
    · exact Or.inl ⟨hq, fun m h1 h2 => absurd h2 ((hN hq).2 m h1)⟩
    · obtain ⟨b1, b2, b3, b4, b5⟩ := hB hq
      have b4 := b4 ho
      refine Or.inr ⟨b1, b2, ?_, fun m h1 h2 h3 => ?_⟩
      · cases e : mtB (g 5) (b 12) (b 10) (gmM b) (clr0 g b c s).2.1 with
        | false => rfl
        | true =>
          obtain ⟨m, m1, m2, m3, m4, m5⟩ := mtB_iff.mp e
          have := b4 m m1 ⟨m4.trans b2.1, m3.trans b2.2⟩ m2
          omega
      · exact mtB_iff.mpr ⟨_, b1, Ne.symm h3, b2.2.trans h2.2.symm, b2.1.trans h2.1.symm, b3 m h1 h2⟩
  · rw [if_neg ho]
    have ho : (clr0 g b c s).2.2 = false := by cases e : (clr0 g b c s).2.2 with
      | false => rfl
      | true => exact absurd e ho
    by_cases hq : (clr0 g b c s).2.1 = NONE
    · rw [(hN hq).1] at ho; cases ho
    · obtain ⟨b1, b2, b3, b4, b5⟩ := hB hq
      obtain ⟨m0, m1, m2, m3, m4⟩ := b5 ho
      refine Or.inl ⟨rfl, fun m h1 h2 => ?_⟩
      by_cases hm : m = (clr0 g b c s).2.1
      · refine mtB_iff.mpr ⟨m0, m1, ?_, m2.2.trans h2.2.symm, m2.1.trans h2.1.symm, ?_⟩
        · rw [hm]; exact m3
        · rw [hm]; exact m4
      · exact mtB_iff.mpr ⟨_, b1, Ne.symm hm, b2.2.trans h2.2.symm, b2.1.trans h2.1.symm, b3 m h1 h2⟩
