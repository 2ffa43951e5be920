/-- the messages of a group that began ahead of a slot -/
abbrev Stt (N : Nat) (gm bg : Nat → Nat) (γ s m : Nat) : Prop := m < N ∧ gm m = γ ∧ bg m < s
/-- the reference's rows say of the slots ahead of s what the view says -/
def Rg (N : Nat) (gm bg wd : Nat → Nat) (γ s s' : Nat) (v : Vw) (b : Nat → Nat → Nat) : Prop :=
  (∀ m, Stt N gm bg γ s' m → b 18 m = min (v.2 m).2.1 (s - (v.2 m).1)) ∧
  (∀ m, Stt N gm bg γ s' m → (v.2 m).1 + (v.2 m).2.1 ≤ s → b 17 m = (v.2 m).2.2) ∧
  (∀ t, t < s → b 15 t = NONE ∨ Stt N gm bg γ s (b 15 t)) ∧
  (∀ t, t < s → ∀ m, Stt N gm bg γ s' m → (b 15 t = m ↔ vOn v m t)) ∧
  (∀ t, t < s → b 15 t ≠ NONE → b 16 t = if wd (b 15 t) = 0 then 0 else t - (v.2 (b 15 t)).1 + 1)
def Vf (N T lm : Nat) (gm bg wd : Nat → Nat) (γ s : Nat) (v : Vw) : Prop :=
  (v.1 = NONE ∨ (Stt N gm bg γ s v.1 ∧ (v.2 v.1).1 ≤ s ∧ v.2 v.1 = ptT T lm wd v.1 (v.2 v.1).1)) ∧
  (∀ m, Stt N gm bg γ s m → m ≠ v.1 → (v.2 m).1 + (v.2 m).2.1 ≤ s)
section TM
variable {g : Nat → Nat} {b2 : Nat → Nat → Nat} {gm bg wd : Nat → Nat} {γ s x : Nat} {cuts : Bool} {v : Vw}
theorem stB_none (h : x = NONE) : (stB g b2 s x cuts).1 = up2 b2 15 s NONE := by
  unfold stB; rw [if_pos h]
theorem stB_some (h : x ≠ NONE) : (stB g b2 s x cuts).1 = up2 (up2 (up2 (up2 b2 15 s x) 18 x (b2 18 x + 1)) 16 s (if b2 11 x = 0 then 0 else b2 18 x + 1)) 17 x (if ovB g b2 x = true then eof g b2 x else if s + 1 = g 1 then 4 else 1) := by
  unfold stB; rw [if_neg h]
theorem time_step (hN : g 5 ≤ 60) (hwd : b2 11 = wd) (R : Rg (g 5) gm bg wd γ s (s + 1) v b2) (hx : x = NONE ∨ (Stt (g 5) gm bg γ (s + 1) x ∧ vOn v x s ∧ ((v.2 x).1 + (v.2 x).2.1 = s + 1 → (if ovB g b2 x = true then eof g b2 x else if s + 1 = g 1 then 4 else 1) = (v.2 x).2.2)))
    (hoff : ∀ m, Stt (g 5) gm bg γ (s + 1) m → m ≠ x → ¬ vOn v m s) (hfi : ∀ m, Stt (g 5) gm bg γ (s + 1) m → (v.2 m).1 ≤ s + 1) (hfut : ∀ m, Stt (g 5) gm bg γ (s + 1) m → (v.2 m).1 = s + 1 → (v.2 m).2.1 = 0 → b2 17 m = (v.2 m).2.2) :
    Rg (g 5) gm bg wd γ (s + 1) (s + 1) v (stB g b2 s x cuts).1 := by
  obtain ⟨r1, r2, r3, r4, r5⟩ := R
  have oth : ∀ m, Stt (g 5) gm bg γ (s + 1) m → m ≠ x → (v.2 m).1 + (v.2 m).2.1 ≤ s ∨ (v.2 m).1 = s + 1 := by
    intro m h1 h2
    have h3 := hoff m h1 h2
    have h4 := hfi m h1
    unfold vOn at h3
    omega
  have o18 : ∀ m, Stt (g 5) gm bg γ (s + 1) m → m ≠ x → b2 18 m = min (v.2 m).2.1 (s + 1 - (v.2 m).1) := by
    intro m h1 h2
    rw [r1 m h1]
    rcases oth m h1 h2 with h | h <;> omega
  have o17 : ∀ m, Stt (g 5) gm bg γ (s + 1) m → m ≠ x → (v.2 m).1 + (v.2 m).2.1 ≤ s + 1 → b2 17 m = (v.2 m).2.2 := by
    intro m h1 h2 h3
    rcases oth m h1 h2 with h | h
    · exact r2 m h1 h
    · exact hfut m h1 h (by omega)
  by_cases hn : x = NONE
  · rw [stB_none hn]
    have nx : ∀ m, Stt (g 5) gm bg γ (s + 1) m → m ≠ x := fun m h => fun e => n60 (Nat.lt_of_lt_of_le h.1 hN) (e.trans hn)
    refine ⟨fun m h => o18 m h (nx m h), fun m h => o17 m h (nx m h), ?_, ?_, ?_⟩
    · intro t ht
      show up1 (b2 15) s NONE t = NONE ∨ Stt (g 5) gm bg γ (s + 1) (up1 (b2 15) s NONE t)
      by_cases e : t = s
      · rw [e, up1_same]; exact Or.inl rfl
      · rw [up1_ne e]
        rcases r3 t (by omega) with h | h
        · exact Or.inl h
        · exact Or.inr ⟨h.1, h.2.1, by omega⟩
    · intro t ht m hm
      show up1 (b2 15) s NONE t = m ↔ vOn v m t
      by_cases e : t = s
      · subst e
        rw [up1_same]
        exact ⟨fun q => absurd q.symm (hn ▸ nx m hm), fun q => absurd q (hoff m hm (nx m hm))⟩
      · rw [up1_ne e]
        exact r4 t (by omega) m hm
    · intro t ht
      show up1 (b2 15) s NONE t ≠ NONE → b2 16 t = if wd (up1 (b2 15) s NONE t) = 0 then 0 else t - (v.2 (up1 (b2 15) s NONE t)).1 + 1
      by_cases e : t = s
      · rw [e, up1_same]; exact fun q => absurd rfl q
      · rw [up1_ne e]
        exact r5 t (by omega)
  · rcases hx with hx | ⟨hS, hon, hend⟩
    · exact absurd hx hn
    · rw [stB_some hn]
      have x18 := r1 x hS
      have hon2 := hon
      unfold vOn at hon2
      have e18 : b2 18 x = s - (v.2 x).1 := by rw [x18]; omega
      refine ⟨?_, ?_, ?_, ?_, ?_⟩
      · intro m hm
        show up1 (b2 18) x (b2 18 x + 1) m = _
        by_cases e : m = x
        · subst e; rw [up1_same, e18]; omega
        · rw [up1_ne e]; exact o18 m hm e
      · intro m hm hle
        show up1 (b2 17) x (if ovB g b2 x = true then eof g b2 x else if s + 1 = g 1 then 4 else 1) m = _
        by_cases e : m = x
        · subst e; rw [up1_same]; exact hend (by omega)
        · rw [up1_ne e]; exact o17 m hm e hle
      · intro t ht
        show up1 (b2 15) s x t = NONE ∨ Stt (g 5) gm bg γ (s + 1) (up1 (b2 15) s x t)
        by_cases e : t = s
        · rw [e, up1_same]; exact Or.inr hS
        · rw [up1_ne e]
          rcases r3 t (by omega) with h | h
          · exact Or.inl h
          · exact Or.inr ⟨h.1, h.2.1, by omega⟩
      · intro t ht m hm
        show up1 (b2 15) s x t = m ↔ vOn v m t
        by_cases e : t = s
        · subst e
          rw [up1_same]
          by_cases e2 : m = x
          · subst e2; exact ⟨fun _ => hon, fun _ => rfl⟩
          · exact ⟨fun q => absurd q.symm e2, fun q => absurd q (hoff m hm e2)⟩
        · rw [up1_ne e]
          exact r4 t (by omega) m hm
      · intro t ht
        show up1 (b2 15) s x t ≠ NONE → up1 (b2 16) s (if b2 11 x = 0 then 0 else b2 18 x + 1) t = if wd (up1 (b2 15) s x t) = 0 then 0 else t - (v.2 (up1 (b2 15) s x t)).1 + 1
        by_cases e : t = s
        · subst e
          rw [up1_same, up1_same, hwd, e18]
          exact fun _ => rfl
        · rw [up1_ne e, up1_ne e]
          exact r5 t (by omega)
theorem Rg_step {N : Nat} (hN : N ≤ 60) {b : Nat → Nat → Nat} {v' : Vw} (R : Rg N gm bg wd γ s s v b) (h15 : b2 15 = b 15) (h16 : b2 16 = b 16)
    (hold : ∀ m, Stt N gm bg γ s m → b2 18 m = b 18 m ∧ b2 17 m = b 17 m)
    (o1 : ∀ m, Stt N gm bg γ s m → (v'.2 m).1 = (v.2 m).1 ∧ min (v'.2 m).2.1 (s - (v.2 m).1) = min (v.2 m).2.1 (s - (v.2 m).1) ∧ ((v'.2 m).1 + (v'.2 m).2.1 ≤ s → v'.2 m = v.2 m) ∧ ∀ t, t < s → (vOn v' m t ↔ vOn v m t))
    (n1 : ∀ m, m < N → gm m = γ → bg m = s → b2 18 m = 0 ∧ s ≤ (v'.2 m).1 ∧ ((v'.2 m).1 + (v'.2 m).2.1 ≤ s → b2 17 m = (v'.2 m).2.2)) : Rg N gm bg wd γ s (s + 1) v' b2 := by
  obtain ⟨r1, r2, r3, r4, r5⟩ := R
  have cas : ∀ m, Stt N gm bg γ (s + 1) m → Stt N gm bg γ s m ∨ (m < N ∧ gm m = γ ∧ bg m = s) := fun m h => by
    by_cases e : bg m < s
    · exact Or.inl ⟨h.1, h.2.1, e⟩
    · exact Or.inr ⟨h.1, h.2.1, by omega⟩
  refine ⟨?_, ?_, ?_, ?_, ?_⟩
  · intro m hm
    rcases cas m hm with h | h
    · obtain ⟨p1, p2, p3, p4⟩ := o1 m h
      rw [(hold m h).1, r1 m h, p1, p2]
    · obtain ⟨q1, q2, q3⟩ := n1 m h.1 h.2.1 h.2.2
      rw [q1]; omega
  · intro m hm hle
    rcases cas m hm with h | h
    · obtain ⟨p1, p2, p3, p4⟩ := o1 m h
      have e := p3 hle
      rw [(hold m h).2, e]
      rw [e] at hle
      exact r2 m h hle
    · exact (n1 m h.1 h.2.1 h.2.2).2.2 hle
  · intro t ht
    rw [h15]
    exact r3 t ht
  · intro t ht m hm
    rw [h15]
    rcases cas m hm with h | h
    · rw [(o1 m h).2.2.2 t ht]; exact r4 t ht m h
    · constructor
      · intro q
        rcases r3 t ht with z | z
        · exact absurd (q.symm.trans z) (n60 (Nat.lt_of_lt_of_le h.1 hN))
        · rw [q] at z; exact absurd h.2.2 (by have := z.2.2; omega)
      · intro q
        have := (n1 m h.1 h.2.1 h.2.2).2.1
        unfold vOn at q
        omega
  · intro t ht hne
    rw [h15] at hne ⊢
    rw [h16, r5 t ht hne]
    rcases r3 t ht with z | z
    · exact absurd z hne
    · rw [(o1 _ z).1]
end TM
