/-- at the head of a slot: the reference's state and the view agree -/
def Hd (g : Nat → Nat) (b0 : Nat → Nat → Nat) (γ s : Nat) (v : Vw) (q : (Nat → Nat → Nat) × Nat × Nat) : Prop :=
  (∀ k, k ≠ 15 → k ≠ 16 → k ≠ 17 → k ≠ 18 → q.1 k = b0 k) ∧ Vf (g 5) (g 1) (g 2) (gmM b0) (b0 10) (b0 11) γ s v ∧ Rg (g 5) (gmM b0) (b0 10) (b0 11) γ s s v q.1 ∧
  (s < g 1 → (if q.2.2 = NONE then q.2.1 else q.2.2) = if v.1 ≠ NONE ∧ s < (v.2 v.1).1 + (v.2 v.1).2.1 then v.1 else NONE)
/-- the rows behind the caller's sweep -/
def Swp (g : Nat → Nat) (b0 b b1 : Nat → Nat → Nat) (γ s : Nat) : Prop :=
  (∀ k, k ≠ 15 → k ≠ 16 → k ≠ 17 → k ≠ 18 → b1 k = b0 k) ∧ b1 15 = b 15 ∧ b1 16 = b 16 ∧
  (∀ m, Stt (g 5) (gmM b0) (b0 10) γ s m → b1 18 m = b 18 m ∧ b1 17 m = b 17 m) ∧
  (∀ m, m < g 5 → gmM b0 m = γ → b0 10 m = s → b1 18 m = 0 ∧ b1 17 m = 3)
section SL
variable {g : Nat → Nat} {b0 b b1 b2 : Nat → Nat → Nat} {γ s x c nx2 : Nat} {v v' : Vw} {cuts : Bool}
theorem endE {F sl en : Nat} (hwd : b2 11 = b0 11) (e : (F, sl, en) = ptT (g 1) (g 2) (b0 11) x F) (h1 : F ≤ s) (h2 : s < F + sl) (h18 : b2 18 x = s - F) :
    (ovB g b2 x = true → F + sl = s + 1) ∧ (F + sl = s + 1 → (if ovB g b2 x = true then eof g b2 x else if s + 1 = g 1 then 4 else 1) = en) ∧ (ovB g b2 x = false → s + 1 < g 1 → s + 1 < F + sl) ∧ F + sl ≤ g 1 := by
  have e1 : sl = min (mq (g 2) (b0 11 x)) (g 1 - F) := congrArg (fun z => z.2.1) e
  have e2 : en = if mq (g 2) (b0 11 x) ≤ g 1 - F then eo (g 2) (b0 11 x) else 4 := congrArg (fun z => z.2.2) e
  have em : mst g b2 x = mq (g 2) (b0 11 x) := by show mq (g 2) (b2 11 x) = _; rw [hwd]
  have ee : eof g b2 x = eo (g 2) (b0 11 x) := by show eo (g 2) (b2 11 x) = _; rw [hwd]
  have eov : ovB g b2 x = decide (s - F + 1 = mq (g 2) (b0 11 x)) := by unfold ovB; rw [em, h18]
  rw [eov, ee]
  generalize mq (g 2) (b0 11 x) = q at e1 e2 ⊢
  refine ⟨fun h => ?_, fun h => ?_, fun h h3 => ?_, by omega⟩
  · have := of_decide_eq_true h; omega
  · by_cases ho : s - F + 1 = q
    · rw [if_pos (decide_eq_true ho), e2, if_pos (by omega)]
    · rw [if_neg (by rw [decide_eq_false ho]; decide), if_pos (by omega), e2, if_neg (by omega)]
  · have := of_decide_eq_false h; omega
theorem stB_st {k : Nat} (h15 : k ≠ 15) (h16 : k ≠ 16) (h17 : k ≠ 17) (h18 : k ≠ 18) : (stB g b2 s x cuts).1 k = b2 k := by
  by_cases h : x = NONE
  · rw [stB_none h, up2_ne h15]
  · rw [stB_some h, up2_ne h17, up2_ne h16, up2_ne h18, up2_ne h15]
theorem slot_fin (hN : g 5 ≤ 60) (hst : ∀ k, k ≠ 15 → k ≠ 16 → k ≠ 17 → k ≠ 18 → b2 k = b0 k) (R : Rg (g 5) (gmM b0) (b0 10) (b0 11) γ s (s + 1) v' b2)
    (hx : x = NONE ∨ (Stt (g 5) (gmM b0) (b0 10) γ (s + 1) x ∧ vOn v' x s ∧ ((v'.2 x).1 + (v'.2 x).2.1 = s + 1 → (if ovB g b2 x = true then eof g b2 x else if s + 1 = g 1 then 4 else 1) = (v'.2 x).2.2)))
    (hoff : ∀ m, Stt (g 5) (gmM b0) (b0 10) γ (s + 1) m → m ≠ x → ¬ vOn v' m s) (hfi : ∀ m, Stt (g 5) (gmM b0) (b0 10) γ (s + 1) m → (v'.2 m).1 ≤ s + 1) (hfut : ∀ m, Stt (g 5) (gmM b0) (b0 10) γ (s + 1) m → (v'.2 m).1 = s + 1 → (v'.2 m).2.1 = 0 → b2 17 m = (v'.2 m).2.2)
    (V : Vf (g 5) (g 1) (g 2) (gmM b0) (b0 10) (b0 11) γ (s + 1) v')
    (hon : s + 1 < g 1 → (if nx2 = NONE then (stB g b2 s x cuts).2 else nx2) = if v'.1 ≠ NONE ∧ s + 1 < (v'.2 v'.1).1 + (v'.2 v'.1).2.1 then v'.1 else NONE) : Hd g b0 γ (s + 1) v' ((stB g b2 s x cuts).1, (stB g b2 s x cuts).2, nx2) :=
  ⟨fun k h1 h2 h3 h4 => (stB_st h1 h2 h3 h4).trans (hst k h1 h2 h3 h4), V, time_step hN (hst 11 (by decide) (by decide) (by decide) (by decide)) R hx hoff hfi hfut, hon⟩
theorem stt_cas {N : Nat} {gm bg : Nat → Nat} {m : Nat} (h : Stt N gm bg γ (s + 1) m) : Stt N gm bg γ s m ∨ (m < N ∧ gm m = γ ∧ bg m = s) := by
  by_cases e : bg m < s
  · exact Or.inl ⟨h.1, h.2.1, e⟩
  · exact Or.inr ⟨h.1, h.2.1, by have := h.2.2; omega⟩
theorem slot_ND (hN : g 5 ≤ 60) (W : Swp g b0 b b1 γ s) (V : Vf (g 5) (g 1) (g 2) (gmM b0) (b0 10) (b0 11) γ s v) (R : Rg (g 5) (gmM b0) (b0 10) (b0 11) γ s s v b)
    (hx : x = if v.1 ≠ NONE ∧ s < (v.2 v.1).1 + (v.2 v.1).2.1 then v.1 else NONE) (e1 : v'.1 = v.1)
    (eo : ∀ m, Stt (g 5) (gmM b0) (b0 10) γ s m → v'.2 m = v.2 m) (en : ∀ m, m < g 5 → gmM b0 m = γ → b0 10 m = s → v'.2 m = (s, 0, 3)) : Hd g b0 γ (s + 1) v' ((stB g b1 s x false).1, (stB g b1 s x false).2, NONE) := by
  obtain ⟨w1, w2, w3, w4, w5⟩ := W
  obtain ⟨V1, V2⟩ := V
  have hwd := w1 11 (by decide) (by decide) (by decide) (by decide)
  have R2 : Rg (g 5) (gmM b0) (b0 10) (b0 11) γ s (s + 1) v' b1 := by
    refine Rg_step hN R w2 w3 w4 (fun m h => ?_) (fun m h1 h2 h3 => ?_)
    · rw [eo m h]; exact ⟨rfl, rfl, fun _ => rfl, fun t _ => by unfold vOn; rw [eo m h]⟩
    · rw [en m h1 h2 h3]; exact ⟨(w5 m h1 h2 h3).1, Nat.le_refl _, fun _ => (w5 m h1 h2 h3).2⟩
  have up : ∀ m, Stt (g 5) (gmM b0) (b0 10) γ s m → Stt (g 5) (gmM b0) (b0 10) γ (s + 1) m := fun m h => ⟨h.1, h.2.1, by have := h.2.2; omega⟩
  have main : ∀ (hl : v.1 = NONE ∨ (v.2 v.1).1 + (v.2 v.1).2.1 ≤ s ∨ x = v.1), ∀ m, Stt (g 5) (gmM b0) (b0 10) γ (s + 1) m → m ≠ x → ¬ vOn v' m s := by
    intro hl m hm hne
    unfold vOn
    rcases stt_cas hm with h | h
    · rw [eo m h]
      by_cases hv : m = v.1
      · rcases hl with hl | hl | hl
        · exact absurd (hv.trans hl) (n60 (Nat.lt_of_lt_of_le h.1 hN))
        · rw [hv]; omega
        · exact absurd (hv.trans hl.symm) hne
      · have := V2 m h hv; omega
    · rw [en m h.1 h.2.1 h.2.2]; dsimp only; omega
  have fi : ∀ m, Stt (g 5) (gmM b0) (b0 10) γ (s + 1) m → (v'.2 m).1 ≤ s := by
    intro m hm
    rcases stt_cas hm with h | h
    · rw [eo m h]
      by_cases hv : m = v.1
      · rcases V1 with V1 | V1
        · exact absurd (hv.trans V1) (n60 (Nat.lt_of_lt_of_le h.1 hN))
        · rw [hv]; exact V1.2.1
      · have := V2 m h hv; omega
    · rw [en m h.1 h.2.1 h.2.2]; exact Nat.le_refl _
  have Vn : Vf (g 5) (g 1) (g 2) (gmM b0) (b0 10) (b0 11) γ (s + 1) v' := by
    refine ⟨?_, fun m hm hne => ?_⟩
    · rcases V1 with V1 | V1
      · exact Or.inl (e1.trans V1)
      · refine Or.inr ?_
        rw [e1, eo v.1 V1.1]
        exact ⟨up _ V1.1, by have := V1.2.1; omega, V1.2.2⟩
    · rw [e1] at hne
      rcases stt_cas hm with h | h
      · rw [eo m h]; have := V2 m h hne; omega
      · rw [en m h.1 h.2.1 h.2.2]; dsimp only; omega
  by_cases hl : v.1 ≠ NONE ∧ s < (v.2 v.1).1 + (v.2 v.1).2.1
  · rw [if_pos hl] at hx
    rcases V1 with V1 | V1
    · exact absurd V1 hl.1
    · have e18 : b1 18 v.1 = s - (v.2 v.1).1 := by
        rw [(w4 _ V1.1).1, R.1 _ V1.1]; have := hl.2; omega
      obtain ⟨E1, E2, E3, E4⟩ := endE (g := g) (x := v.1) (b0 := b0) (F := (v.2 v.1).1) (sl := (v.2 v.1).2.1) (en := (v.2 v.1).2.2) hwd V1.2.2 V1.2.1 hl.2 e18
      have ev := eo _ V1.1
      refine slot_fin hN w1 R2 (Or.inr ?_) (main (Or.inr (Or.inr hx))) (fun m h => Nat.le_succ_of_le (fi m h)) (fun m h h2 => absurd (fi m h) (by omega)) Vn (fun h => ?_)
      · rw [hx]
        unfold vOn
        rw [ev]
        exact ⟨up _ V1.1, ⟨V1.2.1, hl.2⟩, E2⟩
      · rw [if_pos rfl, hx, e1, ev]
        have e2 : (stB g b1 s v.1 false).2 = if (ovB g b1 v.1 || false) = true then NONE else v.1 := by unfold stB; rw [if_neg hl.1]
        rw [e2, Bool.or_false]
        cases ho : ovB g b1 v.1 with
        | true =>
          have := E1 ho
          rw [if_pos rfl, if_neg (by omega)]
        | false =>
          have := E3 ho h
          rw [if_neg (by decide), if_pos ⟨hl.1, this⟩]
  · rw [if_neg hl] at hx
    have hl2 : v.1 = NONE ∨ (v.2 v.1).1 + (v.2 v.1).2.1 ≤ s := by
      by_cases h : v.1 = NONE
      · exact Or.inl h
      · exact Or.inr (Nat.le_of_not_lt (fun q => hl ⟨h, q⟩))
    refine slot_fin hN w1 R2 (Or.inl hx) (main (hl2.elim Or.inl (fun h => Or.inr (Or.inl h)))) (fun m h => Nat.le_succ_of_le (fi m h)) (fun m h h2 => absurd (fi m h) (by omega)) Vn (fun h => ?_)
    have e2 : (stB g b1 s x false).2 = NONE := by unfold stB; rw [if_pos hx]
    rw [if_pos rfl, e2, e1, if_neg]
    rintro ⟨q1, q2⟩
    rcases V1 with V1 | V1
    · exact q1 V1
    · rw [eo _ V1.1] at q2
      rcases hl2 with h | h
      · exact q1 h
      · omega
theorem slot_P (hN : g 5 ≤ 60) (hs : s < g 1) (W : Swp g b0 b b1 γ s) (V : Vf (g 5) (g 1) (g 2) (gmM b0) (b0 10) (b0 11) γ s v) (R : Rg (g 5) (gmM b0) (b0 10) (b0 11) γ s s v b)
    (hl : ¬ (v.1 ≠ NONE ∧ s < (v.2 v.1).1 + (v.2 v.1).2.1)) (hc1 : c < g 5) (hc2 : gmM b0 c = γ) (hc3 : b0 10 c = s) (e1 : v'.1 = c) (ec : v'.2 c = ptT (g 1) (g 2) (b0 11) c s)
    (eo : ∀ m, Stt (g 5) (gmM b0) (b0 10) γ s m → v'.2 m = v.2 m) (en : ∀ m, m < g 5 → gmM b0 m = γ → b0 10 m = s → m ≠ c → v'.2 m = (s, 0, 3)) : Hd g b0 γ (s + 1) v' ((stB g b1 s c false).1, (stB g b1 s c false).2, NONE) := by
  obtain ⟨w1, w2, w3, w4, w5⟩ := W
  obtain ⟨V1, V2⟩ := V
  have hwd := w1 11 (by decide) (by decide) (by decide) (by decide)
  have cn : c ≠ NONE := n60 (Nat.lt_of_lt_of_le hc1 hN)
  have f1 : (v'.2 c).1 = s := by rw [ec]; rfl
  have f2 : (v'.2 c).2.1 = min (mq (g 2) (b0 11 c)) (g 1 - s) := by rw [ec]; rfl
  have qp := mq_pos (g 2) (b0 11 c)
  have c18 := (w5 c hc1 hc2 hc3).1
  have old : ∀ m, Stt (g 5) (gmM b0) (b0 10) γ s m → (v.2 m).1 + (v.2 m).2.1 ≤ s := by
    intro m h
    by_cases hv : m = v.1
    · have hne : v.1 ≠ NONE := hv ▸ n60 (Nat.lt_of_lt_of_le h.1 hN)
      rw [hv]
      exact Nat.le_of_not_lt (fun q => hl ⟨hne, q⟩)
    · exact V2 m h hv
  have R2 : Rg (g 5) (gmM b0) (b0 10) (b0 11) γ s (s + 1) v' b1 := by
    refine Rg_step hN R w2 w3 w4 (fun m h => ?_) (fun m h1 h2 h3 => ?_)
    · rw [eo m h]; exact ⟨rfl, rfl, fun _ => rfl, fun t _ => by unfold vOn; rw [eo m h]⟩
    · by_cases hm : m = c
      · subst hm
        exact ⟨c18, by omega, fun h => by omega⟩
      · rw [en m h1 h2 h3 hm]; exact ⟨(w5 m h1 h2 h3).1, Nat.le_refl _, fun _ => (w5 m h1 h2 h3).2⟩
  have SC : Stt (g 5) (gmM b0) (b0 10) γ (s + 1) c := ⟨hc1, hc2, by omega⟩
  obtain ⟨E1, E2, E3, E4⟩ := endE (g := g) (x := c) (b0 := b0) (F := s) (sl := (v'.2 c).2.1) (en := (v'.2 c).2.2) hwd (by rw [ec]; rfl) (Nat.le_refl _) (by omega) (by rw [c18]; omega)
  have fi : ∀ m, Stt (g 5) (gmM b0) (b0 10) γ (s + 1) m → (v'.2 m).1 ≤ s := by
    intro m hm
    rcases stt_cas hm with h | h
    · rw [eo m h]; have := old m h; omega
    · by_cases e : m = c
      · rw [e]; omega
      · rw [en m h.1 h.2.1 h.2.2 e]; exact Nat.le_refl _
  refine slot_fin hN w1 R2 (Or.inr ⟨SC, ⟨by omega, by omega⟩, by rw [f1]; exact E2⟩) ?_ (fun m h => Nat.le_succ_of_le (fi m h)) (fun m h h2 => absurd (fi m h) (by omega)) ⟨Or.inr ?_, ?_⟩ (fun h => ?_)
  · intro m hm hne
    unfold vOn
    rcases stt_cas hm with h | h
    · rw [eo m h]; have := old m h; omega
    · rw [en m h.1 h.2.1 h.2.2 hne]; dsimp only; omega
  · rw [e1, f1]
    exact ⟨SC, by omega, ec⟩
  · intro m hm hne
    rw [e1] at hne
    rcases stt_cas hm with h | h
    · rw [eo m h]; have := old m h; omega
    · rw [en m h.1 h.2.1 h.2.2 hne]; dsimp only; omega
  · rw [if_pos rfl, e1, f1]
    have e2 : (stB g b1 s c false).2 = if (ovB g b1 c || false) = true then NONE else c := by unfold stB; rw [if_neg cn]
    rw [e2, Bool.or_false]
    cases ho : ovB g b1 c with
    | true =>
      have := E1 ho
      rw [if_pos rfl, if_neg (by omega)]
    | false =>
      have := E3 ho h
      rw [if_neg (by decide), if_pos ⟨cn, this⟩]
theorem slot_C (hN : g 5 ≤ 60) (hs : s < g 1) (W : Swp g b0 b b1 γ s) (V : Vf (g 5) (g 1) (g 2) (gmM b0) (b0 10) (b0 11) γ s v) (R : Rg (g 5) (gmM b0) (b0 10) (b0 11) γ s s v b)
    (hl : v.1 ≠ NONE ∧ s < (v.2 v.1).1 + (v.2 v.1).2.1) (hc1 : c < g 5) (hc2 : gmM b0 c = γ) (hc3 : b0 10 c = s) (e1 : v'.1 = c) (ec : v'.2 c = ptT (g 1) (g 2) (b0 11) c (s + 1))
    (el : v'.2 v.1 = if s - (v.2 v.1).1 + 1 < (v.2 v.1).2.1 then ((v.2 v.1).1, s - (v.2 v.1).1 + 1, 1) else v.2 v.1)
    (eo : ∀ m, Stt (g 5) (gmM b0) (b0 10) γ s m → m ≠ v.1 → v'.2 m = v.2 m) (en : ∀ m, m < g 5 → gmM b0 m = γ → b0 10 m = s → m ≠ c → v'.2 m = (s, 0, 3)) : Hd g b0 γ (s + 1) v' ((stB g (up2 b1 17 c 4) s v.1 true).1, (stB g (up2 b1 17 c 4) s v.1 true).2, c) := by
  obtain ⟨w1, w2, w3, w4, w5⟩ := W
  obtain ⟨V1, V2⟩ := V
  rcases V1 with V1 | ⟨VS, Vle, Vpt⟩
  · exact absurd V1 hl.1
  have hwd := w1 11 (by decide) (by decide) (by decide) (by decide)
  have cn : c ≠ NONE := n60 (Nat.lt_of_lt_of_le hc1 hN)
  have f1 : (v'.2 c).1 = s + 1 := by rw [ec]; rfl
  have f2 : (v'.2 c).2.1 = min (mq (g 2) (b0 11 c)) (g 1 - (s + 1)) := by rw [ec]; rfl
  have qp := mq_pos (g 2) (b0 11 c)
  have f3 : (v'.2 c).2.1 = 0 → (v'.2 c).2.2 = 4 := by
    intro h
    have h2 : ¬ mq (g 2) (b0 11 c) ≤ g 1 - (s + 1) := by omega
    rw [ec]
    exact if_neg h2
  have c18 := (w5 c hc1 hc2 hc3).1
  have nlc : v.1 ≠ c := fun e => by
    have := VS.2.2
    rw [e, hc3] at this; omega
  have L1 : (v'.2 v.1).1 = (v.2 v.1).1 := by rw [el]; split <;> rfl
  have L2 : (v'.2 v.1).2.1 = s - (v.2 v.1).1 + 1 := by
    rw [el]
    split
    · rfl
    · have := hl.2; omega
  have c17 : ∀ m, m ≠ c → up2 b1 17 c 4 17 m = b1 17 m := fun m h => by rw [up2_same, up1_ne h]
  have e18 : b1 18 v.1 = s - (v.2 v.1).1 := by
    rw [(w4 _ VS).1, R.1 _ VS]; have := hl.2; omega
  have R2 : Rg (g 5) (gmM b0) (b0 10) (b0 11) γ s (s + 1) v' (up2 b1 17 c 4) := by
    refine Rg_step hN R w2 w3 (fun m h => ⟨(w4 m h).1, ?_⟩) (fun m h => ?_) (fun m h1 h2 h3 => ?_)
    · rw [c17 m (fun e => by have := h.2.2; rw [e, hc3] at this; omega)]
      exact (w4 m h).2
    · by_cases hv : m = v.1
      · subst hv
        refine ⟨L1, by rw [L2]; have := hl.2; omega, fun q => by rw [L1, L2] at q; omega, fun t ht => ?_⟩
        unfold vOn
        rw [L1, L2]
        have := hl.2
        omega
      · rw [eo m h hv]; exact ⟨rfl, rfl, fun _ => rfl, fun t _ => by unfold vOn; rw [eo m h hv]⟩
    · by_cases hm : m = c
      · subst hm
        exact ⟨c18, by omega, fun h => by omega⟩
      · rw [en m h1 h2 h3 hm, c17 m hm]; exact ⟨(w5 m h1 h2 h3).1, Nat.le_refl _, fun _ => (w5 m h1 h2 h3).2⟩
  have SC : Stt (g 5) (gmM b0) (b0 10) γ (s + 1) c := ⟨hc1, hc2, by omega⟩
  obtain ⟨E1, E2, E3, E4⟩ := endE (g := g) (b2 := up2 b1 17 c 4) (x := v.1) (b0 := b0) (F := (v.2 v.1).1) (sl := (v.2 v.1).2.1) (en := (v.2 v.1).2.2) hwd Vpt Vle hl.2 e18
  refine slot_fin hN (fun k h1 h2 h3 h4 => (up2_ne h3).trans (w1 k h1 h2 h3 h4)) R2 (Or.inr ⟨⟨VS.1, VS.2.1, by have := VS.2.2; omega⟩, ?_, ?_⟩) ?_ ?_ ?_ ⟨Or.inr ?_, ?_⟩ (fun h => ?_)
  · unfold vOn
    rw [L1, L2]; omega
  · intro _
    rw [el]
    by_cases hcut : s - (v.2 v.1).1 + 1 < (v.2 v.1).2.1
    · rw [if_pos hcut]
      have ho : ovB g (up2 b1 17 c 4) v.1 = false := by
        cases ho : ovB g (up2 b1 17 c 4) v.1 with
        | false => rfl
        | true => have := E1 ho; omega
      rw [ho, if_neg (by decide), if_neg (by omega)]
    · rw [if_neg hcut]
      exact E2 (by have := hl.2; omega)
  · intro m hm hne
    unfold vOn
    rcases stt_cas hm with h | h
    · rw [eo m h hne]; have := V2 m h hne; omega
    · by_cases e : m = c
      · rw [e]; omega
      · rw [en m h.1 h.2.1 h.2.2 e]; dsimp only; omega
  · intro m hm
    rcases stt_cas hm with h | h
    · by_cases hv : m = v.1
      · rw [hv, L1]; omega
      · rw [eo m h hv]; have := V2 m h hv; omega
    · by_cases e : m = c
      · rw [e]; omega
      · rw [en m h.1 h.2.1 h.2.2 e]; dsimp only; omega
  · intro m hm h2 h3
    rcases stt_cas hm with h | h
    · by_cases hv : m = v.1
      · rw [hv, L1] at h2; omega
      · rw [eo m h hv] at h2; have := V2 m h hv; omega
    · by_cases e : m = c
      · subst e
        rw [up2_same, up1_same, f3 h3]
      · rw [en m h.1 h.2.1 h.2.2 e] at h2; dsimp only at h2; omega
  · rw [e1, f1]
    exact ⟨SC, Nat.le_refl _, ec⟩
  · intro m hm hne
    rw [e1] at hne
    rcases stt_cas hm with h | h
    · by_cases hv : m = v.1
      · rw [hv, L1, L2]; omega
      · rw [eo m h hv]; have := V2 m h hv; omega
    · rw [en m h.1 h.2.1 h.2.2 hne]; dsimp only; omega
  · rw [if_neg cn, e1, f1, if_pos ⟨cn, by omega⟩]
end SL
