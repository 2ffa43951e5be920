section DY
variable {g : Nat → Nat} {b0 : Nat → Nat → Nat} {γ s : Nat} {v : Vw} {q : (Nat → Nat → Nat) × Nat × Nat}
abbrev pM (g : Nat → Nat) (b0 : Nat → Nat → Nat) (γ : Nat) : Vw → Nat → Vw := pstep (g 1) (g 2) (b0 11) (b0 12) (b0 10) (gmM b0) (mtB (g 5) (b0 12) (b0 10) (gmM b0)) γ
theorem Hd_step (hN : g 5 ≤ 60) (hs : s < g 1) (h : Hd g b0 γ s v q) {B : List Nat} (hB1 : B.Nodup) (hB2 : ∀ m, m ∈ B ↔ m < g 5 ∧ b0 10 m = s) : Hd g b0 γ (s + 1) (B.foldl (pM g b0 γ) v) (d0s g γ s q) := by
  obtain ⟨st, V, R, hon⟩ := h
  have hon := hon hs
  obtain ⟨c1, c2, c3, c4⟩ := caller_spec (g := g) (b := q.1) (c := γ) (s := s) hN
  have s0 := st 0 (by decide) (by decide) (by decide) (by decide)
  have s10 := st 10 (by decide) (by decide) (by decide) (by decide)
  have s12 := st 12 (by decide) (by decide) (by decide) (by decide)
  have s13 := st 13 (by decide) (by decide) (by decide) (by decide)
  have eg : gmM q.1 = gmM b0 := by funext m; show q.1 0 (q.1 13 m) = b0 0 (b0 13 m); rw [s0, s13]
  have ing : ∀ m, inG q.1 γ s m ↔ (gmM b0 m = γ ∧ b0 10 m = s) := fun m => by unfold inG; rw [eg, s10]
  rw [eg, s10, s12] at c4
  have W : Swp g b0 q.1 (clr0 g q.1 γ s).1 γ s := by
    refine ⟨fun k h1 h2 h3 h4 => (c1 k h3 h4).trans (st k h1 h2 h3 h4), c1 15 (by decide) (by decide), c1 16 (by decide) (by decide), fun m h => ?_, fun m h1 h2 h3 => ?_⟩
    · have hn : ¬ (m < g 5 ∧ inG q.1 γ s m) := fun z => by
        have := ((ing m).mp z.2).2
        have := h.2.2
        omega
      rw [c2, c3, if_neg hn, if_neg hn]
      exact ⟨rfl, rfl⟩
    · have hp : m < g 5 ∧ inG q.1 γ s m := ⟨h1, (ing m).mpr ⟨h2, h3⟩⟩
      rw [c2, c3, if_pos hp, if_pos hp]
      exact ⟨rfl, rfl⟩
  have b12 : (clr0 g q.1 γ s).1 12 = b0 12 := W.1 12 (by decide) (by decide) (by decide) (by decide)
  unfold d0s
  dsimp only
  rw [hon]
  have hBs : ∀ m ∈ B, b0 10 m = s := fun m hm => ((hB2 m).mp hm).2
  have nB : ∀ m, Stt (g 5) (gmM b0) (b0 10) γ s m → m ∉ B := fun m h hm => by
    have := hBs m hm
    have := h.2.2
    omega
  have vB : v.1 ∉ B := by
    intro hm
    rcases V.1 with h | h
    · rw [h] at hm; exact absurd rfl (n60 (Nat.lt_of_lt_of_le ((hB2 _).mp hm).1 hN))
    · exact nB _ h.1 hm
  have c4' : (clC (clr0 g q.1 γ s) = NONE ∧ ∀ m, m < g 5 → (gmM b0 m = γ ∧ b0 10 m = s) → mtB (g 5) (b0 12) (b0 10) (gmM b0) m = true) ∨ (clC (clr0 g q.1 γ s) < g 5 ∧ (gmM b0 (clC (clr0 g q.1 γ s)) = γ ∧ b0 10 (clC (clr0 g q.1 γ s)) = s) ∧ mtB (g 5) (b0 12) (b0 10) (gmM b0) (clC (clr0 g q.1 γ s)) = false ∧ ∀ m, m < g 5 → (gmM b0 m = γ ∧ b0 10 m = s) → m ≠ clC (clr0 g q.1 γ s) → mtB (g 5) (b0 12) (b0 10) (gmM b0) m = true) := by
    rcases c4 with ⟨h1, h2⟩ | ⟨h1, h2, h3, h4⟩
    · exact Or.inl ⟨h1, fun m h3 h4 => h2 m h3 ((ing m).mpr h4)⟩
    · exact Or.inr ⟨h1, (ing _).mp h2, h3, fun m h5 h6 h7 => h4 m h5 ((ing m).mpr h6) h7⟩
  clear c4 c2 c3 c1
  generalize clC (clr0 g q.1 γ s) = c at c4' ⊢
  generalize (clr0 g q.1 γ s).1 = b1 at W b12 ⊢
  rcases c4' with ⟨rfl, hm⟩ | ⟨hc1, hc2, hc3, hm⟩
  · have ea : ∀ on1, stA b1 on1 NONE = (b1, on1, NONE, false) := fun on1 => if_pos rfl
    rw [ea]
    dsimp only
    have ef : B.foldl (pM g b0 γ) v = (v.1, fun m => if m ∈ B ∧ gmM b0 m = γ then (s, 0, 3) else v.2 m) := fold_none B v hBs (fun m h1 h2 => hm m ((hB2 m).mp h1).1 ⟨h2, hBs m h1⟩)
    rw [ef]
    exact slot_ND hN W V R rfl rfl (fun m h => if_neg (fun z => nB m h z.1)) (fun m h1 h2 h3 => if_pos ⟨(hB2 m).mpr ⟨h1, h3⟩, h2⟩)
  · have cn : c ≠ NONE := n60 (Nat.lt_of_lt_of_le hc1 hN)
    have cB : c ∈ B := (hB2 c).mpr ⟨hc1, hc2.2⟩
    have ef : B.foldl (pM g b0 γ) v = ((vstep (g 1) (g 2) (b0 11) (b0 12) v c s).1, fun m => if m ∈ B ∧ gmM b0 m = γ ∧ m ≠ c then (s, 0, 3) else (vstep (g 1) (g 2) (b0 11) (b0 12) v c s).2 m) := fold_one B v hB1 hBs cB hc2.1 hc3 (fun m h1 h2 h3 => hm m ((hB2 m).mp h1).1 ⟨h3, hBs m h1⟩ h2) vB
    rw [ef]
    have olc : ∀ m, Stt (g 5) (gmM b0) (b0 10) γ s m → m ≠ c := fun m h e => nB m h (e ▸ cB)
    have los : ∀ m, m < g 5 → gmM b0 m = γ → b0 10 m = s → m ≠ c → m ∈ B ∧ gmM b0 m = γ ∧ m ≠ c := fun m h1 h2 h3 h4 => ⟨(hB2 m).mpr ⟨h1, h3⟩, h2, h4⟩
    by_cases hl : v.1 ≠ NONE ∧ s < (v.2 v.1).1 + (v.2 v.1).2.1
    · rw [if_pos hl]
      have hon1 : vOn v v.1 s := by
        rcases V.1 with h | h
        · exact absurd h hl.1
        · exact ⟨h.2.1, hl.2⟩
      have hv : ¬ (v.1 = NONE ∨ ¬ vOn v v.1 s) := fun z => z.elim hl.1 (fun y => y hon1)
      by_cases hr : b0 12 v.1 < b0 12 c
      · have ea : stA b1 v.1 c = (up2 b1 17 c 4, v.1, c, true) := by unfold stA; rw [if_neg cn, if_neg hl.1, if_pos (by rw [b12]; exact hr)]
        have ev : vstep (g 1) (g 2) (b0 11) (b0 12) v c s = vput (g 1) (g 2) (b0 11) (vcut v v.1 s) c (s + 1) := by unfold vstep; rw [if_neg hv, if_pos hr]
        rw [ea, ev]
        dsimp only
        have vc : ∀ m, m ≠ v.1 → (vcut v v.1 s).2 m = v.2 m := fun m h => by
          unfold vcut
          split
          · exact vset_ne h
          · rfl
        have vl : (vcut v v.1 s).2 v.1 = if s - (v.2 v.1).1 + 1 < (v.2 v.1).2.1 then ((v.2 v.1).1, s - (v.2 v.1).1 + 1, 1) else v.2 v.1 := by
          unfold vcut
          split
          · exact if_pos rfl
          · rfl
        have nlc : v.1 ≠ c := fun e => vB (e ▸ cB)
        refine slot_C hN hs W V R hl hc1 hc2.1 hc2.2 rfl ?_ ?_ ?_ ?_
        · dsimp only
          rw [if_neg (fun z => z.2.2 rfl)]
          exact if_pos rfl
        · dsimp only
          rw [if_neg (fun z => vB z.1), ← vl]
          exact if_neg nlc
        · intro m h h2
          dsimp only
          rw [if_neg (fun z => nB m h z.1), ← vc m h2]
          exact if_neg (olc m h)
        · intro m h1 h2 h3 h4
          exact if_pos (los m h1 h2 h3 h4)
      · have ea : stA b1 v.1 c = (b1, v.1, NONE, false) := by unfold stA; rw [if_neg cn, if_neg hl.1, if_neg (by rw [b12]; exact hr)]
        have ev : vstep (g 1) (g 2) (b0 11) (b0 12) v c s = vset v c (s, 0, 3) := by unfold vstep; rw [if_neg hv, if_neg hr]
        rw [ea, ev]
        dsimp only
        refine slot_ND hN W V R (by rw [if_pos hl]) rfl ?_ ?_
        · intro m h
          dsimp only
          rw [if_neg (fun z => nB m h z.1)]
          exact vset_ne (olc m h)
        · intro m h1 h2 h3
          dsimp only
          by_cases e : m = c
          · rw [if_neg (fun z => z.2.2 e)]
            exact if_pos e
          · exact if_pos (los m h1 h2 h3 e)
    · rw [if_neg hl]
      have ea : stA b1 NONE c = (b1, c, NONE, false) := by unfold stA; rw [if_neg cn, if_pos rfl]
      have hv : v.1 = NONE ∨ ¬ vOn v v.1 s := by
        by_cases e : v.1 = NONE
        · exact Or.inl e
        · exact Or.inr (fun z => hl ⟨e, z.2⟩)
      have ev : vstep (g 1) (g 2) (b0 11) (b0 12) v c s = vput (g 1) (g 2) (b0 11) v c s := by unfold vstep; rw [if_pos hv]
      rw [ea, ev]
      dsimp only
      refine slot_P hN hs W V R hl hc1 hc2.1 hc2.2 rfl ?_ ?_ ?_
      · dsimp only
        rw [if_neg (fun z => z.2.2 rfl)]
        exact if_pos rfl
      · intro m h
        dsimp only
        rw [if_neg (fun z => nB m h z.1)]
        exact if_neg (olc m h)
      · intro m h1 h2 h3 h4
        exact if_pos (los m h1 h2 h3 h4)
/-- the view of all messages that began ahead of a slot -/
def Wv (g : Nat → Nat) (b0 : Nat → Nat → Nat) (γ : Nat) (O : List Nat) (v0 : Vw) (s : Nat) : Vw := (O.filter (fun m => decide (b0 10 m < s))).foldl (pM g b0 γ) v0
theorem Hd_day (hN : g 5 ≤ 60) {O : List Nat} {v0 : Vw} (hO1 : O.Nodup) (hO2 : ∀ m, m ∈ O ↔ m < g 5) (hO3 : O.Pairwise (fun x y => b0 10 x ≤ b0 10 y)) : ∀ (n s : Nat) (q : (Nat → Nat → Nat) × Nat × Nat), s + n = g 1 → Hd g b0 γ s (Wv g b0 γ O v0 s) q → Hd g b0 γ (g 1) (Wv g b0 γ O v0 (g 1)) (d0N g γ n s q) := by
  intro n
  induction n with
  | zero => intro s q e h
            have e : s = g 1 := by omega
            rw [← e]; exact h
  | succ n ih =>
    intro s q e h
    refine ih (s + 1) (d0s g γ s q) (by omega) ?_
    have e1 : Wv g b0 γ O v0 (s + 1) = (O.filter (fun m => decide (b0 10 m = s))).foldl (pM g b0 γ) (Wv g b0 γ O v0 s) := by
      unfold Wv
      rw [filt_split O hO3, List.foldl_append]
    rw [e1]
    refine Hd_step hN (by omega) h (hO1.filter _) (fun m => ?_)
    rw [List.mem_filter, hO2, decide_eq_true_eq]
theorem day_spec (hN : g 5 ≤ 60) {O : List Nat} {v0 : Vw} (hv0 : v0.1 = NONE) (hO1 : O.Nodup) (hO2 : ∀ m, m ∈ O ↔ m < g 5) (hO3 : O.Pairwise (fun x y => b0 10 x ≤ b0 10 y)) (hbg : ∀ m, m < g 5 → b0 10 m < g 1) : Hd g b0 γ (g 1) (O.foldl (pM g b0 γ) v0) (d0N g γ (g 1) 0 (b0, NONE, NONE)) := by
  have e : Wv g b0 γ O v0 (g 1) = O.foldl (pM g b0 γ) v0 := by
    unfold Wv
    rw [List.filter_eq_self.mpr (fun m hm => decide_eq_true (hbg m ((hO2 m).mp hm)))]
  rw [← e]
  refine Hd_day hN hO1 hO2 hO3 (g 1) 0 (b0, NONE, NONE) (by omega) ?_
  have e0 : Wv g b0 γ O v0 0 = v0 := by
    unfold Wv
    rw [List.filter_eq_nil_iff.mpr (fun m hm => by simp)]
    rfl
  rw [e0]
  have no : ∀ m, ¬ Stt (g 5) (gmM b0) (b0 10) γ 0 m := fun m h => absurd h.2.2 (Nat.not_lt_zero _)
  refine ⟨fun _ _ _ _ _ => rfl, ⟨Or.inl hv0, fun m h => absurd h (no m)⟩, ⟨fun m h => absurd h (no m), fun m h => absurd h (no m), fun t h => absurd h (Nat.not_lt_zero _), fun t h => absurd h (Nat.not_lt_zero _), fun t h => absurd h (Nat.not_lt_zero _)⟩, fun _ => ?_⟩
  have e9 : (if v0.1 ≠ NONE ∧ 0 < (v0.2 v0.1).1 + (v0.2 v0.1).2.1 then v0.1 else NONE) = NONE := if_neg (fun z => z.1 hv0)
  rw [e9]
  exact if_pos rfl
end DY
