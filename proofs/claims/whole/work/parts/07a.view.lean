/-- what a plan knows of one group: its latest message, and for each message first slot, slots, ending -/
abbrev Vw : Type := Nat × (Nat → Nat × Nat × Nat)
def vset (v : Vw) (m : Nat) (t : Nat × Nat × Nat) : Vw := (v.1, fun j => if j = m then t else v.2 j)
def mq (lm w : Nat) : Nat := if 0 < lm ∧ lm < max 1 w then lm else max 1 w
def eo (lm w : Nat) : Nat := if mq lm w < w then 2 else 0
def ptT (T lm : Nat) (wd : Nat → Nat) (m s : Nat) : Nat × Nat × Nat := (s, min (mq lm (wd m)) (T - s), if mq lm (wd m) ≤ T - s then eo lm (wd m) else 4)
def vput (T lm : Nat) (wd : Nat → Nat) (v : Vw) (m s : Nat) : Vw := (m, fun j => if j = m then ptT T lm wd m s else v.2 j)
def vcut (v : Vw) (l s : Nat) : Vw := if s - (v.2 l).1 + 1 < (v.2 l).2.1 then vset v l ((v.2 l).1, s - (v.2 l).1 + 1, 1) else v
abbrev vOn (v : Vw) (m s : Nat) : Prop := (v.2 m).1 ≤ s ∧ s < (v.2 m).1 + (v.2 m).2.1
def vstep (T lm : Nat) (wd rk : Nat → Nat) (v : Vw) (m s : Nat) : Vw :=
  if v.1 = NONE ∨ ¬ vOn v v.1 s then vput T lm wd v m s
  else if rk v.1 < rk m then vput T lm wd (vcut v v.1 s) m (s + 1) else vset v m (s, 0, 3)
def pstep (T lm : Nat) (wd rk bg gm : Nat → Nat) (mt : Nat → Bool) (γ : Nat) (v : Vw) (m : Nat) : Vw :=
  if gm m = γ then (if mt m = true then vset v m (bg m, 0, 3) else vstep T lm wd rk v m (bg m)) else v
abbrev gmA (a : Nat → Nat → Nat) (m : Nat) : Nat := a 18 (a 9 m)
def view (γ : Nat) (a : Nat → Nat → Nat) : Vw := (a 19 γ, fun m => if gmA a m = γ then (a 13 m, a 14 m, a 15 m) else (0, 0, 0))
theorem mq_pos (lm w : Nat) : 0 < mq lm w := by
  unfold mq
  split <;> omega
theorem up2_same (a : Nat → Nat → Nat) (k j v : Nat) : up2 a k j v k = up1 (a k) j v := by unfold up2; rw [if_pos rfl]
theorem up2_ne {a : Nat → Nat → Nat} {k i j v : Nat} (h : i ≠ k) : up2 a k j v i = a i := by unfold up2; rw [if_neg h]
theorem up1_same (f : Nat → Nat) (k v : Nat) : up1 f k v k = v := by unfold up1; rw [if_pos rfl]
theorem up1_ne {f : Nat → Nat} {k j v : Nat} (h : j ≠ k) : up1 f k v j = f j := by unfold up1; rw [if_neg h]
theorem up1_up1 (f : Nat → Nat) (k v w : Nat) : up1 (up1 f k v) k w = up1 f k w := by
  funext j; unfold up1; split <;> rfl
theorem up2_row' {a a' : Nat → Nat → Nat} (h : ∀ k, a k = a' k) : a = a' := funext h
theorem sOn_13 (a : Nat → Nat → Nat) (m x y z : Nat) : sOn a m x y z 13 = up1 (a 13) m x := rfl
theorem sOn_14r (a : Nat → Nat → Nat) (m x y z : Nat) : sOn a m x y z 14 = up1 (a 14) m y := rfl
theorem sOn_15 (a : Nat → Nat → Nat) (m x y z : Nat) : sOn a m x y z 15 = up1 (a 15) m z := rfl
theorem sOn_ne {a : Nat → Nat → Nat} {m x y z k : Nat} (h13 : k ≠ 13) (h14 : k ≠ 14) (h15 : k ≠ 15) : sOn a m x y z k = a k := by
  unfold sOn; rw [up2_ne h15, up2_ne h14, up2_ne h13]
theorem sOn_sOn (a : Nat → Nat → Nat) (m x y z x' y' z' : Nat) : sOn (sOn a m x y z) m x' y' z' = sOn a m x' y' z' := by
  funext k
  by_cases h13 : k = 13
  · subst h13; rw [sOn_13, sOn_13, sOn_13, up1_up1]
  · by_cases h14 : k = 14
    · subst h14; rw [sOn_14r, sOn_14r, sOn_14r, up1_up1]
    · by_cases h15 : k = 15
      · subst h15; rw [sOn_15, sOn_15, sOn_15, up1_up1]
      · rw [sOn_ne h13 h14 h15, sOn_ne h13 h14 h15, sOn_ne h13 h14 h15]
theorem putA_eq (f : Nat → Nat) (a : Nat → Nat → Nat) (m s : Nat) : putA f a m s = sOn (up2 a 19 (gmA a m) m) m s (ptT (f 0) (f 1) (a 11) m s).2.1 (ptT (f 0) (f 1) (a 11) m s).2.2 := by
  unfold putA ptT
  dsimp only
  by_cases h1 : f 1 = 0 ∨ max 1 (a 11 m) ≤ f 1
  · have e1 : mq (f 1) (a 11 m) = max 1 (a 11 m) := by unfold mq; rw [if_neg (by omega)]
    have e2 : eo (f 1) (a 11 m) = 0 := by unfold eo; rw [e1, if_neg (by omega)]
    rw [if_pos h1, e1, e2]
    by_cases h2 : max 1 (a 11 m) ≤ f 0 - s
    · rw [if_pos h2, if_pos h2, Nat.min_eq_left h2]
    · rw [if_neg h2, if_neg h2, sOn_sOn, Nat.min_eq_right (by omega)]
  · have e1 : mq (f 1) (a 11 m) = f 1 := by unfold mq; rw [if_pos (by omega)]
    have e2 : eo (f 1) (a 11 m) = 2 := by unfold eo; rw [e1, if_pos (by omega)]
    rw [if_neg h1, e1, e2]
    by_cases h2 : f 1 ≤ f 0 - s
    · rw [if_pos h2, if_pos h2, Nat.min_eq_left h2]
    · rw [if_neg h2, if_neg h2, sOn_sOn, Nat.min_eq_right (by omega)]
theorem view_eq {γ : Nat} {a : Nat → Nat → Nat} {v : Vw} (h1 : a 19 γ = v.1) (h2 : ∀ m, (if gmA a m = γ then (a 13 m, a 14 m, a 15 m) else (0, 0, 0)) = v.2 m) : view γ a = v := by
  unfold view
  rw [h1]
  exact Prod.ext rfl (funext h2)
theorem view_sOn {γ : Nat} {a : Nat → Nat → Nat} {m x y z : Nat} (h : gmA a m = γ) : view γ (sOn a m x y z) = vset (view γ a) m (x, y, z) := by
  refine view_eq rfl (fun j => ?_)
  show (if gmA a j = γ then (up1 (a 13) m x j, up1 (a 14) m y j, up1 (a 15) m z j) else (0, 0, 0)) = if j = m then (x, y, z) else (if gmA a j = γ then (a 13 j, a 14 j, a 15 j) else (0, 0, 0))
  by_cases hj : j = m
  · subst hj
    rw [if_pos h, if_pos rfl, up1_same, up1_same, up1_same]
  · rw [if_neg hj, up1_ne hj, up1_ne hj, up1_ne hj]
theorem view_sOn' {γ : Nat} {a : Nat → Nat → Nat} {m x y z : Nat} (h : gmA a m ≠ γ) : view γ (sOn a m x y z) = view γ a := by
  refine view_eq rfl (fun j => ?_)
  show (if gmA a j = γ then (up1 (a 13) m x j, up1 (a 14) m y j, up1 (a 15) m z j) else (0, 0, 0)) = (if gmA a j = γ then (a 13 j, a 14 j, a 15 j) else (0, 0, 0))
  by_cases hj : j = m
  · subst hj
    rw [if_neg h, if_neg h]
  · rw [up1_ne hj, up1_ne hj, up1_ne hj]
theorem view_put {γ : Nat} {f : Nat → Nat} {a : Nat → Nat → Nat} {m s : Nat} (h : gmA a m = γ) : view γ (putA f a m s) = vput (f 0) (f 1) (a 11) (view γ a) m s := by
  rw [putA_eq, view_sOn (a := up2 a 19 (gmA a m) m) (m := m) h]
  refine Prod.ext ?_ (funext (fun j => ?_))
  · show up1 (a 19) (gmA a m) m γ = m
    rw [h, up1_same]
  · rfl
theorem view_put' {γ : Nat} {f : Nat → Nat} {a : Nat → Nat → Nat} {m s : Nat} (h : gmA a m ≠ γ) : view γ (putA f a m s) = view γ a := by
  rw [putA_eq, view_sOn' (a := up2 a 19 (gmA a m) m) (m := m) h]
  refine Prod.ext ?_ rfl
  show up1 (a 19) (gmA a m) m γ = a 19 γ
  rw [up1_ne (Ne.symm h)]
theorem view_at {γ : Nat} {a : Nat → Nat → Nat} {m : Nat} (h : gmA a m = γ) : (view γ a).2 m = (a 13 m, a 14 m, a 15 m) := if_pos h
theorem view_cut {γ : Nat} {a : Nat → Nat → Nat} {l s : Nat} (h : gmA a l = γ) : view γ (cutA a l s) = vcut (view γ a) l s := by
  unfold cutA vcut
  rw [view_at h]
  dsimp only
  split
  · exact view_sOn h
  · rfl
theorem view_cut' {γ : Nat} {a : Nat → Nat → Nat} {l s : Nat} (h : gmA a l ≠ γ) : view γ (cutA a l s) = view γ a := by
  unfold cutA
  split
  · exact view_sOn' h
  · rfl
theorem cutA_st (a : Nat → Nat → Nat) (l s k : Nat) (h13 : k ≠ 13) (h14 : k ≠ 14) (h15 : k ≠ 15) : cutA a l s k = a k := by
  unfold cutA
  split
  · exact sOn_ne h13 h14 h15
  · rfl
theorem planA_view {γ : Nat} {f : Nat → Nat} {a : Nat → Nat → Nat} {p : Nat} (h19 : a 19 (gmA a (a 16 p)) = NONE ∨ gmA a (a 19 (gmA a (a 16 p))) = gmA a (a 16 p)) {mt : Nat → Bool} (hmt : mt (a 16 p) = meB f a p) :
    view γ (planA f a p) = pstep (f 0) (f 1) (a 11) (a 12) (a 10) (gmA a) mt γ (view γ a) (a 16 p) := by
  unfold planA planX pstep
  rw [hmt]
  generalize a 16 p = m at h19 ⊢
  by_cases hg : gmA a m = γ
  · rw [if_pos hg]
    by_cases hm : meB f a p = true
    · rw [if_pos hm, if_pos hm]
      exact view_sOn hg
    · rw [if_neg hm, if_neg hm]
      unfold vstep
      have e1 : (view γ a).1 = a 19 (a 18 (a 9 m)) := by show a 19 γ = _; rw [← hg]
      rw [e1]
      by_cases hl : a 19 (a 18 (a 9 m)) = NONE
      · rw [if_pos (Or.inl hl), if_pos (Or.inl hl)]
        exact view_put hg
      · have hgl : gmA a (a 19 (a 18 (a 9 m))) = γ := by
          rcases h19 with h | h
          · exact absurd h hl
          · exact h.trans hg
        have eo : vOn (view γ a) (a 19 (a 18 (a 9 m))) (a 10 m) ↔ onP a (a 19 (a 18 (a 9 m))) (a 10 m) := by
          unfold vOn
          rw [view_at hgl]
        by_cases ho : onP a (a 19 (a 18 (a 9 m))) (a 10 m)
        · have c1 : ¬ (a 19 (a 18 (a 9 m)) = NONE ∨ ¬ onP a (a 19 (a 18 (a 9 m))) (a 10 m)) := fun q => q.elim hl (fun z => z ho)
          have c2 : ¬ (a 19 (a 18 (a 9 m)) = NONE ∨ ¬ vOn (view γ a) (a 19 (a 18 (a 9 m))) (a 10 m)) := fun q => q.elim hl (fun z => z (eo.mpr ho))
          rw [if_neg c1, if_neg c2]
          by_cases hr : a 12 (a 19 (a 18 (a 9 m))) < a 12 m
          · rw [if_pos hr, if_pos hr]
            have s11 : cutA a (a 19 (a 18 (a 9 m))) (a 10 m) 11 = a 11 := cutA_st _ _ _ _ (by decide) (by decide) (by decide)
            have s18 : cutA a (a 19 (a 18 (a 9 m))) (a 10 m) 18 = a 18 := cutA_st _ _ _ _ (by decide) (by decide) (by decide)
            have s9 : cutA a (a 19 (a 18 (a 9 m))) (a 10 m) 9 = a 9 := cutA_st _ _ _ _ (by decide) (by decide) (by decide)
            have hg2 : gmA (cutA a (a 19 (a 18 (a 9 m))) (a 10 m)) m = γ := by unfold gmA; rw [s18, s9]; exact hg
            rw [view_put hg2, view_cut hgl, s11]
          · rw [if_neg hr, if_neg hr]
            exact view_sOn hg
        · rw [if_pos (Or.inr ho), if_pos (Or.inr (fun q => ho (eo.mp q)))]
          exact view_put hg
  · rw [if_neg hg]
    by_cases hm : meB f a p = true
    · rw [if_pos hm]
      exact view_sOn' hg
    · rw [if_neg hm]
      by_cases hl : a 19 (a 18 (a 9 m)) = NONE ∨ ¬ onP a (a 19 (a 18 (a 9 m))) (a 10 m)
      · rw [if_pos hl]
        exact view_put' hg
      · rw [if_neg hl]
        by_cases hr : a 12 (a 19 (a 18 (a 9 m))) < a 12 m
        · rw [if_pos hr]
          have s18 : cutA a (a 19 (a 18 (a 9 m))) (a 10 m) 18 = a 18 := cutA_st _ _ _ _ (by decide) (by decide) (by decide)
          have s9 : cutA a (a 19 (a 18 (a 9 m))) (a 10 m) 9 = a 9 := cutA_st _ _ _ _ (by decide) (by decide) (by decide)
          have hg2 : gmA (cutA a (a 19 (a 18 (a 9 m))) (a 10 m)) m ≠ γ := by unfold gmA; rw [s18, s9]; exact hg
          have hgl : gmA a (a 19 (a 18 (a 9 m))) ≠ γ := by
            rcases h19 with h | h
            · exact absurd (Or.inl h) hl
            · rw [h]; exact hg
          rw [view_put' hg2, view_cut' hgl]
        · rw [if_neg hr]
          exact view_sOn' hg
