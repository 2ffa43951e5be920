/-- one call of the script: from its place in the law to the loop's end, both states in step -/
def StpR (L : Nat) (xs : Nat → Int32) (i P : Nat) (f : Nat → Nat) (a : Nat → Nat → Nat) (g : Nat → Nat) (b : Nat → Nat → Nat) (o : Nat → Int64) : Prop :=
  ∃ (f1 : Nat → Nat) (a1 : Nat → Nat → Nat) (g1 : Nat → Nat) (b1 : Nat → Nat → Nat) (o1 : Nat → Int64) (mc ms : Nat), Rel f1 a1 g1 b1 ∧ mc ≤ 1 ∧ ms ≤ 6 ∧ ∀ (G9 : k_G) (nc ns : Nat), nc + mc ≤ G9.2.2.1 → ns + ms ≤ G9.2.2.2 →
    k_W Y4_law (some (L, xs)) G9 (1158, ls0 i, [], hA (cF f1) (cA a1) (cF g1) (cA b1) o1, nc + mc, ns + ms) → k_W Y4_law (some (L, xs)) G9 (P, ls0 i, [], hA (cF f) (cA a) (cF g) (cA b) o, nc, ns)
theorem updL0 (o : Nat → Int64) (v : Int64) : vp_updL o 0 v 0 = v := by
  unfold vp_updL
  simp
section SP
variable {L : Nat} {xs : Nat → Int32} {i : Nat} {f g : Nat → Nat} {a b : Nat → Nat → Nat} {o : Nat → Int64}
theorem st_day (R : Rel f a g b) (hi : i + 4 < L) (hL : L ≤ 2560) : StpR L xs i 112 f a g b o := by
  have I := R.1
  have D := R.2.1
  obtain ⟨e0, e1, e2, e3, e4⟩ := R.2.2.2.2.1
  have f0 := I.2.2.2.2.2.2.2.1
  have f2 := I.2.2.2.2.2.2.2.2.2.2.2.2.1
  have f3 := I.2.2.2.2.2.2.2.2.2.2.2.2.2.1
  have f4 := I.2.2.2.2.2.2.2.2.2.1
  by_cases hb : nI 1000 < xs (i + 1)
  · have hb2 : ¬ xs (i + 1) ≤ nI 1000 := Int32.not_le.mpr hb
    exact ⟨f, a, up1 g 0 1, b, o, 1, 6, Rel_g0 R, by decide, by decide, fun G9 nc ns h1 h2 nx => lc_day (k := 1) hi hL (h4_day_ex1 (m2_day_big hb2)) (m3_day_big hb) rfl (by decide) h1 h2 nx⟩
  · have hb2 : xs (i + 1) ≤ nI 1000 := Int32.not_lt.mp hb
    by_cases hn : xs (i + 1) < 0
    · skip
      exact ⟨f, a, up1 g 0 2, b, o, 1, 6, Rel_g0 R, by decide, by decide, fun G9 nc ns h1 h2 nx => lc_day (k := 2) hi hL (h4_day_ex2 (m2_day_neg hb2 hn)) (m3_day_neg hb hn) rfl (by decide) h1 h2 nx⟩
    · obtain ⟨n, hn, e⟩ := inR_of (n := 1001) (by omega) ⟨hn, (lt_suc (n := 1000) (by omega)).mp hb⟩
      have H : k_Met Y4_day [.ref 0, .int (xs (i + 1))] (hA (cF f) (cA a) (cF g) (cA b) o) (.inl (some (.int (nI 0))), hA (cF (up1 (fgF f) 0 n)) (cA (fgA a)) (cF g) (cA b) o, 0, 0) := by rw [e]; exact h4_day_ok (m2_day_ok (by omega))
      have M : k_Met Y3_day [.ref 24, .int (xs (i + 1))] (hA (cF (up1 (fgF f) 0 n)) (cA (fgA a)) (cF g) (cA b) o) (.inl none, hA (cF (up1 (fgF f) 0 n)) (cA (fgA a)) (cF (dyG g n)) (cA (dyB b)) o, 0, 0) := by rw [e]; exact m3_day_ok (by omega)
      exact ⟨(up1 (fgF f) 0 n), (fgA a), (dyG g n), (dyB b), o, 0, 0, Rel_newday R (by omega), by decide, by decide, fun G9 nc ns h1 h2 nx => lc_day (k := 0) hi hL H M rfl (by decide) h1 h2 nx⟩
theorem st_unit (R : Rel f a g b) (hi : i + 4 < L) (hL : L ≤ 2560) : StpR L xs i 148 f a g b o := by
  have I := R.1
  have D := R.2.1
  obtain ⟨e0, e1, e2, e3, e4⟩ := R.2.2.2.2.1
  have f0 := I.2.2.2.2.2.2.2.1
  have f2 := I.2.2.2.2.2.2.2.2.2.2.2.2.1
  have f3 := I.2.2.2.2.2.2.2.2.2.2.2.2.2.1
  have f4 := I.2.2.2.2.2.2.2.2.2.1
  by_cases hp : inR (xs (i + 1)) 10000 ∧ inR (xs (i + 2)) 10000 ∧ inR (xs (i + 3)) 10000 ∧ inR (xs (i + 4)) 6
  · by_cases hf : 20 ≤ f 2
    · skip
      exact ⟨f, a, up1 g 0 2, b, o, 1, 6, Rel_g0 R, by decide, by decide, fun G9 nc ns h1 h2 nx => lc_unit (r := 0) (k := 2) hi hL (h4_unit_ex2 (m2_unit_full (by omega) hp hf)) (m3_unit_full (by omega) hp (by omega)) rfl (by decide) (fun q => absurd q (by decide)) h1 h2 nx⟩
    · obtain ⟨n1, hn1, x1⟩ := inR_of (n := 10000) (by omega) hp.1
      obtain ⟨n2, hn2, x2⟩ := inR_of (n := 10000) (by omega) hp.2.1
      obtain ⟨n3, hn3, x3⟩ := inR_of (n := 10000) (by omega) hp.2.2.1
      obtain ⟨n4, hn4, x4⟩ := inR_of (n := 6) (by omega) hp.2.2.2
      have H : k_Met Y4_unit [.ref 0, .int (xs (i + 1)), .int (xs (i + 2)), .int (xs (i + 3)), .int (xs (i + 4)), .ref 44] (hA (cF f) (cA a) (cF g) (cA b) o) (.inl (some (.int (nI 0))), hA (cF (up1 f 2 (f 2 + 1))) (cA (mvU (up2 a 2 (f 2) n3) (f 2) n1 n2 n4)) (cF g) (cA b) (vp_updL o 0 (nI (f 2)).toInt64), 0, 0) := by rw [x1, x2, x3, x4]; exact h4_unit_ok (m2_unit_ok hn1 hn2 hn3 hn4 (by omega))
      have M : k_Met Y3_unit [.ref 24, .int (xs (i + 1)), .int (xs (i + 2)), .int (xs (i + 3)), .int (xs (i + 4))] (hA (cF (up1 f 2 (f 2 + 1))) (cA (mvU (up2 a 2 (f 2) n3) (f 2) n1 n2 n4)) (cF g) (cA b) (vp_updL o 0 (nI (f 2)).toInt64)) (.inl (some (.int (nI (g 3)))), hA (cF (up1 f 2 (f 2 + 1))) (cA (mvU (up2 a 2 (f 2) n3) (f 2) n1 n2 n4)) (cF (up1 (up1 g 0 0) 3 (g 3 + 1))) (cA (adunit b (g 3) n1 n2 n3 n4)) (vp_updL o 0 (nI (f 2)).toInt64), 0, 0) := by rw [x1, x2, x3, x4]; exact m3_unit_ok hn1 hn2 hn3 hn4 (by omega)
      exact ⟨(up1 f 2 (f 2 + 1)), (mvU (up2 a 2 (f 2) n3) (f 2) n1 n2 n4), (up1 (up1 g 0 0) 3 (g 3 + 1)), (adunit b (g 3) n1 n2 n3 n4), (vp_updL o 0 (nI (f 2)).toInt64), 0, 0, Rel_unit R hn1 hn2 hn3 hn4 (by omega), by decide, by decide, fun G9 nc ns h1 h2 nx => lc_unit (k := 0) hi hL H M rfl (by decide) (fun _ => by rw [updL0, e2]) h1 h2 nx⟩
  · skip
    exact ⟨f, a, up1 g 0 1, b, o, 1, 6, Rel_g0 R, by decide, by decide, fun G9 nc ns h1 h2 nx => lc_unit (r := 0) (k := 1) hi hL (h4_unit_ex1 (m2_unit_bad hp)) (m3_unit_bad (by omega) hp) rfl (by decide) (fun q => absurd q (by decide)) h1 h2 nx⟩
theorem st_repeater (R : Rel f a g b) (hi : i + 4 < L) (hL : L ≤ 2560) : StpR L xs i 312 f a g b o := by
  have I := R.1
  have D := R.2.1
  obtain ⟨e0, e1, e2, e3, e4⟩ := R.2.2.2.2.1
  have f0 := I.2.2.2.2.2.2.2.1
  have f2 := I.2.2.2.2.2.2.2.2.2.2.2.2.1
  have f3 := I.2.2.2.2.2.2.2.2.2.2.2.2.2.1
  have f4 := I.2.2.2.2.2.2.2.2.2.1
  by_cases hp : inR (xs (i + 1)) 10000 ∧ inR (xs (i + 2)) 10000 ∧ inR (xs (i + 3)) 10000 ∧ inR (xs (i + 4)) 6
  · by_cases hf : 8 ≤ f 3
    · skip
      exact ⟨f, a, up1 g 0 2, b, o, 1, 6, Rel_g0 R, by decide, by decide, fun G9 nc ns h1 h2 nx => lc_repeater (r := 0) (k := 2) hi hL (h4_repeater_ex2 (m2_repeater_full (by omega) hp hf)) (m3_repeater_full (by omega) hp (by omega)) rfl (by decide) (fun q => absurd q (by decide)) h1 h2 nx⟩
    · obtain ⟨n1, hn1, x1⟩ := inR_of (n := 10000) (by omega) hp.1
      obtain ⟨n2, hn2, x2⟩ := inR_of (n := 10000) (by omega) hp.2.1
      obtain ⟨n3, hn3, x3⟩ := inR_of (n := 10000) (by omega) hp.2.2.1
      obtain ⟨n4, hn4, x4⟩ := inR_of (n := 6) (by omega) hp.2.2.2
      have H : k_Met Y4_repeater [.ref 0, .int (xs (i + 1)), .int (xs (i + 2)), .int (xs (i + 3)), .int (xs (i + 4)), .ref 44] (hA (cF f) (cA a) (cF g) (cA b) o) (.inl (some (.int (nI 0))), hA (cF (up1 f 3 (f 3 + 1))) (cA (mvR (up2 a 6 (f 3) n3) (f 3) n1 n2 n4)) (cF g) (cA b) (vp_updL o 0 (nI (f 3)).toInt64), 0, 0) := by rw [x1, x2, x3, x4]; exact h4_repeater_ok (m2_repeater_ok hn1 hn2 hn3 hn4 (by omega))
      have M : k_Met Y3_repeater [.ref 24, .int (xs (i + 1)), .int (xs (i + 2)), .int (xs (i + 3)), .int (xs (i + 4))] (hA (cF (up1 f 3 (f 3 + 1))) (cA (mvR (up2 a 6 (f 3) n3) (f 3) n1 n2 n4)) (cF g) (cA b) (vp_updL o 0 (nI (f 3)).toInt64)) (.inl (some (.int (nI (g 4)))), hA (cF (up1 f 3 (f 3 + 1))) (cA (mvR (up2 a 6 (f 3) n3) (f 3) n1 n2 n4)) (cF (up1 (up1 g 0 0) 4 (g 4 + 1))) (cA (adrepeater b (g 4) n1 n2 n3 n4)) (vp_updL o 0 (nI (f 3)).toInt64), 0, 0) := by rw [x1, x2, x3, x4]; exact m3_repeater_ok hn1 hn2 hn3 hn4 (by omega)
      exact ⟨(up1 f 3 (f 3 + 1)), (mvR (up2 a 6 (f 3) n3) (f 3) n1 n2 n4), (up1 (up1 g 0 0) 4 (g 4 + 1)), (adrepeater b (g 4) n1 n2 n3 n4), (vp_updL o 0 (nI (f 3)).toInt64), 0, 0, Rel_repeater R hn1 hn2 hn3 hn4 (by omega), by decide, by decide, fun G9 nc ns h1 h2 nx => lc_repeater (k := 0) hi hL H M rfl (by decide) (fun _ => by rw [updL0, e3]) h1 h2 nx⟩
  · skip
    exact ⟨f, a, up1 g 0 1, b, o, 1, 6, Rel_g0 R, by decide, by decide, fun G9 nc ns h1 h2 nx => lc_repeater (r := 0) (k := 1) hi hL (h4_repeater_ex1 (m2_repeater_bad hp)) (m3_repeater_bad (by omega) hp) rfl (by decide) (fun q => absurd q (by decide)) h1 h2 nx⟩
theorem st_go (R : Rel f a g b) (hi : i + 4 < L) (hL : L ≤ 2560) : StpR L xs i 240 f a g b o := by
  have I := R.1
  have D := R.2.1
  obtain ⟨e0, e1, e2, e3, e4⟩ := R.2.2.2.2.1
  have f0 := I.2.2.2.2.2.2.2.1
  have f2 := I.2.2.2.2.2.2.2.2.2.2.2.2.1
  have f3 := I.2.2.2.2.2.2.2.2.2.2.2.2.2.1
  have f4 := I.2.2.2.2.2.2.2.2.2.1
  by_cases hu : inR (xs (i + 1)) (f 2)
  · have hu2 : inR (xs (i + 1)) (g 3) := e2 ▸ hu
    by_cases hp : inR (xs (i + 2)) 10000 ∧ inR (xs (i + 3)) 10000 ∧ inR (xs (i + 4)) 6
    · obtain ⟨u, hu3, x1⟩ := inR_of (n := f 2) (by omega) hu
      obtain ⟨n2, hn2, x2⟩ := inR_of (n := 10000) (by omega) hp.1
      obtain ⟨n3, hn3, x3⟩ := inR_of (n := 10000) (by omega) hp.2.1
      obtain ⟨n4, hn4, x4⟩ := inR_of (n := 6) (by omega) hp.2.2
      have H : k_Met Y4_go [.ref 0, .int (xs (i + 1)), .int (xs (i + 2)), .int (xs (i + 3)), .int (xs (i + 4))] (hA (cF f) (cA a) (cF g) (cA b) o) (.inl (some (.int (nI 0))), hA (cF f) (cA (mvU a u n2 n3 n4)) (cF g) (cA b) o, 0, 0) := by rw [x1, x2, x3, x4]; exact h4_go_ok (m2_go_ok f2 hu3 hn2 hn3 hn4)
      have M : k_Met Y3_go [.ref 24, .int (xs (i + 1)), .int (xs (i + 2)), .int (xs (i + 3)), .int (xs (i + 4))] (hA (cF f) (cA (mvU a u n2 n3 n4)) (cF g) (cA b) o) (.inl none, hA (cF f) (cA (mvU a u n2 n3 n4)) (cF (up1 g 0 0)) (cA (goB b u n2 n3 n4)) o, 0, 0) := by rw [x1, x2, x3, x4]; exact m3_go_ok (by omega) (by omega) hn2 hn3 hn4
      exact ⟨f, (mvU a u n2 n3 n4), (up1 g 0 0), (goB b u n2 n3 n4), o, 0, 0, Rel_go R hn2 hn3 hn4, by decide, by decide, fun G9 nc ns h1 h2 nx => lc_go (k := 0) hi hL H M rfl (by decide) h1 h2 nx⟩
    · skip
      exact ⟨f, a, up1 g 0 2, b, o, 1, 6, Rel_g0 R, by decide, by decide, fun G9 nc ns h1 h2 nx => lc_go (k := 2) hi hL (h4_go_ex2 (m2_go_bad hu hp)) (m3_go_bad (by omega) hu2 hp) rfl (by decide) h1 h2 nx⟩
  · have hu2 : ¬ inR (xs (i + 1)) (g 3) := e2 ▸ hu
    exact ⟨f, a, up1 g 0 1, b, o, 1, 6, Rel_g0 R, by decide, by decide, fun G9 nc ns h1 h2 nx => lc_go (k := 1) hi hL (h4_go_ex1 (m2_go_unk hu)) (m3_go_unk (by omega) hu2) rfl (by decide) h1 h2 nx⟩
theorem st_patch (R : Rel f a g b) (hi : i + 4 < L) (hL : L ≤ 2560) : StpR L xs i 404 f a g b o := by
  have I := R.1
  have D := R.2.1
  obtain ⟨e0, e1, e2, e3, e4⟩ := R.2.2.2.2.1
  have f0 := I.2.2.2.2.2.2.2.1
  have f2 := I.2.2.2.2.2.2.2.2.2.2.2.2.1
  have f3 := I.2.2.2.2.2.2.2.2.2.2.2.2.2.1
  have f4 := I.2.2.2.2.2.2.2.2.2.1
  have A18 : a 18 = b 0 := R.2.2.2.2.2.1
  by_cases hp : inR (xs (i + 1)) 6 ∧ inR (xs (i + 2)) 6
  · obtain ⟨p, hp1, x1⟩ := inR_of (n := 6) (by omega) hp.1
    obtain ⟨q, hq1, x2⟩ := inR_of (n := 6) (by omega) hp.2
    by_cases hj : a 18 p = a 18 q
    · skip
      have H : k_Met Y4_patch [.ref 0, .int (xs (i + 1)), .int (xs (i + 2)), .ref 44] (hA (cF f) (cA a) (cF g) (cA b) o) (.inl (some (.int (nI 0))), hA (cF f) (cA a) (cF g) (cA b) (vp_updL o 0 (lN 0)), 0, 0) := by rw [x1, x2]; exact h4_patch_ok0 (m2_patch_no I hp1 hq1 hj)
      have M : k_Met Y3_patch [.ref 24, .int (xs (i + 1)), .int (xs (i + 2))] (hA (cF f) (cA a) (cF g) (cA b) (vp_updL o 0 (lN 0))) (.inl (some (.int (bB false))), hA (cF f) (cA a) (cF (up1 g 0 0)) (cA b) (vp_updL o 0 (lN 0)), 0, 0) := by rw [x1, x2]; exact m3_patch_no D.1.1 hp1 hq1 (by rw [← A18]; exact hj)
      exact ⟨f, a, (up1 g 0 0), b, (vp_updL o 0 (lN 0)), 0, 0, Rel_g0 R, by decide, by decide, fun G9 nc ns h1 h2 nx => lc_patch (k := 0) hi hL H M rfl (by decide) (fun _ => updL0 _ _) h1 h2 nx⟩
    · skip
      have H : k_Met Y4_patch [.ref 0, .int (xs (i + 1)), .int (xs (i + 2)), .ref 44] (hA (cF f) (cA a) (cF g) (cA b) o) (.inl (some (.int (nI 0))), hA (cF f) (cA (plan0 f (joinA a p q))) (cF g) (cA b) (vp_updL o 0 (lN 1)), 0, 0) := by rw [x1, x2]; exact h4_patch_ok1 (m2_patch_ok I hp1 hq1 hj)
      have M : k_Met Y3_patch [.ref 24, .int (xs (i + 1)), .int (xs (i + 2))] (hA (cF f) (cA (plan0 f (joinA a p q))) (cF g) (cA b) (vp_updL o 0 (lN 1))) (.inl (some (.int (bB true))), hA (cF f) (cA (plan0 f (joinA a p q))) (cF (up1 g 0 0)) (cA (rowA b 0 (jnR (b 0) (b 0 p) (b 0 q) 6))) (vp_updL o 0 (lN 1)), 0, 0) := by rw [x1, x2]; exact m3_patch_ok D.1.1 hp1 hq1 (by rw [← A18]; exact hj)
      exact ⟨f, (plan0 f (joinA a p q)), (up1 g 0 0), (rowA b 0 (jnR (b 0) (b 0 p) (b 0 q) 6)), (vp_updL o 0 (lN 1)), 0, 0, Rel_patch R p q, by decide, by decide, fun G9 nc ns h1 h2 nx => lc_patch (k := 0) hi hL H M rfl (by decide) (fun _ => updL0 _ _) h1 h2 nx⟩
  · skip
    exact ⟨f, a, up1 g 0 1, b, o, 1, 6, Rel_g0 R, by decide, by decide, fun G9 nc ns h1 h2 nx => lc_patch (v := false) (k := 1) hi hL (h4_patch_ex1 (m2_patch_bad hp)) (m3_patch_bad hp) rfl (by decide) (fun q => absurd q (by decide)) h1 h2 nx⟩
theorem st_limit (R : Rel f a g b) (hi : i + 4 < L) (hL : L ≤ 2560) : StpR L xs i 479 f a g b o := by
  have I := R.1
  have D := R.2.1
  obtain ⟨e0, e1, e2, e3, e4⟩ := R.2.2.2.2.1
  have f0 := I.2.2.2.2.2.2.2.1
  have f2 := I.2.2.2.2.2.2.2.2.2.2.2.2.1
  have f3 := I.2.2.2.2.2.2.2.2.2.2.2.2.2.1
  have f4 := I.2.2.2.2.2.2.2.2.2.1
  by_cases hp : inR (xs (i + 1)) 1001
  · obtain ⟨n, hn, x1⟩ := inR_of (n := 1001) (by omega) hp
    have H : k_Met Y4_limit [.ref 0, .int (xs (i + 1))] (hA (cF f) (cA a) (cF g) (cA b) o) (.inl (some (.int (nI 0))), hA (cF (up1 f 1 n)) (cA (plan0 (up1 f 1 n) a)) (cF g) (cA b) o, 0, 0) := by rw [x1]; exact h4_limit_ok (m2_limit_ok I (by omega))
    have M : k_Met Y3_limit [.ref 24, .int (xs (i + 1))] (hA (cF (up1 f 1 n)) (cA (plan0 (up1 f 1 n) a)) (cF g) (cA b) o) (.inl none, hA (cF (up1 f 1 n)) (cA (plan0 (up1 f 1 n) a)) (cF (up1 (up1 g 0 0) 2 n)) (cA b) o, 0, 0) := by rw [x1]; exact m3_limit_ok (by omega)
    exact ⟨(up1 f 1 n), (plan0 (up1 f 1 n) a), (up1 (up1 g 0 0) 2 n), b, o, 0, 0, Rel_limit R (by omega), by decide, by decide, fun G9 nc ns h1 h2 nx => lc_limit (k := 0) hi hL H M rfl (by decide) h1 h2 nx⟩
  · skip
    exact ⟨f, a, up1 g 0 1, b, o, 1, 6, Rel_g0 R, by decide, by decide, fun G9 nc ns h1 h2 nx => lc_limit (k := 1) hi hL (h4_limit_ex1 (m2_limit_bad hp)) (m3_limit_bad hp) rfl (by decide) h1 h2 nx⟩
theorem st_lose (R : Rel f a g b) (hi : i + 4 < L) (hL : L ≤ 2560) : StpR L xs i 699 f a g b o := by
  have I := R.1
  have D := R.2.1
  obtain ⟨e0, e1, e2, e3, e4⟩ := R.2.2.2.2.1
  have f0 := I.2.2.2.2.2.2.2.1
  have f2 := I.2.2.2.2.2.2.2.2.2.2.2.2.1
  have f3 := I.2.2.2.2.2.2.2.2.2.2.2.2.2.1
  have f4 := I.2.2.2.2.2.2.2.2.2.1
  have A17 : a 17 = b 14 := R.2.2.2.2.2.2.2.2.2.2.2.2.2.2.2.2.2.2.2
  by_cases hp : inR (xs (i + 1)) (f 0)
  · obtain ⟨s, hs, x1⟩ := inR_of (n := f 0) (by omega) hp
    have h17 := I.2.2.2.2.2.2.2.2.2.2.2.2.2.2.2.2 s
    have hb := fun (o2 : Nat → Int64) => m3_lose_ok (g := g) (b := b) (o := o2) (F := cF f) (A := cA (up2 a 17 s (1 - a 17 s))) (s := s) (by omega) (by omega) (by rw [← A17]; exact h17)
    have hc := m2_lose_ok (G := cF g) (B := cA b) (o := o) I hs
    have er : 1 - b 14 s = 1 - a 17 s := by rw [A17]
    rw [er] at hb
    have hR := Rel_lose R (s := s) (v := 1 - a 17 s) (by omega)
    by_cases hz : a 17 s = 0
    · have ev : 1 - a 17 s = 1 := by omega
      rw [ev] at hb hc hR
      have H : k_Met Y4_lose [.ref 0, .int (xs (i + 1)), .ref 44] (hA (cF f) (cA a) (cF g) (cA b) o) (.inl (some (.int (nI 0))), hA (cF f) (cA (up2 a 17 s 1)) (cF g) (cA b) (vp_updL o 0 (lN 1)), 0, 0) := by rw [x1]; exact h4_lose_ok1 hc
      have M : k_Met Y3_lose [.ref 24, .int (xs (i + 1))] (hA (cF f) (cA (up2 a 17 s 1)) (cF g) (cA b) (vp_updL o 0 (lN 1))) (.inl (some (.int (bB true))), hA (cF f) (cA (up2 a 17 s 1)) (cF (up1 g 0 0)) (cA (up2 b 14 s 1)) (vp_updL o 0 (lN 1)), 0, 0) := by rw [x1]; exact hb _
      exact ⟨f, (up2 a 17 s 1), (up1 g 0 0), (up2 b 14 s 1), (vp_updL o 0 (lN 1)), 0, 0, hR, by decide, by decide, fun G9 nc ns h1 h2 nx => lc_lose (k := 0) hi hL H M rfl (by decide) (fun _ => updL0 _ _) h1 h2 nx⟩
    · have ev : 1 - a 17 s = 0 := by omega
      rw [ev] at hb hc hR
      have H : k_Met Y4_lose [.ref 0, .int (xs (i + 1)), .ref 44] (hA (cF f) (cA a) (cF g) (cA b) o) (.inl (some (.int (nI 0))), hA (cF f) (cA (up2 a 17 s 0)) (cF g) (cA b) (vp_updL o 0 (lN 0)), 0, 0) := by rw [x1]; exact h4_lose_ok0 hc
      have M : k_Met Y3_lose [.ref 24, .int (xs (i + 1))] (hA (cF f) (cA (up2 a 17 s 0)) (cF g) (cA b) (vp_updL o 0 (lN 0))) (.inl (some (.int (bB false))), hA (cF f) (cA (up2 a 17 s 0)) (cF (up1 g 0 0)) (cA (up2 b 14 s 0)) (vp_updL o 0 (lN 0)), 0, 0) := by rw [x1]; exact hb _
      exact ⟨f, (up2 a 17 s 0), (up1 g 0 0), (up2 b 14 s 0), (vp_updL o 0 (lN 0)), 0, 0, hR, by decide, by decide, fun G9 nc ns h1 h2 nx => lc_lose (k := 0) hi hL H M rfl (by decide) (fun _ => updL0 _ _) h1 h2 nx⟩
  · have hp2 : ¬ inR (xs (i + 1)) (g 1) := e0 ▸ hp
    exact ⟨f, a, up1 g 0 1, b, o, 1, 6, Rel_g0 R, by decide, by decide, fun G9 nc ns h1 h2 nx => lc_lose (v := false) (k := 1) hi hL (h4_lose_ex1 (m2_lose_bad hp)) (m3_lose_bad (by omega) hp2) rfl (by decide) (fun q => absurd q (by decide)) h1 h2 nx⟩
theorem st_hears (R : Rel f a g b) (hi : i + 4 < L) (hL : L ≤ 2560) : StpR L xs i 762 f a g b o := by
  have I := R.1
  have D := R.2.1
  obtain ⟨e0, e1, e2, e3, e4⟩ := R.2.2.2.2.1
  have f0 := I.2.2.2.2.2.2.2.1
  have f2 := I.2.2.2.2.2.2.2.2.2.2.2.2.1
  have f3 := I.2.2.2.2.2.2.2.2.2.2.2.2.2.1
  have f4 := I.2.2.2.2.2.2.2.2.2.1
  by_cases hu : inR (xs (i + 1)) (f 2)
  · have hu2 : inR (xs (i + 1)) (g 3) := e2 ▸ hu
    by_cases hp : inR (xs (i + 2)) (f 0)
    · obtain ⟨u, hu3, x1⟩ := inR_of (n := f 2) (by omega) hu
      obtain ⟨s, hs, x2⟩ := inR_of (n := f 0) (by omega) hp
      have R0 := Rel_g0 (t := 0) R
      have hq := hears_eq R0 (u := u) hs
      have R1 := Rel_day R0 (γ := b 0 (b 4 u)) (D.1.1 _)
      have H : k_Met Y4_hears [.ref 0, .int (xs (i + 1)), .int (xs (i + 2)), .ref 44] (hA (cF f) (cA a) (cF g) (cA b) o) (.inl (some (.int (nI 0))), hA (cF f) (cA a) (cF g) (cA b) (vp_updL o 0 (nI (hrN f a u s)).toInt64), 0, 0) := by rw [x1, x2]; exact h4_hears_ok (m2_hears_ok I hu3 hs)
      have M : k_Met Y3_hears [.ref 24, .int (xs (i + 1)), .int (xs (i + 2))] (hA (cF f) (cA a) (cF g) (cA b) (vp_updL o 0 (nI (hrN f a u s)).toInt64)) (.inl (some (.int (nI (hrM (up1 g 0 0) (day0B (up1 g 0 0) b (b 0 (b 4 u))) u s)))), hA (cF f) (cA a) (cF (up1 g 0 0)) (cA (day0B (up1 g 0 0) b (b 0 (b 4 u)))) (vp_updL o 0 (nI (hrN f a u s)).toInt64), 0, 0) := by rw [x1, x2]; exact m3_hears_ok D (by omega) (by omega)
      exact ⟨f, a, (up1 g 0 0), (day0B (up1 g 0 0) b (b 0 (b 4 u))), (vp_updL o 0 (nI (hrN f a u s)).toInt64), 0, 0, R1, by decide, by decide, fun G9 nc ns h1 h2 nx => lc_hears (k := 0) hi hL H M rfl (by decide) (fun _ => by rw [updL0, hq]) h1 h2 nx⟩
    · have hp2 : ¬ inR (xs (i + 2)) (g 1) := e0 ▸ hp
      exact ⟨f, a, up1 g 0 2, b, o, 1, 6, Rel_g0 R, by decide, by decide, fun G9 nc ns h1 h2 nx => lc_hears (r := 0) (k := 2) hi hL (h4_hears_ex2 (m2_hears_bad hu hp)) (m3_hears_bad D.1 hu2 hp2) rfl (by decide) (fun q => absurd q (by decide)) h1 h2 nx⟩
  · have hu2 : ¬ inR (xs (i + 1)) (g 3) := e2 ▸ hu
    exact ⟨f, a, up1 g 0 1, b, o, 1, 6, Rel_g0 R, by decide, by decide, fun G9 nc ns h1 h2 nx => lc_hears (r := 0) (k := 1) hi hL (h4_hears_ex1 (m2_hears_unk hu)) (m3_hears_unk D.1 hu2) rfl (by decide) (fun q => absurd q (by decide)) h1 h2 nx⟩
theorem st_on (R : Rel f a g b) (hi : i + 4 < L) (hL : L ≤ 2560) : StpR L xs i 830 f a g b o := by
  have I := R.1
  have D := R.2.1
  obtain ⟨e0, e1, e2, e3, e4⟩ := R.2.2.2.2.1
  have f0 := I.2.2.2.2.2.2.2.1
  have f2 := I.2.2.2.2.2.2.2.2.2.2.2.2.1
  have f3 := I.2.2.2.2.2.2.2.2.2.2.2.2.2.1
  have f4 := I.2.2.2.2.2.2.2.2.2.1
  by_cases hu : inR (xs (i + 1)) 6
  · by_cases hp : inR (xs (i + 2)) (f 0)
    · obtain ⟨c, hc, x1⟩ := inR_of (n := 6) (by omega) hu
      obtain ⟨s, hs, x2⟩ := inR_of (n := f 0) (by omega) hp
      have R0 := Rel_g0 (t := 0) R
      have hq := on_eq R0 (c := c) hs
      have R1 := Rel_day R0 (γ := b 0 c) (D.1.1 _)
      have H : k_Met Y4_on [.ref 0, .int (xs (i + 1)), .int (xs (i + 2)), .ref 44] (hA (cF f) (cA a) (cF g) (cA b) o) (.inl (some (.int (nI 0))), hA (cF f) (cA a) (cF g) (cA b) (vp_updL o 0 (nI (msOn f a c s)).toInt64), 0, 0) := by rw [x1, x2]; exact h4_on_ok (m2_on_ok I hc hs)
      have M : k_Met Y3_on [.ref 24, .int (xs (i + 1)), .int (xs (i + 2))] (hA (cF f) (cA a) (cF g) (cA b) (vp_updL o 0 (nI (msOn f a c s)).toInt64)) (.inl (some (.int (nI (day0B (up1 g 0 0) b (b 0 c) 15 s)))), hA (cF f) (cA a) (cF (up1 g 0 0)) (cA (day0B (up1 g 0 0) b (b 0 c))) (vp_updL o 0 (nI (msOn f a c s)).toInt64), 0, 0) := by rw [x1, x2]; exact m3_on_ok D hc (by omega)
      exact ⟨f, a, (up1 g 0 0), (day0B (up1 g 0 0) b (b 0 c)), (vp_updL o 0 (nI (msOn f a c s)).toInt64), 0, 0, R1, by decide, by decide, fun G9 nc ns h1 h2 nx => lc_on (k := 0) hi hL H M rfl (by decide) (fun _ => by rw [updL0, hq]) h1 h2 nx⟩
    · have hp2 : ¬ inR (xs (i + 2)) (g 1) := e0 ▸ hp
      exact ⟨f, a, up1 g 0 2, b, o, 1, 6, Rel_g0 R, by decide, by decide, fun G9 nc ns h1 h2 nx => lc_on (r := 0) (k := 2) hi hL (h4_on_ex2 (m2_on_bad hu hp)) (m3_on_bad D.1 hu hp2) rfl (by decide) (fun q => absurd q (by decide)) h1 h2 nx⟩
  · skip
    exact ⟨f, a, up1 g 0 1, b, o, 1, 6, Rel_g0 R, by decide, by decide, fun G9 nc ns h1 h2 nx => lc_on (r := 0) (k := 1) hi hL (h4_on_ex1 (m2_on_unk hu)) (m3_on_unk D.1 hu) rfl (by decide) (fun q => absurd q (by decide)) h1 h2 nx⟩
theorem st_ended (R : Rel f a g b) (hi : i + 4 < L) (hL : L ≤ 2560) : StpR L xs i 898 f a g b o := by
  have I := R.1
  have D := R.2.1
  obtain ⟨e0, e1, e2, e3, e4⟩ := R.2.2.2.2.1
  have f0 := I.2.2.2.2.2.2.2.1
  have f2 := I.2.2.2.2.2.2.2.2.2.2.2.2.1
  have f3 := I.2.2.2.2.2.2.2.2.2.2.2.2.2.1
  have f4 := I.2.2.2.2.2.2.2.2.2.1
  have A18 : a 18 = b 0 := R.2.2.2.2.2.1
  have A9 : a 9 = b 13 := R.2.2.2.2.2.2.2.2.2.2.2.2.2.2.2.1
  by_cases hu : inR (xs (i + 1)) (f 4)
  · obtain ⟨m, hm, x1⟩ := inR_of (n := f 4) (by omega) hu
    have R0 := Rel_g0 (t := 0) R
    have hq := ((day_rel R0 (γ := b 0 (b 13 m)) (D.1.1 _)).2.1 m hm (by show a 18 (a 9 m) = _; rw [A18, A9])).2.1
    have R1 := Rel_day R0 (γ := b 0 (b 13 m)) (D.1.1 _)
    have H : k_Met Y4_ended [.ref 0, .int (xs (i + 1)), .ref 44] (hA (cF f) (cA a) (cF g) (cA b) o) (.inl (some (.int (nI 0))), hA (cF f) (cA a) (cF g) (cA b) (vp_updL o 0 (nI (a 15 m)).toInt64), 0, 0) := by rw [x1]; exact h4_ended_ok (m2_ended_ok I hm)
    have M : k_Met Y3_ended [.ref 24, .int (xs (i + 1))] (hA (cF f) (cA a) (cF g) (cA b) (vp_updL o 0 (nI (a 15 m)).toInt64)) (.inl (some (.int (nI (day0B (up1 g 0 0) b (b 0 (b 13 m)) 17 m)))), hA (cF f) (cA a) (cF (up1 g 0 0)) (cA (day0B (up1 g 0 0) b (b 0 (b 13 m)))) (vp_updL o 0 (nI (a 15 m)).toInt64), 0, 0) := by rw [x1]; exact m3_ended_ok D (by omega)
    exact ⟨f, a, (up1 g 0 0), (day0B (up1 g 0 0) b (b 0 (b 13 m))), (vp_updL o 0 (nI (a 15 m)).toInt64), 0, 0, R1, by decide, by decide, fun G9 nc ns h1 h2 nx => lc_ended (k := 0) hi hL H M rfl (by decide) (fun _ => by rw [updL0, hq]) h1 h2 nx⟩
  · have hu2 : ¬ inR (xs (i + 1)) (g 5) := e4 ▸ hu
    exact ⟨f, a, up1 g 0 1, b, o, 1, 6, Rel_g0 R, by decide, by decide, fun G9 nc ns h1 h2 nx => lc_ended (r := 0) (k := 1) hi hL (h4_ended_ex1 (m2_ended_bad hu)) (m3_ended_unk D.1 hu2) rfl (by decide) (fun q => absurd q (by decide)) h1 h2 nx⟩
theorem st_length (R : Rel f a g b) (hi : i + 4 < L) (hL : L ≤ 2560) : StpR L xs i 954 f a g b o := by
  have I := R.1
  have D := R.2.1
  obtain ⟨e0, e1, e2, e3, e4⟩ := R.2.2.2.2.1
  have f0 := I.2.2.2.2.2.2.2.1
  have f2 := I.2.2.2.2.2.2.2.2.2.2.2.2.1
  have f3 := I.2.2.2.2.2.2.2.2.2.2.2.2.2.1
  have f4 := I.2.2.2.2.2.2.2.2.2.1
  have A18 : a 18 = b 0 := R.2.2.2.2.2.1
  have A9 : a 9 = b 13 := R.2.2.2.2.2.2.2.2.2.2.2.2.2.2.2.1
  by_cases hu : inR (xs (i + 1)) (f 4)
  · obtain ⟨m, hm, x1⟩ := inR_of (n := f 4) (by omega) hu
    have R0 := Rel_g0 (t := 0) R
    have hq := ((day_rel R0 (γ := b 0 (b 13 m)) (D.1.1 _)).2.1 m hm (by show a 18 (a 9 m) = _; rw [A18, A9])).1
    have R1 := Rel_day R0 (γ := b 0 (b 13 m)) (D.1.1 _)
    have H : k_Met Y4_length [.ref 0, .int (xs (i + 1)), .ref 44] (hA (cF f) (cA a) (cF g) (cA b) o) (.inl (some (.int (nI 0))), hA (cF f) (cA a) (cF g) (cA b) (vp_updL o 0 (nI (a 14 m)).toInt64), 0, 0) := by rw [x1]; exact h4_length_ok (m2_length_ok I hm)
    have M : k_Met Y3_length [.ref 24, .int (xs (i + 1))] (hA (cF f) (cA a) (cF g) (cA b) (vp_updL o 0 (nI (a 14 m)).toInt64)) (.inl (some (.int (nI (day0B (up1 g 0 0) b (b 0 (b 13 m)) 18 m)))), hA (cF f) (cA a) (cF (up1 g 0 0)) (cA (day0B (up1 g 0 0) b (b 0 (b 13 m)))) (vp_updL o 0 (nI (a 14 m)).toInt64), 0, 0) := by rw [x1]; exact m3_length_ok D (by omega)
    exact ⟨f, a, (up1 g 0 0), (day0B (up1 g 0 0) b (b 0 (b 13 m))), (vp_updL o 0 (nI (a 14 m)).toInt64), 0, 0, R1, by decide, by decide, fun G9 nc ns h1 h2 nx => lc_length (k := 0) hi hL H M rfl (by decide) (fun _ => by rw [updL0, hq]) h1 h2 nx⟩
  · have hu2 : ¬ inR (xs (i + 1)) (g 5) := e4 ▸ hu
    exact ⟨f, a, up1 g 0 1, b, o, 1, 6, Rel_g0 R, by decide, by decide, fun G9 nc ns h1 h2 nx => lc_length (r := 0) (k := 1) hi hL (h4_length_ex1 (m2_length_bad hu)) (m3_length_unk D.1 hu2) rfl (by decide) (fun q => absurd q (by decide)) h1 h2 nx⟩
theorem st_unheard (R : Rel f a g b) (hi : i + 4 < L) (hL : L ≤ 2560) : StpR L xs i 1010 f a g b o := by
  have I := R.1
  have D := R.2.1
  obtain ⟨e0, e1, e2, e3, e4⟩ := R.2.2.2.2.1
  have f0 := I.2.2.2.2.2.2.2.1
  have f2 := I.2.2.2.2.2.2.2.2.2.2.2.2.1
  have f3 := I.2.2.2.2.2.2.2.2.2.2.2.2.2.1
  have f4 := I.2.2.2.2.2.2.2.2.2.1
  by_cases hu : inR (xs (i + 1)) (f 4)
  · have hu2 : inR (xs (i + 1)) (g 5) := e4 ▸ hu
    by_cases hp : xs (i + 2) < 0
    · skip
      exact ⟨f, a, up1 g 0 2, b, o, 1, 6, Rel_g0 R, by decide, by decide, fun G9 nc ns h1 h2 nx => lc_unheard (r := 0) (k := 2) hi hL (h4_unheard_ex2 (m2_unheard_bad hu hp)) (m3_unheard_bad D.1 hu2 hp) rfl (by decide) (fun q => absurd q (by decide)) h1 h2 nx⟩
    · obtain ⟨m, hm, x1⟩ := inR_of (n := f 4) (by omega) hu
      obtain ⟨k, hk, x2⟩ := nI_of hp
      obtain ⟨hq, R1⟩ := unheard_eq (f := f) (a := a) (g := up1 g 0 0) (m := m) (i := k) hm (f 2) 0 k b 0 (Rel_g0 R) (Nat.zero_le _) rfl
      have hm3 := m3_unheard_ok (F := cF f) (A := cA a) (o := vp_updL o 0 (nI (uhN f a m k)).toInt64) D (q := m) (i := k) (by omega) hk
      rw [← e2] at hm3
      have H : k_Met Y4_unheard [.ref 0, .int (xs (i + 1)), .int (xs (i + 2)), .ref 44] (hA (cF f) (cA a) (cF g) (cA b) o) (.inl (some (.int (nI 0))), hA (cF f) (cA a) (cF g) (cA b) (vp_updL o 0 (nI (uhN f a m k)).toInt64), 0, 0) := by rw [x1, x2]; exact h4_unheard_ok (m2_unheard_ok I hm hk)
      have M : k_Met Y3_unheard [.ref 24, .int (xs (i + 1)), .int (xs (i + 2))] (hA (cF f) (cA a) (cF g) (cA b) (vp_updL o 0 (nI (uhN f a m k)).toInt64)) (.inl (some (.int (nI (uhR (up1 g 0 0) m (f 2) 0 k b).1))), hA (cF f) (cA a) (cF (up1 g 0 0)) (cA (uhR (up1 g 0 0) m (f 2) 0 k b).2) (vp_updL o 0 (nI (uhN f a m k)).toInt64), 0, 0) := by rw [x1, x2]; exact hm3
      exact ⟨f, a, (up1 g 0 0), (uhR (up1 g 0 0) m (f 2) 0 k b).2, (vp_updL o 0 (nI (uhN f a m k)).toInt64), 0, 0, R1, by decide, by decide, fun G9 nc ns h1 h2 nx => lc_unheard (k := 0) hi hL H M rfl (by decide) (fun _ => by rw [updL0, hq]; rfl) h1 h2 nx⟩
  · have hu2 : ¬ inR (xs (i + 1)) (g 5) := e4 ▸ hu
    exact ⟨f, a, up1 g 0 1, b, o, 1, 6, Rel_g0 R, by decide, by decide, fun G9 nc ns h1 h2 nx => lc_unheard (r := 0) (k := 1) hi hL (h4_unheard_ex1 (m2_unheard_unk hu)) (m3_unheard_unk D.1 hu2) rfl (by decide) (fun q => absurd q (by decide)) h1 h2 nx⟩
theorem st_used (R : Rel f a g b) (hi : i + 4 < L) (hL : L ≤ 2560) : StpR L xs i 1078 f a g b o := by
  have I := R.1
  have D := R.2.1
  obtain ⟨e0, e1, e2, e3, e4⟩ := R.2.2.2.2.1
  have f0 := I.2.2.2.2.2.2.2.1
  have f2 := I.2.2.2.2.2.2.2.2.2.2.2.2.1
  have f3 := I.2.2.2.2.2.2.2.2.2.2.2.2.2.1
  have f4 := I.2.2.2.2.2.2.2.2.2.1
  by_cases hu : inR (xs (i + 1)) 6
  · by_cases hp : xs (i + 2) < 0 ∨ nI (f 0) < xs (i + 3) ∨ xs (i + 3) < xs (i + 2)
    · have hp2 : xs (i + 2) < 0 ∨ nI (g 1) < xs (i + 3) ∨ xs (i + 3) < xs (i + 2) := e0 ▸ hp
      exact ⟨f, a, up1 g 0 2, b, o, 1, 6, Rel_g0 R, by decide, by decide, fun G9 nc ns h1 h2 nx => lc_used (r := 0) (k := 2) hi hL (h4_used_ex2 (m2_used_bad hu hp)) (m3_used_bad D.1 hu hp2) rfl (by decide) (fun q => absurd q (by decide)) h1 h2 nx⟩
    · obtain ⟨c, hc, x1⟩ := inR_of (n := 6) (by omega) hu
      have n1 : ¬ xs (i + 2) < 0 := fun q => hp (Or.inl q)
      have n2 : ¬ nI (f 0) < xs (i + 3) := fun q => hp (Or.inr (Or.inl q))
      have n3 : ¬ xs (i + 3) < xs (i + 2) := fun q => hp (Or.inr (Or.inr q))
      have n4 : ¬ xs (i + 3) < 0 := by rw [Int32.lt_iff_toInt_lt] at n1 n3 ⊢; omega
      obtain ⟨p, hp1, x2⟩ := nI_of n1
      obtain ⟨q, hq1, x3⟩ := nI_of n4
      rw [x2, x3] at n3
      rw [x3] at n2
      have hpq : p ≤ q := Nat.le_of_not_lt (fun z => n3 ((nI_ltI hq1 hp1).mpr z))
      have hqf : q ≤ f 0 := Nat.le_of_not_lt (fun z => n2 ((nI_ltI (by omega) hq1).mpr z))
      have R0 := Rel_g0 (t := 0) R
      have hq := used_eq R0 (c := c) (p := p) (q - p) (by omega)
      rw [show p + (q - p) = q from by omega] at hq
      have R1 := Rel_day R0 (γ := b 0 c) (D.1.1 _)
      have H : k_Met Y4_used [.ref 0, .int (xs (i + 1)), .int (xs (i + 2)), .int (xs (i + 3)), .ref 44] (hA (cF f) (cA a) (cF g) (cA b) o) (.inl (some (.int (nI 0))), hA (cF f) (cA a) (cF g) (cA b) (vp_updL o 0 (nI (usN f a c p q)).toInt64), 0, 0) := by rw [x1, x2, x3]; exact h4_used_ok (m2_used_ok I hc hpq hqf)
      have M : k_Met Y3_used [.ref 24, .int (xs (i + 1)), .int (xs (i + 2)), .int (xs (i + 3))] (hA (cF f) (cA a) (cF g) (cA b) (vp_updL o 0 (nI (usN f a c p q)).toInt64)) (.inl (some (.int (nI (usM (day0B (up1 g 0 0) b (b 0 c)) p q)))), hA (cF f) (cA a) (cF (up1 g 0 0)) (cA (day0B (up1 g 0 0) b (b 0 c))) (vp_updL o 0 (nI (usN f a c p q)).toInt64), 0, 0) := by rw [x1, x2, x3]; exact m3_used_ok D hc hpq (by omega)
      exact ⟨f, a, (up1 g 0 0), (day0B (up1 g 0 0) b (b 0 c)), (vp_updL o 0 (nI (usN f a c p q)).toInt64), 0, 0, R1, by decide, by decide, fun G9 nc ns h1 h2 nx => lc_used (k := 0) hi hL H M rfl (by decide) (fun _ => by rw [updL0, hq]) h1 h2 nx⟩
  · skip
    exact ⟨f, a, up1 g 0 1, b, o, 1, 6, Rel_g0 R, by decide, by decide, fun G9 nc ns h1 h2 nx => lc_used (r := 0) (k := 1) hi hL (h4_used_ex1 (m2_used_unk hu)) (m3_used_unk D.1 hu) rfl (by decide) (fun q => absurd q (by decide)) h1 h2 nx⟩
end SP
