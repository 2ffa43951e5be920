section SQ
variable {L : Nat} {xs : Nat → Int32} {i : Nat} {f g : Nat → Nat} {a b : Nat → Nat → Nat} {o : Nat → Int64}
theorem st_speak (R : Rel f a g b) (hi : i + 4 < L) (hL : L ≤ 2560) : StpR L xs i 515 f a g b o := by
  have I := R.1
  have D := R.2.1
  obtain ⟨e0, e1, e2, e3, e4⟩ := R.2.2.2.2.1
  have f0 := I.2.2.2.2.2.2.2.1
  have f2 := I.2.2.2.2.2.2.2.2.2.2.2.2.1
  have f3 := I.2.2.2.2.2.2.2.2.2.2.2.2.2.1
  have f4 := I.2.2.2.2.2.2.2.2.2.1
  by_cases hu : inR (xs (i + 1)) (f 2)
  · have hu2 : inR (xs (i + 1)) (g 3) := e2 ▸ hu
    by_cases hp : (inR (xs (i + 2)) (f 0) ∧ inR (xs (i + 4)) 10) ∧ inR (xs (i + 3)) 100
    · obtain ⟨u, hu3, x1⟩ := inR_of (n := f 2) (by omega) hu
      obtain ⟨s, hs, x2⟩ := inR_of (n := f 0) (by omega) hp.1.1
      obtain ⟨n, hn, x3⟩ := inR_of (n := 100) (by omega) hp.2
      obtain ⟨r, hr, x4⟩ := inR_of (n := 10) (by omega) hp.1.2
      have hbi := begins_iff R (u := u) (s := s) (by omega) (by omega)
      have kn : decide (inR (nI u) (g 3)) = true := decide_eq_true (inR_nI (by omega) (by omega))
      have k1 : decide (inR (nI s) (g 1)) = true := decide_eq_true (inR_nI (by omega) (by omega))
      have k2 : decide (inR (nI n) 100) = true := decide_eq_true (inR_nI hn (by omega))
      have k3 : decide (inR (nI r) 10) = true := decide_eq_true (inR_nI hr (by omega))
      by_cases hb : hasB f a u s
      · have hb2 := hbi.mpr hb
        have H : k_Met Y4_speak [.ref 0, .int (xs (i + 1)), .int (xs (i + 2)), .int (xs (i + 3)), .int (xs (i + 4)), .ref 44] (hA (cF f) (cA a) (cF g) (cA b) o) (.inl (some (.int (nI 3))), hA (cF f) (cA a) (cF g) (cA b) o, 1, 6) := by rw [x1, x2, x3, x4]; exact h4_speak_ex3 (m2_speak_has I hu3 hs hn hr hb)
        have M : k_Met Y3_speak [.ref 24, .int (xs (i + 1)), .int (xs (i + 2)), .int (xs (i + 3)), .int (xs (i + 4))] (hA (cF f) (cA a) (cF g) (cA b) o) (.inl (some (.int 0)), hA (cF f) (cA a) (cF ((up1 g 0 3))) (cA b) o, 0, 0) := by rw [x1, x2, x3, x4]; exact m3_speak_no D.1 (t := 3) (by rw [kn, k1, k2, k3, hb2]; rfl) (by rw [kn, k1, k2, k3, hb2]; rfl)
        exact ⟨f, a, (up1 g 0 3), b, o, 1, 6, Rel_g0 R, by decide, by decide, fun G9 nc ns h1 h2 nx => lc_speak (k := 3) hi hL H M rfl (by decide) (fun q => absurd q (by decide)) h1 h2 nx⟩
      · have hb2 : bgB g b (nI u) (nI s) = false := by cases e : bgB g b (nI u) (nI s) with
          | false => rfl
          | true => exact absurd (hbi.mp e) hb
        by_cases h60 : f 4 < 60
        · skip
          have H : k_Met Y4_speak [.ref 0, .int (xs (i + 1)), .int (xs (i + 2)), .int (xs (i + 3)), .int (xs (i + 4)), .ref 44] (hA (cF f) (cA a) (cF g) (cA b) o) (.inl (some (.int (nI 0))), hA (cF (up1 f 4 (f 4 + 1))) (cA (telA f a u s n r)) (cF g) (cA b) (vp_updL o 0 (nI (f 4)).toInt64), 0, 0) := by rw [x1, x2, x3, x4]; exact h4_speak_ok (m2_speak_ok I hu3 hs hn hr hb h60)
          have M : k_Met Y3_speak [.ref 24, .int (xs (i + 1)), .int (xs (i + 2)), .int (xs (i + 3)), .int (xs (i + 4))] (hA (cF (up1 f 4 (f 4 + 1))) (cA (telA f a u s n r)) (cF g) (cA b) (vp_updL o 0 (nI (f 4)).toInt64)) (.inl (some (.int (nI (g 5)))), hA (cF (up1 f 4 (f 4 + 1))) (cA (telA f a u s n r)) (cF (up1 (up1 g 0 0) 5 (g 5 + 1))) (cA (adB g b u s n r)) (vp_updL o 0 (nI (f 4)).toInt64), 0, 0) := by rw [x1, x2, x3, x4]; exact m3_speak_ok D.1 (by omega) (by omega) hn hr hb2 (by omega)
          exact ⟨(up1 f 4 (f 4 + 1)), (telA f a u s n r), (up1 (up1 g 0 0) 5 (g 5 + 1)), (adB g b u s n r), (vp_updL o 0 (nI (f 4)).toInt64), 0, 0, Rel_tell R h60 (by omega) hs hn hr, by decide, by decide, fun G9 nc ns h1 h2 nx => lc_speak (k := 0) hi hL H M rfl (by decide) (fun _ => by rw [updL0, e4]) h1 h2 nx⟩
        · have k4 : decide (g 5 < 60) = false := decide_eq_false (by omega)
          have H : k_Met Y4_speak [.ref 0, .int (xs (i + 1)), .int (xs (i + 2)), .int (xs (i + 3)), .int (xs (i + 4)), .ref 44] (hA (cF f) (cA a) (cF g) (cA b) o) (.inl (some (.int (nI 4))), hA (cF f) (cA a) (cF g) (cA b) o, 1, 6) := by rw [x1, x2, x3, x4]; exact h4_speak_ex4 (m2_speak_full I hu3 hs hn hr hb (by omega))
          have M : k_Met Y3_speak [.ref 24, .int (xs (i + 1)), .int (xs (i + 2)), .int (xs (i + 3)), .int (xs (i + 4))] (hA (cF f) (cA a) (cF g) (cA b) o) (.inl (some (.int 0)), hA (cF f) (cA a) (cF ((up1 g 0 4))) (cA b) o, 0, 0) := by rw [x1, x2, x3, x4]; exact m3_speak_no D.1 (t := 4) (by rw [kn, k1, k2, k3, hb2, k4]; rfl) (by rw [kn, k1, k2, k3, hb2, k4]; rfl)
          exact ⟨f, a, (up1 g 0 4), b, o, 1, 6, Rel_g0 R, by decide, by decide, fun G9 nc ns h1 h2 nx => lc_speak (k := 4) hi hL H M rfl (by decide) (fun q => absurd q (by decide)) h1 h2 nx⟩
    · have kn : decide (inR (xs (i + 1)) (g 3)) = true := decide_eq_true hu2
      have kr : (decide (inR (xs (i + 2)) (g 1)) && decide (inR (xs (i + 3)) 100) && decide (inR (xs (i + 4)) 10)) = false := by
        rw [← Bool.decide_and, ← Bool.decide_and]
        exact decide_eq_false (fun z => hp ⟨⟨e0 ▸ z.1.1, z.2⟩, z.1.2⟩)
      exact ⟨f, a, up1 g 0 2, b, o, 1, 6, Rel_g0 R, by decide, by decide, fun G9 nc ns h1 h2 nx => lc_speak (r := 0) (k := 2) hi hL (h4_speak_ex2 (m2_speak_bad hu hp)) (m3_speak_no D.1 (t := 2) (by rw [kn, kr]; rfl) (by rw [kn, kr]; rfl)) rfl (by decide) (fun q => absurd q (by decide)) h1 h2 nx⟩
  · have hu2 : ¬ inR (xs (i + 1)) (g 3) := e2 ▸ hu
    have kn : decide (inR (xs (i + 1)) (g 3)) = false := decide_eq_false hu2
    exact ⟨f, a, up1 g 0 1, b, o, 1, 6, Rel_g0 R, by decide, by decide, fun G9 nc ns h1 h2 nx => lc_speak (r := 0) (k := 1) hi hL (h4_speak_ex1 (m2_speak_unk hu)) (m3_speak_no D.1 (t := 1) (by rw [kn]; simp) (by rw [kn]; rfl)) rfl (by decide) (fun q => absurd q (by decide)) h1 h2 nx⟩
theorem st_relay (R : Rel f a g b) (hi : i + 4 < L) (hL : L ≤ 2560) : StpR L xs i 607 f a g b o := by
  have I := R.1
  have D := R.2.1
  obtain ⟨e0, e1, e2, e3, e4⟩ := R.2.2.2.2.1
  have f0 := I.2.2.2.2.2.2.2.1
  have f2 := I.2.2.2.2.2.2.2.2.2.2.2.2.1
  have f3 := I.2.2.2.2.2.2.2.2.2.2.2.2.2.1
  have f4 := I.2.2.2.2.2.2.2.2.2.1
  have A18 : a 18 = b 0 := R.2.2.2.2.2.1
  have A9 : a 9 = b 13 := R.2.2.2.2.2.2.2.2.2.2.2.2.2.2.2.1
  by_cases hu : inR (xs (i + 1)) (f 2) ∧ inR (xs (i + 2)) (f 4)
  · have hu2 : inR (xs (i + 1)) (g 3) ∧ inR (xs (i + 2)) (g 5) := ⟨e2 ▸ hu.1, e4 ▸ hu.2⟩
    by_cases hp : inR (xs (i + 3)) (f 0) ∧ inR (xs (i + 4)) 10
    · obtain ⟨u, hu3, x1⟩ := inR_of (n := f 2) (by omega) hu.1
      obtain ⟨q, hq, x2⟩ := inR_of (n := f 4) (by omega) hu.2
      obtain ⟨s, hs, x3⟩ := inR_of (n := f 0) (by omega) hp.1
      obtain ⟨r, hr, x4⟩ := inR_of (n := 10) (by omega) hp.2
      have hbi := begins_iff R (u := u) (s := s) (by omega) (by omega)
      by_cases hb : hasB f a u s
      · have hb2 := hbi.mpr hb
        have H : k_Met Y4_relay [.ref 0, .int (xs (i + 1)), .int (xs (i + 2)), .int (xs (i + 3)), .int (xs (i + 4)), .ref 44] (hA (cF f) (cA a) (cF g) (cA b) o) (.inl (some (.int (nI 3))), hA (cF f) (cA a) (cF g) (cA b) o, 1, 6) := by rw [x1, x2, x3, x4]; exact h4_relay_ex3 (m2_relay_has I hu3 hq hs hr hb)
        have M : k_Met Y3_relay [.ref 24, .int (xs (i + 1)), .int (xs (i + 2)), .int (xs (i + 3)), .int (xs (i + 4))] (hA (cF f) (cA a) (cF g) (cA b) o) (.inl (some (.int 0)), hA (cF f) (cA a) (cF ((up1 g 0 3))) (cA b) o, 0, 0) := by rw [x1, x2, x3, x4]; exact m3_relay_has D (by omega) (by omega) (by omega) hr hb2
        exact ⟨f, a, (up1 g 0 3), b, o, 1, 6, Rel_g0 R, by decide, by decide, fun G9 nc ns h1 h2 nx => lc_relay (k := 3) hi hL H M rfl (by decide) (fun q => absurd q (by decide)) h1 h2 nx⟩
      · have hb2 : bgB g b (nI u) (nI s) = false := by cases e : bgB g b (nI u) (nI s) with
          | false => rfl
          | true => exact absurd (hbi.mp e) hb
        have hd := (day_rel R (γ := b 0 (b 13 q)) (D.1.1 _)).2.1 q hq (by show a 18 (a 9 q) = _; rw [A18, A9])
        have hh := heard_eq R (u := u) hq
        have R1 := Rel_day R (γ := b 0 (b 13 q)) (D.1.1 _)
        have hiff : (day0B g b (b 0 (b 13 q)) 17 q = 0 ∧ hdB g (day0B g b (b 0 (b 13 q))) u q = true) ↔ (a 15 q = 0 ∧ haB f a u q = true) := by rw [hd.2.1, hh]
        by_cases hc : a 15 q = 0 ∧ haB f a u q = true
        · by_cases h60 : f 4 < 60
          · have e11 : day0B g b (b 0 (b 13 q)) 11 q = a 11 q := by rw [R1.2.2.2.2.2.2.2.2.2.2.2.2.2.2.2.2.2.1]
            have hmr := fun (F2 : Nat → Int32) (A2 : Nat → Nat → Int32) (o2 : Nat → Int64) => m3_relay_ok (F := F2) (A := A2) (o := o2) D (u := u) (q := q) (s := s) (r := r) (by omega) (by omega) (by omega) hr hb2 (hiff.mpr hc) (by omega)
            rw [e11] at hmr
            have H : k_Met Y4_relay [.ref 0, .int (xs (i + 1)), .int (xs (i + 2)), .int (xs (i + 3)), .int (xs (i + 4)), .ref 44] (hA (cF f) (cA a) (cF g) (cA b) o) (.inl (some (.int (nI 0))), hA (cF (up1 f 4 (f 4 + 1))) (cA (telA f a u s (a 11 q) r)) (cF g) (cA b) (vp_updL o 0 (nI (f 4)).toInt64), 0, 0) := by rw [x1, x2, x3, x4]; exact h4_relay_ok (m2_relay_ok I hu3 hq hs hr hb hc h60)
            have M : k_Met Y3_relay [.ref 24, .int (xs (i + 1)), .int (xs (i + 2)), .int (xs (i + 3)), .int (xs (i + 4))] (hA (cF (up1 f 4 (f 4 + 1))) (cA (telA f a u s (a 11 q) r)) (cF g) (cA b) (vp_updL o 0 (nI (f 4)).toInt64)) (.inl (some (.int (nI (g 5)))), hA (cF (up1 f 4 (f 4 + 1))) (cA (telA f a u s (a 11 q) r)) (cF (up1 (up1 g 0 0) 5 (g 5 + 1))) (cA (adB g (day0B g b (b 0 (b 13 q))) u s (a 11 q) r)) (vp_updL o 0 (nI (f 4)).toInt64), 0, 0) := by rw [x1, x2, x3, x4]; exact hmr _ _ _
            exact ⟨(up1 f 4 (f 4 + 1)), (telA f a u s (a 11 q) r), (up1 (up1 g 0 0) 5 (g 5 + 1)), (adB g (day0B g b (b 0 (b 13 q))) u s (a 11 q) r), (vp_updL o 0 (nI (f 4)).toInt64), 0, 0, Rel_tell R1 h60 (by omega) hs (I.2.2.2.2.2.2.2.2.2.2.2.1 q) hr, by decide, by decide, fun G9 nc ns h1 h2 nx => lc_relay (k := 0) hi hL H M rfl (by decide) (fun _ => by rw [updL0, e4]) h1 h2 nx⟩
          · skip
            have H : k_Met Y4_relay [.ref 0, .int (xs (i + 1)), .int (xs (i + 2)), .int (xs (i + 3)), .int (xs (i + 4)), .ref 44] (hA (cF f) (cA a) (cF g) (cA b) o) (.inl (some (.int (nI 4))), hA (cF f) (cA a) (cF g) (cA b) o, 1, 6) := by rw [x1, x2, x3, x4]; exact h4_relay_ex4 (m2_relay_full I hu3 hq hs hr hb hc (by omega))
            have M : k_Met Y3_relay [.ref 24, .int (xs (i + 1)), .int (xs (i + 2)), .int (xs (i + 3)), .int (xs (i + 4))] (hA (cF f) (cA a) (cF g) (cA b) o) (.inl (some (.int 0)), hA (cF f) (cA a) (cF ((up1 g 0 4))) (cA (day0B g b (b 0 (b 13 q)))) o, 0, 0) := by rw [x1, x2, x3, x4]; exact m3_relay_full D (by omega) (by omega) (by omega) hr hb2 (hiff.mpr hc) (by omega)
            exact ⟨f, a, (up1 g 0 4), (day0B g b (b 0 (b 13 q))), o, 1, 6, Rel_g0 R1, by decide, by decide, fun G9 nc ns h1 h2 nx => lc_relay (k := 4) hi hL H M rfl (by decide) (fun q => absurd q (by decide)) h1 h2 nx⟩
        · skip
          have H : k_Met Y4_relay [.ref 0, .int (xs (i + 1)), .int (xs (i + 2)), .int (xs (i + 3)), .int (xs (i + 4)), .ref 44] (hA (cF f) (cA a) (cF g) (cA b) o) (.inl (some (.int (nI 3))), hA (cF f) (cA a) (cF g) (cA b) o, 1, 6) := by rw [x1, x2, x3, x4]; exact h4_relay_ex3 (m2_relay_not I hu3 hq hs hr hb hc)
          have M : k_Met Y3_relay [.ref 24, .int (xs (i + 1)), .int (xs (i + 2)), .int (xs (i + 3)), .int (xs (i + 4))] (hA (cF f) (cA a) (cF g) (cA b) o) (.inl (some (.int 0)), hA (cF f) (cA a) (cF ((up1 g 0 3))) (cA (day0B g b (b 0 (b 13 q)))) o, 0, 0) := by rw [x1, x2, x3, x4]; exact m3_relay_not D (by omega) (by omega) (by omega) hr hb2 (fun z => hc (hiff.mp z))
          exact ⟨f, a, (up1 g 0 3), (day0B g b (b 0 (b 13 q))), o, 1, 6, Rel_g0 R1, by decide, by decide, fun G9 nc ns h1 h2 nx => lc_relay (k := 3) hi hL H M rfl (by decide) (fun q => absurd q (by decide)) h1 h2 nx⟩
    · have hp2 : ¬ (inR (xs (i + 3)) (g 1) ∧ inR (xs (i + 4)) 10) := e0 ▸ hp
      exact ⟨f, a, up1 g 0 2, b, o, 1, 6, Rel_g0 R, by decide, by decide, fun G9 nc ns h1 h2 nx => lc_relay (r := 0) (k := 2) hi hL (h4_relay_ex2 (m2_relay_bad hu hp)) (m3_relay_bad D.1 hu2 hp2) rfl (by decide) (fun q => absurd q (by decide)) h1 h2 nx⟩
  · have hu2 : ¬ (inR (xs (i + 1)) (g 3) ∧ inR (xs (i + 2)) (g 5)) := fun z => hu ⟨e2 ▸ z.1, e4 ▸ z.2⟩
    exact ⟨f, a, up1 g 0 1, b, o, 1, 6, Rel_g0 R, by decide, by decide, fun G9 nc ns h1 h2 nx => lc_relay (r := 0) (k := 1) hi hL (h4_relay_ex1 (m2_relay_unk hu)) (m3_relay_unk D.1 hu2) rfl (by decide) (fun q => absurd q (by decide)) h1 h2 nx⟩
end SQ
