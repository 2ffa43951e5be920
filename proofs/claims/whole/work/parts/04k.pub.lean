theorem k_vs {Y : k_Y} {sc : k_Sc} {G : k_G} {pc : Nat} {ls : List (Nat × Value)} {v v' : Value} {st : List Value} {h : List k_O} {nc ns : Nat} (e : v = v') (k : k_W Y sc G (pc, ls, v' :: st, h, nc, ns)) : k_W Y sc G (pc, ls, v :: st, h, nc, ns) := e ▸ k
section PB
variable {f : Nat → Nat} {a : Nat → Nat → Nat} {G : Nat → Int32} {B : Nat → Nat → Int32} {o : Nat → Int64} {x y z w : Int32}
theorem m2_day_big (h : ¬ x ≤ nI 1000) : k_Met Y2_day [.ref 0, .int x] (hX f a G B o) (.inr "java/lang/IllegalArgumentException", hX f a G B o, 1, 6) := by
  refine k_intro (by decide +kernel) rfl rfl rfl ?_
  refine k_go 99 [] T2_day_ok (fun K hK => ?_)
  refine And.intro (fun q => absurd q h) (fun _ => ?_)
  refine hK _ ?_
  exact k_throw (E := "java/lang/IllegalArgumentException") (st := []) rfl kt_44 rfl d2_day_7 d2_day_10 d2_day_11 d2_day_13 d2_day_16 (by decide) (Nat.le_of_ble_eq_true rfl) rfl rfl (Nat.le_of_ble_eq_true rfl) (Nat.le_of_ble_eq_true rfl)
theorem m2_day_neg (h : x ≤ nI 1000) (h2 : x < 0) : k_Met Y2_day [.ref 0, .int x] (hX f a G B o) (.inr "java/lang/NegativeArraySizeException", hX f a G B o, 1, 6) := by
  refine k_intro (by decide +kernel) rfl rfl rfl ?_
  refine k_go 99 [] T2_day_ok (fun K hK => ?_)
  refine And.intro (fun _ => ?_) (fun q => absurd h q)
  refine And.intro (fun q => absurd h2 (Int32.not_lt.mpr q)) (fun _ => ?_)
  refine hK _ ?_
  exact k_throw (E := "java/lang/NegativeArraySizeException") (st := []) rfl kt_51 rfl d2_day_21 d2_day_24 d2_day_25 d2_day_27 d2_day_30 (by decide) (Nat.le_of_ble_eq_true rfl) rfl rfl (Nat.le_of_ble_eq_true rfl) (Nat.le_of_ble_eq_true rfl)
theorem m2_day_ok {n : Nat} (hn : n ≤ 1000) : k_Met Y2_day [.ref 0, .int (nI n)] (hX f a G B o) (.inl none, hX (up1 (fgF f) 0 n) (fgA a) G B o, 0, 0) := by
  refine k_intro (by decide +kernel) rfl rfl rfl ?_
  refine k_go 99 [] T2_day_ok (fun K hK => ?_)
  refine b_le (a := n) (b := 1000) (by omega) (by omega) (fun _ => ?_) (fun q => absurd hn (by omega))
  refine z_ge (a := n) (by omega) ?_
  refine hK _ ?_
  refine k_callV (Y' := Y2_forgetAll) (as := []) (st := []) (m2_forgetAll) rfl c2_39 rfl rfl rfl d2_day_32 (Nat.le_of_ble_eq_true rfl) (Nat.le_of_ble_eq_true rfl) rfl rfl ?_
  refine k_go 99 [] T2_day_ok (fun K hK => ?_)
  refine hK _ ?_
  exact k_return d2_day_40 rfl rfl (hX_eq (cF_up' (f := fgF f) rfl) rfl).symm (Nat.le_of_ble_eq_true rfl) (Nat.le_of_ble_eq_true rfl)
theorem m2_unit_bad (h : ¬ (inR x 10000 ∧ inR y 10000 ∧ inR z 10000 ∧ inR w 6)) : k_Met Y2_unit [.ref 0, .int x, .int y, .int z, .int w] (hX f a G B o) (.inr "java/lang/IndexOutOfBoundsException", hX f a G B o, 1, 6) := by
  refine k_intro (by decide +kernel) rfl rfl rfl ?_
  refine k_go 99 [] T2_unit_ok (fun K hK => ?_)
  refine hK _ ?_
  exact k_callVX (Y' := Y2_place) (as := [.ref 1, .int x, .int y, .int z, .int w]) (st := []) (m2_placeU_bad h) rfl c2_58 rfl rfl rfl d2_unit_10 (Nat.le_of_ble_eq_true rfl) (Nat.le_of_ble_eq_true rfl) rfl rfl rfl
theorem m2_unit_full (hf : f 2 < 10000) (h : inR x 10000 ∧ inR y 10000 ∧ inR z 10000 ∧ inR w 6) (h5 : 20 ≤ f 2) : k_Met Y2_unit [.ref 0, .int x, .int y, .int z, .int w] (hX f a G B o) (.inr "java/lang/UnsupportedOperationException", hX f a G B o, 1, 6) := by
  refine k_intro (by decide +kernel) rfl rfl rfl ?_
  refine k_go 99 [] T2_unit_ok (fun K hK => ?_)
  refine hK _ ?_
  exact k_callVX (Y' := Y2_place) (as := [.ref 1, .int x, .int y, .int z, .int w]) (st := []) (m2_placeU_full hf h.1 h.2.1 h.2.2.1 h.2.2.2 h5) rfl c2_58 rfl rfl rfl d2_unit_10 (Nat.le_of_ble_eq_true rfl) (Nat.le_of_ble_eq_true rfl) rfl rfl rfl
theorem m2_unit_ok {xx yy r c : Nat} (h1 : xx < 10000) (h2 : yy < 10000) (h3 : r < 10000) (h4 : c < 6) (h5 : f 2 < 20) : k_Met Y2_unit [.ref 0, .int (nI xx), .int (nI yy), .int (nI r), .int (nI c)] (hX f a G B o) (.inl (some (.int (nI (f 2)))), hX (up1 f 2 (f 2 + 1)) (mvU (up2 a 2 (f 2) r) (f 2) xx yy c) G B o, 0, 0) := by
  refine k_intro (by decide +kernel) rfl rfl rfl ?_
  refine k_go 99 [] T2_unit_ok (fun K hK => ?_)
  refine hK _ ?_
  refine k_callV (Y' := Y2_place) (as := [.ref 1, .int (nI xx), .int (nI yy), .int (nI r), .int (nI c)]) (st := []) (m2_placeU_ok h1 h2 h3 h4 h5) rfl c2_58 rfl rfl rfl d2_unit_10 (Nat.le_of_ble_eq_true rfl) (Nat.le_of_ble_eq_true rfl) rfl rfl ?_
  exact k_ireturn d2_unit_13 rfl rfl rfl rfl (Nat.le_of_ble_eq_true rfl) (Nat.le_of_ble_eq_true rfl)
theorem m2_repeater_bad (h : ¬ (inR x 10000 ∧ inR y 10000 ∧ inR z 10000 ∧ inR w 6)) : k_Met Y2_repeater [.ref 0, .int x, .int y, .int z, .int w] (hX f a G B o) (.inr "java/lang/IndexOutOfBoundsException", hX f a G B o, 1, 6) := by
  refine k_intro (by decide +kernel) rfl rfl rfl ?_
  refine k_go 99 [] T2_repeater_ok (fun K hK => ?_)
  refine hK _ ?_
  exact k_callVX (Y' := Y2_place) (as := [.ref 6, .int x, .int y, .int z, .int w]) (st := []) (m2_placeR_bad h) rfl c2_58 rfl rfl rfl d2_repeater_10 (Nat.le_of_ble_eq_true rfl) (Nat.le_of_ble_eq_true rfl) rfl rfl rfl
theorem m2_repeater_full (hf : f 3 < 10000) (h : inR x 10000 ∧ inR y 10000 ∧ inR z 10000 ∧ inR w 6) (h5 : 8 ≤ f 3) : k_Met Y2_repeater [.ref 0, .int x, .int y, .int z, .int w] (hX f a G B o) (.inr "java/lang/UnsupportedOperationException", hX f a G B o, 1, 6) := by
  refine k_intro (by decide +kernel) rfl rfl rfl ?_
  refine k_go 99 [] T2_repeater_ok (fun K hK => ?_)
  refine hK _ ?_
  exact k_callVX (Y' := Y2_place) (as := [.ref 6, .int x, .int y, .int z, .int w]) (st := []) (m2_placeR_full hf h.1 h.2.1 h.2.2.1 h.2.2.2 h5) rfl c2_58 rfl rfl rfl d2_repeater_10 (Nat.le_of_ble_eq_true rfl) (Nat.le_of_ble_eq_true rfl) rfl rfl rfl
theorem m2_repeater_ok {xx yy r c : Nat} (h1 : xx < 10000) (h2 : yy < 10000) (h3 : r < 10000) (h4 : c < 6) (h5 : f 3 < 8) : k_Met Y2_repeater [.ref 0, .int (nI xx), .int (nI yy), .int (nI r), .int (nI c)] (hX f a G B o) (.inl (some (.int (nI (f 3)))), hX (up1 f 3 (f 3 + 1)) (mvR (up2 a 6 (f 3) r) (f 3) xx yy c) G B o, 0, 0) := by
  refine k_intro (by decide +kernel) rfl rfl rfl ?_
  refine k_go 99 [] T2_repeater_ok (fun K hK => ?_)
  refine hK _ ?_
  refine k_callV (Y' := Y2_place) (as := [.ref 6, .int (nI xx), .int (nI yy), .int (nI r), .int (nI c)]) (st := []) (m2_placeR_ok h1 h2 h3 h4 h5) rfl c2_58 rfl rfl rfl d2_repeater_10 (Nat.le_of_ble_eq_true rfl) (Nat.le_of_ble_eq_true rfl) rfl rfl ?_
  exact k_ireturn d2_repeater_13 rfl rfl rfl rfl (Nat.le_of_ble_eq_true rfl) (Nat.le_of_ble_eq_true rfl)
theorem m2_go_unk (h : ¬ inR x (f 2)) : k_Met Y2_go [.ref 0, .int x, .int y, .int z, .int w] (hX f a G B o) (.inr "java/lang/IllegalArgumentException", hX f a G B o, 1, 6) := by
  refine k_intro (by decide +kernel) rfl rfl rfl ?_
  refine k_go 99 [] T2_go_ok (fun K hK => ?_)
  refine hK _ ?_
  exact k_callVX (Y' := Y2_needUnit) (as := [.int x]) (st := []) (m2_needUnit_bad h) rfl c2_62 rfl rfl rfl d2_go_2 (Nat.le_of_ble_eq_true rfl) (Nat.le_of_ble_eq_true rfl) rfl rfl rfl
theorem m2_go_bad (h : inR x (f 2)) (h2 : ¬ (inR y 10000 ∧ inR z 10000 ∧ inR w 6)) : k_Met Y2_go [.ref 0, .int x, .int y, .int z, .int w] (hX f a G B o) (.inr "java/lang/IndexOutOfBoundsException", hX f a G B o, 1, 6) := by
  refine k_intro (by decide +kernel) rfl rfl rfl ?_
  refine k_go 99 [] T2_go_ok (fun K hK => ?_)
  refine hK _ ?_
  refine k_callV (Y' := Y2_needUnit) (as := [.int x]) (st := []) (m2_needUnit_ok h) rfl c2_62 rfl rfl rfl d2_go_2 (Nat.le_of_ble_eq_true rfl) (Nat.le_of_ble_eq_true rfl) rfl rfl ?_
  refine k_go 99 [] T2_go_ok (fun K hK => ?_)
  refine hK _ ?_
  exact k_callVX (Y' := Y2_needPlace) (as := [.int y, .int z, .int w]) (st := []) (m2_needPlace_bad h2) rfl c2_65 rfl rfl rfl d2_go_10 (Nat.le_of_ble_eq_true rfl) (Nat.le_of_ble_eq_true rfl) rfl rfl rfl
theorem m2_go_ok (h20 : f 2 ≤ 20) {u xx yy c : Nat} (hu : u < f 2) (h1 : xx < 10000) (h2 : yy < 10000) (h4 : c < 6) : k_Met Y2_go [.ref 0, .int (nI u), .int (nI xx), .int (nI yy), .int (nI c)] (hX f a G B o) (.inl none, hX f (mvU a u xx yy c) G B o, 0, 0) := by
  refine k_intro (by decide +kernel) rfl rfl rfl ?_
  refine k_go 99 [] T2_go_ok (fun K hK => ?_)
  refine hK _ ?_
  refine k_callV (Y' := Y2_needUnit) (as := [.int (nI u)]) (st := []) (m2_needUnit_ok (inR_nI hu (by omega))) rfl c2_62 rfl rfl rfl d2_go_2 (Nat.le_of_ble_eq_true rfl) (Nat.le_of_ble_eq_true rfl) rfl rfl ?_
  refine k_go 99 [] T2_go_ok (fun K hK => ?_)
  refine hK _ ?_
  refine k_callV (Y' := Y2_needPlace) (as := [.int (nI xx), .int (nI yy), .int (nI c)]) (st := []) (m2_needPlace_ok (inR_nI h1 (by omega)) (inR_nI h2 (by omega)) (inR_nI h4 (by omega))) rfl c2_65 rfl rfl rfl d2_go_10 (Nat.le_of_ble_eq_true rfl) (Nat.le_of_ble_eq_true rfl) rfl rfl ?_
  refine k_go 99 [] T2_go_ok (fun K hK => ?_)
  refine hK _ ?_
  refine k_callV (Y' := Y1_move) (as := [.int (nI u), .int (nI xx), .int (nI yy), .int (nI c)]) (st := []) (m1_moveU (by omega)) rfl c2_69 rfl rfl rfl d2_go_22 (Nat.le_of_ble_eq_true rfl) (Nat.le_of_ble_eq_true rfl) rfl rfl ?_
  exact k_return d2_go_25 rfl rfl rfl (Nat.le_of_ble_eq_true rfl) (Nat.le_of_ble_eq_true rfl)
theorem m2_patch_bad (h : ¬ (inR x 6 ∧ inR y 6)) : k_Met Y2_patch [.ref 0, .int x, .int y] (hX f a G B o) (.inr "java/lang/IndexOutOfBoundsException", hX f a G B o, 1, 6) := by
  refine k_intro (by decide +kernel) rfl rfl rfl ?_
  refine k_go 99 [] T2_patch_ok (fun K hK => ?_)
  refine hK _ ?_
  refine k_callV (Y' := Y2_isChannel) (as := [.int x]) (st := []) (m2_isChannel) rfl c2_73 rfl rfl rfl d2_patch_2 (Nat.le_of_ble_eq_true rfl) (Nat.le_of_ble_eq_true rfl) rfl rfl ?_
  refine k_go 99 [] T2_patch_ok (fun K hK => ?_)
  refine p_eq (fun _ => ?_) (fun q1 => ?_)
  · refine hK _ ?_
    exact k_throw (E := "java/lang/IndexOutOfBoundsException") (st := []) rfl kt_79 rfl d2_patch_16 d2_patch_19 d2_patch_20 d2_patch_22 d2_patch_25 (by decide) (Nat.le_of_ble_eq_true rfl) rfl rfl (Nat.le_of_ble_eq_true rfl) (Nat.le_of_ble_eq_true rfl)
  · refine hK _ ?_
    refine k_callV (Y' := Y2_isChannel) (as := [.int y]) (st := []) (m2_isChannel) rfl c2_73 rfl rfl rfl d2_patch_10 (Nat.le_of_ble_eq_true rfl) (Nat.le_of_ble_eq_true rfl) rfl rfl ?_
    refine k_go 99 [] T2_patch_ok (fun K hK => ?_)
    refine p_ne (fun q2 => absurd ⟨q1, q2⟩ h) (fun _ => ?_)
    refine hK _ ?_
    exact k_throw (E := "java/lang/IndexOutOfBoundsException") (st := []) rfl kt_79 rfl d2_patch_16 d2_patch_19 d2_patch_20 d2_patch_22 d2_patch_25 (by decide) (Nat.le_of_ble_eq_true rfl) rfl rfl (Nat.le_of_ble_eq_true rfl) (Nat.le_of_ble_eq_true rfl)
theorem m2_patch_no (I : IvA f a) {p q : Nat} (hp : p < 6) (hq : q < 6) (h : a 18 p = a 18 q) : k_Met Y2_patch [.ref 0, .int (nI p), .int (nI q)] (hX f a G B o) (.inl (some (.int 0)), hX f a G B o, 0, 0) := by
  refine k_intro (by decide +kernel) rfl rfl rfl ?_
  refine k_go 99 [] T2_patch_ok (fun K hK => ?_)
  refine hK _ ?_
  refine k_callV (Y' := Y2_isChannel) (as := [.int (nI p)]) (st := []) (m2_isChannel) rfl c2_73 rfl rfl rfl d2_patch_2 (Nat.le_of_ble_eq_true rfl) (Nat.le_of_ble_eq_true rfl) rfl rfl ?_
  refine k_go 99 [] T2_patch_ok (fun K hK => ?_)
  refine p_eq (fun q => absurd (inR_nI hp (by omega)) q) (fun _ => ?_)
  refine hK _ ?_
  refine k_callV (Y' := Y2_isChannel) (as := [.int (nI q)]) (st := []) (m2_isChannel) rfl c2_73 rfl rfl rfl d2_patch_10 (Nat.le_of_ble_eq_true rfl) (Nat.le_of_ble_eq_true rfl) rfl rfl ?_
  refine k_go 99 [] T2_patch_ok (fun K hK => ?_)
  refine p_ne (fun _ => ?_) (fun t => absurd (inR_nI hq (by omega)) t)
  refine hK _ ?_
  refine k_callV (Y' := Y2_areJoined) (as := [.int (nI p), .int (nI q)]) (st := []) (m2_areJoined I.1 hp hq) rfl c2_82 rfl rfl rfl d2_patch_29 (Nat.le_of_ble_eq_true rfl) (Nat.le_of_ble_eq_true rfl) rfl rfl ?_
  refine k_go 99 [] T2_patch_ok (fun K hK => ?_)
  refine p_eq (fun t => absurd h t) (fun _ => ?_)
  refine hK _ ?_
  exact k_ireturn d2_patch_36 rfl rfl rfl rfl (Nat.le_of_ble_eq_true rfl) (Nat.le_of_ble_eq_true rfl)
def joinA (a : Nat → Nat → Nat) (p q : Nat) : Nat → Nat → Nat := rowA a 18 (jnR (a 18) (a 18 p) (a 18 q) 6)
theorem IvA_join (I : IvA f a) (p q : Nat) : IvA f (joinA a p q) := by
  have h18 : ∀ j, joinA a p q 18 j < 6 := fun j => by
    show jnR (a 18) (a 18 p) (a 18 q) 6 j < 6
    unfold jnR
    split
    · exact I.2.2.2.1 p
    · exact I.2.2.2.1 j
  refine ⟨fun k j hk => ?_, I.2.1, I.2.2.1, h18, I.2.2.2.2⟩
  by_cases h : k = 18
  · subst h; have := h18 j; omega
  · unfold joinA rowA; rw [if_neg h]; exact I.1 k j hk
theorem m2_patch_ok (I : IvA f a) {p q : Nat} (hp : p < 6) (hq : q < 6) (h : a 18 p ≠ a 18 q) : k_Met Y2_patch [.ref 0, .int (nI p), .int (nI q)] (hX f a G B o) (.inl (some (.int 1)), hX f (plan0 f (joinA a p q)) G B o, 0, 0) := by
  have h1 := I.1 18 p (by omega)
  have h2 := I.1 18 q (by omega)
  refine k_intro (by decide +kernel) rfl rfl rfl ?_
  refine k_go 99 [] T2_patch_ok (fun K hK => ?_)
  refine hK _ ?_
  refine k_callV (Y' := Y2_isChannel) (as := [.int (nI p)]) (st := []) (m2_isChannel) rfl c2_73 rfl rfl rfl d2_patch_2 (Nat.le_of_ble_eq_true rfl) (Nat.le_of_ble_eq_true rfl) rfl rfl ?_
  refine k_go 99 [] T2_patch_ok (fun K hK => ?_)
  refine p_eq (fun q => absurd (inR_nI hp (by omega)) q) (fun _ => ?_)
  refine hK _ ?_
  refine k_callV (Y' := Y2_isChannel) (as := [.int (nI q)]) (st := []) (m2_isChannel) rfl c2_73 rfl rfl rfl d2_patch_10 (Nat.le_of_ble_eq_true rfl) (Nat.le_of_ble_eq_true rfl) rfl rfl ?_
  refine k_go 99 [] T2_patch_ok (fun K hK => ?_)
  refine p_ne (fun _ => ?_) (fun t => absurd (inR_nI hq (by omega)) t)
  refine hK _ ?_
  refine k_callV (Y' := Y2_areJoined) (as := [.int (nI p), .int (nI q)]) (st := []) (m2_areJoined I.1 hp hq) rfl c2_82 rfl rfl rfl d2_patch_29 (Nat.le_of_ble_eq_true rfl) (Nat.le_of_ble_eq_true rfl) rfl rfl ?_
  refine k_go 99 [] T2_patch_ok (fun K hK => ?_)
  refine p_eq (fun _ => ?_) (fun t => absurd t h)
  refine k_at hp ?_
  refine k_at hq ?_
  refine hK _ ?_
  refine k_callV (Y' := Y2_joinGroups) (as := [.int (nI (a 18 p)), .int (nI (a 18 q))]) (st := []) (m2_joinGroups I.1 h1 h2) rfl c2_86 rfl rfl rfl d2_patch_50 (Nat.le_of_ble_eq_true rfl) (Nat.le_of_ble_eq_true rfl) rfl rfl ?_
  refine k_go 99 [] T2_patch_ok (fun K hK => ?_)
  refine hK _ ?_
  refine k_callV (Y' := Y2_planAll) (as := []) (st := []) (m2_planAll (IvA_join I p q)) rfl c2_90 rfl rfl rfl d2_patch_54 (Nat.le_of_ble_eq_true rfl) (Nat.le_of_ble_eq_true rfl) rfl rfl ?_
  refine k_go 99 [] T2_patch_ok (fun K hK => ?_)
  refine hK _ ?_
  exact k_ireturn d2_patch_58 rfl rfl rfl rfl (Nat.le_of_ble_eq_true rfl) (Nat.le_of_ble_eq_true rfl)
theorem m2_limit_bad (h : ¬ inR x 1001) : k_Met Y2_limit [.ref 0, .int x] (hX f a G B o) (.inr "java/lang/IndexOutOfBoundsException", hX f a G B o, 1, 6) := by
  refine k_intro (by decide +kernel) rfl rfl rfl ?_
  refine k_go 99 [] T2_limit_ok (fun K hK => ?_)
  refine And.intro (fun _ => ?_) (fun q1 => ?_)
  · refine hK _ ?_
    exact k_throw (E := "java/lang/IndexOutOfBoundsException") (st := []) rfl kt_93 rfl d2_limit_11 d2_limit_14 d2_limit_15 d2_limit_17 d2_limit_20 (by decide) (Nat.le_of_ble_eq_true rfl) rfl rfl (Nat.le_of_ble_eq_true rfl) (Nat.le_of_ble_eq_true rfl)
  · refine And.intro (fun q2 => absurd ⟨q1, (le_suc (n := 1000) (by omega)).mp q2⟩ h) (fun _ => ?_)
    refine hK _ ?_
    exact k_throw (E := "java/lang/IndexOutOfBoundsException") (st := []) rfl kt_93 rfl d2_limit_11 d2_limit_14 d2_limit_15 d2_limit_17 d2_limit_20 (by decide) (Nat.le_of_ble_eq_true rfl) rfl rfl (Nat.le_of_ble_eq_true rfl) (Nat.le_of_ble_eq_true rfl)
theorem IvA_lim (I : IvA f a) {n : Nat} (hn : n ≤ 1000) : IvA (up1 f 1 n) a := ⟨I.1, I.2.1, I.2.2.1, I.2.2.2.1, I.2.2.2.2.1, I.2.2.2.2.2.1, I.2.2.2.2.2.2.1, I.2.2.2.2.2.2.2.1, hn, I.2.2.2.2.2.2.2.2.2⟩
theorem m2_limit_ok (I : IvA f a) {n : Nat} (hn : n ≤ 1000) : k_Met Y2_limit [.ref 0, .int (nI n)] (hX f a G B o) (.inl none, hX (up1 f 1 n) (plan0 (up1 f 1 n) a) G B o, 0, 0) := by
  refine k_intro (by decide +kernel) rfl rfl rfl ?_
  refine k_go 99 [] T2_limit_ok (fun K hK => ?_)
  refine z_lt (a := n) (by omega) ?_
  refine b_le (a := n) (b := 1000) (by omega) (by omega) (fun _ => ?_) (fun q => absurd hn (by omega))
  refine hK _ ?_
  refine k_heq (hX_eq (cF_up' (f := f) (k := 1) (v := n) rfl) rfl) ?_
  refine k_callV (Y' := Y2_planAll) (as := []) (st := []) (m2_planAll (IvA_lim I hn)) rfl c2_90 rfl rfl rfl d2_limit_27 (Nat.le_of_ble_eq_true rfl) (Nat.le_of_ble_eq_true rfl) rfl rfl ?_
  exact k_return d2_limit_30 rfl rfl rfl (Nat.le_of_ble_eq_true rfl) (Nat.le_of_ble_eq_true rfl)
theorem m2_lose_bad (h : ¬ inR x (f 0)) : k_Met Y2_lose [.ref 0, .int x] (hX f a G B o) (.inr "java/lang/ArrayIndexOutOfBoundsException", hX f a G B o, 1, 6) := by
  refine k_intro (by decide +kernel) rfl rfl rfl ?_
  refine k_go 99 [] T2_lose_ok (fun K hK => ?_)
  refine hK _ ?_
  exact k_callVX (Y' := Y2_needSlot) (as := [.int x]) (st := []) (m2_needSlot_bad h) rfl c2_130 rfl rfl rfl d2_lose_2 (Nat.le_of_ble_eq_true rfl) (Nat.le_of_ble_eq_true rfl) rfl rfl rfl
theorem m2_lose_ok (I : IvA f a) {s : Nat} (hs : s < f 0) : k_Met Y2_lose [.ref 0, .int (nI s)] (hX f a G B o) (.inl (some (.int (nI (1 - a 17 s)))), hX f (up2 a 17 s (1 - a 17 s)) G B o, 0, 0) := by
  have h0 := I.2.2.2.2.2.2.2.1
  have h17 := I.2.2.2.2.2.2.2.2.2.2.2.2.2.2.2.2 s
  refine k_intro (by decide +kernel) rfl rfl rfl ?_
  refine k_go 99 [] T2_lose_ok (fun K hK => ?_)
  refine hK _ ?_
  refine k_callV (Y' := Y2_needSlot) (as := [.int (nI s)]) (st := []) (m2_needSlot_ok (inR_nI hs (by omega))) rfl c2_130 rfl rfl rfl d2_lose_2 (Nat.le_of_ble_eq_true rfl) (Nat.le_of_ble_eq_true rfl) rfl rfl ?_
  refine k_go 99 [] T2_lose_ok (fun K hK => ?_)
  refine k_at (j := s) (by omega) ?_
  refine z_ne (a := a 17 s) (by omega) (fun h => ?_) (fun h => ?_)
  · have e : 1 - a 17 s = 0 := by omega
    rw [e] at hK
    refine And.intro (Or.inl rfl) ?_
    refine k_at (j := s) (by omega) ?_
    refine k_at (j := s) (by omega) ?_
    refine hK _ ?_
    refine k_heq (hX_eq rfl (cA_up a 17 s 0)) ?_
    have e2 : (upd (cA a 17) s (nI 0)) s = nI 0 := by unfold upd; rw [if_pos rfl]
    refine k_vs (v' := .int (nI 0)) (congrArg Value.int e2) ?_
    exact k_ireturn d2_lose_31 rfl rfl rfl rfl (Nat.le_of_ble_eq_true rfl) (Nat.le_of_ble_eq_true rfl)
  · have e : 1 - a 17 s = 1 := by omega
    rw [e] at hK
    refine And.intro (Or.inr rfl) ?_
    refine k_at (j := s) (by omega) ?_
    refine k_at (j := s) (by omega) ?_
    refine hK _ ?_
    refine k_heq (hX_eq rfl (cA_up a 17 s 1)) ?_
    have e2 : (upd (cA a 17) s (nI 1)) s = nI 1 := by unfold upd; rw [if_pos rfl]
    refine k_vs (v' := .int (nI 1)) (congrArg Value.int e2) ?_
    exact k_ireturn d2_lose_31 rfl rfl rfl rfl (Nat.le_of_ble_eq_true rfl) (Nat.le_of_ble_eq_true rfl)
end PB
