section MC
variable {g : Nat → Nat} {b : Nat → Nat → Nat} {F : Nat → Int32} {A : Nat → Nat → Int32} {o : Nat → Int64} {x y z w : Int32}
theorem m3_go_unk (hf : g 3 < 2 ^ 31) (h : ¬ inR x (g 3)) : k_Met Y3_go [.ref 24, .int x, .int y, .int z, .int w] (hY g b F A o) (.inl none, hY (up1 g 0 1) b F A o, 0, 0) := by
  have tail : ∀ rg : Bool, k_W Y3_go none (.inl none, hY (up1 g 0 1) b F A o, 0, 0) (28, [(0, .ref 24), (1, .int x), (2, .int y), (3, .int z), (4, .int w)], [.int (bB rg), .int (bB false), .int (nI 3), .ref 24], hY g b F A o, 0, 0) := by
    intro rg
    refine k_go 99 [] T3_go_ok (fun K hK => ?_)
    refine hK _ ?_
    refine k_callV (Y' := Y3_goes) (as := [.int (nI 3), .int (bB false), .int (bB rg), .int (bB true), .int (bB true)]) (st := []) (m3_goes (k := 3) (by omega) false rg true true) rfl c3_85 rfl rfl rfl d3_go_30 (Nat.le_of_ble_eq_true rfl) (Nat.le_of_ble_eq_true rfl) rfl rfl ?_
    refine k_go 99 [] T3_go_ok (fun K hK => ?_)
    refine q_ne (fun e => absurd e (by simp)) (fun _ => ?_)
    refine hK _ ?_
    exact k_return d3_go_36 rfl rfl rfl (Nat.le_of_ble_eq_true rfl) (Nat.le_of_ble_eq_true rfl)
  refine k_intro (by decide +kernel) rfl rfl rfl ?_
  refine k_go 99 [28] T3_go_ok (fun K hK => ?_)
  refine hK _ ?_
  refine k_callV (Y' := Y3_isUnit) (as := [.int x]) (st := [.int (nI 3), .ref 24]) (m3_isUnit hf) rfl c3_103 rfl rfl rfl d3_go_4 (Nat.le_of_ble_eq_true rfl) (Nat.le_of_ble_eq_true rfl) rfl rfl ?_
  rw [decide_eq_false h]
  refine k_go 99 [28] T3_go_ok (fun K hK => ?_)
  refine hK _ ?_
  refine k_callS (Y' := Y3_isPoint) (as := [.int y, .int z]) (st := [.int (bB false), .int (nI 3), .ref 24]) (m3_isPoint) rfl c3_95 rfl rfl d3_go_9 (Nat.le_of_ble_eq_true rfl) (Nat.le_of_ble_eq_true rfl) rfl rfl ?_
  refine k_go 99 [28] T3_go_ok (fun K hK => ?_)
  refine q_eq (fun _ => hK _ (tail false)) (fun h1 => ?_)
  refine hK _ ?_
  refine k_callS (Y' := Y3_isChannel) (as := [.int w]) (st := [.int (bB false), .int (nI 3), .ref 24]) (m3_isChannel) rfl c3_99 rfl rfl d3_go_17 (Nat.le_of_ble_eq_true rfl) (Nat.le_of_ble_eq_true rfl) rfl rfl ?_
  refine k_go 99 [28] T3_go_ok (fun K hK => ?_)
  refine q_eq (fun _ => hK _ (tail false)) (fun _ => hK _ (tail true))
theorem m3_go_bad (hf : g 3 < 2 ^ 31) (h0 : inR x (g 3)) (h : ¬ (inR y 10000 ∧ inR z 10000 ∧ inR w 6)) : k_Met Y3_go [.ref 24, .int x, .int y, .int z, .int w] (hY g b F A o) (.inl none, hY (up1 g 0 2) b F A o, 0, 0) := by
  have tail : k_W Y3_go none (.inl none, hY (up1 g 0 2) b F A o, 0, 0) (28, [(0, .ref 24), (1, .int x), (2, .int y), (3, .int z), (4, .int w)], [.int (bB false), .int (bB true), .int (nI 3), .ref 24], hY g b F A o, 0, 0) := by
    refine k_go 99 [] T3_go_ok (fun K hK => ?_)
    refine hK _ ?_
    refine k_callV (Y' := Y3_goes) (as := [.int (nI 3), .int (bB true), .int (bB false), .int (bB true), .int (bB true)]) (st := []) (m3_goes (k := 3) (by omega) true false true true) rfl c3_85 rfl rfl rfl d3_go_30 (Nat.le_of_ble_eq_true rfl) (Nat.le_of_ble_eq_true rfl) rfl rfl ?_
    refine k_go 99 [] T3_go_ok (fun K hK => ?_)
    refine q_ne (fun e => absurd e (by decide)) (fun _ => ?_)
    refine hK _ ?_
    exact k_return d3_go_36 rfl rfl rfl (Nat.le_of_ble_eq_true rfl) (Nat.le_of_ble_eq_true rfl)
  refine k_intro (by decide +kernel) rfl rfl rfl ?_
  refine k_go 99 [28] T3_go_ok (fun K hK => ?_)
  refine hK _ ?_
  refine k_callV (Y' := Y3_isUnit) (as := [.int x]) (st := [.int (nI 3), .ref 24]) (m3_isUnit hf) rfl c3_103 rfl rfl rfl d3_go_4 (Nat.le_of_ble_eq_true rfl) (Nat.le_of_ble_eq_true rfl) rfl rfl ?_
  rw [decide_eq_true h0]
  refine k_go 99 [28] T3_go_ok (fun K hK => ?_)
  refine hK _ ?_
  refine k_callS (Y' := Y3_isPoint) (as := [.int y, .int z]) (st := [.int (bB true), .int (nI 3), .ref 24]) (m3_isPoint) rfl c3_95 rfl rfl d3_go_9 (Nat.le_of_ble_eq_true rfl) (Nat.le_of_ble_eq_true rfl) rfl rfl ?_
  refine k_go 99 [28] T3_go_ok (fun K hK => ?_)
  refine q_eq (fun _ => hK _ tail) (fun h1 => ?_)
  refine hK _ ?_
  refine k_callS (Y' := Y3_isChannel) (as := [.int w]) (st := [.int (bB true), .int (nI 3), .ref 24]) (m3_isChannel) rfl c3_99 rfl rfl d3_go_17 (Nat.le_of_ble_eq_true rfl) (Nat.le_of_ble_eq_true rfl) rfl rfl ?_
  refine k_go 99 [28] T3_go_ok (fun K hK => ?_)
  refine q_eq (fun _ => hK _ tail) (fun h2 => ?_)
  exfalso
  simp only [Bool.and_eq_true, decide_eq_true_eq] at h1 h2
  exact h ⟨h1.1, h1.2, h2⟩
def goB (b : Nat → Nat → Nat) (u xx yy c : Nat) : Nat → Nat → Nat := up2 (up2 (up2 b 1 u xx) 2 u yy) 4 u c
theorem m3_go_ok (hf : g 3 ≤ 20) {u xx yy c : Nat} (hu : u < g 3) (h1 : xx < 10000) (h2 : yy < 10000) (h4 : c < 6) : k_Met Y3_go [.ref 24, .int (nI u), .int (nI xx), .int (nI yy), .int (nI c)] (hY g b F A o) (.inl none, hY (up1 g 0 0) (goB b u xx yy c) F A o, 0, 0) := by
  refine k_intro (by decide +kernel) rfl rfl rfl ?_
  refine k_go 99 [28] T3_go_ok (fun K hK => ?_)
  refine hK _ ?_
  refine k_callV (Y' := Y3_isUnit) (as := [.int (nI u)]) (st := [.int (nI 3), .ref 24]) (m3_isUnit (by omega)) rfl c3_103 rfl rfl rfl d3_go_4 (Nat.le_of_ble_eq_true rfl) (Nat.le_of_ble_eq_true rfl) rfl rfl ?_
  rw [decide_eq_true (inR_nI hu (by omega))]
  refine k_go 99 [28] T3_go_ok (fun K hK => ?_)
  refine hK _ ?_
  refine k_callS (Y' := Y3_isPoint) (as := [.int (nI xx), .int (nI yy)]) (st := [.int (bB true), .int (nI 3), .ref 24]) (m3_isPoint) rfl c3_95 rfl rfl d3_go_9 (Nat.le_of_ble_eq_true rfl) (Nat.le_of_ble_eq_true rfl) rfl rfl ?_
  refine k_go 99 [28] T3_go_ok (fun K hK => ?_)
  refine q_eq (fun e => by rw [decide_eq_true (inR_nI h1 (by omega)), decide_eq_true (inR_nI h2 (by omega))] at e; cases e) (fun _ => ?_)
  refine hK _ ?_
  refine k_callS (Y' := Y3_isChannel) (as := [.int (nI c)]) (st := [.int (bB true), .int (nI 3), .ref 24]) (m3_isChannel) rfl c3_99 rfl rfl d3_go_17 (Nat.le_of_ble_eq_true rfl) (Nat.le_of_ble_eq_true rfl) rfl rfl ?_
  refine k_go 99 [28] T3_go_ok (fun K hK => ?_)
  refine q_eq (fun e => by rw [decide_eq_true (inR_nI h4 (by omega))] at e; cases e) (fun _ => ?_)
  refine hK _ ?_
  refine k_go 99 [] T3_go_ok (fun K hK => ?_)
  refine hK _ ?_
  refine k_callV (Y' := Y3_goes) (as := [.int (nI 3), .int (bB true), .int (bB true), .int (bB true), .int (bB true)]) (st := []) (m3_goes (k := 3) (by omega) true true true true) rfl c3_85 rfl rfl rfl d3_go_30 (Nat.le_of_ble_eq_true rfl) (Nat.le_of_ble_eq_true rfl) rfl rfl ?_
  refine k_go 99 [] T3_go_ok (fun K hK => ?_)
  refine q_ne (fun _ => ?_) (fun e => absurd e (by decide))
  refine k_at (j := u) (by omega) ?_
  refine k_at (j := u) (by omega) ?_
  refine k_at (j := u) (by omega) ?_
  refine hK _ ?_
  exact k_return d3_go_59 rfl rfl (hY_eq rfl (cA_up' (cA_up' (cA_up' (a := b) rfl rfl) rfl) rfl)).symm (Nat.le_of_ble_eq_true rfl) (Nat.le_of_ble_eq_true rfl)
theorem m3_limit_bad (h : ¬ inR x 1001) : k_Met Y3_limit [.ref 24, .int x] (hY g b F A o) (.inl none, hY (up1 g 0 1) b F A o, 0, 0) := by
  refine k_intro (by decide +kernel) rfl rfl rfl ?_
  refine k_go 99 [] T3_limit_ok (fun K hK => ?_)
  refine hK _ ?_
  refine k_callS (Y' := Y3_in) (as := [.int x, .int (nI 0), .int (nI 1000)]) (st := [.int (nI 1), .int (nI 2), .ref 24]) (m3_inR (n := 1000) (by omega)) rfl c3_72 rfl rfl d3_limit_8 (Nat.le_of_ble_eq_true rfl) (Nat.le_of_ble_eq_true rfl) rfl rfl ?_
  rw [decide_eq_false h]
  refine k_go 99 [] T3_limit_ok (fun K hK => ?_)
  refine hK _ ?_
  refine k_callV (Y' := Y3_goes) (as := [.int (nI 2), .int (bB true), .int (bB false), .int (bB true), .int (bB true)]) (st := []) (m3_goes (k := 2) (by omega) true false true true) rfl c3_85 rfl rfl rfl d3_limit_13 (Nat.le_of_ble_eq_true rfl) (Nat.le_of_ble_eq_true rfl) rfl rfl ?_
  refine k_go 99 [] T3_limit_ok (fun K hK => ?_)
  refine q_eq (fun _ => ?_) (fun e => absurd e (by decide))
  refine hK _ ?_
  exact k_return d3_limit_24 rfl rfl rfl (Nat.le_of_ble_eq_true rfl) (Nat.le_of_ble_eq_true rfl)
theorem m3_limit_ok {n : Nat} (hn : n ≤ 1000) : k_Met Y3_limit [.ref 24, .int (nI n)] (hY g b F A o) (.inl none, hY (up1 (up1 g 0 0) 2 n) b F A o, 0, 0) := by
  refine k_intro (by decide +kernel) rfl rfl rfl ?_
  refine k_go 99 [] T3_limit_ok (fun K hK => ?_)
  refine hK _ ?_
  refine k_callS (Y' := Y3_in) (as := [.int (nI n), .int (nI 0), .int (nI 1000)]) (st := [.int (nI 1), .int (nI 2), .ref 24]) (m3_inR (n := 1000) (by omega)) rfl c3_72 rfl rfl d3_limit_8 (Nat.le_of_ble_eq_true rfl) (Nat.le_of_ble_eq_true rfl) rfl rfl ?_
  rw [decide_eq_true (inR_nI (n := 1001) (by omega) (by omega))]
  refine k_go 99 [] T3_limit_ok (fun K hK => ?_)
  refine hK _ ?_
  refine k_callV (Y' := Y3_goes) (as := [.int (nI 2), .int (bB true), .int (bB true), .int (bB true), .int (bB true)]) (st := []) (m3_goes (k := 2) (by omega) true true true true) rfl c3_85 rfl rfl rfl d3_limit_13 (Nat.le_of_ble_eq_true rfl) (Nat.le_of_ble_eq_true rfl) rfl rfl ?_
  refine k_go 99 [] T3_limit_ok (fun K hK => ?_)
  refine q_eq (fun e => absurd e (by decide)) (fun _ => ?_)
  refine hK _ ?_
  exact k_return d3_limit_24 rfl rfl (hY_eq (cF_up' (f := up1 g 0 0) rfl) rfl).symm (Nat.le_of_ble_eq_true rfl) (Nat.le_of_ble_eq_true rfl)
theorem m3_lose_bad (hf : g 1 < 2 ^ 31) (h : ¬ inR x (g 1)) : k_Met Y3_lose [.ref 24, .int x] (hY g b F A o) (.inl (some (.int 0)), hY (up1 g 0 1) b F A o, 0, 0) := by
  refine k_intro (by decide +kernel) rfl rfl rfl ?_
  refine k_go 99 [] T3_lose_ok (fun K hK => ?_)
  refine hK _ ?_
  refine k_callV (Y' := Y3_isSlot) (as := [.int x]) (st := [.int (nI 1), .int (nI 2), .ref 24]) (m3_isSlot hf) rfl c3_106 rfl rfl rfl d3_lose_5 (Nat.le_of_ble_eq_true rfl) (Nat.le_of_ble_eq_true rfl) rfl rfl ?_
  rw [decide_eq_false h]
  refine k_go 99 [] T3_lose_ok (fun K hK => ?_)
  refine hK _ ?_
  refine k_callV (Y' := Y3_goes) (as := [.int (nI 2), .int (bB true), .int (bB false), .int (bB true), .int (bB true)]) (st := []) (m3_goes (k := 2) (by omega) true false true true) rfl c3_85 rfl rfl rfl d3_lose_10 (Nat.le_of_ble_eq_true rfl) (Nat.le_of_ble_eq_true rfl) rfl rfl ?_
  refine k_go 99 [] T3_lose_ok (fun K hK => ?_)
  refine q_ne (fun e => absurd e (by decide)) (fun _ => ?_)
  refine hK _ ?_
  exact k_ireturn d3_lose_17 rfl rfl rfl rfl (Nat.le_of_ble_eq_true rfl) (Nat.le_of_ble_eq_true rfl)
theorem m3_lose_ok (hf : g 1 ≤ 1000) {s : Nat} (hs : s < g 1) (h14 : b 14 s < 2) : k_Met Y3_lose [.ref 24, .int (nI s)] (hY g b F A o) (.inl (some (.int (nI (1 - b 14 s)))), hY (up1 g 0 0) (up2 b 14 s (1 - b 14 s)) F A o, 0, 0) := by
  refine k_intro (by decide +kernel) rfl rfl rfl ?_
  refine k_go 99 [] T3_lose_ok (fun K hK => ?_)
  refine hK _ ?_
  refine k_callV (Y' := Y3_isSlot) (as := [.int (nI s)]) (st := [.int (nI 1), .int (nI 2), .ref 24]) (m3_isSlot (by omega)) rfl c3_106 rfl rfl rfl d3_lose_5 (Nat.le_of_ble_eq_true rfl) (Nat.le_of_ble_eq_true rfl) rfl rfl ?_
  rw [decide_eq_true (inR_nI hs (by omega))]
  refine k_go 99 [] T3_lose_ok (fun K hK => ?_)
  refine hK _ ?_
  refine k_callV (Y' := Y3_goes) (as := [.int (nI 2), .int (bB true), .int (bB true), .int (bB true), .int (bB true)]) (st := []) (m3_goes (k := 2) (by omega) true true true true) rfl c3_85 rfl rfl rfl d3_lose_10 (Nat.le_of_ble_eq_true rfl) (Nat.le_of_ble_eq_true rfl) rfl rfl ?_
  refine k_go 99 [] T3_lose_ok (fun K hK => ?_)
  refine q_ne (fun _ => ?_) (fun e => absurd e (by decide))
  refine k_at (j := s) (by omega) ?_
  refine z_ne (a := b 14 s) (by omega) (fun h => ?_) (fun h => ?_)
  · have e : 1 - b 14 s = 0 := by omega
    rw [e] at hK
    refine And.intro (Or.inl rfl) ?_
    refine k_at (j := s) (by omega) ?_
    refine k_at (j := s) (by omega) ?_
    refine hK _ ?_
    refine k_heq (hY_eq rfl (cA_up b 14 s 0)) ?_
    have e2 : (upd (cA b 14) s (nI 0)) s = nI 0 := by unfold upd; rw [if_pos rfl]
    refine k_vs (v' := .int (nI 0)) (congrArg Value.int e2) ?_
    exact k_ireturn d3_lose_44 rfl rfl rfl rfl (Nat.le_of_ble_eq_true rfl) (Nat.le_of_ble_eq_true rfl)
  · have e : 1 - b 14 s = 1 := by omega
    rw [e] at hK
    refine And.intro (Or.inr rfl) ?_
    refine k_at (j := s) (by omega) ?_
    refine k_at (j := s) (by omega) ?_
    refine hK _ ?_
    refine k_heq (hY_eq rfl (cA_up b 14 s 1)) ?_
    have e2 : (upd (cA b 14) s (nI 1)) s = nI 1 := by unfold upd; rw [if_pos rfl]
    refine k_vs (v' := .int (nI 1)) (congrArg Value.int e2) ?_
    exact k_ireturn d3_lose_44 rfl rfl rfl rfl (Nat.le_of_ble_eq_true rfl) (Nat.le_of_ble_eq_true rfl)
theorem m3_patch_bad (h : ¬ (inR x 6 ∧ inR y 6)) : k_Met Y3_patch [.ref 24, .int x, .int y] (hY g b F A o) (.inl (some (.int 0)), hY (up1 g 0 1) b F A o, 0, 0) := by
  have tail : k_W Y3_patch none (.inl (some (.int 0)), hY (up1 g 0 1) b F A o, 0, 0) (22, [(0, .ref 24), (1, .int x), (2, .int y)], [.int (bB false), .int (nI 1), .int (nI 2), .ref 24], hY g b F A o, 0, 0) := by
    refine k_go 99 [] T3_patch_ok (fun K hK => ?_)
    refine hK _ ?_
    refine k_callV (Y' := Y3_goes) (as := [.int (nI 2), .int (bB true), .int (bB false), .int (bB true), .int (bB true)]) (st := []) (m3_goes (k := 2) (by omega) true false true true) rfl c3_85 rfl rfl rfl d3_patch_24 (Nat.le_of_ble_eq_true rfl) (Nat.le_of_ble_eq_true rfl) rfl rfl ?_
    refine k_go 99 [] T3_patch_ok (fun K hK => ?_)
    refine q_eq (fun _ => ?_) (fun e => absurd e (by decide))
    refine hK _ ?_
    exact k_ireturn d3_patch_46 rfl rfl rfl rfl (Nat.le_of_ble_eq_true rfl) (Nat.le_of_ble_eq_true rfl)
  refine k_intro (by decide +kernel) rfl rfl rfl ?_
  refine k_go 99 [22] T3_patch_ok (fun K hK => ?_)
  refine hK _ ?_
  refine k_callS (Y' := Y3_isChannel) (as := [.int x]) (st := [.int (nI 1), .int (nI 2), .ref 24]) (m3_isChannel) rfl c3_99 rfl rfl d3_patch_4 (Nat.le_of_ble_eq_true rfl) (Nat.le_of_ble_eq_true rfl) rfl rfl ?_
  refine k_go 99 [22] T3_patch_ok (fun K hK => ?_)
  refine q_eq (fun _ => hK _ tail) (fun h1 => ?_)
  refine hK _ ?_
  refine k_callS (Y' := Y3_isChannel) (as := [.int y]) (st := [.int (nI 1), .int (nI 2), .ref 24]) (m3_isChannel) rfl c3_99 rfl rfl d3_patch_11 (Nat.le_of_ble_eq_true rfl) (Nat.le_of_ble_eq_true rfl) rfl rfl ?_
  refine k_go 99 [22] T3_patch_ok (fun K hK => ?_)
  refine q_eq (fun _ => hK _ tail) (fun h2 => ?_)
  exfalso
  exact h ⟨of_decide_eq_true h1, of_decide_eq_true h2⟩
theorem m3_patch_no (hb : ∀ j, b 0 j < 6) {p q : Nat} (hp : p < 6) (hq : q < 6) (h : b 0 p = b 0 q) : k_Met Y3_patch [.ref 24, .int (nI p), .int (nI q)] (hY g b F A o) (.inl (some (.int 0)), hY (up1 g 0 0) b F A o, 0, 0) := by
  have h1 := hb p
  have h2 := hb q
  refine k_intro (by decide +kernel) rfl rfl rfl ?_
  refine k_go 99 [22] T3_patch_ok (fun K hK => ?_)
  refine hK _ ?_
  refine k_callS (Y' := Y3_isChannel) (as := [.int (nI p)]) (st := [.int (nI 1), .int (nI 2), .ref 24]) (m3_isChannel) rfl c3_99 rfl rfl d3_patch_4 (Nat.le_of_ble_eq_true rfl) (Nat.le_of_ble_eq_true rfl) rfl rfl ?_
  refine k_go 99 [22] T3_patch_ok (fun K hK => ?_)
  refine q_eq (fun e => by rw [decide_eq_true (inR_nI hp (by omega))] at e; cases e) (fun _ => ?_)
  refine hK _ ?_
  refine k_callS (Y' := Y3_isChannel) (as := [.int (nI q)]) (st := [.int (nI 1), .int (nI 2), .ref 24]) (m3_isChannel) rfl c3_99 rfl rfl d3_patch_11 (Nat.le_of_ble_eq_true rfl) (Nat.le_of_ble_eq_true rfl) rfl rfl ?_
  refine k_go 99 [22] T3_patch_ok (fun K hK => ?_)
  refine q_eq (fun e => by rw [decide_eq_true (inR_nI hq (by omega))] at e; cases e) (fun _ => ?_)
  refine hK _ ?_
  refine k_go 99 [] T3_patch_ok (fun K hK => ?_)
  refine hK _ ?_
  refine k_callV (Y' := Y3_goes) (as := [.int (nI 2), .int (bB true), .int (bB true), .int (bB true), .int (bB true)]) (st := []) (m3_goes (k := 2) (by omega) true true true true) rfl c3_85 rfl rfl rfl d3_patch_24 (Nat.le_of_ble_eq_true rfl) (Nat.le_of_ble_eq_true rfl) rfl rfl ?_
  refine k_go 99 [57] T3_patch_ok (fun K hK => ?_)
  refine q_eq (fun e => absurd e (by decide)) (fun _ => ?_)
  refine k_at (j := p) hp ?_
  refine k_at (j := q) hq ?_
  refine b_ne (a := b 0 p) (b := b 0 q) (by omega) (by omega) (fun t => absurd h t) (fun _ => ?_)
  refine hK _ ?_
  exact k_ireturn d3_patch_46 rfl rfl rfl rfl (Nat.le_of_ble_eq_true rfl) (Nat.le_of_ble_eq_true rfl)
theorem m3_patch_loop (hb : ∀ j, b 0 j < 6) {p q : Nat} (hp : p < 6) (hq : q < 6) (hne : b 0 p ≠ b 0 q) : ∀ (n i : Nat), 6 - i < n → i ≤ 6 →
    k_W Y3_patch none (.inl (some (.int 1)), hY g (rowA b 0 (jnR (b 0) (b 0 p) (b 0 q) 6)) F A o, 0, 0) (57, [(4, .int (nI i)), (3, .int (nI (b 0 q))), (0, .ref 24), (1, .int (nI p)), (2, .int (nI q))], [], hY g (rowA b 0 (jnR (b 0) (b 0 p) (b 0 q) i)) F A o, 0, 0) := by
  have h2 := hb q
  intro n
  induction n with
  | zero => intro i h; omega
  | succ n ih =>
    intro i hn hi
    refine k_go 99 [57] T3_patch_ok (fun K hK => ?_)
    refine b_ge (a := i) (b := 6) (by omega) (by omega) (fun h => ?_) (fun h => ?_)
    · have e : i = 6 := by omega
      subst e
      refine hK _ ?_
      exact k_ireturn d3_patch_95 rfl rfl rfl rfl (Nat.le_of_ble_eq_true rfl) (Nat.le_of_ble_eq_true rfl)
    · refine k_at (j := i) (by omega) ?_
      have h1 := hb i
      have e1 : jnR (b 0) (b 0 p) (b 0 q) i i = b 0 i := by unfold jnR; rw [if_neg (by omega)]
      refine b_ne (a := jnR (b 0) (b 0 p) (b 0 q) i i) (b := b 0 q) (by rw [e1]; omega) (by omega) (fun h3 => ?_) (fun h3 => ?_)
      · rw [e1] at h3
        refine k_eq (z := nI (i + 1)) (nI_add i 1) ?_
        refine hK _ ?_
        have e2 := jnR_ne (kept := b 0 p) h3
        have := ih (i + 1) (by omega) (by omega)
        rw [← e2] at this
        exact this
      · rw [e1] at h3
        refine k_at (j := p) hp ?_
        refine k_at (j := i) (by omega) ?_
        refine k_eq (z := nI (i + 1)) (nI_add i 1) ?_
        refine hK _ ?_
        have e5 : jnR (b 0) (b 0 p) (b 0 q) i p = b 0 p := by unfold jnR; rw [if_neg (fun t => hne t.2)]
        refine k_heq (hY_eq rfl ((congrArg (fun v => upA (cA (rowA b 0 (jnR (b 0) (b 0 p) (b 0 q) i))) 0 (upd (cA (rowA b 0 (jnR (b 0) (b 0 p) (b 0 q) i)) 0) i (nI v))) e5).trans ((cA_up (rowA b 0 (jnR (b 0) (b 0 p) (b 0 q) i)) 0 i (b 0 p)).trans (congrArg cA ((up2_row b 0 i (b 0 p) _).trans (congrArg (rowA b 0) (jnR_eq h3))))))) ?_
        exact ih (i + 1) (by omega) (by omega)
theorem m3_patch_ok (hb : ∀ j, b 0 j < 6) {p q : Nat} (hp : p < 6) (hq : q < 6) (h : b 0 p ≠ b 0 q) : k_Met Y3_patch [.ref 24, .int (nI p), .int (nI q)] (hY g b F A o) (.inl (some (.int 1)), hY (up1 g 0 0) (rowA b 0 (jnR (b 0) (b 0 p) (b 0 q) 6)) F A o, 0, 0) := by
  have h1 := hb p
  have h2 := hb q
  refine k_intro (by decide +kernel) rfl rfl rfl ?_
  refine k_go 99 [22] T3_patch_ok (fun K hK => ?_)
  refine hK _ ?_
  refine k_callS (Y' := Y3_isChannel) (as := [.int (nI p)]) (st := [.int (nI 1), .int (nI 2), .ref 24]) (m3_isChannel) rfl c3_99 rfl rfl d3_patch_4 (Nat.le_of_ble_eq_true rfl) (Nat.le_of_ble_eq_true rfl) rfl rfl ?_
  refine k_go 99 [22] T3_patch_ok (fun K hK => ?_)
  refine q_eq (fun e => by rw [decide_eq_true (inR_nI hp (by omega))] at e; cases e) (fun _ => ?_)
  refine hK _ ?_
  refine k_callS (Y' := Y3_isChannel) (as := [.int (nI q)]) (st := [.int (nI 1), .int (nI 2), .ref 24]) (m3_isChannel) rfl c3_99 rfl rfl d3_patch_11 (Nat.le_of_ble_eq_true rfl) (Nat.le_of_ble_eq_true rfl) rfl rfl ?_
  refine k_go 99 [22] T3_patch_ok (fun K hK => ?_)
  refine q_eq (fun e => by rw [decide_eq_true (inR_nI hq (by omega))] at e; cases e) (fun _ => ?_)
  refine hK _ ?_
  refine k_go 99 [] T3_patch_ok (fun K hK => ?_)
  refine hK _ ?_
  refine k_callV (Y' := Y3_goes) (as := [.int (nI 2), .int (bB true), .int (bB true), .int (bB true), .int (bB true)]) (st := []) (m3_goes (k := 2) (by omega) true true true true) rfl c3_85 rfl rfl rfl d3_patch_24 (Nat.le_of_ble_eq_true rfl) (Nat.le_of_ble_eq_true rfl) rfl rfl ?_
  refine k_go 99 [57] T3_patch_ok (fun K hK => ?_)
  refine q_eq (fun e => absurd e (by decide)) (fun _ => ?_)
  refine k_at (j := p) hp ?_
  refine k_at (j := q) hq ?_
  refine b_ne (a := b 0 p) (b := b 0 q) (by omega) (by omega) (fun _ => ?_) (fun t => absurd t h)
  refine k_at (j := q) hq ?_
  refine hK _ ?_
  have := m3_patch_loop (g := up1 g 0 0) (F := F) (A := A) (o := o) hb hp hq h 7 0 (by omega) (by omega)
  rw [jnR_0, rowA_self] at this
  exact this
end MC
