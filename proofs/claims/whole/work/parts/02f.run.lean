def k_dck (cc : ByteArray) (q : Nat × Instr × Nat × Nat) : Bool := decide (decode cc q.1 = .ok (q.2.1, k_len q.2.1)) && Nat.beq q.2.2.1 (q.1 + k_len q.2.1) && k_tgt q.1 q.2.1 q.2.2.2
set_option maxHeartbeats 4000000 in
theorem k_ex_ok {Y : k_Y} {sc : k_Sc} {G : k_G} {i : Instr} {nx tg : Nat} {S : k_S} {K : k_S → Prop} (d : decode (k_cc Y) S.1 = .ok (i, k_len i)) (hn : nx = S.1 + k_len i) (ht : k_tgt S.1 i tg = true) (hK : ∀ S', K S' → k_W Y sc G S') (hx : k_ex Y.1 (k_nL Y) sc i nx tg S K) : k_W Y sc G S := by
  obtain ⟨pc, ls, st, h, nc, ns⟩ := S
  subst hn
  cases i with
  | iload_n j =>
    unfold k_ex at hx
    dsimp only at hx
    split at hx
    · next x hl => exact k_iload_n d hl (hK _ hx)
    · exact hx.elim
  | iload j =>
    unfold k_ex at hx
    dsimp only at hx
    split at hx
    · next x hl => exact k_iload d hl (hK _ hx)
    · exact hx.elim
  | aload_n j =>
    unfold k_ex at hx
    dsimp only at hx
    split at hx
    · next x hl => exact k_aload_n d hl (hK _ hx)
    · exact hx.elim
  | aload j =>
    unfold k_ex at hx
    dsimp only at hx
    split at hx
    · next x hl => exact k_aload d hl (hK _ hx)
    · exact hx.elim
  | istore_n j =>
    unfold k_ex at hx
    dsimp only at hx
    split at hx
    · next x st2 =>
      obtain ⟨h1, h2⟩ := k_cond hx
      obtain ⟨h3, h4⟩ := k_and2 h1
      exact k_istore_n d h3 h4 (hK _ h2)
    · exact hx.elim
  | istore j =>
    unfold k_ex at hx
    dsimp only at hx
    split at hx
    · next x st2 =>
      obtain ⟨h1, h2⟩ := k_cond hx
      obtain ⟨h3, h4⟩ := k_and2 h1
      exact k_istore d h3 h4 (hK _ h2)
    · exact hx.elim
  | astore_n j =>
    unfold k_ex at hx
    dsimp only at hx
    split at hx
    · next x st2 =>
      obtain ⟨h1, h2⟩ := k_cond hx
      obtain ⟨h3, h4⟩ := k_and2 h1
      exact k_astore_n d h3 h4 (hK _ h2)
    · exact hx.elim
  | astore j =>
    unfold k_ex at hx
    dsimp only at hx
    split at hx
    · next x st2 =>
      obtain ⟨h1, h2⟩ := k_cond hx
      obtain ⟨h3, h4⟩ := k_and2 h1
      exact k_astore d h3 h4 (hK _ h2)
    · exact hx.elim
  | iconst n => exact k_iconst d (hK _ hx)
  | bipush n =>
    unfold k_ex at hx
    dsimp only at hx
    split at hx
    · next q =>
      obtain ⟨h1, h2⟩ := k_cond hx
      exact k_bipush d h1 (hK _ h2)
    · exact hx.elim
  | sipush n =>
    unfold k_ex at hx
    dsimp only at hx
    split at hx
    · next q =>
      obtain ⟨h1, h2⟩ := k_cond hx
      exact k_sipush d h1 (hK _ h2)
    · exact hx.elim
  | lconst n => exact k_lconst d (hK _ hx)
  | i2l =>
    unfold k_ex at hx
    dsimp only at hx
    split at hx
    · exact k_i2l d (hK _ hx)
    · exact hx.elim
  | lcmp =>
    unfold k_ex at hx
    dsimp only at hx
    split at hx
    · exact k_lcmp d (hK _ hx)
    · exact hx.elim
  | iinc j n =>
    unfold k_ex at hx
    dsimp only at hx
    split at hx
    · next x hl =>
      obtain ⟨h1, z, hz, h2⟩ := k_cond hx
      obtain ⟨h3, h4⟩ := k_and2 h1
      exact k_iinc d hl hz h3 h4 (hK _ h2)
    · exact hx.elim
  | iadd =>
    unfold k_ex at hx
    dsimp only at hx
    split at hx
    · obtain ⟨z, hz, h2⟩ := hx
      exact k_iadd d hz (hK _ h2)
    · exact hx.elim
  | isub =>
    unfold k_ex at hx
    dsimp only at hx
    split at hx
    · obtain ⟨z, hz, h2⟩ := hx
      exact k_isub d hz (hK _ h2)
    · exact hx.elim
  | imul =>
    unfold k_ex at hx
    dsimp only at hx
    split at hx
    · obtain ⟨z, hz, h2⟩ := hx
      exact k_imul d hz (hK _ h2)
    · exact hx.elim
  | iand =>
    unfold k_ex at hx
    dsimp only at hx
    split at hx
    · obtain ⟨z, hz, h2⟩ := hx
      exact k_iand d hz (hK _ h2)
    · exact hx.elim
  | dup =>
    unfold k_ex at hx
    dsimp only at hx
    split at hx
    · obtain ⟨h1, h2⟩ := k_cond hx
      exact k_dup d h1 (hK _ h2)
    · exact hx.elim
  | dup2 =>
    unfold k_ex at hx
    dsimp only at hx
    split at hx
    · obtain ⟨h1, h2⟩ := k_cond hx
      obtain ⟨h3, h4⟩ := k_and2 h1
      exact k_dup2 d h3 h4 (hK _ h2)
    · exact hx.elim
  | ifCond c off =>
    have ht2 : (pc : Int) + off = (tg : Int) := by simpa [k_tgt] using ht
    unfold k_ex at hx
    dsimp only at hx
    split at hx
    · exact k_ifCond d ht2 (fun q => hK _ (hx.1 q)) (fun q => hK _ (hx.2 q))
    · exact hx.elim
  | if_icmp c off =>
    have ht2 : (pc : Int) + off = (tg : Int) := by simpa [k_tgt] using ht
    unfold k_ex at hx
    dsimp only at hx
    split at hx
    · exact k_if_icmp d ht2 (fun q => hK _ (hx.1 q)) (fun q => hK _ (hx.2 q))
    · exact hx.elim
  | goto off =>
    have ht2 : (pc : Int) + off = (tg : Int) := by simpa [k_tgt] using ht
    exact k_goto d ht2 (hK _ hx)
  | getfield n =>
    unfold k_ex at hx
    dsimp only at hx
    split at hx
    · next a st2 =>
      split at hx
      · next q hq =>
        split at hx
        · next z hz =>
          obtain ⟨h1, h2⟩ := k_cond hx
          split at h2
          · next v hv =>
            have e1 : z.1 = q.1 := Nat.eq_of_beq_eq_true h1
            obtain ⟨z1, z2⟩ := z
            dsimp only at e1
            subst e1
            exact k_getfield d hq hz hv (hK _ h2)
          · exact h2.elim
        · exact hx.elim
      · exact hx.elim
    · exact hx.elim
  | putfield n =>
    unfold k_ex at hx
    dsimp only at hx
    split at hx
    · next x a st2 =>
      split at hx
      · next q hq =>
        split at hx
        · next z hz =>
          obtain ⟨h1, h2⟩ := k_cond hx
          obtain ⟨h3, h5⟩ := k_and2 h1
          obtain ⟨h3, h4⟩ := k_and2 h3
          have e1 : z.1 = q.1 := Nat.eq_of_beq_eq_true h3
          obtain ⟨z1, z2⟩ := z
          dsimp only at e1
          subst e1
          exact k_putfield d hq hz h4 (k_blt h5) (hK _ h2)
        · exact hx.elim
      · exact hx.elim
    · exact hx.elim
  | iaload =>
    unfold k_ex at hx
    dsimp only at hx
    split at hx
    · next i a st2 =>
      split at hx
      · next n f hz =>
        obtain ⟨h1, j, rfl, h3, h4⟩ := k_cond hx
        exact k_iald rfl d hz (k_blt h1) h3 (hK _ h4)
      · next hz =>
        obtain ⟨h1, h2⟩ := k_cond hx
        have e1 : a = 1000000 := Nat.eq_of_beq_eq_true h1
        subst e1
        split at h2
        · next q =>
          obtain ⟨j, rfl, h3, h5, h4⟩ := h2
          exact k_sld rfl d h3 h5 (hK _ h4)
        · exact h2.elim
      · exact hx.elim
    · exact hx.elim
  | baload =>
    unfold k_ex at hx
    dsimp only at hx
    split at hx
    · next i a st2 =>
      split at hx
      · next n f hz =>
        obtain ⟨h1, j, rfl, h3, h4⟩ := k_cond hx
        exact k_zald rfl d hz (k_blt h1) h3 (hK _ h4)
      · exact hx.elim
    · exact hx.elim
  | laload =>
    unfold k_ex at hx
    dsimp only at hx
    split at hx
    · next i a st2 =>
      split at hx
      · next n f hz =>
        obtain ⟨h1, j, rfl, h3, h4⟩ := k_cond hx
        exact k_lald rfl d hz (k_blt h1) h3 (hK _ h4)
      · exact hx.elim
    · exact hx.elim
  | iastore =>
    unfold k_ex at hx
    dsimp only at hx
    split at hx
    · next x i a st2 =>
      split at hx
      · next n f hz =>
        obtain ⟨h1, j, rfl, h3, h4⟩ := k_cond hx
        exact k_iast rfl d hz (k_blt h1) h3 (hK _ h4)
      · exact hx.elim
    · exact hx.elim
  | bastore =>
    unfold k_ex at hx
    dsimp only at hx
    split at hx
    · next x i a st2 =>
      split at hx
      · next n f hz =>
        obtain ⟨h1, h2, j, rfl, h3, h4⟩ := k_cond hx
        exact k_zast rfl d hz (k_blt h1) h3 h2 (hK _ h4)
      · exact hx.elim
    · exact hx.elim
  | lastore =>
    unfold k_ex at hx
    dsimp only at hx
    split at hx
    · next x i a st2 =>
      split at hx
      · next n f hz =>
        obtain ⟨h1, j, rfl, h3, h4⟩ := k_cond hx
        exact k_last rfl d hz (k_blt h1) h3 (hK _ h4)
      · exact hx.elim
    · exact hx.elim
  | arraylength =>
    unfold k_ex at hx
    dsimp only at hx
    split at hx
    · next a st2 =>
      split at hx
      · next n f hz => exact k_alen rfl d hz (hK _ hx)
      · next hz =>
        obtain ⟨h1, h2⟩ := k_cond hx
        have e1 : a = 1000000 := Nat.eq_of_beq_eq_true h1
        subst e1
        split at h2
        · next q => exact k_slen rfl d (hK _ h2)
        · exact h2.elim
      · exact hx.elim
    · exact hx.elim
  | _ => exact False.elim hx
theorem k_run_ok {Y : k_Y} {sc : k_Sc} {G : k_G} {blk : List (Nat × Instr × Nat × Nat)} (hb : blk.all (k_dck (k_cc Y)) = true) (stops : List Nat) {K : k_S → Prop} (hK : ∀ S', K S' → k_W Y sc G S') : ∀ (f : Nat) (S : k_S), k_run Y.1 (k_nL Y) sc blk stops K f S → k_W Y sc G S := by
  intro f
  induction f with
  | zero => intro S h; exact hK S h
  | succ f ih =>
    intro S h
    unfold k_run at h
    split at h
    · exact hK S h
    · next q hq =>
      have h1 := List.all_eq_true.mp hb _ (k_lk_mem hq)
      unfold k_dck at h1
      obtain ⟨h2, h3⟩ := k_and2 h1
      obtain ⟨h4, h5⟩ := k_and2 h2
      refine k_ex_ok (of_decide_eq_true h4) (Nat.eq_of_beq_eq_true h5) h3 (K := fun S' => cond (k_elem S'.1 stops) (K S') (k_run Y.1 (k_nL Y) sc blk stops K f S')) (fun S' h' => ?_) h
      cases hc : k_elem S'.1 stops with
      | true => rw [hc] at h'; exact hK S' h'
      | false => rw [hc] at h'; exact ih S' h'
theorem k_go {Y : k_Y} {sc : k_Sc} {G : k_G} {S : k_S} (f : Nat) {blk : List (Nat × Instr × Nat × Nat)} (stops : List Nat) (hb : blk.all (k_dck (k_cc Y)) = true) (h : ∀ K : k_S → Prop, (∀ S', k_W Y sc G S' → K S') → k_run Y.1 (k_nL Y) sc blk stops K f S) : k_W Y sc G S :=
  k_run_ok hb stops (fun _ h' => h') f S (h (k_W Y sc G) (fun _ h' => h'))
