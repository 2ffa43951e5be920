theorem k_inA {g : va_G} {cA : Nat → ClassId} {ad : Nat → Nat} {A : Nat → Prop} {H0 H : Heap} {locs : List Loc} {h : List k_O} (hD : va_D A (k_w cA ad h)) (hS : va_S A H0 H locs) (hA : ∀ q, H0.size ≤ q → A q) : ∀ q, va_A (k_w cA ad h) H.size q → A q := by
  intro q hq
  rcases hq with ⟨k, e, hk⟩ | hq
  · exact hD.2 k (q, e) hk
  · exact hA q (Nat.le_trans hS.1 hq)
set_option maxHeartbeats 1000000 in
theorem k_intro {Y : k_Y} {as : List Value} {h : List k_O} {G : k_G} (hy : plainName (k_nm Y).cls = true) (ho : (k_nm Y).cls = k_own Y.1) (hh : k_hh Y = []) (hn : Nat.ble (lg_sl as).length (k_nL Y) = true) (k : k_W Y none G (0, lv_args 0 as, [], h, 0, 0)) : k_Met Y as h G := by
  intro l hl g cA ad sz
  have hws : k_ws Y = Cond.code (k_nm Y) (k_cc Y) (k_nL Y) (k_rt Y) :: k_T := by unfold k_ws; rw [hh]
  refine vx_ofW (cc := k_cc Y) (maxL := k_nL Y) (ret := k_rt Y) hy hws ?_
  intro p e s m args below meth c s₁ B hml htab hv
  obtain ⟨rfl, hsz, hP, hK, hD0, hF⟩ := hv
  have hts : ∀ w ∈ k_T, w.before (as.map (k_v ad)).toArray s = true := fun w hw => atoms_spec (ws := k_ws Y) B.pre w (by rw [hws]; exact List.mem_cons_of_mem _ hw)
  have hown : s.vm.findClass (k_own Y.1) = some m.cls := by rw [← ho]; exact findClass_of_methodNamed B.named
  have hlocks := B.notSynchronized
  have hin : meth.name = (k_nm Y).name := (name_of_methodNamed B.named B.method).1
  subst hsz
  have hD := hD0.self (sz := s.heap.size)
  have hA : ∀ q : Nat, s.heap.size ≤ q → va_A (k_w cA ad h) s.heap.size q := fun q h => Or.inr h
  have C : k_C Y none p l s m (as.map (k_v ad)).toArray meth c g cA (va_A (k_w cA ad h) s.heap.size) 0 :=
    ⟨B.exec, B.bytes, hml, hown, hts, hK, hA, hlocks, hl, hF, hin, fun q => absurd hh q, fun L xs q => by cases q⟩
  have hlv : lv_has ((lg_sl (as.map (k_v ad)) ++ List.replicate (k_nL Y - (lg_sl (as.map (k_v ad))).length) Slot.unset).toArray) (k_nL Y) ((lv_args 0 as).map (fun q => (q.1, k_v ad q.2))) := by
    rw [← k_args]
    exact lv_entry _ (by rw [k_sl]; exact Nat.le_of_ble_eq_true hn)
  rw [lg_entry_eq]
  refine k p l e s m _ below meth c g cA (va_A (k_w cA ad h) s.heap.size) 0 ad h.length _ C ?_ ad s.heap [] _ ⟨hP, hD, va_S.rf, fun _ _ => rfl, Nat.le_refl _, fun q => absurd rfl q, rfl⟩ hlv
  refine ⟨?_, ?_, ?_⟩
  · intro v hG hnar ad1 H1 locs1 la pc I hd
    refine vx_ret ?_
    rcases hd with ⟨rfl, hrt, hd⟩ | ⟨x, ty, rfl, hrt, hd⟩
    · exact W.vret B.exec B.bytes (B.returns.trans hrt) (fun t ht hW => ⟨⟨ad1, none, I.2.2.2.1, I.2.2.2.2.1, I.2.2.2.2.2.2, hG, rfl, by rw [ht]; exact I.1, va_K.moved hW.alike hK, I.2.1⟩, I.2.2.1.F ht⟩) I.2.2.1.2.2 hd
    · exact W.zret B.exec B.bytes (B.returns.trans hrt) (hnar x ty rfl hrt) (fun t ht hW => ⟨⟨ad1, some (.int x), I.2.2.2.1, I.2.2.2.2.1, I.2.2.2.2.2.2, hG, rfl, by rw [ht]; exact I.1, va_K.moved hW.alike hK, I.2.1⟩, I.2.2.1.F ht⟩) I.2.2.1.2.2 hd
  · intro E hG _ ad1 H1 locs1 la pc rest q ce I hce hcv hcl
    exact vx_out (fun x hx => (htab x hx).elim) hlocks hce hcv hcl (fun t ht hal => ⟨⟨ad1, I.2.2.2.1, I.2.2.2.2.1, I.2.2.2.2.2.2, hG, by rw [ht]; exact I.1, va_K.moved hal hK, I.2.1⟩, I.2.2.1.F ht⟩) I.2.2.1.2.2 (Nat.le_refl _) (Nat.le_refl _)
  · intro E hG _ ad1 H1 locs1 la pc rest names text ik is ic sa cells slots I hsize f1 f2 w1 w2 w3 w4 w5 d0 d3 d4 d6 d9 r1 r2 r3 r4
    refine vx_throwS (A := va_A (k_w cA ad h) s.heap.size) (names := names) B.exec B.bytes hl hown f1 f2 w1 w2 w3 w4 w5 hF.1 hF.2.1 I.2.2.1 hsize d0 d3 d4 d6 d9 (fun x hx => (htab x hx).elim) r1 r2 r3 r4 hlocks (fun t hal hsz hk => ?_) I.2.2.1.2.2 r3 r4
    refine ⟨⟨ad1, I.2.2.2.1, I.2.2.2.2.1, I.2.2.2.2.2.2, hG, I.1.kept (fun k x hx => hk x.1 (I.1 k x hx).lt), va_K.moved hal hK, I.2.1⟩, ?_⟩
    exact ⟨Nat.le_trans I.2.2.1.1 hsz, fun q h1 h2 => by rw [hk q (Nat.lt_of_lt_of_le h1 I.2.2.1.1)]; exact I.2.2.1.2.1 q h1 h2⟩
