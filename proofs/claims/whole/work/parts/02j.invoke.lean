def k_okB (o idx n : Nat) (Y : k_Y) : Bool := decide (k_hh Y = []) && decide (Cond.methodLink (k_own o) idx (k_nm Y) ∈ k_T) && decide (Cond.initialized (k_nm Y).cls ∈ k_T) && decide (Cond.code (k_nm Y) (k_cc Y) (k_nL Y) (k_rt Y) ∈ k_T) && decide ((k_nm Y).cls ≠ "java/lang/invoke/MethodHandle" ∧ (k_nm Y).cls ≠ "java/lang/invoke/VarHandle" ∧ (parseMethodDescriptor (k_nm Y).desc).map (fun d => d.parameters.length) = some n) && decide ((k_nm Y).cls = k_own Y.1)
def k_okV (o idx n : Nat) (Y : k_Y) : Bool := k_okB o idx n Y && Nat.blt Y.1 4 && decide (Cond.instanceMethod (k_nm Y) ∈ k_T) && decide (Cond.selects (k_nm Y).cls (k_nm Y) (k_nm Y) ∈ k_T)
def k_okSt (o idx n : Nat) (Y : k_Y) : Bool := k_okB o idx n Y && decide (Cond.static (k_nm Y) ∈ k_T)
def k_okI (o idx n : Nat) (Y : k_Y) : Bool := k_okB o idx n Y && decide (Cond.instanceMethod (k_nm Y) ∈ k_T) && decide ((k_nm Y).name = "<init>") && decide (k_rt Y = none)
theorem k_wsT {Y : k_Y} (h1 : k_hh Y = []) (h2 : Cond.code (k_nm Y) (k_cc Y) (k_nL Y) (k_rt Y) ∈ k_T) : GoodIn k_T (k_ws Y) := by
  have hws : k_ws Y = Cond.code (k_nm Y) (k_cc Y) (k_nL Y) (k_rt Y) :: k_T := by unfold k_ws; rw [h1]
  rw [hws]
  exact k_good (fun w hw => (List.mem_cons.mp hw).elim (fun e => by rw [e]; exact h2) (fun h => h))
theorem k_cl_own {o : Nat} (h : o < 4) : ∃ z, k_cl[o]? = some z ∧ z.1 = k_own o := by
  match o, h with
  | 0, _ => exact ⟨_, rfl, rfl⟩
  | 1, _ => exact ⟨_, rfl, rfl⟩
  | 2, _ => exact ⟨_, rfl, rfl⟩
  | 3, _ => exact ⟨_, rfl, rfl⟩
def k_rm (Y Y' : k_Y) : Bool := Nat.ble (k_fr Y' + 1) (k_fr Y) && Nat.ble (8 + (k_nL Y' + 11) + k_lo Y') (k_lo Y)
section KV
variable {p : Program} {l : Launch} {e : Env} {s : State} {m : MethodId} {args : Array Value} {below : List Frame} {meth : Method} {c : Code} {g : va_G} {cA : Nat → ClassId} {A : Nat → Prop} {b : Nat} {ad0 : Nat → Nat} {n0 : Nat} {Q : State → Prop} {ad : Nat → Nat} {H : Heap} {locs : List Loc} {la : Array Slot}
variable {Y Y' : k_Y} {sc : k_Sc} {G G' : k_G} {pc : Nat} {ls : List (Nat × Value)} {st : List Value} {h : List k_O} {nc ns idx : Nat} {as : List Value}
theorem k_preOf (C : k_C Y sc p l s m args meth c g cA A b) (I : k_I Y sc s g cA A b ad0 n0 ad H locs h) : FrameBlind (va_Pc (as.map (k_v ad)) (k_Pre g cA ad H.size h)) ∧ ∀ U : State, U.heap = H → s.WarmedH U.vm → va_Pc (as.map (k_v ad)) (k_Pre g cA ad H.size h) (as.map (k_v ad)).toArray U := by
  refine ⟨k_blind, fun U hU hW => ⟨rfl, by rw [hU], by rw [hU]; exact I.1, va_K.moved hW.alike C.2.2.2.2.2.1, I.2.1.weaken (fun _ _ _ _ => trivial), ?_⟩⟩
  rw [hU]
  exact k_Fix.warm hW I.2.2.1.2.1 (k_inA (g := g) I.2.1 I.2.2.1 C.2.2.2.2.2.2.1) C.2.2.2.2.2.2.2.2.2.1
theorem k_runV {a : Nat} {fs : List Value} (C : k_C Y sc p l s m args meth c g cA A b) (I : k_I Y sc s g cA A b ad0 n0 ad H locs h) (hv : lv_has la (k_nL Y) (ls.map (fun q => (q.1, k_v ad q.2))))
    (hM : k_Met Y' (.ref a :: as) h G') (hok : k_okV Y.1 idx as.length Y' = true) (hrm : k_rm Y Y' = true) (hr : k_get h a = some (.inr (Y'.1, fs))) (hsum : Nat.ble (st.map fun v => v.category).sum 8 = true) (hd : decode (k_cc Y) pc = .ok (.invokevirtual idx, 3)) (hf : nc + G'.2.2.1 ≤ G.2.2.1 ∧ ns + G'.2.2.2 ≤ G.2.2.2) :
    vx_Run p l e (k_R Y G) s m args below meth c H locs nc ns G'.2.2.1 G'.2.2.2 (F0 m pc la ((as.reverse ++ .ref a :: st).map (k_v ad))) (st.map (k_v ad)) (k_Qc g cA ad h.length (va_A (k_w cA ad h) H.size) G'.1 G'.2.1 (((Value.ref a :: as).map (k_v ad)).toArray)) (k_XC g cA ad h.length (va_A (k_w cA ad h) H.size) G'.1 G'.2.1) (va_A (k_w cA ad h) H.size) := by
  unfold k_okV k_okB at hok
  simp only [Bool.and_eq_true, decide_eq_true_eq] at hok
  obtain ⟨⟨⟨⟨⟨⟨⟨⟨a1, a2⟩, a3⟩, a4⟩, a5⟩, a6⟩, a7⟩, a8⟩, a9⟩ := hok
  obtain ⟨r1, r2⟩ := k_and2 hrm
  obtain ⟨z, hz, hz1⟩ := k_cl_own (k_blt a7)
  have hws : k_ws Y' = Cond.code (k_nm Y') (k_cc Y') (k_nL Y') (k_rt Y') :: k_T := by unfold k_ws; rw [a1]
  have hG : GoodIn k_T (wsV (k_own Y.1) idx (k_nm Y').cls (k_nm Y') (k_ws Y')) := goodIn_app (k_good (fun w hw => by
    simp only [List.mem_cons, List.not_mem_nil, or_false] at hw
    rcases hw with rfl | rfl | rfl | rfl <;> assumption)) (k_wsT a1 a4)
  have hpre := k_preOf (as := .ref a :: as) C I
  have hrec := va_recv C.2.2.2.2.2.1 I.1 hz (k_w_get hr)
  rw [hz1, ← a6] at hrec
  have hst : (F0 m pc la ((as.reverse ++ .ref a :: st).map (k_v ad))).stack = (as.map (k_v ad)).reverse ++ .ref (ad a) :: st.map (k_v ad) := by
    simp [k_v]
  refine vx_runV (As := as.map (k_v ad)) (rest := st.map (k_v ad)) ⟨C.1, C.2.1, C.2.2.1, C.2.2.2.1, C.2.2.2.2.1⟩ (hM l C.2.2.2.2.2.2.2.2.1 g cA ad H.size) (cwV as.length C.2.2.2.2.1 hG hws rfl rfl ⟨rfl, a5⟩ ⟨Nat.le_of_ble_eq_true r1, Nat.le_of_ble_eq_true r2⟩) ⟨hpre.1, hrec, hpre.2⟩ rfl (by simp) hv.1 hst (lv_room (by rw [k_sum]; exact Nat.le_of_ble_eq_true hsum)) hd hf
theorem k_runS (C : k_C Y sc p l s m args meth c g cA A b) (I : k_I Y sc s g cA A b ad0 n0 ad H locs h) (hv : lv_has la (k_nL Y) (ls.map (fun q => (q.1, k_v ad q.2))))
    (hM : k_Met Y' as h G') (hok : k_okSt Y.1 idx as.length Y' = true) (hrm : k_rm Y Y' = true) (hsum : Nat.ble (st.map fun v => v.category).sum 8 = true) (hd : decode (k_cc Y) pc = .ok (.invokestatic idx, 3)) (hf : nc + G'.2.2.1 ≤ G.2.2.1 ∧ ns + G'.2.2.2 ≤ G.2.2.2) :
    vx_Run p l e (k_R Y G) s m args below meth c H locs nc ns G'.2.2.1 G'.2.2.2 (F0 m pc la ((as.reverse ++ st).map (k_v ad))) (st.map (k_v ad)) (k_Qc g cA ad h.length (va_A (k_w cA ad h) H.size) G'.1 G'.2.1 ((as.map (k_v ad)).toArray)) (k_XC g cA ad h.length (va_A (k_w cA ad h) H.size) G'.1 G'.2.1) (va_A (k_w cA ad h) H.size) := by
  unfold k_okSt k_okB at hok
  simp only [Bool.and_eq_true, decide_eq_true_eq] at hok
  obtain ⟨⟨⟨⟨⟨⟨a1, a2⟩, a3⟩, a4⟩, a5⟩, a6⟩, a8⟩ := hok
  obtain ⟨r1, r2⟩ := k_and2 hrm
  have hws : k_ws Y' = Cond.code (k_nm Y') (k_cc Y') (k_nL Y') (k_rt Y') :: k_T := by unfold k_ws; rw [a1]
  have hG : GoodIn k_T (va_wsS (k_own Y.1) idx (k_nm Y') (k_ws Y')) := goodIn_app (k_good (fun w hw => by
    simp only [List.mem_cons, List.not_mem_nil, or_false] at hw
    rcases hw with rfl | rfl | rfl <;> assumption)) (k_wsT a1 a4)
  have hpre := k_preOf (as := as) C I
  have hst : (F0 m pc la ((as.reverse ++ st).map (k_v ad))).stack = (as.map (k_v ad)).reverse ++ st.map (k_v ad) := by
    simp
  refine vx_runS (As := as.map (k_v ad)) (rest := st.map (k_v ad)) ⟨C.1, C.2.1, C.2.2.1, C.2.2.2.1, C.2.2.2.2.1⟩ (hM l C.2.2.2.2.2.2.2.2.1 g cA ad H.size) (va_cwS as.length C.2.2.2.2.1 hG hws rfl rfl a5 ⟨Nat.le_of_ble_eq_true r1, Nat.le_of_ble_eq_true r2⟩) ⟨hpre.1, hpre.2⟩ rfl (by simp) hv.1 hst (lv_room (by rw [k_sum]; exact Nat.le_of_ble_eq_true hsum)) hd hf
/-- behind a call that comes back -/
theorem k_backR {st0 : List Value} {aa : Array Value} {v : Option Value} (C : k_C Y sc p l s m args meth c g cA A b) (E : k_E Y sc G p l e s m args below meth c g cA A b ad0 n0 Q) (I : k_I Y sc s g cA A b ad0 n0 ad H locs h) (hv : lv_has la (k_nL Y) (ls.map (fun q => (q.1, k_v ad q.2))))
    (hr : vx_Run p l e (k_R Y G) s m args below meth c H locs nc ns G'.2.2.1 G'.2.2.2 (F0 m pc la st0) (st.map (k_v ad)) (k_Qc g cA ad h.length (va_A (k_w cA ad h) H.size) G'.1 G'.2.1 aa) (k_XC g cA ad h.length (va_A (k_w cA ad h) H.size) G'.1 G'.2.1) (va_A (k_w cA ad h) H.size))
    (hG : G'.1 = .inl v) (ho1 : ls.all (fun q => k_okv h.length q.2) = true) (ho2 : st.all (k_okv h.length) = true)
    (k : k_W Y sc G (pc + 3, ls, v.toList ++ st, G'.2.1, nc + G'.2.2.1, ns + G'.2.2.2)) : W p l e (k_R Y G) s m args below meth c H locs nc ns Q (F0 m pc la st0) := by
  have hin := k_inA (g := g) I.2.1 I.2.2.1 C.2.2.2.2.2.2.1
  intro T hT X
  rcases hr T hT X with ⟨w, st₀, t, T', L, h0, X', hL, e1, e2, ⟨⟨ad1, v1, q1, q2, q3, q4, q5, q6⟩, hF⟩, stp⟩ | ⟨q, st₀, t, T', L, E1, ce, h0, X', hL, e1, e2, ⟨⟨ad1, q1, q2, q3, q4, q5⟩, hF⟩, hce, hcv, hcl, stp⟩
  · rw [hG] at q4
    cases q4
    obtain ⟨k1, k2, k3⟩ := vx_keep h0 e1 I.2.2.1 (fun q _ hq => hin q hq) hin hL hF
    have hst : w.toList ++ st.map (k_v ad) = (v.toList ++ st).map (k_v ad1) := by
      have e5 : w = v.map (k_v ad1) := by injection q5
      have e6 : st.map (k_v ad) = st.map (k_v ad1) := List.map_congr_left (fun x hx => (k_v_eq (ad := ad) (ad' := ad1) q1 q3 (List.all_eq_true.mp ho2 x hx)).symm)
      rw [e5, e6, List.map_append]
      cases v <;> rfl
    have hv1 : lv_has la (k_nL Y) (ls.map (fun q => (q.1, k_v ad1 q.2))) := by
      have e7 : ls.map (fun q => (q.1, k_v ad1 q.2)) = ls.map (fun q => (q.1, k_v ad q.2)) := List.map_congr_left (fun x hx => by
        have := k_v_eq (ad := ad) (ad' := ad1) q1 q3 (List.all_eq_true.mp ho1 x hx)
        rw [this])
      rw [e7]; exact hv
    have I1 : k_I Y sc s g cA A b ad0 n0 ad1 T'.heap (locs ++ L) G'.2.1 := ⟨by rw [e1]; exact q6.1, q6.2.2.weaken (fun _ _ _ hq => hin _ hq), k3, fun i hi => (q1 i (Nat.lt_of_lt_of_le hi I.2.2.2.2.1)).trans (I.2.2.2.1 i hi), Nat.le_trans I.2.2.2.2.1 q2, fun hs => q3.trans (I.2.2.2.2.2.1 hs), q3.trans I.2.2.2.2.2.2⟩
    have hk := k p l e s m args below meth c g cA A b ad0 n0 Q C E ad1 T'.heap (locs ++ L) la I1 hv1
    dsimp only at hk
    rw [← hst] at hk
    obtain ⟨t2, a1, b1⟩ := hk T' rfl X'
    exact ⟨t2, stp t2 a1, b1⟩
  · rw [hG] at q4
    cases q4
/-- behind a call that throws, which nobody takes here -/
theorem k_backX {st0 : List Value} {aa : Array Value} {F : String} (C : k_C Y sc p l s m args meth c g cA A b) (E : k_E Y sc G p l e s m args below meth c g cA A b ad0 n0 Q) (I : k_I Y sc s g cA A b ad0 n0 ad H locs h)
    (hr : vx_Run p l e (k_R Y G) s m args below meth c H locs nc ns G'.2.2.1 G'.2.2.2 (F0 m pc la st0) (st.map (k_v ad)) (k_Qc g cA ad h.length (va_A (k_w cA ad h) H.size) G'.1 G'.2.1 aa) (k_XC g cA ad h.length (va_A (k_w cA ad h) H.size) G'.1 G'.2.1) (va_A (k_w cA ad h) H.size))
    (hG : G'.1 = .inr F) (hh : k_hh Y = []) (g1 : G.1 = .inr F) (g2 : G.2.1 = G'.2.1) (g3 : nc + G'.2.2.1 ≤ G.2.2.1) (g4 : ns + G'.2.2.2 ≤ G.2.2.2) : W p l e (k_R Y G) s m args below meth c H locs nc ns Q (F0 m pc la st0) := by
  have hin := k_inA (g := g) I.2.1 I.2.2.1 C.2.2.2.2.2.2.1
  intro T hT X
  rcases hr T hT X with ⟨w, st₀, t, T', L, h0, X', hL, e1, e2, ⟨⟨ad1, v1, q1, q2, q3, q4, q5, q6⟩, hF⟩, stp⟩ | ⟨q, st₀, t, T', L, E1, ce, h0, X', hL, e1, e2, ⟨⟨ad1, q1, q2, q3, q4, q6⟩, hF⟩, hce, hcv, hcl, stp⟩
  · rw [hG] at q4
    cases q4
  · rw [hG] at q4
    cases q4
    obtain ⟨k1, k2, k3⟩ := vx_keep h0 e1 I.2.2.1 (fun q _ hq => hin q hq) hin hL hF
    have I1 : k_I Y sc s g cA A b ad0 n0 ad1 T'.heap (locs ++ L) G.2.1 := by
      rw [g2]
      exact ⟨by rw [e1]; exact q6.1, q6.2.2.weaken (fun _ _ _ hq => hin _ hq), k3, fun i hi => (q1 i (Nat.lt_of_lt_of_le hi I.2.2.2.2.1)).trans (I.2.2.2.1 i hi), Nat.le_trans I.2.2.2.2.1 q2, fun hs => q3.trans (I.2.2.2.2.2.1 hs), q3.trans I.2.2.2.2.2.2⟩
    have hk := vx_widen g3 g4 (E.2.1 F g1 hh ad1 T'.heap (locs ++ L) la pc (st.map (k_v ad)) q ce I1 (by rw [e1]; exact hce) hcv hcl)
    obtain ⟨t2, a1, b1⟩ := hk T' rfl X'
    exact ⟨t2, stp.trans a1, b1⟩
theorem k_callV {a : Nat} {fs : List Value} {v : Option Value} (hM : k_Met Y' (.ref a :: as) h G') (hG : G'.1 = .inl v) (hok : k_okV Y.1 idx as.length Y' = true) (hrm : k_rm Y Y' = true) (hr : k_get h a = some (.inr (Y'.1, fs))) (hsum : Nat.ble (st.map fun v => v.category).sum 8 = true) (hd : decode (k_cc Y) pc = .ok (.invokevirtual idx, 3)) (hf1 : nc + G'.2.2.1 ≤ G.2.2.1) (hf2 : ns + G'.2.2.2 ≤ G.2.2.2)
    (ho1 : ls.all (fun q => k_okv h.length q.2) = true) (ho2 : st.all (k_okv h.length) = true) (k : k_W Y sc G (pc + 3, ls, v.toList ++ st, G'.2.1, nc + G'.2.2.1, ns + G'.2.2.2)) : k_W Y sc G (pc, ls, as.reverse ++ .ref a :: st, h, nc, ns) := by
  intro p l e s m args below meth c g cA A b ad0 n0 Q C E ad H locs la I hv
  exact k_backR C E I hv (k_runV C I hv hM hok hrm hr hsum hd ⟨hf1, hf2⟩) hG ho1 ho2 k
theorem k_callS {v : Option Value} (hM : k_Met Y' as h G') (hG : G'.1 = .inl v) (hok : k_okSt Y.1 idx as.length Y' = true) (hrm : k_rm Y Y' = true) (hsum : Nat.ble (st.map fun v => v.category).sum 8 = true) (hd : decode (k_cc Y) pc = .ok (.invokestatic idx, 3)) (hf1 : nc + G'.2.2.1 ≤ G.2.2.1) (hf2 : ns + G'.2.2.2 ≤ G.2.2.2)
    (ho1 : ls.all (fun q => k_okv h.length q.2) = true) (ho2 : st.all (k_okv h.length) = true) (k : k_W Y sc G (pc + 3, ls, v.toList ++ st, G'.2.1, nc + G'.2.2.1, ns + G'.2.2.2)) : k_W Y sc G (pc, ls, as.reverse ++ st, h, nc, ns) := by
  intro p l e s m args below meth c g cA A b ad0 n0 Q C E ad H locs la I hv
  exact k_backR C E I hv (k_runS C I hv hM hok hrm hsum hd ⟨hf1, hf2⟩) hG ho1 ho2 k
theorem k_callVX {a : Nat} {fs : List Value} {F : String} (hM : k_Met Y' (.ref a :: as) h G') (hG : G'.1 = .inr F) (hok : k_okV Y.1 idx as.length Y' = true) (hrm : k_rm Y Y' = true) (hr : k_get h a = some (.inr (Y'.1, fs))) (hsum : Nat.ble (st.map fun v => v.category).sum 8 = true) (hd : decode (k_cc Y) pc = .ok (.invokevirtual idx, 3)) (hf1 : nc + G'.2.2.1 ≤ G.2.2.1) (hf2 : ns + G'.2.2.2 ≤ G.2.2.2)
    (hh : k_hh Y = []) (g1 : G.1 = .inr F) (g2 : G.2.1 = G'.2.1) : k_W Y sc G (pc, ls, as.reverse ++ .ref a :: st, h, nc, ns) := by
  intro p l e s m args below meth c g cA A b ad0 n0 Q C E ad H locs la I hv
  exact k_backX C E I (k_runV C I hv hM hok hrm hr hsum hd ⟨hf1, hf2⟩) hG hh g1 g2 hf1 hf2
end KV
