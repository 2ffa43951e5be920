theorem k_w_cong {cA : Nat → ClassId} {ad ad' : Nat → Nat} {h : List k_O} (h1 : ∀ i, i < h.length → ad' i = ad i) (h2 : ad' 1000000 = ad 1000000) (hok : h.all (k_oko h.length) = true) : k_w cA ad' h = k_w cA ad h := by
  apply List.ext_getElem?
  intro i
  simp only [k_w, List.getElem?_mapIdx]
  by_cases hi : i < h.length
  · rw [List.getElem?_eq_getElem hi]
    simp only [Option.map_some]
    have ho := List.all_eq_true.mp hok _ (List.getElem_mem hi)
    rw [h1 i hi]
    congr 2
    generalize h[i] = o at ho
    cases o with
    | inl a => rfl
    | inr c =>
      simp only [k_o]
      congr 2
      exact List.map_congr_left (fun v hv => k_v_eq h1 h2 (List.all_eq_true.mp ho v hv))
  · rw [List.getElem?_eq_none (by omega)]
    rfl
set_option maxHeartbeats 1000000 in
theorem k_introH {Y : k_Y} {as : List Value} {h : List k_O} {G : k_G} {v : Option Value} (hy : plainName (k_nm Y).cls = true) (ho : (k_nm Y).cls = k_own Y.1) (hh : k_hh Y ≠ []) (hG : G.1 = .inl v) (hn : Nat.ble (lg_sl as).length (k_nL Y) = true) (k : k_W Y none G (0, lv_args 0 as, [], h, 0, 0)) : k_Met Y as h G := by
  intro l hl g cA ad sz
  have hws : k_ws Y = Cond.codeWith (k_nm Y) (k_cc Y) (k_nL Y) (k_rt Y) (k_hh Y) :: k_T := by
    unfold k_ws
    split
    · next h0 => exact absurd h0 hh
    · next q hs h0 => rw [h0]
  refine vx_ofWH (cc := k_cc Y) (maxL := k_nL Y) (ret := k_rt Y) (hh := k_hh Y) hy hws ?_
  intro p e s m args below meth c s₁ B hml hv
  obtain ⟨rfl, hsz, hP, hK, hD0, hF⟩ := hv
  have hts : ∀ w ∈ k_T, w.before (as.map (k_v ad)).toArray s = true := fun w hw => atoms_spec (ws := k_ws Y) B.pre w (by rw [hws]; exact List.mem_cons_of_mem _ hw)
  have htab : c.exceptionTable.toList = tableOf (k_hh Y) := vx_table (x := k_nm Y) B (atoms_spec (ws := k_ws Y) B.pre _ (by rw [hws]; exact List.mem_cons_self))
  have hown : s.vm.findClass (k_own Y.1) = some m.cls := by rw [← ho]; exact findClass_of_methodNamed B.named
  have hlocks := B.notSynchronized
  have hin : meth.name = (k_nm Y).name := (name_of_methodNamed B.named B.method).1
  subst hsz
  have hD := hD0.self (sz := s.heap.size)
  have hA : ∀ q : Nat, s.heap.size ≤ q → va_A (k_w cA ad h) s.heap.size q := fun q h => Or.inr h
  have C : k_C Y none p l s m (as.map (k_v ad)).toArray meth c g cA (va_A (k_w cA ad h) s.heap.size) 0 :=
    ⟨B.exec, B.bytes, hml, hown, hts, hK, hA, hlocks, hl, hF, hin, fun _ => htab, fun L xs q => by cases q⟩
  have hlv : lv_has ((lg_sl (as.map (k_v ad)) ++ List.replicate (k_nL Y - (lg_sl (as.map (k_v ad))).length) Slot.unset).toArray) (k_nL Y) ((lv_args 0 as).map (fun q => (q.1, k_v ad q.2))) := by
    rw [← k_args]
    exact lv_entry _ (by rw [k_sl]; exact Nat.le_of_ble_eq_true hn)
  rw [lg_entry_eq]
  refine k p l e s m _ below meth c g cA (va_A (k_w cA ad h) s.heap.size) 0 ad h.length _ C ?_ ad s.heap [] _ ⟨hP, hD, va_S.rf, fun _ _ => rfl, Nat.le_refl _, fun q => absurd rfl q, rfl⟩ hlv
  refine ⟨?_, fun E hE h0 => absurd h0 hh, fun E hE h0 => absurd h0 hh⟩
  intro v hG hnar ad1 H1 locs1 la pc I hd
  refine vx_ret ?_
  rcases hd with ⟨rfl, hrt, hd⟩ | ⟨x, ty, rfl, hrt, hd⟩
  · exact W.vret B.exec B.bytes (B.returns.trans hrt) (fun t ht hW => ⟨⟨ad1, none, I.2.2.2.1, I.2.2.2.2.1, I.2.2.2.2.2.2, hG, rfl, by rw [ht]; exact I.1, va_K.moved hW.alike hK, I.2.1⟩, I.2.2.1.F ht⟩) I.2.2.1.2.2 hd
  · exact W.zret B.exec B.bytes (B.returns.trans hrt) (hnar x ty rfl hrt) (fun t ht hW => ⟨⟨ad1, some (.int x), I.2.2.2.1, I.2.2.2.2.1, I.2.2.2.2.2.2, hG, rfl, by rw [ht]; exact I.1, va_K.moved hW.alike hK, I.2.1⟩, I.2.2.1.F ht⟩) I.2.2.1.2.2 hd
def k_okSW (o idx n : Nat) (Y : k_Y) : Bool := decide (Cond.methodLink (k_own o) idx (k_nm Y) ∈ k_T) && decide (Cond.initialized (k_nm Y).cls ∈ k_T) && decide (Cond.codeWith (k_nm Y) (k_cc Y) (k_nL Y) (k_rt Y) (k_hh Y) ∈ k_T) && decide ((k_nm Y).cls ≠ "java/lang/invoke/MethodHandle" ∧ (k_nm Y).cls ≠ "java/lang/invoke/VarHandle" ∧ (parseMethodDescriptor (k_nm Y).desc).map (fun d => d.parameters.length) = some n) && decide (Cond.static (k_nm Y) ∈ k_T) && decide (k_hh Y ≠ [])
def k_rowc (o pc : Nat) (F : String) (b : Bool) (y : (Nat × Nat × Nat × Nat) × String) : Bool := Nat.ble y.1.1 pc && Nat.blt pc y.1.2.1 && !(Nat.beq y.1.2.2.2 0) && decide (Cond.classLink (k_own o) y.1.2.2.2 y.2 ∈ k_T) && decide (y.2 ∈ k_ex6) && decide (F ∈ k_ex6) && decide (k_sub F y.2 = b)
section KV2
variable {p : Program} {l : Launch} {e : Env} {s : State} {m : MethodId} {args : Array Value} {below : List Frame} {meth : Method} {c : Code} {g : va_G} {cA : Nat → ClassId} {A : Nat → Prop} {b : Nat} {ad0 : Nat → Nat} {n0 : Nat} {Q : State → Prop} {ad : Nat → Nat} {H : Heap} {locs : List Loc} {la : Array Slot}
variable {Y Y' : k_Y} {sc : k_Sc} {G G' : k_G} {pc : Nat} {ls : List (Nat × Value)} {st : List Value} {h : List k_O} {nc ns idx : Nat} {as : List Value}
theorem k_callSW {v : Option Value} (hM : k_Met Y' as h G') (hG : G'.1 = .inl v) (hok : k_okSW Y.1 idx as.length Y' = true) (hrm : k_rm Y Y' = true) (hsum : Nat.ble (st.map fun v => v.category).sum 8 = true) (hd : decode (k_cc Y) pc = .ok (.invokestatic idx, 3)) (hf1 : nc + G'.2.2.1 ≤ G.2.2.1) (hf2 : ns + G'.2.2.2 ≤ G.2.2.2)
    (ho1 : ls.all (fun q => k_okv h.length q.2) = true) (ho2 : st.all (k_okv h.length) = true) (k : k_W Y sc G (pc + 3, ls, v.toList ++ st, G'.2.1, nc + G'.2.2.1, ns + G'.2.2.2)) : k_W Y sc G (pc, ls, as.reverse ++ st, h, nc, ns) := by
  intro p l e s m args below meth c g cA A b ad0 n0 Q C E ad H locs la I hv
  unfold k_okSW at hok
  simp only [Bool.and_eq_true, decide_eq_true_eq] at hok
  obtain ⟨⟨⟨⟨⟨a2, a3⟩, a4⟩, a5⟩, a8⟩, a1⟩ := hok
  obtain ⟨r1, r2⟩ := k_and2 hrm
  have hws : k_ws Y' = Cond.codeWith (k_nm Y') (k_cc Y') (k_nL Y') (k_rt Y') (k_hh Y') :: k_T := by
    unfold k_ws
    split
    · next h0 => exact absurd h0 a1
    · next q hs h0 => rw [h0]
  have hGd : GoodIn k_T (va_wsS (k_own Y.1) idx (k_nm Y') (k_ws Y')) := by
    rw [hws]
    exact goodIn_app (k_good (fun w hw => by
      simp only [List.mem_cons, List.not_mem_nil, or_false] at hw
      rcases hw with rfl | rfl | rfl <;> assumption)) (k_good (fun w hw => (List.mem_cons.mp hw).elim (fun e => by rw [e]; exact a4) (fun h => h)))
  have hpre := k_preOf (as := as) C I
  have hst : (F0 m pc la ((as.reverse ++ st).map (k_v ad))).stack = (as.map (k_v ad)).reverse ++ st.map (k_v ad) := by simp
  have hrun := vx_runSX (As := as.map (k_v ad)) (rest := st.map (k_v ad)) (R := k_R Y G) (e := e) (below := below) (meth := meth) (locs := locs) (cells := nc) (slots := ns) ⟨C.1, C.2.1, C.2.2.1, C.2.2.2.1, C.2.2.2.2.1⟩ (hM l C.2.2.2.2.2.2.2.2.1 g cA ad H.size) (vx_cwSW as.length C.2.2.2.2.1 hGd hws rfl rfl a5 ⟨Nat.le_of_ble_eq_true r1, Nat.le_of_ble_eq_true r2⟩) ⟨hpre.1, hpre.2⟩ (g := F0 m pc la ((as.reverse ++ st).map (k_v ad))) rfl (by simp) hv.1 hst (lv_room (by rw [k_sum]; exact Nat.le_of_ble_eq_true hsum)) hd ⟨hf1, hf2⟩
  exact k_backR C E I hv hrun hG ho1 ho2 k
theorem k_toMet {y : MethodName} {ws : List Cond} {rm : Room} {Pc : Array Value → State → Prop} {Qc : Array Value → State → Outcome → State → Prop} {XC : String → State → State → Prop} {mc ms : Nat} {free : Addr → Prop} (hM : vx_Met l y ws rm Pc Qc XC mc ms free) (hno : ∀ E st t, ¬ XC E st t) : Met l y ws rm Pc Qc mc ms free := by
  intro p e h1 h2 h3 s m args below h4 h5 h6 h7
  obtain ⟨n, o, a1, a2, a3, a4⟩ := hM p e h1 h2 h3 s m args below h4 h5 h6 h7
  refine ⟨n, o, a1, a2, a3, ?_⟩
  rcases a4 with a4 | ⟨q, _, E, ce, L, hx, _⟩
  · exact a4
  · exact (hno _ _ _ hx).elim
theorem k_callI {a : Nat} (hM : k_Met Y' (.ref a :: as) h G') (hG : G'.1 = .inl none) (hok : k_okI Y.1 idx as.length Y' = true) (hrm : k_rm Y Y' = true) (hsum : Nat.ble (st.map fun v => v.category).sum 8 = true) (hd : decode (k_cc Y) pc = .ok (.invokespecial idx, 3)) (hf1 : nc + G'.2.2.1 ≤ G.2.2.1) (hf2 : ns + G'.2.2.2 ≤ G.2.2.2)
    (ho1 : ls.all (fun q => k_okv h.length q.2) = true) (ho2 : st.all (k_okv h.length) = true) (k : k_W Y sc G (pc + 3, ls, st, G'.2.1, nc + G'.2.2.1, ns + G'.2.2.2)) : k_W Y sc G (pc, ls, as.reverse ++ .ref a :: st, h, nc, ns) := by
  intro p l e s m args below meth c g cA A b ad0 n0 Q C E ad H locs la I hv
  unfold k_okI k_okB at hok
  simp only [Bool.and_eq_true, decide_eq_true_eq] at hok
  obtain ⟨⟨⟨⟨⟨⟨⟨⟨a1, a2⟩, a3⟩, a4⟩, a5⟩, a6⟩, a7⟩, a8⟩, a9⟩ := hok
  obtain ⟨r1, r2⟩ := k_and2 hrm
  have hws : k_ws Y' = Cond.code (k_nm Y') (k_cc Y') (k_nL Y') none :: k_T := by unfold k_ws; rw [a1, a9]
  have hpre := k_preOf (as := .ref a :: as) C I
  have hts := C.2.2.2.2.1
  have hno : ∀ E st t, ¬ k_XC g cA ad h.length (va_A (k_w cA ad h) H.size) G'.1 G'.2.1 E st t := fun E st t hx => by
    obtain ⟨⟨ad1, q1, q2, q3, q4, q5⟩, hF⟩ := hx
    rw [hG] at q4; cases q4
  have hst : (F0 m pc la ((as.reverse ++ .ref a :: st).map (k_v ad))).stack = (as.map (k_v ad)).reverse ++ .ref (ad a) :: st.map (k_v ad) := by simp [k_v]
  have hrun := va_runI (b := ad a) (As := as.map (k_v ad)) (rest := st.map (k_v ad)) (R := k_R Y G) (e := e) (below := below) (meth := meth) (locs := locs) (cells := nc) (slots := ns) ⟨C.1, C.2.1, C.2.2.1, C.2.2.2.1, C.2.2.2.2.1⟩ (k_toMet (hM l C.2.2.2.2.2.2.2.2.1 g cA ad H.size) hno) (cwI as.length hts (k_wsT a1 a4) hws rfl rfl (hts _ a3) (hts _ a2) (hts _ a7) a8 a5 ⟨Nat.le_of_ble_eq_true r1, Nat.le_of_ble_eq_true r2⟩) ⟨hpre.1, hpre.2⟩ (g := F0 m pc la ((as.reverse ++ .ref a :: st).map (k_v ad))) rfl (by simp) hv.1 hst (lv_room (by rw [k_sum]; exact Nat.le_of_ble_eq_true hsum)) hd ⟨hf1, hf2⟩
  exact k_backR (G' := G') (v := none) C E I hv (fun T hT X => Or.inl (hrun T hT X)) hG ho1 ho2 k
theorem k_callVC {a : Nat} {fs : List Value} {F : String} (pre : List ((Nat × Nat × Nat × Nat) × String)) (x : (Nat × Nat × Nat × Nat) × String) (suf : List (Nat × Nat × Nat × Nat)) (hM : k_Met Y' (.ref a :: as) h G') (hG : G'.1 = .inr F) (hok : k_okV Y.1 idx as.length Y' = true) (hrm : k_rm Y Y' = true) (hr : k_get h a = some (.inr (Y'.1, fs))) (hsum : Nat.ble (st.map fun v => v.category).sum 8 = true) (hd : decode (k_cc Y) pc = .ok (.invokevirtual idx, 3)) (hf1 : nc + G'.2.2.1 ≤ G.2.2.1) (hf2 : ns + G'.2.2.2 ≤ G.2.2.2)
    (hh : k_hh Y = pre.map (fun y => y.1) ++ x.1 :: suf) (hp : pre.all (k_rowc Y.1 pc F false) = true) (hx : k_rowc Y.1 pc F true x = true) (ho1 : ls.all (fun q => k_okv h.length q.2) = true) (hho : G'.2.1.all (k_oko G'.2.1.length) = true) (hlh : Nat.blt G'.2.1.length 1000000 = true) (hle : Nat.ble h.length G'.2.1.length = true)
    (k : k_W Y sc G (x.1.2.2.1, ls, [.ref 1000001], G'.2.1, nc + G'.2.2.1, ns + G'.2.2.2)) : k_W Y sc G (pc, ls, as.reverse ++ .ref a :: st, h, nc, ns) := by
  intro p l e s m args below meth c g cA A b ad0 n0 Q C E ad H locs la I hv
  have hr2 := k_runV (e := e) (below := below) (meth := meth) (locs := locs) (la := la) (G := G) (nc := nc) (ns := ns) (st := st) C I hv hM hok hrm hr hsum hd ⟨hf1, hf2⟩
  have hin := k_inA (g := g) I.2.1 I.2.2.1 C.2.2.2.2.2.2.1
  have hts := C.2.2.2.2.1
  obtain ⟨f1, f2, f3, f4⟩ := C.2.2.2.2.2.2.2.2.2.1
  intro T hT X
  rcases hr2 T hT X with ⟨w, st₀, t, T', L, h0, X', hL, e1, e2, ⟨⟨ad1, v1, q1, q2, q3, q4, q5, q6⟩, hF⟩, stp⟩ | ⟨q, st₀, t, T', L, E1, ce, h0, X', hL, e1, e2, ⟨⟨ad1, q1, q2, q3, q4, q6⟩, hF⟩, hce, hcv, hcl, stp⟩
  · rw [hG] at q4
    cases q4
  · rw [hG] at q4
    cases q4
    obtain ⟨k1, k2, k3⟩ := vx_keep h0 e1 I.2.2.1 (fun q _ hq => hin q hq) hin hL hF
    have hl9 : G'.2.1.length < 1000000 := k_blt hlh
    have hle9 : h.length ≤ G'.2.1.length := Nat.le_of_ble_eq_true hle
    have c1 : ∀ i, i < G'.2.1.length → (fun j => if j = 1000001 then q else ad1 j) i = ad1 i := fun i hi => by simp only; rw [if_neg (by omega)]
    have c2 : (fun j => if j = 1000001 then q else ad1 j) 1000000 = ad1 1000000 := rfl
    have hwc := k_w_cong (cA := cA) c1 c2 hho
    have I1 : k_I Y sc s g cA A b ad0 n0 (fun j => if j = 1000001 then q else ad1 j) T'.heap (locs ++ L) G'.2.1 :=
      ⟨by rw [e1, hwc]; exact q6.1, by rw [hwc]; exact q6.2.2.weaken (fun _ _ _ hq => hin _ hq), k3, fun i hi => by
        have h8 := I.2.2.2.2.1
        rw [c1 i (by omega)]
        exact (q1 i (Nat.lt_of_lt_of_le hi I.2.2.2.2.1)).trans (I.2.2.2.1 i hi), Nat.le_trans I.2.2.2.2.1 q2, fun hs => q3.trans (I.2.2.2.2.2.1 hs), q3.trans I.2.2.2.2.2.2⟩
    have hv1 : lv_has la (k_nL Y) (ls.map (fun z => (z.1, k_v (fun j => if j = 1000001 then q else ad1 j) z.2))) := by
      have e7 : ls.map (fun z => (z.1, k_v (fun j => if j = 1000001 then q else ad1 j) z.2)) = ls.map (fun q => (q.1, k_v ad q.2)) := List.map_congr_left (fun z hz => by
        have := k_v_eq (ad := ad) (ad' := fun j => if j = 1000001 then q else ad1 j) (n := h.length) (fun i hi => (c1 i (by omega)).trans (q1 i hi)) q3 (List.all_eq_true.mp ho1 z hz)
        rw [this])
      rw [e7]; exact hv
    have hk := k p l e s m args below meth c g cA A b ad0 n0 Q C E _ T'.heap (locs ++ L) la I1 hv1
    have hne : k_hh Y ≠ [] := by rw [hh]; simp
    have htab := C.2.2.2.2.2.2.2.2.2.2.2.1 hne
    unfold k_rowc at hx
    simp only [Bool.and_eq_true, decide_eq_true_eq, Bool.not_eq_true'] at hx
    obtain ⟨⟨⟨⟨⟨⟨x1, x2⟩, x3⟩, x4⟩, x5⟩, x6⟩, x7⟩ := hx
    have hcw := k_caught (rest := st.map (k_v ad)) (pc := pc) (E := F) (q := q) (own := k_own Y.1) C.2.2.2.1 (pre.map (fun y => ((⟨y.1.1, y.1.2.1, y.1.2.2.1, y.1.2.2.2⟩ : ExceptionTableEntry), y.2))) ⟨x.1.1, x.1.2.1, x.1.2.2.1, x.1.2.2.2⟩ x.2 (tableOf suf) (by
        rw [htab, hh]
        simp [tableOf, Function.comp_def]) (fun y hy => by
        obtain ⟨z, hz, rfl⟩ := List.mem_map.mp hy
        have hp9 := List.all_eq_true.mp hp z hz
        unfold k_rowc at hp9
        simp only [Bool.and_eq_true, decide_eq_true_eq, Bool.not_eq_true'] at hp9
        obtain ⟨⟨⟨⟨⟨⟨z1, z2⟩, z3⟩, z4⟩, z5⟩, z6⟩, z7⟩ := hp9
        refine ⟨?_, Nat.ne_of_beq_eq_false z3, hts _ z4, (f3.2 F z6 z.2 z5).2 z7⟩
        simp only [covers, Bool.and_eq_true, decide_eq_true_eq]
        exact ⟨Nat.le_of_ble_eq_true z1, k_blt z2⟩) (by
        simp only [covers, Bool.and_eq_true, decide_eq_true_eq]
        exact ⟨Nat.le_of_ble_eq_true x1, k_blt x2⟩) (Nat.ne_of_beq_eq_false x3) (hts _ x4) ((f3.2 F x6 x.2 x5).1 x7) (H := T'.heap) (by rw [e1]; exact hce) hcv hcl (by
        have e8 : [Value.ref q] = ([.ref 1000001] : List Value).map (k_v (fun j => if j = 1000001 then q else ad1 j)) := rfl
        rw [e8]; exact hk)
    obtain ⟨t2, a1, b1⟩ := hcw T' rfl X'
    exact ⟨t2, stp.trans a1, b1⟩
end KV2
