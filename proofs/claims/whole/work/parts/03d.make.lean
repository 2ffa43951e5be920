def k_okM (o idx : Nat) (y : MethodName) (cc : ByteArray) : Bool := decide (Cond.methodLink (k_own o) idx y ∈ k_T) && decide (Cond.static y ∈ k_T) && decide (Cond.initialized "java/lang/Math" ∈ k_T) && decide (Cond.code y cc 2 (some .int) ∈ k_T)
section KK
variable {Y : k_Y} {sc : k_Sc} {G : k_G} {pc : Nat} {ls : List (Nat × Value)} {st : List Value} {h : List k_O} {nc ns : Nat}
theorem k_mmax {idx : Nat} {x y z : Int32} (hok : k_okM Y.1 idx Lib.Math.max.name Lib.Math.max.code = true) (hz : (if x < y then y else x) = z) (d : decode (k_cc Y) pc = .ok (.invokestatic idx, 3)) (r1 : Nat.ble 1 (k_fr Y) = true) (r2 : Nat.ble ((st.map fun v => v.category).sum + 13) (k_lo Y) = true) (h3 : nc ≤ G.2.2.1) (h4 : ns ≤ G.2.2.2) (k : k_W Y sc G (pc + 3, ls, .int z :: st, h, nc, ns)) : k_W Y sc G (pc, ls, .int y :: .int x :: st, h, nc, ns) := by
  intro p l e s m args below meth c g cA A b ad0 n0 Q C E ad H locs la I hv
  subst hz
  unfold k_okM at hok
  simp only [Bool.and_eq_true, decide_eq_true_eq] at hok
  obtain ⟨⟨⟨a1, a2⟩, a3⟩, a4⟩ := hok
  have hts := C.2.2.2.2.1
  exact va_mmax C.1 C.2.1 (C.2.2.1.trans hv.1.symm) C.2.2.2.1 (hts _ a1) (hts _ a2) (hts _ a3) (hts _ a4) (Nat.le_of_ble_eq_true r1) (by rw [k_sum]; exact Nat.le_of_ble_eq_true r2) h3 h4 d (k p l e s m args below meth c g cA A b ad0 n0 Q C E ad H locs la I hv)
theorem k_mmin {idx : Nat} {x y z : Int32} (hok : k_okM Y.1 idx Lib.Math.min.name Lib.Math.min.code = true) (hz : (if y < x then y else x) = z) (d : decode (k_cc Y) pc = .ok (.invokestatic idx, 3)) (r1 : Nat.ble 1 (k_fr Y) = true) (r2 : Nat.ble ((st.map fun v => v.category).sum + 13) (k_lo Y) = true) (h3 : nc ≤ G.2.2.1) (h4 : ns ≤ G.2.2.2) (k : k_W Y sc G (pc + 3, ls, .int z :: st, h, nc, ns)) : k_W Y sc G (pc, ls, .int y :: .int x :: st, h, nc, ns) := by
  intro p l e s m args below meth c g cA A b ad0 n0 Q C E ad H locs la I hv
  subst hz
  unfold k_okM at hok
  simp only [Bool.and_eq_true, decide_eq_true_eq] at hok
  obtain ⟨⟨⟨a1, a2⟩, a3⟩, a4⟩ := hok
  have hts := C.2.2.2.2.1
  exact va_mmin C.1 C.2.1 (C.2.2.1.trans hv.1.symm) C.2.2.2.1 (hts _ a1) (hts _ a2) (hts _ a3) (hts _ a4) (Nat.le_of_ble_eq_true r1) (by rw [k_sum]; exact Nat.le_of_ble_eq_true r2) h3 h4 d (k p l e s m args below meth c g cA A b ad0 n0 Q C E ad H locs la I hv)
theorem k_tableIn {dflt lo hi : Int} {offs : Array Int} {len j tg : Nat} {off : Int} (d : decode (k_cc Y) pc = .ok (.tableswitch dflt lo hi offs, len)) (hj : j < 100000) (h1 : ¬ (j : Int) < lo) (h2 : ¬ hi < (j : Int)) (ho : offs[((j : Int) - lo).toNat]? = some off) (ht : (pc : Int) + off = (tg : Int)) (k : k_W Y sc G (tg, ls, st, h, nc, ns)) : k_W Y sc G (pc, ls, .int (nI j) :: st, h, nc, ns) := by
  intro p l e s m args below meth c g cA A b ad0 n0 Q C E ad H locs la I hv
  have e : (nI j).toInt = (j : Int) := nI_toInt (by omega)
  exact lv_tableIn C.1 C.2.1 d (by rw [e]; exact h1) (by rw [e]; exact h2) (by rw [e]; exact ho) ht (k p l _ s m args below meth c g cA A b ad0 n0 Q C E ad H locs la I hv)
theorem k_tableOut {dflt lo hi : Int} {offs : Array Int} {len j tg : Nat} (d : decode (k_cc Y) pc = .ok (.tableswitch dflt lo hi offs, len)) (hj : j < 100000) (h1 : (j : Int) < lo ∨ hi < (j : Int)) (ht : (pc : Int) + dflt = (tg : Int)) (k : k_W Y sc G (tg, ls, st, h, nc, ns)) : k_W Y sc G (pc, ls, .int (nI j) :: st, h, nc, ns) := by
  intro p l e s m args below meth c g cA A b ad0 n0 Q C E ad H locs la I hv
  have e : (nI j).toInt = (j : Int) := nI_toInt (by omega)
  exact lv_tableOut C.1 C.2.1 d (by rw [e]; exact h1) ht (k p l _ s m args below meth c g cA A b ad0 n0 Q C E ad H locs la I hv)
theorem k_objInit {idx a : Nat} (hok : (decide (Cond.methodLink (k_own Y.1) idx Lib.objectInit ∈ k_T) && decide (Cond.instanceMethod Lib.objectInit ∈ k_T) && decide (Cond.code Lib.objectInit ⟨#[0xb1]⟩ 1 none ∈ k_T)) = true) (d : decode (k_cc Y) pc = .ok (.invokespecial idx, 3)) (r1 : Nat.ble 1 (k_fr Y) = true) (hst : st = []) (r2 : Nat.ble 20 (k_lo Y) = true) (k : k_W Y sc G (pc + 3, ls, st, h, nc, ns)) : k_W Y sc G (pc, ls, .ref a :: st, h, nc, ns) := by
  intro p l e s m args below meth c g cA A b ad0 n0 Q C E ad H locs la I hv
  subst hst
  simp only [Bool.and_eq_true, decide_eq_true_eq] at hok
  obtain ⟨⟨a1, a2⟩, a3⟩ := hok
  have hts := C.2.2.2.2.1
  refine W.objInit C.1 C.2.1 C.2.2.2.1 (hts _ a1) (hts _ a2) (hts _ a3) (g := F0 m pc la [.ref (ad a)]) rfl (hv.1.trans C.2.2.1.symm) (rest := []) rfl d (Nat.le_of_ble_eq_true r1) (Nat.le_trans (Nat.le_of_ble_eq_true (rfl : Nat.ble _ 20 = true)) (Nat.le_of_ble_eq_true r2)) ?_
  exact k p l e s m args below meth c g cA A b ad0 n0 Q C E ad H locs la I hv
/-- one more thing: the addresses go on -/
theorem k_w_new {cA : Nat → ClassId} {ad : Nat → Nat} {q : Nat} {o : k_O} (hok : h.all (k_oko h.length) = true) (hl : h.length < 1000000) (ho : k_oko h.length o = true) : k_w cA (fun j => if j = h.length then q else ad j) (h ++ [o]) = k_w cA ad h ++ [(q, k_o cA ad o)] := by
  have hv : ∀ v : Value, k_okv h.length v = true → k_v (fun j => if j = h.length then q else ad j) v = k_v ad v := fun v hv => k_v_eq (fun i hi => by rw [if_neg (by omega)]) (by rw [if_neg (by omega)]) hv
  have hoo : ∀ o : k_O, k_oko h.length o = true → k_o cA (fun j => if j = h.length then q else ad j) o = k_o cA ad o := by
    intro o ho
    cases o with
    | inl a => rfl
    | inr c =>
      simp only [k_o]
      congr 2
      exact List.map_congr_left (fun v hv' => hv v (List.all_eq_true.mp ho v hv'))
  apply List.ext_getElem?
  intro i
  simp only [k_w, List.getElem?_mapIdx]
  by_cases hi : i < h.length
  · rw [List.getElem?_append_left hi, List.getElem?_append_left (by simpa using hi), List.getElem?_mapIdx, List.getElem?_eq_getElem hi]
    simp only [Option.map_some]
    rw [if_neg (by omega), hoo _ (List.all_eq_true.mp hok _ (List.getElem_mem hi))]
  · by_cases hi2 : i = h.length
    · subst hi2
      rw [List.getElem?_append_right (Nat.le_refl _), List.getElem?_append_right (by simp)]
      simp [hoo _ ho]
    · rw [List.getElem?_append_right (by omega), List.getElem?_append_right (by simp; omega)]
      have e1 : i - h.length = (i - h.length - 1) + 1 := by omega
      rw [e1]
      simp
      omega
theorem k_I_new {s : State} {g : va_G} {cA : Nat → ClassId} {A : Nat → Prop} {b : Nat} {ad0 : Nat → Nat} {n0 : Nat} {ad : Nat → Nat} {H H1 : Heap} {locs : List Loc} {q : Nat} {o : k_O} (I : k_I Y sc s g cA A b ad0 n0 ad H locs h) (hok : h.all (k_oko h.length) = true) (hl : h.length < 1000000) (ho : k_oko h.length o = true)
    (hP : va_P g k_cl (k_w cA ad h ++ [(q, k_o cA ad o)]) H1) (hD : va_D A (k_w cA ad h ++ [(q, k_o cA ad o)])) (hS : va_S A s.heap H1 locs) : k_I Y sc s g cA A b ad0 n0 (fun j => if j = h.length then q else ad j) H1 locs (h ++ [o]) := by
  refine ⟨by rw [k_w_new hok hl ho]; exact hP, by rw [k_w_new hok hl ho]; exact hD, hS, fun i hi => ?_, ?_, fun hs => ?_, ?_⟩
  · have := I.2.2.2.2.1
    simp only
    rw [if_neg (by omega)]; exact I.2.2.2.1 i hi
  · have := I.2.2.2.2.1
    simp; omega
  · simp only
    rw [if_neg (by omega)]; exact I.2.2.2.2.2.1 hs
  · simp only
    rw [if_neg (by omega)]; exact I.2.2.2.2.2.2
theorem k_vs_new {ad : Nat → Nat} {n q : Nat} {st : List Value} (hl : n < 1000000) (h : st.all (k_okv n) = true) : st.map (k_v (fun j => if j = n then q else ad j)) = st.map (k_v ad) :=
  List.map_congr_left (fun v hv => k_v_eq (fun i hi => by rw [if_neg (by omega)]) (by rw [if_neg (by omega)]) (List.all_eq_true.mp h v hv))
theorem k_ls_new {ad : Nat → Nat} {n q : Nat} {ls : List (Nat × Value)} (hl : n < 1000000) (h : ls.all (fun q => k_okv n q.2) = true) : ls.map (fun z => (z.1, k_v (fun j => if j = n then q else ad j) z.2)) = ls.map (fun z => (z.1, k_v ad z.2)) :=
  List.map_congr_left (fun z hz => by
    have := k_v_eq (ad := ad) (ad' := fun j => if j = n then q else ad j) (n := n) (fun i hi => by rw [if_neg (by omega)]) (by rw [if_neg (by omega)]) (List.all_eq_true.mp h z hz)
    rw [this])
def k_dfl (ty : FieldType) : Value := match ty with
  | .int => .int 0
  | .boolean => .int 0
  | .long => .long 0
  | _ => .null
theorem k_new {idx ci : Nat} {z : vw_C} {fs : List Value} (hz : k_cl[ci]? = some z) (hw : (decide (Cond.classLink (k_own Y.1) idx z.1 ∈ k_T) && decide (Cond.instantiable z.1 z.2.2 ∈ k_T) && decide (Cond.initialized z.1 ∈ k_T)) = true) (hfs : ∀ j, j < z.2.2 → defaultValue (k_tyo ci j) = vp_V fs j) (hfn : fs.all (fun v => match v with | .ref _ => false | _ => true) = true) (d : decode (k_cc Y) pc = .ok (.new idx, 3))
    (hc : nc + 1 ≤ G.2.2.1) (hs : ns + z.2.2 ≤ G.2.2.2) (hok : h.all (k_oko h.length) = true) (hl : Nat.blt h.length 1000000 = true) (ho1 : ls.all (fun q => k_okv h.length q.2) = true) (ho2 : st.all (k_okv h.length) = true) (k : k_W Y sc G (pc + 3, ls, .ref h.length :: st, h ++ [.inr (ci, fs)], nc + 1, ns + z.2.2)) : k_W Y sc G (pc, ls, st, h, nc, ns) := by
  intro p l e s m args below meth c g cA A b ad0 n0 Q C E ad H locs la I hv
  simp only [Bool.and_eq_true, decide_eq_true_eq] at hw
  obtain ⟨⟨a1, a2⟩, a3⟩ := hw
  have hts := C.2.2.2.2.1
  have hl := k_blt hl
  have hfm : fs.map (k_v ad) = fs := by
    have : fs.map (k_v ad) = fs.map id := List.map_congr_left (fun v hv => by
      have := List.all_eq_true.mp hfn v hv
      cases v <;> first | rfl | simp at this)
    rw [this, List.map_id]
  have hfo : k_oko h.length (.inr (ci, fs)) = true := by
    simp only [k_oko, List.all_eq_true]
    intro v hv
    have := List.all_eq_true.mp hfn v hv
    cases v <;> first | rfl | simp at this
  refine va_new (T := z.2.1) (N := z.2.2) (C := z.1) (own := k_own Y.1) C.1 C.2.1 hts (k_cl_ok hz) (k_tyo ci) (k_ty_ok hz) C.2.2.2.1 (hts _ a1) (hts _ a2) (hts _ a3) C.2.2.2.2.2.1 I.1 I.2.1 I.2.2.1 C.2.2.2.2.2.2.1 hz hfs hc hs d (fun q H1 hP hD hS => ?_)
  have e1 : ((q, .inr (ci, fs)) : Nat × va_E) = (q, k_o cA ad (.inr (ci, fs))) := by simp only [k_o]; rw [hfm]
  rw [e1] at hP hD
  have hk := k p l e s m args below meth c g cA A b ad0 n0 Q C E _ H1 locs la (k_I_new I hok hl hfo hP hD hS) (by rw [k_ls_new hl ho1]; exact hv)
  dsimp only at hk
  rw [List.map_cons, k_vs_new hl ho2] at hk
  have e2 : k_v (fun j => if j = h.length then q else ad j) (.ref h.length) = .ref q := by simp [k_v]
  rw [e2] at hk
  exact hk
theorem k_newa {t N : Nat} {at9 : ArrayType} {a0 : vp_A} {ty : FieldType} (hty : newarray.typeOf at9 = ty) (htt : ∀ cA : Nat → ClassId, (k_tys cA)[t]? = some (cA t, ty)) (hpr : ∀ (U : State) (x y : ClassId), va_RA U x ty → va_RA U y ty → x = y) (hw : decide (Cond.arrayClass (newarray.typeOf at9) ∈ k_T) = true) (ha : ∀ cA : ClassId, vp_cell cA a0 = arrV cA N (fun _ => defaultValue ty)) (hN : N < 100000) (hb : N * componentBytes ty ≤ 536870912) (d : decode (k_cc Y) pc = .ok (.newarray at9, 2))
    (hc : nc + 1 ≤ G.2.2.1) (hs : ns + N ≤ G.2.2.2) (hok : h.all (k_oko h.length) = true) (hl : Nat.blt h.length 1000000 = true) (ho1 : ls.all (fun q => k_okv h.length q.2) = true) (ho2 : st.all (k_okv h.length) = true) (k : k_W Y sc G (pc + 2, ls, .ref h.length :: st, h ++ [.inl (t, a0)], nc + 1, ns + N)) : k_W Y sc G (pc, ls, .int (nI N) :: st, h, nc, ns) := by
  intro p l e s m args below meth c g cA A b ad0 n0 Q C E ad H locs la I hv
  have hts := C.2.2.2.2.1
  have hl := k_blt hl
  refine va_newa (ty := ty) (a0 := a0) (N' := N) C.1 C.2.1 (hts _ (of_decide_eq_true hw)) hty C.2.2.2.2.2.1 I.1 I.2.1 I.2.2.1 C.2.2.2.2.2.2.1 ha (nI_pos (by omega)) (nI_clamp (by omega)) hb hc hs d (fun q cA9 H1 hK hP hD hS => ?_)
  have e0 : cA9 = cA t := hpr s _ _ (hK.2 (k_tys cA).length (cA9, ty) (by simp)).2 (hK.2 t (cA t, ty) (by
    have h3 := htt cA
    have hlt : t < (k_tys cA).length := (List.getElem?_eq_some_iff.mp h3).1
    rw [List.getElem?_append_left hlt]; exact h3)).2
  subst e0
  have hk := k p l e s m args below meth c g cA A b ad0 n0 Q C E _ H1 locs la (k_I_new (o := .inl (t, a0)) I hok hl rfl hP hD hS) (by rw [k_ls_new hl ho1]; exact hv)
  dsimp only at hk
  rw [List.map_cons, k_vs_new hl ho2] at hk
  have e2 : k_v (fun j => if j = h.length then q else ad j) (.ref h.length) = .ref q := by simp [k_v]
  rw [e2] at hk
  exact hk
theorem k_putF {n a : Nat} {q : Nat × Nat} {fs : List Value} {v : Value} {z : vw_C} {ty : FieldType} (hz : k_cl[q.1]? = some z) (hfin : (z.2.1 q.2).2.2.2 = true) (hdc : (z.2.1 q.2).1 = k_own Y.1) (hin : (k_nm Y).name = "<init>") (hty : k_tyo q.1 q.2 = ty) (hna : narrow ty v = v) (hfi : fits ty v = true) (hvr : ∀ ad, narrow ty (k_v ad v) = k_v ad v ∧ fits ty (k_v ad v) = true) (d : decode (k_cc Y) pc = .ok (.putfield n, 3)) (hq : k_lk (k_fl Y.1) n = some q) (ho : k_get h a = some (.inr (q.1, fs))) (hf : q.2 < fs.length) (k : k_W Y sc G (pc + 3, ls, st, k_set h a (.inr (q.1, k_set fs q.2 v)), nc, ns)) : k_W Y sc G (pc, ls, v :: .ref a :: st, h, nc, ns) := by
  intro p l e s m args below meth c g cA A b ad0 n0 Q C E ad H locs la I hv
  obtain ⟨z', hz', hk, hw⟩ := k_fl_ok hq
  cases hz.symm.trans hz'
  refine va_putF (own := k_own Y.1) (ref := (z.2.1 q.2).1) (C := z.1) (T := z.2.1) (N := z.2.2) (ci := q.1) (ty := ty) (v := k_v ad v) C.1 C.2.1 C.2.2.2.2.1 (k_cl_ok hz) (k_tyo q.1) (k_ty_ok hz) (k_nm_ok hz) C.2.2.2.1 C.2.2.2.2.2.1 I.1 I.2.1 I.2.2.1 a (k_w_get ho) hz q.2 hk (C.2.2.2.2.1 _ hw) (fun _ h9 => h9) hfin (C.2.2.2.2.2.2.2.2.2.2.1.trans hin) hdc (by rw [k_ty_ok hz _ hk, hty]) (hvr ad).1 (hvr ad).2 (by simpa using hf) d (fun H1 locs1 hP hD hS => ?_)
  have e1 : ((ad a, .inr (q.1, (fs.map (k_v ad)).set q.2 (k_v ad v))) : Nat × va_E) = (ad a, k_o cA ad (.inr (q.1, k_set fs q.2 v))) := by
    simp only [k_o, k_map_set]
  have e2 : (k_w cA ad h).set a (ad a, .inr (q.1, (fs.map (k_v ad)).set q.2 (k_v ad v))) = k_w cA ad (k_set h a (.inr (q.1, k_set fs q.2 v))) := by
    rw [e1]; exact k_w_set
  rw [e2] at hP hD
  exact k p l e s m args below meth c g cA A b ad0 n0 Q C E ad H1 locs1 la ⟨hP, hD, hS, I.2.2.2.1, by rw [k_set_len]; exact I.2.2.2.2.1, I.2.2.2.2.2⟩ hv
end KK
