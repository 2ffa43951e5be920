theorem k_fl_ok {o n : Nat} {q : Nat × Nat} (h : k_lk (k_fl o) n = some q) : ∃ z, k_cl[q.1]? = some z ∧ q.2 < z.2.2 ∧ Cond.fieldLink (k_own o) n (z.2.1 q.2).1 (z.2.1 q.2).2.1 (z.2.1 q.2).2.2.1 ∈ k_T := by
  have hm : (n, q) ∈ k_fl o := k_lk_mem h
  have hall : (k_fl o).all (k_flc (k_own o)) = true := by
    match o with
    | 0 => exact k_fl0
    | 1 => exact k_fl1
    | 2 => exact k_fl2
    | 3 => exact k_fl3
    | _ + 4 => rfl
  have h1 : k_flc (k_own o) (n, q) = true := List.all_eq_true.mp hall _ hm
  unfold k_flc at h1
  split at h1
  · next z hz =>
    simp only [Bool.and_eq_true, decide_eq_true_eq] at h1
    exact ⟨z, hz, h1.1, h1.2⟩
  · cases h1
theorem k_cl_ok {ci : Nat} {z : vw_C} (h : k_cl[ci]? = some z) : ∀ w ∈ u_ws z.1 z.2.1 z.2.2, w ∈ k_T := fun w hw => by
  have h1 := List.all_eq_true.mp k_clw z (List.mem_of_getElem? h)
  have h2 := List.all_eq_true.mp h1 w hw
  simpa using h2
def k_tyo (ci : Nat) : Nat → FieldType := match ci with
  | 0 => tyX0
  | 1 => tyX1
  | 2 => tyX2
  | _ => tyX3
theorem k_ty_ok {ci : Nat} {z : vw_C} (h : k_cl[ci]? = some z) : ∀ k, k < z.2.2 → parseFieldDescriptor (z.2.1 k).2.2.1 = some (k_tyo ci k) := by
  match ci, h with
  | 0, h => cases h; exact tyX0_ok
  | 1, h => cases h; exact tyX1_ok
  | 2, h => cases h; exact tyX2_ok
  | 3, h => cases h; exact tyX3_ok
  | n + 4, h => simp [k_cl] at h
theorem k_nm_ok {ci : Nat} {z : vw_C} (h : k_cl[ci]? = some z) : ∀ a, a < z.2.2 → ∀ b, b < z.2.2 → a ≠ b → (z.2.1 a).2.1 ≠ (z.2.1 b).2.1 := by
  match ci, h with
  | 0, h => cases h; exact nmX0
  | 1, h => cases h; exact nmX1
  | 2, h => cases h; exact nmX2
  | 3, h => cases h; exact nmX3
  | n + 4, h => simp [k_cl] at h
theorem k_elem_mem {i : Nat} {l : List Nat} (h : k_elem i l = true) : i ∈ l := by
  induction l with
  | nil => cases h
  | cons j l ih =>
    unfold k_elem at h
    cases hb : Nat.beq j i with
    | true => rw [Nat.eq_of_beq_eq_true hb]; exact List.mem_cons_self
    | false => rw [hb] at h; exact List.mem_cons_of_mem _ (ih h)
theorem k_pfl_ok {ci k : Nat} {z : vw_C} (h : k_cl[ci]? = some z) (hp : k_pfl ci k = true) : (z.2.1 k).2.2.2 = false ∧ k_tyo ci k = .int := by
  match ci, h with
  | 0, h =>
    cases h
    have : k = 9 := Nat.eq_of_beq_eq_true hp
    subst this; exact ⟨rfl, rfl⟩
  | 1, h =>
    cases h
    have : k = 5 := Nat.eq_of_beq_eq_true hp
    subst this; exact ⟨rfl, rfl⟩
  | 2, h =>
    cases h
    have : k ∈ [6, 7] := k_elem_mem hp
    simp only [List.mem_cons, List.not_mem_nil, or_false] at this
    rcases this with rfl | rfl <;> exact ⟨rfl, rfl⟩
  | 3, h =>
    cases h
    have : k ∈ [0, 1, 2, 4, 9, 14] := k_elem_mem hp
    simp only [List.mem_cons, List.not_mem_nil, or_false] at this
    rcases this with rfl | rfl | rfl | rfl | rfl | rfl <;> exact ⟨rfl, rfl⟩
  | n + 4, h => simp [k_cl] at h
theorem k_set_len {α : Type} (h : List α) (i : Nat) (x : α) : (k_set h i x).length = h.length := by rw [k_set_eq]; simp
theorem k_map_set {ad : Nat → Nat} (fs : List Value) (k : Nat) (v : Value) : (k_set fs k v).map (k_v ad) = (fs.map (k_v ad)).set k (k_v ad v) := by rw [k_set_eq, List.map_set]
theorem k_map_get {ad : Nat → Nat} {fs : List Value} {k : Nat} {v : Value} (h : k_get fs k = some v) : (fs.map (k_v ad))[k]? = some (k_v ad v) := by
  rw [k_get_eq] at h
  simp [h]
section KM
variable {Y : k_Y} {sc : k_Sc} {G : k_G} {pc : Nat} {ls : List (Nat × Value)} {st : List Value} {h : List k_O} {nc ns : Nat}
theorem k_getfield {n a : Nat} {q : Nat × Nat} {fs : List Value} {v : Value} (d : decode (k_cc Y) pc = .ok (.getfield n, 3)) (hq : k_lk (k_fl Y.1) n = some q) (ho : k_get h a = some (.inr (q.1, fs))) (hf : k_get fs q.2 = some v) (k : k_W Y sc G (pc + 3, ls, v :: st, h, nc, ns)) : k_W Y sc G (pc, ls, .ref a :: st, h, nc, ns) := by
  intro p l e s m args below meth c g cA A b ad0 n0 Q C E ad H locs la I hv
  obtain ⟨z, hz, hk, hw⟩ := k_fl_ok hq
  exact va_get (own := k_own Y.1) (ref := (z.2.1 q.2).1) (C := z.1) (T := z.2.1) (N := z.2.2) (ci := q.1) C.1 C.2.1 C.2.2.2.2.1 (k_cl_ok hz) C.2.2.2.1 C.2.2.2.2.2.1 I.1 a (k_w_get ho) hz q.2 hk (C.2.2.2.2.1 _ hw) (fun _ h9 => h9) (k_map_get hf) d (k p l e s m args below meth c g cA A b ad0 n0 Q C E ad H locs la I hv)
theorem k_putfield {n a : Nat} {q : Nat × Nat} {fs : List Value} {x : Int32} (d : decode (k_cc Y) pc = .ok (.putfield n, 3)) (hq : k_lk (k_fl Y.1) n = some q) (ho : k_get h a = some (.inr (q.1, fs))) (hp : k_pfl q.1 q.2 = true) (hf : q.2 < fs.length) (k : k_W Y sc G (pc + 3, ls, st, k_set h a (.inr (q.1, k_set fs q.2 (.int x))), nc, ns)) : k_W Y sc G (pc, ls, .int x :: .ref a :: st, h, nc, ns) := by
  intro p l e s m args below meth c g cA A b ad0 n0 Q C E ad H locs la I hv
  obtain ⟨z, hz, hk, hw⟩ := k_fl_ok hq
  obtain ⟨f1, f2⟩ := k_pfl_ok hz hp
  refine va_put (own := k_own Y.1) (ref := (z.2.1 q.2).1) (C := z.1) (T := z.2.1) (N := z.2.2) (ci := q.1) (ty := .int) (v := .int x) C.1 C.2.1 C.2.2.2.2.1 (k_cl_ok hz) (k_tyo q.1) (k_ty_ok hz) (k_nm_ok hz) C.2.2.2.1 C.2.2.2.2.2.1 I.1 I.2.1 I.2.2.1 a (k_w_get ho) hz q.2 hk (C.2.2.2.2.1 _ hw) (fun _ h9 => h9) f1 (by rw [k_ty_ok hz _ hk, f2]) rfl rfl (by simpa using hf) d (fun H1 locs1 hP hD hS => ?_)
  have e1 : ((ad a, .inr (q.1, (fs.map (k_v ad)).set q.2 (.int x))) : Nat × va_E) = (ad a, k_o cA ad (.inr (q.1, k_set fs q.2 (.int x)))) := by
    simp only [k_o, k_map_set]; rfl
  have e2 : (k_w cA ad h).set a (ad a, .inr (q.1, (fs.map (k_v ad)).set q.2 (.int x))) = k_w cA ad (k_set h a (.inr (q.1, k_set fs q.2 (.int x)))) := by
    rw [e1]; exact k_w_set
  rw [e2] at hP hD
  exact k p l e s m args below meth c g cA A b ad0 n0 Q C E ad H1 locs1 la ⟨hP, hD, hS, I.2.2.2.1, by rw [k_set_len]; exact I.2.2.2.2.1, I.2.2.2.2.2⟩ hv
theorem k_iald {a n j : Nat} {f : Nat → Int32} {t : Nat} (ht : t = 0) (d : decode (k_cc Y) pc = .ok (.iaload, 1)) (ho : k_get h a = some (.inl (t, n, .inl f))) (hn : n < 100000) (hj : j < n) (k : k_W Y sc G (pc + 1, ls, .int (f j) :: st, h, nc, ns)) : k_W Y sc G (pc, ls, .int (nI j) :: .ref a :: st, h, nc, ns) := by
  intro p l e s m args below meth c g cA A b ad0 n0 Q C E ad H locs la I hv
  subst ht
  refine va_iald C.1 C.2.1 C.2.2.2.2.2.1 I.1 a 0 (k_w_get ho) rfl (vp_in_nI hj (by omega)) d ?_
  rw [nI_clamp (by omega)]
  exact k p l e s m args below meth c g cA A b ad0 n0 Q C E ad H locs la I hv
theorem k_zald {a n j : Nat} {f : Nat → Int32} {t : Nat} (ht : t = 1) (d : decode (k_cc Y) pc = .ok (.baload, 1)) (ho : k_get h a = some (.inl (t, n, .inl f))) (hn : n < 100000) (hj : j < n) (k : k_W Y sc G (pc + 1, ls, .int (f j) :: st, h, nc, ns)) : k_W Y sc G (pc, ls, .int (nI j) :: .ref a :: st, h, nc, ns) := by
  intro p l e s m args below meth c g cA A b ad0 n0 Q C E ad H locs la I hv
  subst ht
  refine va_zald C.1 C.2.1 C.2.2.2.2.2.1 I.1 a 1 (k_w_get ho) rfl (vp_in_nI hj (by omega)) d ?_
  rw [nI_clamp (by omega)]
  exact k p l e s m args below meth c g cA A b ad0 n0 Q C E ad H locs la I hv
theorem k_lald {a n j : Nat} {f : Nat → Int64} {t : Nat} (ht : t = 2) (d : decode (k_cc Y) pc = .ok (.laload, 1)) (ho : k_get h a = some (.inl (t, n, .inr (.inl f)))) (hn : n < 100000) (hj : j < n) (k : k_W Y sc G (pc + 1, ls, .long (f j) :: st, h, nc, ns)) : k_W Y sc G (pc, ls, .int (nI j) :: .ref a :: st, h, nc, ns) := by
  intro p l e s m args below meth c g cA A b ad0 n0 Q C E ad H locs la I hv
  subst ht
  refine va_lald C.1 C.2.1 C.2.2.2.2.2.1 I.1 a 2 (k_w_get ho) rfl (vp_in_nI hj (by omega)) d ?_
  rw [nI_clamp (by omega)]
  exact k p l e s m args below meth c g cA A b ad0 n0 Q C E ad H locs la I hv
theorem k_iast {a n j : Nat} {f : Nat → Int32} {x : Int32} {t : Nat} (ht : t = 0) (d : decode (k_cc Y) pc = .ok (.iastore, 1)) (ho : k_get h a = some (.inl (t, n, .inl f))) (hn : n < 100000) (hj : j < n) (k : k_W Y sc G (pc + 1, ls, st, k_set h a (.inl (t, n, .inl (upd f j x))), nc, ns)) : k_W Y sc G (pc, ls, .int x :: .int (nI j) :: .ref a :: st, h, nc, ns) := by
  intro p l e s m args below meth c g cA A b ad0 n0 Q C E ad H locs la I hv
  subst ht
  refine va_iast C.1 C.2.1 C.2.2.2.2.2.1 I.1 I.2.1 I.2.2.1 a 0 (k_w_get ho) rfl (vp_in_nI hj (by omega)) d (fun H1 locs1 hP hD hS => ?_)
  rw [nI_clamp (by omega)] at hP hD
  have e2 : (k_w cA ad h).set a (ad a, .inl (cA 0, n, .inl (upd f j x))) = k_w cA ad (k_set h a (.inl (0, n, .inl (upd f j x)))) := k_w_set (o := .inl (0, n, .inl (upd f j x)))
  rw [e2] at hP hD
  exact k p l e s m args below meth c g cA A b ad0 n0 Q C E ad H1 locs1 la ⟨hP, hD, hS, I.2.2.2.1, by rw [k_set_len]; exact I.2.2.2.2.1, I.2.2.2.2.2⟩ hv
theorem k_zast {a n j : Nat} {f : Nat → Int32} {x : Int32} {t : Nat} (ht : t = 1) (d : decode (k_cc Y) pc = .ok (.bastore, 1)) (ho : k_get h a = some (.inl (t, n, .inl f))) (hn : n < 100000) (hj : j < n) (hx : x = 0 ∨ x = 1) (k : k_W Y sc G (pc + 1, ls, st, k_set h a (.inl (t, n, .inl (upd f j x))), nc, ns)) : k_W Y sc G (pc, ls, .int x :: .int (nI j) :: .ref a :: st, h, nc, ns) := by
  intro p l e s m args below meth c g cA A b ad0 n0 Q C E ad H locs la I hv
  subst ht
  refine va_zast C.1 C.2.1 C.2.2.2.2.2.1 I.1 I.2.1 I.2.2.1 a 1 (k_w_get ho) rfl (vp_in_nI hj (by omega)) d (fun H1 locs1 hP hD hS => ?_)
  have hx2 : vp_nar .boolean x = x := by rcases hx with rfl | rfl <;> rfl
  rw [nI_clamp (by omega), hx2] at hP hD
  have e2 : (k_w cA ad h).set a (ad a, .inl (cA 1, n, .inl (upd f j x))) = k_w cA ad (k_set h a (.inl (1, n, .inl (upd f j x)))) := k_w_set (o := .inl (1, n, .inl (upd f j x)))
  rw [e2] at hP hD
  exact k p l e s m args below meth c g cA A b ad0 n0 Q C E ad H1 locs1 la ⟨hP, hD, hS, I.2.2.2.1, by rw [k_set_len]; exact I.2.2.2.2.1, I.2.2.2.2.2⟩ hv
theorem k_last {a n j : Nat} {f : Nat → Int64} {x : Int64} {t : Nat} (ht : t = 2) (d : decode (k_cc Y) pc = .ok (.lastore, 1)) (ho : k_get h a = some (.inl (t, n, .inr (.inl f)))) (hn : n < 100000) (hj : j < n) (k : k_W Y sc G (pc + 1, ls, st, k_set h a (.inl (t, n, .inr (.inl (vp_updL f j x)))), nc, ns)) : k_W Y sc G (pc, ls, .long x :: .int (nI j) :: .ref a :: st, h, nc, ns) := by
  intro p l e s m args below meth c g cA A b ad0 n0 Q C E ad H locs la I hv
  subst ht
  refine va_last C.1 C.2.1 C.2.2.2.2.2.1 I.1 I.2.1 I.2.2.1 a 2 (k_w_get ho) rfl (vp_in_nI hj (by omega)) d (fun H1 locs1 hP hD hS => ?_)
  rw [nI_clamp (by omega)] at hP hD
  have e2 : (k_w cA ad h).set a (ad a, .inl (cA 2, n, .inr (.inl (vp_updL f j x)))) = k_w cA ad (k_set h a (.inl (2, n, .inr (.inl (vp_updL f j x))))) := k_w_set (o := .inl (2, n, .inr (.inl (vp_updL f j x))))
  rw [e2] at hP hD
  exact k p l e s m args below meth c g cA A b ad0 n0 Q C E ad H1 locs1 la ⟨hP, hD, hS, I.2.2.2.1, by rw [k_set_len]; exact I.2.2.2.2.1, I.2.2.2.2.2⟩ hv
theorem k_alen {a n : Nat} {f : Nat → Int32} {t : Nat} (ht : t = 0) (d : decode (k_cc Y) pc = .ok (.arraylength, 1)) (ho : k_get h a = some (.inl (t, n, .inl f))) (k : k_W Y sc G (pc + 1, ls, .int (nI n) :: st, h, nc, ns)) : k_W Y sc G (pc, ls, .ref a :: st, h, nc, ns) := by
  intro p l e s m args below meth c g cA A b ad0 n0 Q C E ad H locs la I hv
  subst ht
  exact va_alen C.1 C.2.1 C.2.2.2.2.2.1 I.1 a 0 (k_w_get ho) (ty := .int) rfl rfl d (k p l e s m args below meth c g cA A b ad0 n0 Q C E ad H locs la I hv)
theorem k_slen {L : Nat} {xs : Nat → Int32} (hs : sc = some (L, xs)) (d : decode (k_cc Y) pc = .ok (.arraylength, 1)) (k : k_W Y sc G (pc + 1, ls, .int (nI L) :: st, h, nc, ns)) : k_W Y sc G (pc, ls, .ref 1000000 :: st, h, nc, ns) := by
  intro p l e s m args below meth c g cA A b ad0 n0 Q C E ad H locs la I hv
  obtain ⟨x1, x2, x3⟩ := C.2.2.2.2.2.2.2.2.2.2.2.2 L xs hs
  have hb : ad 1000000 = b := I.2.2.2.2.2.1 (by rw [hs]; exact Option.some_ne_none _)
  show W p l e (k_R Y G) s m args below meth c H locs nc ns Q (F0 m pc la (.ref (ad 1000000) :: st.map (k_v ad)))
  rw [hb]
  exact va_slen C.1 C.2.1 x1 x2 x3 I.2.2.1 d (k p l e s m args below meth c g cA A b ad0 n0 Q C E ad H locs la I hv)
theorem k_sld {L j : Nat} {xs : Nat → Int32} (hs : sc = some (L, xs)) (d : decode (k_cc Y) pc = .ok (.iaload, 1)) (hj : j < L) (hj2 : j < 100000) (k : k_W Y sc G (pc + 1, ls, .int (xs j) :: st, h, nc, ns)) : k_W Y sc G (pc, ls, .int (nI j) :: .ref 1000000 :: st, h, nc, ns) := by
  intro p l e s m args below meth c g cA A b ad0 n0 Q C E ad H locs la I hv
  obtain ⟨x1, x2, x3⟩ := C.2.2.2.2.2.2.2.2.2.2.2.2 L xs hs
  have hb : ad 1000000 = b := I.2.2.2.2.2.1 (by rw [hs]; exact Option.some_ne_none _)
  show W p l e (k_R Y G) s m args below meth c H locs nc ns Q (F0 m pc la (.int (nI j) :: .ref (ad 1000000) :: st.map (k_v ad)))
  rw [hb]
  refine va_sld C.1 C.2.1 x1 x2 x3 I.2.2.1 (vp_in_iff.mpr ⟨by rw [nI_toInt (by omega)]; omega, by rw [nI_toInt (by omega)]; omega⟩) d ?_
  rw [nI_clamp (by omega)]
  exact k p l e s m args below meth c g cA A b ad0 n0 Q C E ad H locs la I hv
end KM
