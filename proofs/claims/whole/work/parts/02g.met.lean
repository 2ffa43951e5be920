def k_ws (Y : k_Y) : List Cond := (match k_hh Y with | [] => Cond.code (k_nm Y) (k_cc Y) (k_nL Y) (k_rt Y) | q :: hh => Cond.codeWith (k_nm Y) (k_cc Y) (k_nL Y) (k_rt Y) (q :: hh)) :: k_T
def k_B (g : va_G) (cA : Nat → ClassId) (ad : Nat → Nat) (A : Nat → Prop) (h : List k_O) (t : State) : Prop := va_P g k_cl (k_w cA ad h) t.heap ∧ va_K g k_cl (k_tys cA) t ∧ va_D A (k_w cA ad h)
def k_Qc (g : va_G) (cA : Nat → ClassId) (ad0 : Nat → Nat) (n0 : Nat) (A : Nat → Prop) (out : Option Value ⊕ String) (h : List k_O) : Array Value → State → Outcome → State → Prop := fun _ st o t =>
  (∃ (ad : Nat → Nat) (v : Option Value), (∀ i, i < n0 → ad i = ad0 i) ∧ n0 ≤ h.length ∧ ad 1000000 = ad0 1000000 ∧ out = .inl v ∧ o = .returned (v.map (k_v ad)) ∧ k_B g cA ad A h t) ∧ va_F A st t
def k_XC (g : va_G) (cA : Nat → ClassId) (ad0 : Nat → Nat) (n0 : Nat) (A : Nat → Prop) (out : Option Value ⊕ String) (h : List k_O) : String → State → State → Prop := fun E st t =>
  (∃ (ad : Nat → Nat), (∀ i, i < n0 → ad i = ad0 i) ∧ n0 ≤ h.length ∧ ad 1000000 = ad0 1000000 ∧ out = .inr E ∧ k_B g cA ad A h t) ∧ va_F A st t
def k_Pre (g : va_G) (cA : Nat → ClassId) (ad : Nat → Nat) (sz : Nat) (h : List k_O) (U : State) : Prop :=
  U.heap.size = sz ∧ va_P g k_cl (k_w cA ad h) U.heap ∧ va_K g k_cl (k_tys cA) U ∧ va_D (fun _ => True) (k_w cA ad h) ∧ k_Fix (va_A (k_w cA ad h) sz) U U.heap
def k_Met (Y : k_Y) (as : List Value) (h : List k_O) (G : k_G) : Prop := ∀ (l : Launch), l.stackTraces = false → ∀ (g : va_G) (cA : Nat → ClassId) (ad : Nat → Nat) (sz : Nat),
  vx_Met l (k_nm Y) (k_ws Y) (k_R Y G) (va_Pc (as.map (k_v ad)) (k_Pre g cA ad sz h)) (k_Qc g cA ad h.length (va_A (k_w cA ad h) sz) G.1 G.2.1) (k_XC g cA ad h.length (va_A (k_w cA ad h) sz) G.1 G.2.1) G.2.2.1 G.2.2.2 (va_A (k_w cA ad h) sz)
theorem k_Fix.warm {A B : Nat → Prop} {u U : State} {H H1 : Heap} (hW : u.WarmedH U.vm) (hq : ∀ a : Nat, a < H.size → ¬ A a → H1[a]? = H[a]?) (hAB : ∀ q, B q → A q) (h : k_Fix A u H) : k_Fix B U H1 := by
  obtain ⟨h1, h2, h3, h4⟩ := h
  refine ⟨((h1.kept hq).narrow hAB).moved hW.alike, ((h2.kept hq).narrow hAB).moved hW.alike, ⟨fun x hx => va_Nw.warmD hW (h3.1 x hx), fun E hE F hF => ⟨fun hs => va_Nw.warmC hW ((h3.2 E hE F hF).1 hs), fun hs => ((h3.2 E hE F hF).2 hs).moved hW.alike⟩⟩, fun q hq => ?_⟩
  obtain ⟨sa, hsa⟩ := h4 q hq
  exact ⟨sa, vk_R.warm hW hsa⟩
theorem k_Fix.same {A : Nat → Prop} {u U : State} {H : Heap} (hv : U.vm = u.vm) (h : k_Fix A u H) : k_Fix A U H := by
  obtain ⟨h1, h2, h3, h4⟩ := h
  have hal : u.vm.Alike U.vm := by rw [hv]; exact Vm.Alike.refl _
  refine ⟨h1.moved hal, h2.moved hal, ⟨fun x hx => va_Nw.same rfl hv.symm (h3.1 x hx), fun E hE F hF => ⟨fun hs => va_Nw.same rfl hv.symm ((h3.2 E hE F hF).1 hs), fun hs => ((h3.2 E hE F hF).2 hs).moved hal⟩⟩, fun q hq => ?_⟩
  obtain ⟨sa, hsa⟩ := h4 q hq
  exact ⟨sa, vk_R.same hv hsa⟩
theorem k_blind {g : va_G} {cA : Nat → ClassId} {ad : Nat → Nat} {sz : Nat} {h : List k_O} {vs : List Value} : FrameBlind (va_Pc vs (k_Pre g cA ad sz h)) := by
  intro a U fr mk q
  obtain ⟨q0, q1, qP, qK, qD, qF⟩ := q
  exact ⟨q0, q1, qP, va_K.moved (u := U) (U := U.calling fr mk a) (Vm.Alike.refl U.vm) qK, qD, k_Fix.same (u := U) (U := U.calling fr mk a) rfl qF⟩
theorem k_good {ws : List Cond} (h : ∀ w ∈ ws, w ∈ k_T) : GoodIn k_T ws := fun w hw => ⟨h w hw, good_of_word (List.mem_filter.mp (h w hw)).2⟩
theorem k_args (ad : Nat → Nat) (as : List Value) : ∀ i, lv_args i (as.map (k_v ad)) = (lv_args i as).map (fun q => (q.1, k_v ad q.2)) := by
  induction as with
  | nil => intro i; rfl
  | cons a as ih => intro i; simp only [List.map_cons, lv_args, k_cat, ih]
theorem k_sl (ad : Nat → Nat) (as : List Value) : (lg_sl (as.map (k_v ad))).length = (lg_sl as).length := by
  induction as with
  | nil => rfl
  | cons a as ih =>
    have h1 : ∀ (v : Value) (vs : List Value), (lg_sl (v :: vs)).length = (if v.category = 2 then 2 else 1) + (lg_sl vs).length := by
      intro v vs
      simp only [lg_sl, List.flatMap_cons, List.length_append]
      split <;> rfl
    rw [List.map_cons, h1, h1, k_cat, ih]
theorem k_sum (ad : Nat → Nat) (st : List Value) : ((st.map (k_v ad)).map fun v => v.category).sum = (st.map fun v => v.category).sum := by
  rw [List.map_map]
  congr 1
  apply List.map_congr_left
  intro v _
  exact k_cat ad v
