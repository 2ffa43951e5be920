abbrev k_O : Type := (Nat × vp_A) ⊕ (Nat × List Value)
abbrev k_S : Type := Nat × List (Nat × Value) × List Value × List k_O × Nat × Nat
abbrev k_Y : Type := Nat × MethodName × ByteArray × Nat × Option FieldType × Nat × Nat × List (Nat × Nat × Nat × Nat)
abbrev k_nm (Y : k_Y) : MethodName := Y.2.1
abbrev k_cc (Y : k_Y) : ByteArray := Y.2.2.1
abbrev k_nL (Y : k_Y) : Nat := Y.2.2.2.1
abbrev k_rt (Y : k_Y) : Option FieldType := Y.2.2.2.2.1
abbrev k_fr (Y : k_Y) : Nat := Y.2.2.2.2.2.1
abbrev k_lo (Y : k_Y) : Nat := Y.2.2.2.2.2.2.1
abbrev k_hh (Y : k_Y) : List (Nat × Nat × Nat × Nat) := Y.2.2.2.2.2.2.2
abbrev k_G : Type := (Option Value ⊕ String) × List k_O × Nat × Nat
abbrev k_Sc : Type := Option (Nat × (Nat → Int32))
def k_v (ad : Nat → Nat) (v : Value) : Value := match v with
  | .ref a => .ref (ad a)
  | .int x => .int x
  | .long x => .long x
  | .float x => .float x
  | .double x => .double x
  | .null => .null
  | .retAddr x => .retAddr x
def k_o (cA : Nat → ClassId) (ad : Nat → Nat) (o : k_O) : va_E := match o with
  | .inl a => .inl (cA a.1, a.2)
  | .inr c => .inr (c.1, c.2.map (k_v ad))
def k_w (cA : Nat → ClassId) (ad : Nat → Nat) (h : List k_O) : va_W := h.mapIdx (fun i o => (ad i, k_o cA ad o))
def k_get {α : Type} : List α → Nat → Option α
  | [], _ => none
  | o :: _, 0 => some o
  | _ :: h, n + 1 => k_get h n
def k_set {α : Type} : List α → Nat → α → List α
  | [], _, _ => []
  | _ :: h, 0, x => x :: h
  | o :: h, n + 1, x => o :: k_set h n x
def k_lk {α : Type} : List (Nat × α) → Nat → Option α
  | [], _ => none
  | q :: l, i => cond (Nat.beq q.1 i) (some q.2) (k_lk l i)
def k_ci (n : Int) : Int32 := match n with
  | .ofNat k => nI k
  | .negSucc 0 => -1
  | .negSucc k => Int32.ofInt (.negSucc k)
theorem k_get_eq {α : Type} (h : List α) (i : Nat) : k_get h i = h[i]? := by
  induction h generalizing i with
  | nil => rfl
  | cons o h ih => cases i with
    | zero => rfl
    | succ i => simpa [k_get] using ih i
theorem k_set_eq {α : Type} (h : List α) (i : Nat) (x : α) : k_set h i x = h.set i x := by
  induction h generalizing i with
  | nil => rfl
  | cons o h ih => cases i with
    | zero => rfl
    | succ i => simp [k_set, ih i]
theorem k_lk_mem {α : Type} {l : List (Nat × α)} {i : Nat} {v : α} (h : k_lk l i = some v) : (i, v) ∈ l := by
  induction l with
  | nil => cases h
  | cons q l ih =>
    unfold k_lk at h
    cases hb : Nat.beq q.1 i with
    | true =>
      rw [hb] at h
      have e1 : q.1 = i := Nat.eq_of_beq_eq_true hb
      have e2 : q.2 = v := Option.some.inj h
      rw [← e1, ← e2]
      exact List.mem_cons_self
    | false =>
      rw [hb] at h
      exact List.mem_cons_of_mem _ (ih h)
theorem k_ci_eq (n : Int) : Int32.ofInt n = k_ci n := by
  unfold k_ci
  split
  · rfl
  · rfl
  · rfl
theorem k_w_get {cA : Nat → ClassId} {ad : Nat → Nat} {h : List k_O} {i : Nat} {o : k_O} (e : k_get h i = some o) : (k_w cA ad h)[i]? = some (ad i, k_o cA ad o) := by
  rw [k_get_eq] at e
  simp [k_w, e]
theorem k_w_set {cA : Nat → ClassId} {ad : Nat → Nat} {h : List k_O} {i : Nat} {o : k_O} : (k_w cA ad h).set i (ad i, k_o cA ad o) = k_w cA ad (k_set h i o) := by
  rw [k_set_eq]
  apply List.ext_getElem?
  intro j
  simp only [k_w, List.getElem?_set, List.getElem?_mapIdx, List.length_mapIdx]
  by_cases hij : i = j
  · subst hij
    by_cases hl : i < h.length
    · simp [hl]
    · simp [hl]
  · simp [hij]
theorem k_w_push {cA : Nat → ClassId} {ad : Nat → Nat} {h : List k_O} {o : k_O} : k_w cA ad h ++ [(ad h.length, k_o cA ad o)] = k_w cA ad (h ++ [o]) := by
  simp [k_w, List.mapIdx_append]
/-- the values of a list name no thing beyond n, but the script -/
def k_okv (n : Nat) (v : Value) : Bool := match v with
  | .ref a => Nat.blt a n || Nat.beq a 1000000
  | _ => true
def k_oko (n : Nat) (o : k_O) : Bool := match o with
  | .inl _ => true
  | .inr c => c.2.all (k_okv n)
theorem k_v_eq {ad ad' : Nat → Nat} {n : Nat} (h : ∀ i, i < n → ad' i = ad i) (hs : ad' 1000000 = ad 1000000) {v : Value} (ok : k_okv n v = true) : k_v ad' v = k_v ad v := by
  cases v with
  | ref a =>
    have h1 : Nat.blt a n = true ∨ Nat.beq a 1000000 = true := by simpa [k_okv] using ok
    rcases h1 with h1 | h1
    · have : a < n := by simpa [Nat.blt_eq] using h1
      simp [k_v, h a this]
    · have : a = 1000000 := Nat.eq_of_beq_eq_true h1
      simp [k_v, this, hs]
  | _ => rfl
theorem k_cat (ad : Nat → Nat) (v : Value) : (k_v ad v).category = v.category := by
  cases v <;> rfl
