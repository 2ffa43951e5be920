def k_tys (cA : Nat → ClassId) : List (ClassId × FieldType) := [(cA 0, .int), (cA 1, .boolean), (cA 2, .long)]
def k_ex6 : List String := ["java/lang/ArrayIndexOutOfBoundsException", "java/lang/IllegalArgumentException", "java/lang/IllegalStateException", "java/lang/IndexOutOfBoundsException", "java/lang/NegativeArraySizeException", "java/lang/UnsupportedOperationException"]
/-- which of the six kinds of throws a row of a table takes -/
def k_sub (E F : String) : Bool := E == F || (E == "java/lang/ArrayIndexOutOfBoundsException" && F == "java/lang/IndexOutOfBoundsException")
def k_dcl : List MethodName := [⟨"java/lang/Exception", "<init>", "(Ljava/lang/String;)V"⟩, ⟨"java/lang/IndexOutOfBoundsException", "<init>", "(Ljava/lang/String;)V"⟩, ⟨"java/lang/RuntimeException", "<init>", "(Ljava/lang/String;)V"⟩, ⟨"java/lang/Throwable", "<init>", "(Ljava/lang/String;)V"⟩]
def k_Ng (U : State) : Prop := (∀ x ∈ k_dcl, va_Nw (.declares x) U) ∧ ∀ E ∈ k_ex6, ∀ F ∈ k_ex6, (k_sub E F = true → va_Nw (.castable E F) U) ∧ (k_sub E F = false → va_Nc E F U)
def k_str : List (Nat × String) := [(44, "a day of too many slots"), (51, "a day of fewer than no slots"), (79, "no such channels"), (93, "no such limit"), (101, "no such words"), (124, "the unit has not heard the whole message"), (152, "no such place among the units"), (160, "no such part of the day"), (168, "no such unit"), (170, "no such message"), (172, "no such channel"), (179, "no such slot"), (182, "no such point"), (184, "no channel of that number"), (186, "no slot of that number"), (188, "no such rank"), (193, "the unit has a message that begins in this slot"), (197, "no room for one more message"), (200, "no such reach"), (206, "no room for one more")]
def k_Fix (A : Nat → Prop) (U : State) (H : Heap) : Prop :=
  vx_Zq Bundle.tN "UNASSIGNED_STACK" Bundle.steD A U H ∧ vx_Zq Bundle.tN "SUPPRESSED_SENTINEL" Bundle.listD A U H ∧ k_Ng U ∧ ∀ q ∈ k_str, ∃ sa, vk_R RX2 q.1 q.2 sa U
def k_C (Y : k_Y) (sc : k_Sc) (p : Program) (l : Launch) (s : State) (m : MethodId) (args : Array Value) (meth : Method) (c : Code) (g : va_G) (cA : Nat → ClassId) (A : Nat → Prop) (b : Nat) : Prop :=
  p.tables.exec = Jvm.exec ∧ c.code = k_cc Y ∧ c.maxLocals = k_nL Y ∧ s.vm.findClass (k_own Y.1) = some m.cls ∧ (∀ w ∈ k_T, w.before args s = true) ∧ va_K g k_cl (k_tys cA) s ∧ (∀ q, s.heap.size ≤ q → A q) ∧ meth.locks = false ∧ l.stackTraces = false ∧ k_Fix A s s.heap ∧ meth.name = (k_nm Y).name ∧ (k_hh Y ≠ [] → c.exceptionTable.toList = tableOf (k_hh Y)) ∧ ∀ L xs, sc = some (L, xs) → va_X b L xs s s.heap ∧ b < s.heap.size ∧ ¬ A b
def k_I (Y : k_Y) (sc : k_Sc) (s : State) (g : va_G) (cA : Nat → ClassId) (A : Nat → Prop) (b : Nat) (ad0 : Nat → Nat) (n0 : Nat) (ad : Nat → Nat) (H : Heap) (locs : List Loc) (h : List k_O) : Prop :=
  va_P g k_cl (k_w cA ad h) H ∧ va_D A (k_w cA ad h) ∧ va_S A s.heap H locs ∧ (∀ i, i < n0 → ad i = ad0 i) ∧ n0 ≤ h.length ∧ (sc ≠ none → ad 1000000 = b) ∧ ad 1000000 = ad0 1000000
abbrev k_R (Y : k_Y) (G : k_G) : Room := { frames := k_fr Y, cells := G.2.2.1, slots := G.2.2.2, locals := k_lo Y }
/-- the ends that a body may come to -/
def k_E (Y : k_Y) (sc : k_Sc) (G : k_G) (p : Program) (l : Launch) (e : Env) (s : State) (m : MethodId) (args : Array Value) (below : List Frame) (meth : Method) (c : Code) (g : va_G) (cA : Nat → ClassId) (A : Nat → Prop) (b : Nat) (ad0 : Nat → Nat) (n0 : Nat) (Q : State → Prop) : Prop :=
  (∀ (v : Option Value), G.1 = .inl v → (∀ x ty, v = some (.int x) → k_rt Y = some ty → narrow ty (.int x) = .int x) → ∀ (ad : Nat → Nat) (H : Heap) (locs : List Loc) (ls : Array Slot) (pc : Nat), k_I Y sc s g cA A b ad0 n0 ad H locs G.2.1 →
    ((v = none ∧ k_rt Y = none ∧ decode (k_cc Y) pc = .ok (.return_, 1)) ∨ (∃ x ty, v = some (.int x) ∧ k_rt Y = some ty ∧ decode (k_cc Y) pc = .ok (.ireturn, 1))) →
    W p l e (k_R Y G) s m args below meth c H locs G.2.2.1 G.2.2.2 Q (F0 m pc ls (v.map (k_v ad)).toList)) ∧
  (∀ (E : String), G.1 = .inr E → k_hh Y = [] → ∀ (ad : Nat → Nat) (H : Heap) (locs : List Loc) (ls : Array Slot) (pc : Nat) (rest : List Value) (q : Addr) (ce : Cell), k_I Y sc s g cA A b ad0 n0 ad H locs G.2.1 →
    H[q]? = some ce → ce.vm = .none → s.vm.findClass E = some ce.cls → vx_W p l e (k_R Y G) s m args below meth c H locs G.2.2.1 G.2.2.2 Q (F0 m pc ls rest) q) ∧
  (∀ (E : String), G.1 = .inr E → k_hh Y = [] → ∀ (ad : Nat → Nat) (H : Heap) (locs : List Loc) (ls : Array Slot) (pc : Nat) (rest : List Value) (names : List String) (text : String) (ik is ic sa cells slots : Nat), k_I Y sc s g cA A b ad0 n0 ad H locs G.2.1 → ls.size = c.maxLocals →
    Bundle.fit E = true → (∀ n ∈ names, Bundle.fit n = true) → (Cond.classLink (k_own Y.1) ik E).before args s = true → (Cond.initialized E).before args s = true → vk_R (k_own Y.1) is text sa s → (∀ w ∈ vx_atS (k_own Y.1) ic E names, w.before args s = true) →
    (∀ w ∈ Cond.classLink (k_own Y.1) ik E :: Cond.initialized E :: vx_atS (k_own Y.1) ic E names, vx_ot w = true) →
    decode (k_cc Y) pc = .ok (.new ik, 3) → decode (k_cc Y) (pc + 3) = .ok (.dup, 1) → decode (k_cc Y) (pc + 4) = .ok (.ldc is, 2) → decode (k_cc Y) (pc + 6) = .ok (.invokespecial ic, 3) → decode (k_cc Y) (pc + 9) = .ok (.athrow, 1) →
    names.length + 3 < k_fr Y → (rest.map fun v => v.category).sum + (13 * (names.length + 1) + 43) ≤ k_lo Y → cells + 1 ≤ G.2.2.1 → slots + 6 ≤ G.2.2.2 →
    W p l e (k_R Y G) s m args below meth c H locs cells slots Q (F0 m pc ls rest))
def k_W (Y : k_Y) (sc : k_Sc) (G : k_G) (S : k_S) : Prop :=
  ∀ (p : Program) (l : Launch) (e : Env) (s : State) (m : MethodId) (args : Array Value) (below : List Frame) (meth : Method) (c : Code) (g : va_G) (cA : Nat → ClassId) (A : Nat → Prop) (b : Nat) (ad0 : Nat → Nat) (n0 : Nat) (Q : State → Prop),
    k_C Y sc p l s m args meth c g cA A b → k_E Y sc G p l e s m args below meth c g cA A b ad0 n0 Q →
    ∀ (ad : Nat → Nat) (H : Heap) (locs : List Loc) (ls : Array Slot), k_I Y sc s g cA A b ad0 n0 ad H locs S.2.2.2.1 → lv_has ls (k_nL Y) (S.2.1.map (fun q => (q.1, k_v ad q.2))) →
      W p l e (k_R Y G) s m args below meth c H locs S.2.2.2.2.1 S.2.2.2.2.2 Q (F0 m S.1 ls (S.2.2.1.map (k_v ad)))
def k_up (ls : List (Nat × Value)) (i : Nat) (v : Value) : List (Nat × Value) := (i, v) :: ls.filter (fun q => !(Nat.beq q.1 i))
theorem k_lk_at {ls : Array Slot} {nL i : Nat} {ad : Nat → Nat} {l : List (Nat × Value)} {v : Value} (h : lv_has ls nL (l.map (fun q => (q.1, k_v ad q.2)))) (e : k_lk l i = some v) : ls[i]? = some (.val (k_v ad v)) :=
  h.2.2 (i, k_v ad v) (List.mem_map.mpr ⟨(i, v), k_lk_mem e, rfl⟩)
theorem k_up_sub {ls : Array Slot} {nL i : Nat} {ad : Nat → Nat} {l : List (Nat × Value)} {v : Value} (hc : l.all (fun q => Nat.beq q.2.category 1) = true)
    (h : lv_has ls nL ((i, k_v ad v) :: (l.map (fun q => (q.1, k_v ad q.2))).filter (fun q => !(q.1 == i) && !(q.1 + 1 == i && q.2.category == 2)))) : lv_has ls nL ((k_up l i v).map (fun q => (q.1, k_v ad q.2))) := by
  refine ⟨h.1, h.2.1, fun q hq => h.2.2 q ?_⟩
  unfold k_up at hq
  simp only [List.map_cons, List.mem_cons, List.mem_map, List.mem_filter] at hq
  rcases hq with hq | ⟨z, ⟨hz, hz2⟩, hz3⟩
  · rw [hq]; exact List.mem_cons_self
  · refine List.mem_cons_of_mem _ (List.mem_filter.mpr ⟨List.mem_map.mpr ⟨z, hz, hz3⟩, ?_⟩)
    subst hz3
    have h1 := List.all_eq_true.mp hc z hz
    have h2 : z.2.category = 1 := Nat.eq_of_beq_eq_true h1
    simp only [Bool.and_eq_true, Bool.not_eq_true', beq_eq_false_iff_ne, ne_eq, Bool.and_eq_false_iff, k_cat, h2]
    refine ⟨?_, Or.inr (by simp)⟩
    have h3 : Nat.beq z.1 i = false := by simpa using hz2
    exact Nat.ne_of_beq_eq_false h3
