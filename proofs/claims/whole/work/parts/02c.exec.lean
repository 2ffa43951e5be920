def k_elem (i : Nat) : List Nat → Bool
  | [] => false
  | j :: l => cond (Nat.beq j i) true (k_elem i l)
/-- the whole fields of ints that a method may write: class, place -/
def k_pfl (ci k : Nat) : Bool := match ci with
  | 0 => Nat.beq k 9
  | 1 => Nat.beq k 5
  | 2 => k_elem k [6, 7]
  | 3 => k_elem k [0, 1, 2, 4, 9, 14]
  | _ => false
def k_cnd (c : ClassFile.Cond) (x y : Int32) : Prop := match c with
  | .eq => x = y
  | .ne => ¬ x = y
  | .lt => x < y
  | .ge => y ≤ x
  | .gt => y < x
  | .le => x ≤ y
def k_cnf (c : ClassFile.Cond) (x y : Int32) : Prop := match c with
  | .eq => ¬ x = y
  | .ne => x = y
  | .lt => ¬ x < y
  | .ge => ¬ y ≤ x
  | .gt => ¬ y < x
  | .le => ¬ x ≤ y
/-- one instruction, goal first: what must hold here so that K holds behind it -/
def k_ex (o nL : Nat) (sc : k_Sc) (i : Instr) (nx tg : Nat) (S : k_S) (K : k_S → Prop) : Prop := match i with
  | .iload_n j => (match k_lk S.2.1 j.val with | some (.int x) => K (nx, S.2.1, .int x :: S.2.2.1, S.2.2.2) | _ => False)
  | .iload j => (match k_lk S.2.1 j with | some (.int x) => K (nx, S.2.1, .int x :: S.2.2.1, S.2.2.2) | _ => False)
  | .aload_n j => (match k_lk S.2.1 j.val with | some (.ref x) => K (nx, S.2.1, .ref x :: S.2.2.1, S.2.2.2) | _ => False)
  | .aload j => (match k_lk S.2.1 j with | some (.ref x) => K (nx, S.2.1, .ref x :: S.2.2.1, S.2.2.2) | _ => False)
  | .istore_n j => (match S.2.2.1 with | .int x :: st => cond (Nat.blt j.val nL && S.2.1.all (fun q => Nat.beq q.2.category 1)) (K (nx, k_up S.2.1 j.val (.int x), st, S.2.2.2)) False | _ => False)
  | .istore j => (match S.2.2.1 with | .int x :: st => cond (Nat.blt j nL && S.2.1.all (fun q => Nat.beq q.2.category 1)) (K (nx, k_up S.2.1 j (.int x), st, S.2.2.2)) False | _ => False)
  | .astore_n j => (match S.2.2.1 with | .ref x :: st => cond (Nat.blt j.val nL && S.2.1.all (fun q => Nat.beq q.2.category 1)) (K (nx, k_up S.2.1 j.val (.ref x), st, S.2.2.2)) False | _ => False)
  | .astore j => (match S.2.2.1 with | .ref x :: st => cond (Nat.blt j nL && S.2.1.all (fun q => Nat.beq q.2.category 1)) (K (nx, k_up S.2.1 j (.ref x), st, S.2.2.2)) False | _ => False)
  | .iconst n => K (nx, S.2.1, .int (k_ci n) :: S.2.2.1, S.2.2.2)
  | .bipush n => (match n with | .ofNat q => cond (Nat.blt q 128) (K (nx, S.2.1, .int (nI q) :: S.2.2.1, S.2.2.2)) False | _ => False)
  | .sipush n => (match n with | .ofNat q => cond (Nat.blt q 32768) (K (nx, S.2.1, .int (nI q) :: S.2.2.1, S.2.2.2)) False | _ => False)
  | .lconst n => K (nx, S.2.1, .long (lN n.val) :: S.2.2.1, S.2.2.2)
  | .i2l => (match S.2.2.1 with | .int x :: st => K (nx, S.2.1, .long x.toInt64 :: st, S.2.2.2) | _ => False)
  | .lcmp => (match S.2.2.1 with | .long y :: .long x :: st => K (nx, S.2.1, .int (lg_cmp x y) :: st, S.2.2.2) | _ => False)
  | .iinc j n => (match k_lk S.2.1 j with | some (.int x) => cond (Nat.blt j nL && S.2.1.all (fun q => Nat.beq q.2.category 1)) (∃ z, x + k_ci n = z ∧ K (nx, k_up S.2.1 j (.int z), S.2.2.1, S.2.2.2)) False | _ => False)
  | .iadd => (match S.2.2.1 with | .int y :: .int x :: st => ∃ z, x + y = z ∧ K (nx, S.2.1, .int z :: st, S.2.2.2) | _ => False)
  | .isub => (match S.2.2.1 with | .int y :: .int x :: st => ∃ z, x - y = z ∧ K (nx, S.2.1, .int z :: st, S.2.2.2) | _ => False)
  | .imul => (match S.2.2.1 with | .int y :: .int x :: st => ∃ z, x * y = z ∧ K (nx, S.2.1, .int z :: st, S.2.2.2) | _ => False)
  | .iand => (match S.2.2.1 with | .int y :: .int x :: st => ∃ z, x &&& y = z ∧ K (nx, S.2.1, .int z :: st, S.2.2.2) | _ => False)
  | .dup => (match S.2.2.1 with | v :: st => cond (Nat.beq v.category 1) (K (nx, S.2.1, v :: v :: st, S.2.2.2)) False | _ => False)
  | .dup2 => (match S.2.2.1 with | v :: w :: st => cond (Nat.beq v.category 1 && Nat.beq w.category 1) (K (nx, S.2.1, v :: w :: v :: w :: st, S.2.2.2)) False | _ => False)
  | .ifCond c _ => (match S.2.2.1 with | .int x :: st => (k_cnd c x 0 → K (tg, S.2.1, st, S.2.2.2)) ∧ (k_cnf c x 0 → K (nx, S.2.1, st, S.2.2.2)) | _ => False)
  | .if_icmp c _ => (match S.2.2.1 with | .int y :: .int x :: st => (k_cnd c x y → K (tg, S.2.1, st, S.2.2.2)) ∧ (k_cnf c x y → K (nx, S.2.1, st, S.2.2.2)) | _ => False)
  | .goto _ => K (tg, S.2.1, S.2.2.1, S.2.2.2)
  | .getfield n => (match S.2.2.1 with
    | .ref a :: st => (match k_lk (k_fl o) n with
      | some q => (match k_get S.2.2.2.1 a with
        | some (.inr z) => cond (Nat.beq z.1 q.1) (match k_get z.2 q.2 with | some v => K (nx, S.2.1, v :: st, S.2.2.2) | none => False) False
        | _ => False)
      | none => False)
    | _ => False)
  | .putfield n => (match S.2.2.1 with
    | .int x :: .ref a :: st => (match k_lk (k_fl o) n with
      | some q => (match k_get S.2.2.2.1 a with
        | some (.inr z) => cond (Nat.beq z.1 q.1 && k_pfl q.1 q.2 && Nat.blt q.2 z.2.length) (K (nx, S.2.1, st, k_set S.2.2.2.1 a (.inr (z.1, k_set z.2 q.2 (.int x))), S.2.2.2.2)) False
        | _ => False)
      | none => False)
    | _ => False)
  | .iaload => (match S.2.2.1 with
    | .int i :: .ref a :: st => (match k_get S.2.2.2.1 a with
      | some (.inl (0, n, .inl f)) => cond (Nat.blt n 100000) (∃ j : Nat, i = nI j ∧ j < n ∧ K (nx, S.2.1, .int (f j) :: st, S.2.2.2)) False
      | none => cond (Nat.beq a 1000000) (match sc with | some q => ∃ j : Nat, i = nI j ∧ j < q.1 ∧ j < 100000 ∧ K (nx, S.2.1, .int (q.2 j) :: st, S.2.2.2) | none => False) False
      | _ => False)
    | _ => False)
  | .baload => (match S.2.2.1 with
    | .int i :: .ref a :: st => (match k_get S.2.2.2.1 a with
      | some (.inl (1, n, .inl f)) => cond (Nat.blt n 100000) (∃ j : Nat, i = nI j ∧ j < n ∧ K (nx, S.2.1, .int (f j) :: st, S.2.2.2)) False
      | _ => False)
    | _ => False)
  | .laload => (match S.2.2.1 with
    | .int i :: .ref a :: st => (match k_get S.2.2.2.1 a with
      | some (.inl (2, n, .inr (.inl f))) => cond (Nat.blt n 100000) (∃ j : Nat, i = nI j ∧ j < n ∧ K (nx, S.2.1, .long (f j) :: st, S.2.2.2)) False
      | _ => False)
    | _ => False)
  | .iastore => (match S.2.2.1 with
    | .int x :: .int i :: .ref a :: st => (match k_get S.2.2.2.1 a with
      | some (.inl (0, n, .inl f)) => cond (Nat.blt n 100000) (∃ j : Nat, i = nI j ∧ j < n ∧ K (nx, S.2.1, st, k_set S.2.2.2.1 a (.inl (0, n, .inl (upd f j x))), S.2.2.2.2)) False
      | _ => False)
    | _ => False)
  | .bastore => (match S.2.2.1 with
    | .int x :: .int i :: .ref a :: st => (match k_get S.2.2.2.1 a with
      | some (.inl (1, n, .inl f)) => cond (Nat.blt n 100000) ((x = 0 ∨ x = 1) ∧ ∃ j : Nat, i = nI j ∧ j < n ∧ K (nx, S.2.1, st, k_set S.2.2.2.1 a (.inl (1, n, .inl (upd f j x))), S.2.2.2.2)) False
      | _ => False)
    | _ => False)
  | .lastore => (match S.2.2.1 with
    | .long x :: .int i :: .ref a :: st => (match k_get S.2.2.2.1 a with
      | some (.inl (2, n, .inr (.inl f))) => cond (Nat.blt n 100000) (∃ j : Nat, i = nI j ∧ j < n ∧ K (nx, S.2.1, st, k_set S.2.2.2.1 a (.inl (2, n, .inr (.inl (vp_updL f j x)))), S.2.2.2.2)) False
      | _ => False)
    | _ => False)
  | .arraylength => (match S.2.2.1 with
    | .ref a :: st => (match k_get S.2.2.2.1 a with
      | some (.inl (0, n, .inl _)) => K (nx, S.2.1, .int (nI n) :: st, S.2.2.2)
      | none => cond (Nat.beq a 1000000) (match sc with | some q => K (nx, S.2.1, .int (nI q.1) :: st, S.2.2.2) | none => False) False
      | _ => False)
    | _ => False)
  | _ => False
def k_run (o nL : Nat) (sc : k_Sc) (blk : List (Nat × Instr × Nat × Nat)) (stops : List Nat) (K : k_S → Prop) : Nat → k_S → Prop
  | 0, S => K S
  | f + 1, S => match k_lk blk S.1 with
    | none => K S
    | some q => k_ex o nL sc q.1 q.2.1 q.2.2 S (fun S' => cond (k_elem S'.1 stops) (K S') (k_run o nL sc blk stops K f S'))
def k_tgt (pc : Nat) (i : Instr) (tg : Nat) : Bool := match i with
  | .goto off => decide ((pc : Int) + off = (tg : Int))
  | .ifCond _ off => decide ((pc : Int) + off = (tg : Int))
  | .if_icmp _ off => decide ((pc : Int) + off = (tg : Int))
  | _ => true
