def k_len (i : Instr) : Nat := match i with
  | .iload _ => 2 | .aload _ => 2 | .istore _ => 2 | .astore _ => 2 | .bipush _ => 2 | .sipush _ => 3 | .iinc _ _ => 3 | .ifCond _ _ => 3 | .if_icmp _ _ => 3 | .goto _ => 3 | .getfield _ => 3 | .putfield _ => 3
  | _ => 1
theorem k_cond {b : Bool} {P : Prop} (h : cond b P False) : b = true ∧ P := by
  cases b with
  | true => exact ⟨rfl, h⟩
  | false => exact h.elim
theorem k_and2 {a b : Bool} (h : (a && b) = true) : a = true ∧ b = true := by simpa using h
theorem k_blt {a b : Nat} (h : Nat.blt a b = true) : a < b := by simpa [Nat.blt_eq] using h
section KR
variable {Y : k_Y} {sc : k_Sc} {G : k_G} {pc : Nat} {ls : List (Nat × Value)} {st : List Value} {h : List k_O} {nc ns : Nat}
theorem k_iload_n {j : Fin 4} {x : Int32} (d : decode (k_cc Y) pc = .ok (.iload_n j, 1)) (hl : k_lk ls j.val = some (.int x)) (k : k_W Y sc G (pc + 1, ls, .int x :: st, h, nc, ns)) : k_W Y sc G (pc, ls, st, h, nc, ns) := by
  intro p l e s m args below meth c g cA A b ad0 n0 Q C E ad H locs la I hv
  exact lv_iload_n C.1 C.2.1 d rfl (k_lk_at hv hl) (k p l e s m args below meth c g cA A b ad0 n0 Q C E ad H locs la I hv)
theorem k_istore_n {j : Fin 4} {x : Int32} (d : decode (k_cc Y) pc = .ok (.istore_n j, 1)) (hj : Nat.blt j.val (k_nL Y) = true) (hc : ls.all (fun q => Nat.beq q.2.category 1) = true) (k : k_W Y sc G (pc + 1, k_up ls j.val (.int x), st, h, nc, ns)) : k_W Y sc G (pc, ls, .int x :: st, h, nc, ns) := by
  intro p l e s m args below meth c g cA A b ad0 n0 Q C E ad H locs la I hv
  exact lv_istore_n C.1 C.2.1 d rfl hv (k_blt hj) rfl (fun la hv => k p l e s m args below meth c g cA A b ad0 n0 Q C E ad H locs la I (k_up_sub hc hv))
theorem k_iload {j : Nat} {x : Int32} (d : decode (k_cc Y) pc = .ok (.iload j, 2)) (hl : k_lk ls j = some (.int x)) (k : k_W Y sc G (pc + 2, ls, .int x :: st, h, nc, ns)) : k_W Y sc G (pc, ls, st, h, nc, ns) := by
  intro p l e s m args below meth c g cA A b ad0 n0 Q C E ad H locs la I hv
  exact lv_iload C.1 C.2.1 d (k_lk_at hv hl) (k p l e s m args below meth c g cA A b ad0 n0 Q C E ad H locs la I hv)
theorem k_istore {j : Nat} {x : Int32} (d : decode (k_cc Y) pc = .ok (.istore j, 2)) (hj : Nat.blt j (k_nL Y) = true) (hc : ls.all (fun q => Nat.beq q.2.category 1) = true) (k : k_W Y sc G (pc + 2, k_up ls j (.int x), st, h, nc, ns)) : k_W Y sc G (pc, ls, .int x :: st, h, nc, ns) := by
  intro p l e s m args below meth c g cA A b ad0 n0 Q C E ad H locs la I hv
  exact lv_istore C.1 C.2.1 d hv (k_blt hj) rfl (fun la hv => k p l e s m args below meth c g cA A b ad0 n0 Q C E ad H locs la I (k_up_sub hc hv))
theorem k_aload_n {j : Fin 4} {x : Nat} (d : decode (k_cc Y) pc = .ok (.aload_n j, 1)) (hl : k_lk ls j.val = some (.ref x)) (k : k_W Y sc G (pc + 1, ls, .ref x :: st, h, nc, ns)) : k_W Y sc G (pc, ls, st, h, nc, ns) := by
  intro p l e s m args below meth c g cA A b ad0 n0 Q C E ad H locs la I hv
  exact lv_aload_n C.1 C.2.1 d rfl (k_lk_at hv hl) (k p l e s m args below meth c g cA A b ad0 n0 Q C E ad H locs la I hv)
theorem k_astore_n {j : Fin 4} {x : Nat} (d : decode (k_cc Y) pc = .ok (.astore_n j, 1)) (hj : Nat.blt j.val (k_nL Y) = true) (hc : ls.all (fun q => Nat.beq q.2.category 1) = true) (k : k_W Y sc G (pc + 1, k_up ls j.val (.ref x), st, h, nc, ns)) : k_W Y sc G (pc, ls, .ref x :: st, h, nc, ns) := by
  intro p l e s m args below meth c g cA A b ad0 n0 Q C E ad H locs la I hv
  exact lv_astore_n C.1 C.2.1 d rfl hv (k_blt hj) rfl (fun la hv => k p l e s m args below meth c g cA A b ad0 n0 Q C E ad H locs la I (k_up_sub hc hv))
theorem k_aload {j : Nat} {x : Nat} (d : decode (k_cc Y) pc = .ok (.aload j, 2)) (hl : k_lk ls j = some (.ref x)) (k : k_W Y sc G (pc + 2, ls, .ref x :: st, h, nc, ns)) : k_W Y sc G (pc, ls, st, h, nc, ns) := by
  intro p l e s m args below meth c g cA A b ad0 n0 Q C E ad H locs la I hv
  exact lv_aload C.1 C.2.1 d (k_lk_at hv hl) (k p l e s m args below meth c g cA A b ad0 n0 Q C E ad H locs la I hv)
theorem k_astore {j : Nat} {x : Nat} (d : decode (k_cc Y) pc = .ok (.astore j, 2)) (hj : Nat.blt j (k_nL Y) = true) (hc : ls.all (fun q => Nat.beq q.2.category 1) = true) (k : k_W Y sc G (pc + 2, k_up ls j (.ref x), st, h, nc, ns)) : k_W Y sc G (pc, ls, .ref x :: st, h, nc, ns) := by
  intro p l e s m args below meth c g cA A b ad0 n0 Q C E ad H locs la I hv
  exact lv_astore C.1 C.2.1 d hv (k_blt hj) rfl (fun la hv => k p l e s m args below meth c g cA A b ad0 n0 Q C E ad H locs la I (k_up_sub hc hv))
theorem k_iconst {n : Int} (d : decode (k_cc Y) pc = .ok (.iconst n, 1))  (k : k_W Y sc G (pc + 1, ls, .int (k_ci n) :: st, h, nc, ns)) : k_W Y sc G (pc, ls, st, h, nc, ns) := by
  intro p l e s m args below meth c g cA A b ad0 n0 Q C E ad H locs la I hv
  exact lv_iconst C.1 C.2.1 d (k_ci_eq n) (k p l e s m args below meth c g cA A b ad0 n0 Q C E ad H locs la I hv)
theorem k_i8 : ∀ q, q < 128 → (Int8.ofInt (Int.ofNat q)).toInt32 = nI q := by decide +kernel
theorem k_i16 {q : Nat} (hq : q < 32768) : (Int16.ofInt (Int.ofNat q)).toInt32 = nI q := by
  apply Int32.toInt_inj.mp
  rw [Int16.toInt_toInt32, nI_toInt (by omega), Int16.toInt_ofInt]
  simp only [Int.ofNat_eq_natCast, Int.bmod, Int16.size]
  omega
theorem k_bipush {q : Nat} (d : decode (k_cc Y) pc = .ok (.bipush (.ofNat q), 2)) (hq : Nat.blt q 128 = true) (k : k_W Y sc G (pc + 2, ls, .int (nI q) :: st, h, nc, ns)) : k_W Y sc G (pc, ls, st, h, nc, ns) := by
  intro p l e s m args below meth c g cA A b ad0 n0 Q C E ad H locs la I hv
  exact lv_bipush C.1 C.2.1 d (k_i8 q (k_blt hq)) (k p l e s m args below meth c g cA A b ad0 n0 Q C E ad H locs la I hv)
theorem k_sipush {q : Nat} (d : decode (k_cc Y) pc = .ok (.sipush (.ofNat q), 3)) (hq : Nat.blt q 32768 = true) (k : k_W Y sc G (pc + 3, ls, .int (nI q) :: st, h, nc, ns)) : k_W Y sc G (pc, ls, st, h, nc, ns) := by
  intro p l e s m args below meth c g cA A b ad0 n0 Q C E ad H locs la I hv
  exact lv_sipush C.1 C.2.1 d (k_i16 (k_blt hq)) (k p l e s m args below meth c g cA A b ad0 n0 Q C E ad H locs la I hv)
theorem k_lconst {n : Fin 2} (d : decode (k_cc Y) pc = .ok (.lconst n, 1))  (k : k_W Y sc G (pc + 1, ls, .long (lN n.val) :: st, h, nc, ns)) : k_W Y sc G (pc, ls, st, h, nc, ns) := by
  intro p l e s m args below meth c g cA A b ad0 n0 Q C E ad H locs la I hv
  exact lv_lconst C.1 C.2.1 d rfl (k p l e s m args below meth c g cA A b ad0 n0 Q C E ad H locs la I hv)
theorem k_i2l {x : Int32} (d : decode (k_cc Y) pc = .ok (.i2l, 1))  (k : k_W Y sc G (pc + 1, ls, .long x.toInt64 :: st, h, nc, ns)) : k_W Y sc G (pc, ls, .int x :: st, h, nc, ns) := by
  intro p l e s m args below meth c g cA A b ad0 n0 Q C E ad H locs la I hv
  exact lv_i2l C.1 C.2.1 d rfl (k p l e s m args below meth c g cA A b ad0 n0 Q C E ad H locs la I hv)
theorem k_lcmp {x y : Int64} (d : decode (k_cc Y) pc = .ok (.lcmp, 1))  (k : k_W Y sc G (pc + 1, ls, .int (lg_cmp x y) :: st, h, nc, ns)) : k_W Y sc G (pc, ls, .long y :: .long x :: st, h, nc, ns) := by
  intro p l e s m args below meth c g cA A b ad0 n0 Q C E ad H locs la I hv
  exact W.lcmp C.1 C.2.1 d (k p l e s m args below meth c g cA A b ad0 n0 Q C E ad H locs la I hv)
theorem k_iadd {x y z : Int32} (d : decode (k_cc Y) pc = .ok (.iadd, 1)) (hz : x + y = z) (k : k_W Y sc G (pc + 1, ls, .int z :: st, h, nc, ns)) : k_W Y sc G (pc, ls, .int y :: .int x :: st, h, nc, ns) := by
  intro p l e s m args below meth c g cA A b ad0 n0 Q C E ad H locs la I hv
  subst hz
  exact lv_iadd C.1 C.2.1 d (k p l e s m args below meth c g cA A b ad0 n0 Q C E ad H locs la I hv)
theorem k_isub {x y z : Int32} (d : decode (k_cc Y) pc = .ok (.isub, 1)) (hz : x - y = z) (k : k_W Y sc G (pc + 1, ls, .int z :: st, h, nc, ns)) : k_W Y sc G (pc, ls, .int y :: .int x :: st, h, nc, ns) := by
  intro p l e s m args below meth c g cA A b ad0 n0 Q C E ad H locs la I hv
  subst hz
  exact lv_isub C.1 C.2.1 d (k p l e s m args below meth c g cA A b ad0 n0 Q C E ad H locs la I hv)
theorem k_imul {x y z : Int32} (d : decode (k_cc Y) pc = .ok (.imul, 1)) (hz : x * y = z) (k : k_W Y sc G (pc + 1, ls, .int z :: st, h, nc, ns)) : k_W Y sc G (pc, ls, .int y :: .int x :: st, h, nc, ns) := by
  intro p l e s m args below meth c g cA A b ad0 n0 Q C E ad H locs la I hv
  subst hz
  exact lv_imul C.1 C.2.1 d (k p l e s m args below meth c g cA A b ad0 n0 Q C E ad H locs la I hv)
theorem k_iand {x y z : Int32} (d : decode (k_cc Y) pc = .ok (.iand, 1)) (hz : x &&& y = z) (k : k_W Y sc G (pc + 1, ls, .int z :: st, h, nc, ns)) : k_W Y sc G (pc, ls, .int y :: .int x :: st, h, nc, ns) := by
  intro p l e s m args below meth c g cA A b ad0 n0 Q C E ad H locs la I hv
  subst hz
  exact lv_iand C.1 C.2.1 d (k p l e s m args below meth c g cA A b ad0 n0 Q C E ad H locs la I hv)
theorem k_iinc {j : Nat} {n : Int} {x z : Int32} (d : decode (k_cc Y) pc = .ok (.iinc j n, 3)) (hl : k_lk ls j = some (.int x)) (hz : x + k_ci n = z) (hj : Nat.blt j (k_nL Y) = true) (hc : ls.all (fun q => Nat.beq q.2.category 1) = true) (k : k_W Y sc G (pc + 3, k_up ls j (.int z), st, h, nc, ns)) : k_W Y sc G (pc, ls, st, h, nc, ns) := by
  intro p l e s m args below meth c g cA A b ad0 n0 Q C E ad H locs la I hv
  obtain ⟨t, ht⟩ := List.getElem?_of_mem (List.mem_map.mpr ⟨(j, .int x), k_lk_mem hl, rfl⟩ : (j, k_v ad (.int x)) ∈ ls.map (fun q => (q.1, k_v ad q.2)))
  exact lv_iinc (v := z) C.1 C.2.1 d hv ht (by rw [k_ci_eq]; exact hz) (k_blt hj) rfl (fun la hv => k p l e s m args below meth c g cA A b ad0 n0 Q C E ad H locs la I (k_up_sub hc hv))
theorem k_dup {v : Value} (d : decode (k_cc Y) pc = .ok (.dup, 1)) (hv1 : Nat.beq v.category 1 = true) (k : k_W Y sc G (pc + 1, ls, v :: v :: st, h, nc, ns)) : k_W Y sc G (pc, ls, v :: st, h, nc, ns) := by
  intro p l e s m args below meth c g cA A b ad0 n0 Q C E ad H locs la I hv
  exact lv_dup C.1 C.2.1 d (by rw [k_cat]; exact Nat.eq_of_beq_eq_true hv1) (k p l e s m args below meth c g cA A b ad0 n0 Q C E ad H locs la I hv)
theorem k_dup2 {v w : Value} (d : decode (k_cc Y) pc = .ok (.dup2, 1)) (hv1 : Nat.beq v.category 1 = true) (hw1 : Nat.beq w.category 1 = true) (k : k_W Y sc G (pc + 1, ls, v :: w :: v :: w :: st, h, nc, ns)) : k_W Y sc G (pc, ls, v :: w :: st, h, nc, ns) := by
  intro p l e s m args below meth c g cA A b ad0 n0 Q C E ad H locs la I hv
  exact lv_dup2_11 C.1 C.2.1 d (by rw [k_cat]; exact Nat.eq_of_beq_eq_true hv1) (by rw [k_cat]; exact Nat.eq_of_beq_eq_true hw1) (k p l e s m args below meth c g cA A b ad0 n0 Q C E ad H locs la I hv)
theorem k_goto {off : Int} {tg : Nat} (d : decode (k_cc Y) pc = .ok (.goto off, 3)) (ht : (pc : Int) + off = (tg : Int)) (k : k_W Y sc G (tg, ls, st, h, nc, ns)) : k_W Y sc G (pc, ls, st, h, nc, ns) := by
  intro p l e s m args below meth c g cA A b ad0 n0 Q C E ad H locs la I hv
  exact lv_goto C.1 C.2.1 d ht (k p l e s m args below meth c g cA A b ad0 n0 Q C E ad H locs la I hv)
theorem k_ifCond {cd : ClassFile.Cond} {off : Int} {tg : Nat} {x : Int32} (d : decode (k_cc Y) pc = .ok (.ifCond cd off, 3)) (ht : (pc : Int) + off = (tg : Int)) (k1 : k_cnd cd x 0 → k_W Y sc G (tg, ls, st, h, nc, ns)) (k2 : k_cnf cd x 0 → k_W Y sc G (pc + 3, ls, st, h, nc, ns)) : k_W Y sc G (pc, ls, .int x :: st, h, nc, ns) := by
  intro p l e s m args below meth c g cA A b ad0 n0 Q C E ad H locs la I hv
  cases cd with
  | eq => exact lv_if_eq C.1 C.2.1 d ht (fun q => k1 q p l e s m args below meth c g cA A b ad0 n0 Q C E ad H locs la I hv) (fun q => k2 q p l e s m args below meth c g cA A b ad0 n0 Q C E ad H locs la I hv)
  | ne => exact lv_if_ne C.1 C.2.1 d ht (fun q => k1 q p l e s m args below meth c g cA A b ad0 n0 Q C E ad H locs la I hv) (fun q => k2 q p l e s m args below meth c g cA A b ad0 n0 Q C E ad H locs la I hv)
  | lt => exact lv_if_lt C.1 C.2.1 d ht (fun q => k1 q p l e s m args below meth c g cA A b ad0 n0 Q C E ad H locs la I hv) (fun q => k2 q p l e s m args below meth c g cA A b ad0 n0 Q C E ad H locs la I hv)
  | ge => exact lv_if_ge C.1 C.2.1 d ht (fun q => k1 q p l e s m args below meth c g cA A b ad0 n0 Q C E ad H locs la I hv) (fun q => k2 q p l e s m args below meth c g cA A b ad0 n0 Q C E ad H locs la I hv)
  | gt => exact lv_if_gt C.1 C.2.1 d ht (fun q => k1 q p l e s m args below meth c g cA A b ad0 n0 Q C E ad H locs la I hv) (fun q => k2 q p l e s m args below meth c g cA A b ad0 n0 Q C E ad H locs la I hv)
  | le => exact lv_if_le C.1 C.2.1 d ht (fun q => k1 q p l e s m args below meth c g cA A b ad0 n0 Q C E ad H locs la I hv) (fun q => k2 q p l e s m args below meth c g cA A b ad0 n0 Q C E ad H locs la I hv)
theorem k_if_icmp {cd : ClassFile.Cond} {off : Int} {tg : Nat} {x y : Int32} (d : decode (k_cc Y) pc = .ok (.if_icmp cd off, 3)) (ht : (pc : Int) + off = (tg : Int)) (k1 : k_cnd cd x y → k_W Y sc G (tg, ls, st, h, nc, ns)) (k2 : k_cnf cd x y → k_W Y sc G (pc + 3, ls, st, h, nc, ns)) : k_W Y sc G (pc, ls, .int y :: .int x :: st, h, nc, ns) := by
  intro p l e s m args below meth c g cA A b ad0 n0 Q C E ad H locs la I hv
  cases cd with
  | eq => exact lv_icmp_eq C.1 C.2.1 d ht (fun q => k1 q p l e s m args below meth c g cA A b ad0 n0 Q C E ad H locs la I hv) (fun q => k2 q p l e s m args below meth c g cA A b ad0 n0 Q C E ad H locs la I hv)
  | ne => exact lv_icmp_ne C.1 C.2.1 d ht (fun q => k1 q p l e s m args below meth c g cA A b ad0 n0 Q C E ad H locs la I hv) (fun q => k2 q p l e s m args below meth c g cA A b ad0 n0 Q C E ad H locs la I hv)
  | lt => exact lv_icmp_lt C.1 C.2.1 d ht (fun q => k1 q p l e s m args below meth c g cA A b ad0 n0 Q C E ad H locs la I hv) (fun q => k2 q p l e s m args below meth c g cA A b ad0 n0 Q C E ad H locs la I hv)
  | ge => exact lv_icmp_ge C.1 C.2.1 d ht (fun q => k1 q p l e s m args below meth c g cA A b ad0 n0 Q C E ad H locs la I hv) (fun q => k2 q p l e s m args below meth c g cA A b ad0 n0 Q C E ad H locs la I hv)
  | gt => exact lv_icmp_gt C.1 C.2.1 d ht (fun q => k1 q p l e s m args below meth c g cA A b ad0 n0 Q C E ad H locs la I hv) (fun q => k2 q p l e s m args below meth c g cA A b ad0 n0 Q C E ad H locs la I hv)
  | le => exact lv_icmp_le C.1 C.2.1 d ht (fun q => k1 q p l e s m args below meth c g cA A b ad0 n0 Q C E ad H locs la I hv) (fun q => k2 q p l e s m args below meth c g cA A b ad0 n0 Q C E ad H locs la I hv)
end KR
