/-- the class's things: F the numbers, A the rows -/
def hC (F : Nat → Int32) (A : Nat → Nat → Int32) : List k_O := [
  .inr (2, [.ref 1, .ref 6, .ref 11, .ref 21, .ref 22, .ref 23, .int (F 0), .int (F 1)]),
  .inr (1, [.int (nI 20), .ref 2, .ref 3, .ref 4, .ref 5, .int (F 2)]),
  .inl (0, 20, .inl (A 0)), .inl (0, 20, .inl (A 1)), .inl (0, 20, .inl (A 2)), .inl (0, 20, .inl (A 3)),
  .inr (1, [.int (nI 8), .ref 7, .ref 8, .ref 9, .ref 10, .int (F 3)]),
  .inl (0, 8, .inl (A 4)), .inl (0, 8, .inl (A 5)), .inl (0, 8, .inl (A 6)), .inl (0, 8, .inl (A 7)),
  .inr (0, [.ref 12, .ref 13, .ref 14, .ref 15, .ref 16, .ref 17, .ref 18, .ref 19, .ref 20, .int (F 4)]),
  .inl (0, 60, .inl (A 8)), .inl (0, 60, .inl (A 9)), .inl (0, 60, .inl (A 10)), .inl (0, 60, .inl (A 11)), .inl (0, 60, .inl (A 12)), .inl (0, 60, .inl (A 13)), .inl (0, 60, .inl (A 14)), .inl (0, 60, .inl (A 15)), .inl (0, 60, .inl (A 16)),
  .inl (1, 1000, .inl (A 17)), .inl (0, 6, .inl (A 18)), .inl (0, 6, .inl (A 19))]
/-- the reference's things -/
def hM (F : Nat → Int32) (A : Nat → Nat → Int32) : List k_O := [
  .inr (3, [.int (F 0), .int (F 1), .int (F 2), .ref 25, .int (F 3), .ref 26, .ref 27, .ref 28, .ref 29, .int (F 4), .ref 30, .ref 31, .ref 32, .ref 33, .int (F 5), .ref 34, .ref 35, .ref 36, .ref 37, .ref 38, .ref 39, .ref 40, .ref 41, .ref 42, .ref 43]),
  .inl (0, 6, .inl (A 0)),
  .inl (0, 20, .inl (A 1)), .inl (0, 20, .inl (A 2)), .inl (0, 20, .inl (A 3)), .inl (0, 20, .inl (A 4)),
  .inl (0, 8, .inl (A 5)), .inl (0, 8, .inl (A 6)), .inl (0, 8, .inl (A 7)), .inl (0, 8, .inl (A 8)),
  .inl (0, 60, .inl (A 9)), .inl (0, 60, .inl (A 10)), .inl (0, 60, .inl (A 11)), .inl (0, 60, .inl (A 12)), .inl (0, 60, .inl (A 13)),
  .inl (1, 1000, .inl (A 14)), .inl (0, 1000, .inl (A 15)), .inl (0, 1000, .inl (A 16)),
  .inl (0, 60, .inl (A 17)), .inl (0, 60, .inl (A 18))]
def hA (F : Nat → Int32) (A : Nat → Nat → Int32) (G : Nat → Int32) (B : Nat → Nat → Int32) (o : Nat → Int64) : List k_O := hC F A ++ (hM G B ++ [.inl (2, 1, .inr (.inl o))])
def upF (F : Nat → Int32) (k : Nat) (x : Int32) : Nat → Int32 := fun j => cond (Nat.beq j k) x (F j)
def upA (A : Nat → Nat → Int32) (k : Nat) (f : Nat → Int32) : Nat → Nat → Int32 := fun j => cond (Nat.beq j k) f (A j)
/-- states in numbers -/
def cF (f : Nat → Nat) : Nat → Int32 := fun k => nI (f k)
def cA (a : Nat → Nat → Nat) : Nat → Nat → Int32 := fun k j => nI (a k j)
def up1 (f : Nat → Nat) (k v : Nat) : Nat → Nat := fun j => if j = k then v else f j
def up2 (a : Nat → Nat → Nat) (k j v : Nat) : Nat → Nat → Nat := fun i => if i = k then up1 (a i) j v else a i
abbrev hX (f : Nat → Nat) (a : Nat → Nat → Nat) (G : Nat → Int32) (B : Nat → Nat → Int32) (o : Nat → Int64) : List k_O := hA (cF f) (cA a) G B o
theorem cF_up (f : Nat → Nat) (k v : Nat) : upF (cF f) k (nI v) = cF (up1 f k v) := by
  funext j
  simp only [upF, cF, up1]
  cases h : Nat.beq j k with
  | true => rw [if_pos (Nat.eq_of_beq_eq_true h)]; rfl
  | false => rw [if_neg (Nat.ne_of_beq_eq_false h)]; rfl
theorem cA_up (a : Nat → Nat → Nat) (k j v : Nat) : upA (cA a) k (upd (cA a k) j (nI v)) = cA (up2 a k j v) := by
  funext i t
  show upA (cA a) k (upd (cA a k) j (nI v)) i t = nI (up2 a k j v i t)
  unfold upA up2
  cases h : Nat.beq i k with
  | true =>
    have e := Nat.eq_of_beq_eq_true h
    subst e
    rw [if_pos rfl]
    simp only [cond, upd, up1, cA]
    split <;> rfl
  | false => rw [if_neg (Nat.ne_of_beq_eq_false h)]; rfl
def bI (p : Prop) [Decidable p] : Int32 := if p then 1 else 0
theorem bI_t {p : Prop} [Decidable p] (h : p) : bI p = 1 := if_pos h
theorem bI_f {p : Prop} [Decidable p] (h : ¬ p) : bI p = 0 := if_neg h
theorem bI_nar {p : Prop} [Decidable p] : narrow .boolean (.int (bI p)) = .int (bI p) := by
  unfold bI; split <;> rfl
theorem k_at {n j : Nat} {P : Nat → Prop} (hj : j < n) (h : P j) : ∃ i : Nat, nI j = nI i ∧ i < n ∧ P i := ⟨j, rfl, hj, h⟩
theorem k_sa {n j : Nat} {P : Nat → Prop} (hj : j < n) (hj2 : j < 100000) (h : P j) : ∃ i : Nat, nI j = nI i ∧ i < n ∧ i < 100000 ∧ P i := ⟨j, rfl, hj, hj2, h⟩
theorem k_eq {x z : Int32} {P : Int32 → Prop} (e : x = z) (h : P z) : ∃ w, x = w ∧ P w := ⟨z, e, h⟩
section BR
variable {a b : Nat} {P Q : Prop}
theorem b_lt (ha : a < 2 ^ 31) (hb : b < 2 ^ 31) (f : a < b → P) (g : b ≤ a → Q) : (k_cnd .lt (nI a) (nI b) → P) ∧ (k_cnf .lt (nI a) (nI b) → Q) := ⟨fun h => f ((nI_ltI ha hb).mp h), fun h => g (Nat.le_of_not_lt (fun q => h ((nI_ltI ha hb).mpr q)))⟩
theorem b_ge (ha : a < 2 ^ 31) (hb : b < 2 ^ 31) (f : b ≤ a → P) (g : a < b → Q) : (k_cnd .ge (nI a) (nI b) → P) ∧ (k_cnf .ge (nI a) (nI b) → Q) := ⟨fun h => f ((nI_leI hb ha).mp h), fun h => g (Nat.lt_of_not_le (fun q => h ((nI_leI hb ha).mpr q)))⟩
theorem b_gt (ha : a < 2 ^ 31) (hb : b < 2 ^ 31) (f : b < a → P) (g : a ≤ b → Q) : (k_cnd .gt (nI a) (nI b) → P) ∧ (k_cnf .gt (nI a) (nI b) → Q) := ⟨fun h => f ((nI_ltI hb ha).mp h), fun h => g (Nat.le_of_not_lt (fun q => h ((nI_ltI hb ha).mpr q)))⟩
theorem b_le (ha : a < 2 ^ 31) (hb : b < 2 ^ 31) (f : a ≤ b → P) (g : b < a → Q) : (k_cnd .le (nI a) (nI b) → P) ∧ (k_cnf .le (nI a) (nI b) → Q) := ⟨fun h => f ((nI_leI ha hb).mp h), fun h => g (Nat.lt_of_not_le (fun q => h ((nI_leI ha hb).mpr q)))⟩
theorem b_eq (ha : a < 2 ^ 31) (hb : b < 2 ^ 31) (f : a = b → P) (g : a ≠ b → Q) : (k_cnd .eq (nI a) (nI b) → P) ∧ (k_cnf .eq (nI a) (nI b) → Q) := ⟨fun h => f ((nI_eq ha hb).mp h), fun h => g (fun q => h ((nI_eq ha hb).mpr q))⟩
theorem b_ne (ha : a < 2 ^ 31) (hb : b < 2 ^ 31) (f : a ≠ b → P) (g : a = b → Q) : (k_cnd .ne (nI a) (nI b) → P) ∧ (k_cnf .ne (nI a) (nI b) → Q) := ⟨fun h => f (fun q => h ((nI_eq ha hb).mpr q)), fun h => g ((nI_eq ha hb).mp h)⟩
theorem z_eq (ha : a < 2 ^ 31) (f : a = 0 → P) (g : 0 < a → Q) : (k_cnd .eq (nI a) 0 → P) ∧ (k_cnf .eq (nI a) 0 → Q) := ⟨fun h => f ((nI_eq ha (by omega)).mp (h.trans nI_0.symm)), fun h => g (Nat.pos_of_ne_zero (fun q => h (by rw [q]; exact nI_0)))⟩
theorem z_ne (ha : a < 2 ^ 31) (f : 0 < a → P) (g : a = 0 → Q) : (k_cnd .ne (nI a) 0 → P) ∧ (k_cnf .ne (nI a) 0 → Q) := ⟨fun h => f (Nat.pos_of_ne_zero (fun q => h (by rw [q]; exact nI_0))), fun h => g ((nI_eq ha (by omega)).mp (h.trans nI_0.symm))⟩
theorem z_gt (ha : a < 2 ^ 31) (f : 0 < a → P) (g : a = 0 → Q) : (k_cnd .gt (nI a) 0 → P) ∧ (k_cnf .gt (nI a) 0 → Q) := by
  have e := b_gt (b := 0) ha (by omega) f (fun h => g (Nat.le_zero.mp h))
  rw [nI_0] at e; exact e
theorem z_le (ha : a < 2 ^ 31) (f : a = 0 → P) (g : 0 < a → Q) : (k_cnd .le (nI a) 0 → P) ∧ (k_cnf .le (nI a) 0 → Q) := by
  have e := b_le (b := 0) ha (by omega) (fun h => f (Nat.le_zero.mp h)) g
  rw [nI_0] at e; exact e
theorem z_lt (ha : a < 2 ^ 31) (g : Q) : (k_cnd .lt (nI a) 0 → P) ∧ (k_cnf .lt (nI a) 0 → Q) := ⟨fun h => absurd h (nI_pos ha), fun _ => g⟩
theorem z_ge (ha : a < 2 ^ 31) (f : P) : (k_cnd .ge (nI a) 0 → P) ∧ (k_cnf .ge (nI a) 0 → Q) := ⟨fun _ => f, fun h => absurd (nI_pos' ha) h⟩
theorem p_eq {p : Prop} [Decidable p] (f : ¬ p → P) (g : p → Q) : (k_cnd .eq (bI p) 0 → P) ∧ (k_cnf .eq (bI p) 0 → Q) := ⟨fun h => f (fun q => by rw [bI_t q] at h; exact absurd (show (1 : Int32) = 0 from h) (by decide)), fun h => g (Decidable.byContradiction (fun q => h (bI_f q)))⟩
theorem p_ne {p : Prop} [Decidable p] (f : p → P) (g : ¬ p → Q) : (k_cnd .ne (bI p) 0 → P) ∧ (k_cnf .ne (bI p) 0 → Q) := ⟨fun h => f (Decidable.byContradiction (fun q => h (bI_f q))), fun h => g (fun q => by rw [bI_t q] at h; exact absurd (show (1 : Int32) = 0 from h) (by decide))⟩
end BR
theorem k_rb {x : Int32} {h : List k_O} {mc ms : Nat} {p : Prop} [Decidable p] (e : x = bI p) : ((.inl (some (.int (bI p))), h, mc, ms) : k_G).1 = .inl (some (.int x)) := by rw [e]
/-- all numbers of the rows but the latest ones are small -/
def Bd (a : Nat → Nat → Nat) : Prop := ∀ k j, k < 19 → a k j < 10000
abbrev onP (a : Nat → Nat → Nat) (m s : Nat) : Prop := a 13 m ≤ s ∧ s < a 13 m + a 14 m
