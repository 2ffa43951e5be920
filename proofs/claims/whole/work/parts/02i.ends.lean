section KE
variable {Y : k_Y} {sc : k_Sc} {G : k_G} {pc : Nat} {ls : List (Nat × Value)} {st : List Value} {h : List k_O} {nc ns : Nat}
theorem k_ireturn {x : Int32} {ty : FieldType} (d : decode (k_cc Y) pc = .ok (.ireturn, 1)) (hrt : k_rt Y = some ty) (hn : narrow ty (.int x) = .int x) (h1 : G.1 = .inl (some (.int x))) (h2 : G.2.1 = h) (h3 : nc ≤ G.2.2.1) (h4 : ns ≤ G.2.2.2) : k_W Y sc G (pc, ls, [.int x], h, nc, ns) := by
  intro p l e s m args below meth c g cA A b ad0 n0 Q C E ad H locs la I hv
  subst h2
  exact W.widen h3 h4 (E.1 (some (.int x)) h1 (fun x' ty' e1 e2 => by cases e1; rw [hrt] at e2; cases e2; exact hn) ad H locs la pc I (Or.inr ⟨x, ty, rfl, hrt, d⟩))
theorem k_return (d : decode (k_cc Y) pc = .ok (.return_, 1)) (hrt : k_rt Y = none) (h1 : G.1 = .inl none) (h2 : G.2.1 = h) (h3 : nc ≤ G.2.2.1) (h4 : ns ≤ G.2.2.2) : k_W Y sc G (pc, ls, [], h, nc, ns) := by
  intro p l e s m args below meth c g cA A b ad0 n0 Q C E ad H locs la I hv
  subst h2
  exact W.widen h3 h4 (E.1 none h1 (fun x' ty' e1 e2 => by cases e1) ad H locs la pc I (Or.inl ⟨rfl, hrt, d⟩))
/-- what is checked of a throw with a text -/
def k_okT (o ik is ic : Nat) (E text : String) (names : List String) : Bool :=
  Bundle.fit E && names.all Bundle.fit && decide (E ∈ k_ex6) && k_sub E E && decide (Cond.classLink (k_own o) ik E ∈ k_T) && decide (Cond.initialized E ∈ k_T) && decide ((is, text) ∈ k_str) &&
  (vx_atS (k_own o) ic E names).all (fun w => decide (w ∈ k_T) || decide (w = Cond.castable E E) || k_dcl.any (fun x => decide (w = Cond.declares x))) && (Cond.classLink (k_own o) ik E :: Cond.initialized E :: vx_atS (k_own o) ic E names).all vx_ot
theorem k_throw {E text : String} {names : List String} {ik is ic : Nat} (ho : k_own Y.1 = RX2) (hok : k_okT Y.1 ik is ic E text names = true) (hh : k_hh Y = [])
    (d0 : decode (k_cc Y) pc = .ok (.new ik, 3)) (d3 : decode (k_cc Y) (pc + 3) = .ok (.dup, 1)) (d4 : decode (k_cc Y) (pc + 4) = .ok (.ldc is, 2)) (d6 : decode (k_cc Y) (pc + 6) = .ok (.invokespecial ic, 3)) (d9 : decode (k_cc Y) (pc + 9) = .ok (.athrow, 1))
    (r1 : names.length + 3 < k_fr Y) (r2 : (st.map fun v => v.category).sum + (13 * (names.length + 1) + 43) ≤ k_lo Y) (h1 : G.1 = .inr E) (h2 : G.2.1 = h) (h3 : nc + 1 ≤ G.2.2.1) (h4 : ns + 6 ≤ G.2.2.2) : k_W Y sc G (pc, ls, st, h, nc, ns) := by
  intro p l e s m args below meth c g cA A b ad0 n0 Q C EE ad H locs la I hv
  subst h2
  unfold k_okT at hok
  simp only [Bool.and_eq_true, decide_eq_true_eq, List.all_eq_true] at hok
  obtain ⟨⟨⟨⟨⟨⟨⟨⟨a1, a2⟩, a3⟩, a4⟩, a5⟩, a6⟩, a7⟩, a8⟩, a9⟩ := hok
  obtain ⟨f1, f2, f3, f4⟩ := C.2.2.2.2.2.2.2.2.2.1
  obtain ⟨sa, hsa⟩ := f4 _ a7
  have hts := C.2.2.2.2.1
  refine EE.2.2 E h1 hh ad H locs la pc (st.map (k_v ad)) names text ik is ic sa nc ns I (hv.1.trans C.2.2.1.symm) a1 a2 (hts _ a5) (hts _ a6) (by rw [ho]; exact hsa) (fun w hw => ?_) a9 d0 d3 d4 d6 d9 r1 (by rw [k_sum]; exact r2) h3 h4
  have h8 := a8 w hw
  simp only [Bool.or_eq_true, decide_eq_true_eq] at h8
  rcases h8 with (h8 | h8) | h8
  · exact hts _ h8
  · rw [h8]
    exact va_Nw.use rfl ((f3.2 E a3 E a3).1 a4)
  · obtain ⟨x, hx, hxe⟩ := List.any_eq_true.mp h8
    rw [of_decide_eq_true hxe]
    exact va_Nw.use rfl (f3.1 x hx)
end KE
