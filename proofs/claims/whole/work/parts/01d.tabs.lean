abbrev k_cl : List vw_C := [(RX0, TX0, 10), (RX1, TX1, 6), (RX2, TX2, 8), (RX3, TX3, 25)]
def k_T : List Cond := lw_tbl.filter goodWord
def k_own (o : Nat) : String := match o with
  | 0 => RX0
  | 1 => RX1
  | 2 => RX2
  | 3 => RX3
  | 4 => RL
  | _ => RJ7
def k_fl (o : Nat) : List (Nat × Nat × Nat) := match o with
  | 0 => [(9, 0, 0), (15, 0, 1), (18, 0, 2), (21, 0, 3), (24, 0, 4), (27, 0, 5), (30, 0, 6), (33, 0, 7), (36, 0, 8), (39, 0, 9)]
  | 1 => [(7, 1, 0), (13, 1, 1), (17, 1, 2), (20, 1, 3), (23, 1, 4), (26, 1, 5)]
  | 2 => [(14, 2, 0), (18, 2, 1), (24, 2, 2), (28, 2, 3), (32, 2, 4), (36, 2, 5), (54, 2, 6), (95, 2, 7), (116, 0, 7), (127, 0, 3), (133, 1, 4), (149, 0, 6), (154, 1, 5), (162, 0, 9), (163, 0, 1), (223, 0, 8), (226, 0, 2), (241, 0, 4), (261, 0, 0), (277, 0, 5)]
  | 3 => [(7, 3, 3), (13, 3, 5), (16, 3, 6), (19, 3, 7), (22, 3, 8), (25, 3, 10), (28, 3, 11), (31, 3, 12), (34, 3, 13), (37, 3, 15), (40, 3, 16), (43, 3, 17), (46, 3, 18), (49, 3, 19), (52, 3, 20), (56, 3, 21), (59, 3, 22), (62, 3, 23), (65, 3, 24), (68, 3, 0), (76, 3, 4), (79, 3, 14), (82, 3, 1), (89, 3, 2), (92, 3, 9)]
  | _ => []
def k_flc (own : String) (q : Nat × Nat × Nat) : Bool := match k_cl[q.2.1]? with
  | some z => decide (q.2.2 < z.2.2) && decide (Cond.fieldLink own q.1 (z.2.1 q.2.2).1 (z.2.1 q.2.2).2.1 (z.2.1 q.2.2).2.2.1 ∈ k_T)
  | none => false
theorem k_fl0 : (k_fl 0).all (k_flc (k_own 0)) = true := by decide +kernel
theorem k_fl1 : (k_fl 1).all (k_flc (k_own 1)) = true := by decide +kernel
theorem k_fl2 : (k_fl 2).all (k_flc (k_own 2)) = true := by decide +kernel
theorem k_fl3 : (k_fl 3).all (k_flc (k_own 3)) = true := by decide +kernel
theorem k_clw : k_cl.all (fun z => (u_ws z.1 z.2.1 z.2.2).all (fun w => decide (w ∈ k_T))) = true := by decide +kernel
