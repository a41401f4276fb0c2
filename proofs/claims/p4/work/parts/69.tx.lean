/-! land, plane, as, end's mark, told exactly: the checks -/
noncomputable def t8_o : List (Int × Int) := [sh_lo, (8, 2147483647)]
noncomputable def td_sl (r0 : Nat) (a b c : sx_V) : List (Nat × sx_V) := [(0, .inr (.inr r0)), (1, a), (2, b), (3, c)]
-- land: symbols 0 cost, 1 foretold, 2 the cost ahead
noncomputable def ld_re (cr ci : Nat) : List ng_Ae := [(gd_b, [sh_o cr ci (fx_i 2)], [(1, [(0, 1)])], []), (gd_b, [sh_o cr ci (fx_i 2)], [(10000, [(0, -1)])], []), (gd_b, [sh_o cr ci (fx_i 2)], [(0, [(1, 1)])], []), (gd_b, [sh_o cr ci (fx_i 2)], [(10000, [(1, -1)])], []), (.inl (.inl (fx_i 2)), [sh_o cr ci (fx_i 0)], [(0, [(0, -1)]), (-9999, [(0, 1)]), (1, [(1, -1)]), (-9999, [(1, 1)])], [])]
noncomputable def ld_k1 (A : sx_A) (j : Nat) (M : pq_M) (r0 : Nat) : Bool := t8_o.all fun il => ng_chk A [] [] 299 j M 0 [il, sy_full, sy_full] [] (td_sl r0 (fx_i 0) (fx_i 1) (fx_i 2)) [] [] [(gd_b, [], [], [])] [] 300
noncomputable def ld_k2 (A : Nat → sx_A) (j : Nat) (M : pq_M) (r0 cr : Nat) (ci : Nat → Nat) : Bool := (List.range 8).all fun l => ng_chk (A l) [] [] 299 j M 0 [sy_full, sy_full, sy_full] [] (td_sl r0 (fx_k l) (fx_i 0) (fx_i 1)) [] [sh_o cr (ci l) (fx_i 2)] (ld_re cr (ci l)) [] 300
noncomputable def ld_Ac (l : Nat) : sx_A := [(93, 0, 100000), (9, l, l), (10, l, l)]
noncomputable def ld_Am (l : Nat) : sx_A := [(97, 0, 5), (95, 138 + 6 * l, 139 + 6 * l)]
theorem ldc_1 : ld_k1 [(93, 0, 100000)] 23 pm_23 5 = true := by decide +kernel
theorem ldm_1 : ld_k1 [(97, 0, 5)] 166 pm_166 94 = true := by decide +kernel
theorem ldc_2 : ld_k2 ld_Ac 23 pm_23 5 9 (fun l => l) = true := by decide +kernel
theorem ldm_2 : ld_k2 ld_Am 166 pm_166 94 95 (fun l => 138 + 6 * l) = true := by decide +kernel
-- plane: symbols 0 kind, 1 airline, 2 weight, 3 how many airlines
abbrev tp_P : Type := (Nat × sx_F) × (Nat × Nat) × (Nat → Nat × Nat) × (Nat → Nat × Nat) × (Nat → Nat × Nat) × (Nat × Nat)
-- places: ended of airline 1, planes, kind, line, weight, airlines
noncomputable def tp_c : tp_P := ((17, (0, [(1, 1)])), (15, 4), (fun p => (19, p)), (fun p => (20, p)), (fun p => (21, p)), (15, 0))
noncomputable def tp_m : tp_P := ((95, (187, [(1, 10)])), (95, 3), (fun p => (95, 266 + 3 * p)), (fun p => (95, 267 + 3 * p)), (fun p => (95, 268 + 3 * p)), (95, 2))
noncomputable def tp_Ac (p : Nat) : sx_A := [(15, 4, 4), (19, p, p), (20, p, p), (21, p, p)]
noncomputable def tp_Am (p : Nat) : sx_A := [(95, 3, 3), (95, 266 + 3 * p, 268 + 3 * p)]
noncomputable def tp_n (P : tp_P) : Nat × sx_F × sx_V := sh_o P.2.2.2.2.2.1 P.2.2.2.2.2.2 (fx_i 3)
noncomputable def tp_f1 (P : tp_P) (A : sx_A) (j : Nat) (M : pq_M) (r0 : Nat) : Bool := t8_o.all fun ia => ng_chk A [] [] 299 j M 0 [sy_full, ia, sy_full, (0, 8)] [] (td_sl r0 (fx_i 0) (fx_i 1) (fx_i 2)) [] [tp_n P] [(gd_b, [], [], [])] [] 300
noncomputable def tp_bad : List ((Int × Int) × (Int × Int) × List sx_F) := [(sh_lo, sy_full, []), ((6, 2147483647), sy_full, []), (sy_full, (-2147483648, 0), []), (sy_full, (601, 2147483647), []), (sy_full, sy_full, [(0, [(1, -1), (3, 1)])])]
noncomputable def tp_f2 (P : tp_P) (A : sx_A) (j : Nat) (M : pq_M) (r0 : Nat) : Bool := tp_bad.all fun z => ng_chk A [] [] 299 j M 0 [z.1, (0, 7), z.2.1, (0, 8)] z.2.2 (td_sl r0 (fx_i 0) (fx_i 1) (fx_i 2)) [] [tp_n P] [(gd_b, [], [], [])] [] 300
noncomputable def tp_f3 (P : tp_P) (A : sx_A) (j : Nat) (M : pq_M) (r0 : Nat) : Bool := ng_chk A [] [] 299 j M 0 [(0, 5), (0, 7), (1, 600), (0, 8)] [(1, [(1, 1), (3, -1)])] (td_sl r0 (fx_i 0) (fx_i 1) (fx_i 2)) [] [tp_n P, (P.1.1, P.1.2, fx_k 1)] [(sh_x (-1000003), [], [], [])] [] 300
noncomputable def tp_f4 (P : tp_P) (A : sx_A) (j : Nat) (M : pq_M) (r0 : Nat) : Bool := ng_chk A [] [] 299 j M 0 [(0, 5), (0, 7), (1, 600), (0, 8)] [(1, [(1, 1), (3, -1)])] (td_sl r0 (fx_i 0) (fx_i 1) (fx_i 2)) [] [tp_n P, (P.1.1, P.1.2, fx_k 0), sh_o P.2.1.1 P.2.1.2 (fx_k 12)] [(sh_x (-1000004), [], [], [])] [] 300
noncomputable def tp_k (P : tp_P) (A : Nat → sx_A) (j : Nat) (M : pq_M) (r0 : Nat) : Bool := (List.range 12).all fun p => ng_chk (A p) [] [] 299 j M 0 [(0, 5), (0, 7), (1, 600), (0, 8)] [(1, [(1, 1), (3, -1)])] (td_sl r0 (fx_i 0) (fx_i 1) (fx_i 2)) [] [tp_n P, (P.1.1, P.1.2, fx_k 0), sh_o P.2.1.1 P.2.1.2 (fx_k p)] [(sh_x p, [sh_o P.2.1.1 P.2.1.2 (fx_k (p + 1)), sh_o (P.2.2.1 p).1 (P.2.2.1 p).2 (fx_i 0), sh_o (P.2.2.2.1 p).1 (P.2.2.2.1 p).2 (fx_i 1), sh_o (P.2.2.2.2.1 p).1 (P.2.2.2.2.1 p).2 (fx_i 2)], [], [])] [] 400
theorem tpc_f1 : tp_f1 tp_c [(93, 0, 100000)] 31 pm_31 5 = true := by decide +kernel
theorem tpc_f2 : tp_f2 tp_c [(93, 0, 100000)] 31 pm_31 5 = true := by decide +kernel
theorem tpc_f3 : tp_f3 tp_c [(93, 0, 100000)] 31 pm_31 5 = true := by decide +kernel
theorem tpc_f4 : tp_f4 tp_c [(93, 0, 100000)] 31 pm_31 5 = true := by decide +kernel
theorem tpc_k : tp_k tp_c tp_Ac 31 pm_31 5 = true := by decide +kernel
theorem tpm_f1 : tp_f1 tp_m [(97, 0, 5)] 174 pm_174 94 = true := by decide +kernel
theorem tpm_f2 : tp_f2 tp_m [(97, 0, 5)] 174 pm_174 94 = true := by decide +kernel
theorem tpm_f3 : tp_f3 tp_m [(97, 0, 5)] 174 pm_174 94 = true := by decide +kernel
theorem tpm_f4 : tp_f4 tp_m [(97, 0, 5)] 174 pm_174 94 = true := by decide +kernel
theorem tpm_k : tp_k tp_m tp_Am 174 pm_174 94 = true := by decide +kernel
-- as: symbols 0 plane, 1 how many planes, 2 weight
noncomputable def as_sl (r0 : Nat) (a b : sx_V) : List (Nat × sx_V) := [(0, .inr (.inr r0)), (1, a), (2, b)]
noncomputable def as_u (k q : Nat) : Bool := Nat.beq k q || Nat.beq q 0 || (Nat.beq k 2 && Nat.beq q 1) || (Nat.beq k 5 && Nat.beq q 3)
abbrev as_Q : Type := (Nat × sx_F) × (Nat × sx_F) × (Nat × Nat)
noncomputable def as_c : as_Q := ((19, (0, [(0, 1)])), (21, (0, [(0, 1)])), (15, 4))
noncomputable def as_m : as_Q := ((95, (266, [(0, 3)])), (95, (268, [(0, 3)])), (95, 3))
noncomputable def as_bad : List ((Int × Int) × (Int × Int) × List sx_F) := [(sh_lo, sy_full, []), ((0, 2147483647), sy_full, [(0, [(0, -1), (1, 1)])]), (sy_full, sh_lo, []), (sy_full, (6, 2147483647), [])]
noncomputable def as_f1 (P : as_Q) (A : sx_A) (j : Nat) (M : pq_M) (r0 : Nat) : Bool := as_bad.all fun z => ng_chk A [] [] 299 j M 0 [z.1, (0, 12), z.2.1] z.2.2 (as_sl r0 (fx_i 0) (fx_i 2)) [] [sh_o P.2.2.1 P.2.2.2 (fx_i 1)] [(gd_b, [], [], [])] [] 300
noncomputable def as_k (P : as_Q) (A : sx_A) (j : Nat) (M : pq_M) (r0 : Nat) : Bool := (List.range 6).all fun k => (List.range 6).all fun q => ng_chk A [] [] 299 j M 0 [(0, 11), (0, 12), (0, 600)] [(1, [(0, 1), (1, -1)])] (as_sl r0 (fx_i 0) (fx_k q)) [] [sh_o P.2.2.1 P.2.2.2 (fx_i 1), (P.1.1, P.1.2, fx_k k), (P.2.1.1, P.2.1.2, fx_i 2)] [(bif as_u k q then .inl (.inl (fx_i 2)) else sh_x (-1000005), [], [], [])] [] 600
theorem asc_f : as_f1 as_c [(93, 0, 100000)] 35 pm_35 5 = true := by decide +kernel
theorem asm_f : as_f1 as_m [(97, 0, 5)] 176 pm_176 94 = true := by decide +kernel
theorem asc_k : as_k as_c [(93, 0, 100000)] 35 pm_35 5 = true := by decide +kernel
theorem asm_k : as_k as_m [(97, 0, 5)] 176 pm_176 94 = true := by decide +kernel
-- the class's end: symbols 0 how many airlines
noncomputable def ec_N : sh_AN := [(54, [(4, ([(2, false, (-2147483648), 2147483647), (3, false, 0, 8)], [], false, [], 3, true))]), (57, [(68, ([(4, false, (-2147483648), 2147483647), (5, false, 0, 8)], [(18, none), (22, none)], false, [], 5, true))]), (58, [(10, ([(4, false, 0, 3000)], [(18, none)], false, [], 4, true))]), (60, [(13, ([(4, false, (-2147483648), 2147483647), (5, false, 0, 8)], [(18, none), (22, none)], false, [6, 7, 9], 5, true))]), (61, [(4, ([(2, false, 0, 7), (3, false, 0, 8)], [], false, [], 3, true))]), (62, [(5, ([(3, false, (-2147483648), 2147483647), (4, false, 0, 8)], [(14, none), (18, none)], false, [5], 4, true))])]
noncomputable def ec_sl (a : sx_V) : List (Nat × sx_V) := [(0, .inr (.inr 5)), (1, a)]
theorem ec_1 : (t8_o.all fun ia => ng_chk [(93, 0, 100000)] [] [] 299 56 pm_56 0 [(0, 8), ia] [] (ec_sl (fx_i 1)) [] [sh_o 15 0 (fx_i 0)] [(mc_any, [], [], [])] [] 300) = true := by decide +kernel
theorem ec_2 : ((List.range 8).all fun a => ng_chk [(93, 0, 100000)] [] [] 299 56 pm_56 0 [(0, 8)] [(-(a : Int), [(0, 1)])] (ec_sl (fx_k a)) [] [sh_o 15 0 (fx_i 0)] [(mc_any, [], [], [])] [] 300) = true := by decide +kernel
theorem ec_3 : ((List.range 8).all fun a => ng_chk [(93, 0, 100000)] [] [] 299 56 pm_56 0 [(0, 8)] [((a : Int) + 1, [(0, -1)])] (ec_sl (fx_k a)) [] [sh_o 15 0 (fx_i 0), sh_o 17 a (fx_k 1)] [(mc_any, [], [], [])] [] 300) = true := by decide +kernel
noncomputable def ec_A (a : Nat) : sx_A := [(14, 0, 100000), (16, 0, 100000), (17, a, a), (18, 0, 100000), (22, 0, 100000)]
theorem ec_4 : ((List.range 8).all fun a => ng_chk (ec_A a) [] ec_N 299 56 pm_56 0 [(0, 8)] [((a : Int) + 1, [(0, -1)])] (ec_sl (fx_k a)) [] [sh_o 15 0 (fx_i 0), sh_o 17 a (fx_k 0)] [(mc_any, [sh_o 17 a (fx_k 1)], [], [])] [] 4000) = true := by decide +kernel
-- the reference's airline: who has ended
theorem ea_1 : ((List.range 8).all fun n => ng_chk [(97, 0, 5), (95, 2, 2), (95, 186 + 10 * n, 195 + 10 * n)] [] [] 299 173 pm_173 0 [sy_full] [] [(0, .inr (.inr 94)), (1, fx_i 0)] [] [sh_o 95 2 (fx_k n), sh_o 95 (187 + 10 * (n : Int)) (fx_k 0)] [(mc_any, [sh_o 95 (187 + 10 * (n : Int)) (fx_k 0)], [], [])] [] 1000) = true := by decide +kernel
theorem ea_2 : ng_chk [(97, 0, 5)] [] [] 299 173 pm_173 0 [sy_full] [] [(0, .inr (.inr 94)), (1, fx_i 0)] [] [sh_o 95 2 (fx_k 8)] [(mc_any, [], [], [])] [] 1000 = true := by decide +kernel
