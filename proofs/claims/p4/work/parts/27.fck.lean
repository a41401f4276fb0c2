/-! findWay, stretch by stretch: the checks -/
noncomputable def fx_P : sx_P := (sx_T0, [], [], [])
noncomputable def fx_i (n : Nat) : sx_V := .inl (.inl (sx_y n))
noncomputable def fx_k (c : Int) : sx_V := .inl (.inl (c, []))
noncomputable def fx_r : sx_V := .inr (.inr 94)
noncomputable def fx_go (P : sx_P) (re : List sq_Ae) (hd : List (Nat × List sq_Al)) (f : Nat) (S : sx_S) : Bool := sx_go P (sq_ret re) (sx_cks P (sq_ret re) (sq_stop S.fr.j S.k hd) f) [] S
-- the start: up to the call of factor; from behind it to the first loop
noncomputable def fx_a0 : List (Nat × List sq_Al) := [(4, [([(0, fx_r), (1, fx_i 1), (2, fx_i 2), (3, fx_i 3)], [fx_k (-1), fx_k (-1), fx_i 1, fx_r], [], [], [])])]
theorem fx_k0 : sx_go fx_P (sq_ret []) (sx_cks fx_P (sq_ret []) (sq_stop 232 119 fx_a0) 50) [] (sx_beg fx_P 119 232 pm_232 kk_findWayR.as [] []) = true := by decide +kernel
noncomputable def fx_l1 (f c : sx_V) : List (Nat × sx_V) := [(0, fx_r), (2, fx_i 0), (3, fx_i 1), (4, f), (5, c)]
theorem fx_k1 : fx_go fx_P [] [(12, [(fx_l1 (fx_i 2) (fx_k 0), [], [], [], [])])] 50 (sq_s0 119 232 pm_232 7 [(0, 63), (0, 63), (0, 9999)] [] [(0, fx_r), (2, fx_i 0), (3, fx_i 1)] [fx_i 2] [] []) = true := by decide +kernel
-- the first loop
noncomputable def fx_P1 (c : Nat) : sx_P := (sx_T0, [(109, c, c), (110, c, c), (111, c, c)], [], [])
noncomputable def fx_h1 (c : Nat) : List (Nat × List sq_Al) := [(12, [(fx_l1 (fx_i 2) (fx_k (c + 1)), [], [(109, ((c : Int), []), fx_k 0), (110, ((c : Int), []), fx_k 0)], [], [(111, ((c : Int), []), false, 0, 49990)]), (fx_l1 (fx_i 2) (fx_k (c + 1)), [], [(109, ((c : Int), []), fx_k 100000000), (110, ((c : Int), []), fx_k 0)], [], [(111, ((c : Int), []), false, 0, 49990)])])]
theorem fx_k2 : ((List.range 64).all fun c => fx_go (fx_P1 c) [] (fx_h1 c) 200 (sq_s0 119 232 pm_232 12 [(0, 63), (0, 63), (0, 9999)] [] (fx_l1 (fx_i 2) (fx_k c)) [] [] [])) = true := by decide +kernel
noncomputable def fx_l2 (m : sx_V) : List (Nat × sx_V) := [(0, fx_r), (2, fx_i 0), (5, m)]
theorem fx_k3 : fx_go fx_P [] [(117, [(fx_l2 (fx_k 1), [], [], [], [])])] 50 (sq_s0 119 232 pm_232 12 [(0, 63), (0, 63), (0, 9999)] [] (fx_l1 (fx_i 2) (fx_k 64)) [] [] []) = true := by decide +kernel
-- the round
noncomputable def fx_l3 (m c : sx_V) : List (Nat × sx_V) := [(0, fx_r), (2, fx_i 0), (5, m), (6, c)]
noncomputable def fx_l4 (m c d : sx_V) : List (Nat × sx_V) := [(0, fx_r), (2, fx_i 0), (5, m), (6, c), (7, d)]
theorem fx_k4 : fx_go fx_P [] [(128, [(fx_l3 (fx_k 0) (fx_k 0), [], [], [], [])])] 50 (sq_s0 119 232 pm_232 117 [(0, 63)] [] (fx_l2 (fx_k 1)) [] [] []) = true := by decide +kernel
theorem fx_k5 : fx_go fx_P [] [(299, [([(0, fx_r), (2, fx_i 0)], [], [], [], [])])] 50 (sq_s0 119 232 pm_232 117 [(0, 63)] [] (fx_l2 (fx_k 0)) [] [] []) = true := by decide +kernel
theorem fx_k6 : fx_go fx_P [] [(138, [(fx_l4 (fx_i 1) (fx_i 2) (fx_k 0), [], [], [], [])])] 50 (sq_s0 119 232 pm_232 128 [(0, 63), (0, 1), (0, 63)] [] (fx_l3 (fx_i 1) (fx_i 2)) [] [] []) = true := by decide +kernel
theorem fx_k7 : fx_go fx_P [] [(117, [(fx_l2 (fx_i 1), [], [], [], [])])] 50 (sq_s0 119 232 pm_232 128 [(0, 63), (0, 1)] [] (fx_l3 (fx_i 1) (fx_k 64)) [] [] []) = true := by decide +kernel
theorem fx_k8 : fx_go fx_P [] [(149, [(fx_l4 (fx_i 1) (fx_i 2) (fx_i 3), [fx_i 3, fx_i 2], [], [], [])])] 50 (sq_s0 119 232 pm_232 138 [(0, 63), (0, 1), (0, 63), (0, 63)] [] (fx_l4 (fx_i 1) (fx_i 2) (fx_i 3)) [] [] []) = true := by decide +kernel
theorem fx_k9 : fx_go fx_P [] [(128, [(fx_l3 (fx_i 1) (.inl (.inl (1, [(2, 1)]))), [], [], [], [])])] 50 (sq_s0 119 232 pm_232 138 [(0, 63), (0, 1), (0, 63)] [] (fx_l4 (fx_i 1) (fx_i 2) (fx_k 64)) [] [] []) = true := by decide +kernel
-- one look: symbols 0 from, 1 more, 2 d, 3 next, 4 C d, 5 C c, 6 S d, 7 S c, 8 E c, 9 E d, 10 fuel, 11 shut
noncomputable def fx_iv (nx cd sh : Int × Int) : List (Int × Int) := [(0, 63), (0, 1), (0, 63), nx, cd, (0, 100000000), (0, 63), (0, 63), (0, 49990), (0, 49990), (0, 999), sh]
noncomputable def fx_cd : sx_F := (0, [(4, 1), (8, 1), (9, 1), (10, 1)])
noncomputable def fx_O (c : Nat) (cc sc : sx_F) : sx_O := [(109, (0, [(2, 1)]), fx_i 4), (109, ((c : Int), []), .inl (.inl cc)), (110, (0, [(2, 1)]), fx_i 6), (110, ((c : Int), []), .inl (.inl sc)), (111, ((c : Int), []), fx_i 8), (111, (0, [(2, 1)]), fx_i 9), (95, (1, []), fx_i 10), (95, (74 + (c : Int), []), fx_i 11)]
noncomputable def fx_P2 (c : Nat) : sx_P := (sx_T0, [(109, c, c), (110, c, c)], [], [])
noncomputable def fx_S (c : Nat) (nx cd sh : Int × Int) (C : List sx_F) (cc sc : sx_F) : sx_S := sq_s0 119 232 pm_232 152 (fx_iv nx cd sh) C (fx_l4 (fx_i 1) (fx_k c) (fx_i 2)) [fx_i 3] (fx_O c cc sc) []
noncomputable def fx_h2 (c : Nat) (m : sx_V) (cc sc : sx_F) : List (Nat × List sq_Al) := [(138, [(fx_l4 m (fx_k c) (.inl (.inl (1, [(2, 1)]))), [], [(109, ((c : Int), []), .inl (.inl cc)), (110, ((c : Int), []), .inl (.inl sc))], [], [])])]
noncomputable def fx_Q (c : Nat) (nx cd sh : Int × Int) (C : List sx_F) (cc sc : sx_F) (m : sx_V) (cc2 sc2 : sx_F) : Bool := fx_go (fx_P2 c) [] (fx_h2 c m cc2 sc2) 300 (fx_S c nx cd sh C cc sc)
noncomputable def fx_01 : Int × Int := (0, 1)
noncomputable def fx_0f : Int × Int := (0, 100000000)
theorem fx_r1 : ((List.range 64).all fun c => fx_Q c (0, 0) fx_0f fx_01 [] (sx_y 5) (sx_y 7) (fx_i 1) (sx_y 5) (sx_y 7)) = true := by decide +kernel
theorem fx_r2 : ((List.range 64).all fun c => fx_Q c (1, 1) fx_0f (1, 1) [] (sx_y 5) (sx_y 7) (fx_i 1) (sx_y 5) (sx_y 7)) = true := by decide +kernel
theorem fx_r3 : ((List.range 64).all fun c => fx_Q c (1, 1) (100000000, 100000000) (0, 0) [] (sx_y 5) (sx_y 7) (fx_i 1) (sx_y 5) (sx_y 7)) = true := by decide +kernel
noncomputable def fx_c4 : List sx_F := [(1, [(4, -1), (5, 1), (8, -1), (9, -1), (10, -1)])]
theorem fx_r4 : ((List.range 64).all fun c => fx_Q c (1, 1) (0, 99999999) (0, 0) fx_c4 (sx_y 5) (sx_y 7) (fx_i 1) (sx_y 5) (sx_y 7)) = true := by decide +kernel
noncomputable def fx_c5 : List sx_F := [(-1, [(6, -1), (7, 1)])]
theorem fx_r5 : ((List.range 64).all fun c => fx_Q c (1, 1) (0, 99999999) (0, 0) fx_c5 fx_cd (sx_y 7) (fx_i 1) fx_cd (sx_y 7)) = true := by decide +kernel
noncomputable def fx_c6 : List sx_F := [(1, [(4, 1), (5, -1), (8, 1), (9, 1), (10, 1)])]
theorem fx_r6 : ((List.range 64).all fun c => fx_Q c (1, 1) (0, 99999999) (0, 0) fx_c6 (sx_y 5) (sx_y 7) (fx_k 1) fx_cd (1, [(6, 1)])) = true := by decide +kernel
noncomputable def fx_c7 : List sx_F := [(2, [(6, 1), (7, -1)])]
theorem fx_r7 : ((List.range 64).all fun c => fx_Q c (1, 1) (0, 99999999) (0, 0) fx_c7 fx_cd (sx_y 7) (fx_k 1) fx_cd (1, [(6, 1)])) = true := by decide +kernel
-- the way itself
noncomputable def fx_P3 : sx_P := (sx_T0, [(112, 0, 63)], [], [])
noncomputable def fx_l5 (k : sx_V) : List (Nat × sx_V) := [(0, fx_r), (2, fx_i 0), (6, k)]
noncomputable def fx_l6 (k c d : sx_V) : List (Nat × sx_V) := [(0, fx_r), (2, fx_i 0), (6, k), (7, c), (8, d)]
theorem fx_w0 : fx_go fx_P3 [(.inl (.inl (fx_k (-1))), [], [], [])] [] 50 (sq_s0 119 232 pm_232 299 [(0, 63), (100000000, 100000000)] [] [(0, fx_r), (2, fx_i 0)] [] [(109, (0, [(0, 1)]), fx_i 1)] []) = true := by decide +kernel
theorem fx_w1 : fx_go fx_P3 [] [(323, [(fx_l5 (fx_k 0), [], [(112, (0, []), fx_i 0)], [], [])])] 50 (sq_s0 119 232 pm_232 299 [(0, 63), (0, 99999999)] [] [(0, fx_r), (2, fx_i 0)] [] [(109, (0, [(0, 1)]), fx_i 1)] []) = true := by decide +kernel
theorem fx_w2 : fx_go fx_P3 [(.inl (.inl (fx_i 1)), [], [], [])] [] 50 (sq_s0 119 232 pm_232 323 [(0, 63), (0, 63)] [] (fx_l5 (fx_i 1)) [] [(110, (0, [(0, 1)]), fx_i 1)] []) = true := by decide +kernel
theorem fx_w3 : fx_go fx_P3 [] [(346, [(fx_l6 (fx_i 1) (fx_i 3) (fx_k 0), [], [], [], [])])] 50 (sq_s0 119 232 pm_232 323 [(0, 63), (0, 62), (0, 63), (0, 63)] [(1, [(1, 1), (2, -1)])] (fx_l5 (fx_i 1)) [] [(110, (0, [(0, 1)]), fx_i 2), (112, (0, [(1, 1)]), fx_i 3)] []) = true := by decide +kernel
theorem fx_w4 : fx_go fx_P3 [] [(350, [(fx_l6 (fx_i 1) (fx_i 2) (fx_i 3), [fx_i 3, fx_i 2], [], [], [])])] 50 (sq_s0 119 232 pm_232 346 [(0, 63), (0, 62), (0, 63), (0, 63)] [] (fx_l6 (fx_i 1) (fx_i 2) (fx_i 3)) [] [] []) = true := by decide +kernel
-- symbols 0 from, 1 k, 2 c, 3 d, 4 next, 5 C d, 6 C c, 7 S d, 8 S c, 9 E c, 10 E d, 11 fuel
noncomputable def fx_iw (nx cd : Int × Int) : List (Int × Int) := [(0, 63), (0, 62), (0, 63), (0, 63), nx, cd, (0, 100000000), (0, 63), (0, 63), (0, 49990), (0, 49990), (0, 999)]
noncomputable def fx_ce : sx_F := (0, [(5, 1), (9, 1), (10, 1), (11, 1)])
noncomputable def fx_Ow (cc sc : sx_F) : sx_O := [(109, (0, [(3, 1)]), fx_i 5), (109, (0, [(2, 1)]), .inl (.inl cc)), (110, (0, [(3, 1)]), fx_i 7), (110, (0, [(2, 1)]), .inl (.inl sc)), (111, (0, [(2, 1)]), fx_i 9), (111, (0, [(3, 1)]), fx_i 10), (95, (1, []), fx_i 11)]
noncomputable def fx_Sw (nx cd : Int × Int) (C : List sx_F) (cc sc : sx_F) : sx_S := sq_s0 119 232 pm_232 353 (fx_iw nx cd) C (fx_l6 (fx_i 1) (fx_i 2) (fx_i 3)) [fx_i 4] (fx_Ow cc sc) []
noncomputable def fx_hb : List (Nat × List sq_Al) := [(346, [(fx_l6 (fx_i 1) (fx_i 2) (.inl (.inl (1, [(3, 1)]))), [], [], [], [])])]
noncomputable def fx_hg : List (Nat × List sq_Al) := [(323, [(fx_l5 (.inl (.inl (1, [(1, 1)]))), [], [(112, (1, [(1, 1)]), fx_i 3)], [], [])])]
theorem fx_g : fx_go fx_P3 [] fx_hg 200 (fx_Sw (1, 1) (0, 99999999) [] fx_ce (1, [(7, 1)])) = true := by decide +kernel
theorem fx_b1 : fx_go fx_P3 [] fx_hb 200 (fx_Sw (0, 0) fx_0f [] (sx_y 6) (sx_y 8)) = true := by decide +kernel
theorem fx_b2 : fx_go fx_P3 [] fx_hb 200 (fx_Sw fx_01 (100000000, 100000000) [] (sx_y 6) (sx_y 8)) = true := by decide +kernel
theorem fx_b3 : fx_go fx_P3 [] fx_hb 200 (fx_Sw fx_01 fx_0f [(2, [(7, 1), (8, -1)])] (sx_y 6) (sx_y 8)) = true := by decide +kernel
theorem fx_b4 : fx_go fx_P3 [] fx_hb 200 (fx_Sw fx_01 fx_0f [(0, [(7, -1), (8, 1)])] (sx_y 6) (sx_y 8)) = true := by decide +kernel
theorem fx_b5 : fx_go fx_P3 [] fx_hb 200 (fx_Sw fx_01 fx_0f [(1, [(5, 1), (6, -1), (9, 1), (10, 1), (11, 1)])] (sx_y 6) (sx_y 8)) = true := by decide +kernel
theorem fx_b6 : fx_go fx_P3 [] fx_hb 200 (fx_Sw fx_01 fx_0f [(1, [(5, -1), (6, 1), (9, -1), (10, -1), (11, -1)])] (sx_y 6) (sx_y 8)) = true := by decide +kernel
