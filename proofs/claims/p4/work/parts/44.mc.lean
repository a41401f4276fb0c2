/-! airline, earn, pay, end: the checks -/
noncomputable def mc_o (i : Int) (v : sx_V) : Nat × sx_F × sx_V := (95, (i, []), v)
noncomputable def mc_any : (sx_V ⊕ (Int × Int)) ⊕ Unit := .inl (.inr sy_full)
noncomputable def mc_c : Int × Int := (0, 264925599)
noncomputable def mc_d : Int × Int := (0, 142990700)
-- earn: symbols 0 airline, 1 n, 2 how many airlines
theorem mc_e1 : ng_chk [(97, 0, 5)] [] [] 299 189 pm_189 0 [sy_full, sy_full, (0, 8)] [] [(0, fx_r), (1, fx_i 0), (2, fx_i 1)] [] [mc_o 2 (fx_i 2)] [(mc_any, [], [], [])] [(28, (ng_L [(0, fx_r), (1, fx_i 0), (2, fx_i 1)], [], [], [(0, [(0, -1)]), (1, [(0, 1), (2, -1)]), (1, [(1, -1)]), (-99999, [(1, 1)])], []))] 200 = true := by decide +kernel
theorem mc_e2 : ((List.range 8).all fun a => ng_chk [(97, 0, 5), (95, 186 + 10 * a, 186 + 10 * a)] [] [] 299 189 pm_189 28 [(1, 99999), mc_c, (0, 1)] [] [(0, fx_r), (1, fx_k a), (2, fx_i 0)] [] [mc_o (186 + 10 * a) (fx_i 1), mc_o (187 + 10 * a) (fx_i 2)] [(mc_any, [mc_o (186 + 10 * a) (fx_i 1)], [], []), (mc_any, [mc_o (186 + 10 * a) (.inl (.inl (0, [(0, 1), (1, 1)])))], [(-999999, [(0, 1), (1, 1)])], [])] [] 200) = true := by decide +kernel
-- pay: symbols 0 airline, 1 land, 2 n, 3 how many airlines
theorem mc_p1 : ng_chk [(97, 0, 5)] [] [] 299 193 pm_193 0 [sy_full, sy_full, sy_full, (0, 8)] [] [(0, fx_r), (1, fx_i 0), (2, fx_i 1), (3, fx_i 2)] [] [mc_o 2 (fx_i 3)] [(mc_any, [], [], [])] [(35, (ng_L [(0, fx_r), (1, fx_i 0), (2, fx_i 1), (3, fx_i 2)], [], [], [(0, [(0, -1)]), (1, [(0, 1), (3, -1)]), (0, [(1, -1)]), (-7, [(1, 1)]), (1, [(2, -1)]), (-99999, [(2, 1)])], []))] 200 = true := by decide +kernel
theorem mc_p2 : ((List.range 8).all fun a => (List.range 8).all fun l => ng_chk [(97, 0, 5), (95, 186 + 10 * a, 186 + 10 * a), (95, 188 + 10 * a + l, 188 + 10 * a + l)] [] [] 299 193 pm_193 35 [(1, 99999), mc_c, mc_d] [] [(0, fx_r), (1, fx_k a), (2, fx_k l), (3, fx_i 0)] [] [mc_o (186 + 10 * a) (fx_i 1), mc_o (188 + 10 * a + l) (fx_i 2)] [(mc_any, [mc_o (186 + 10 * a) (fx_i 1), mc_o (188 + 10 * a + l) (fx_i 2)], [], []), (mc_any, [mc_o (186 + 10 * a) (.inl (.inl (0, [(0, -1), (1, 1)]))), mc_o (188 + 10 * a + l) (.inl (.inl (0, [(0, -1), (2, 1)])))], [(0, [(0, 1), (1, -1)]), (0, [(0, 1), (2, -1)])], [])] [] 200) = true := by decide +kernel
-- airline: symbols 0 coin, 1 how many airlines
theorem mc_a1 : ng_chk [(97, 0, 5)] [] [] 299 173 pm_173 0 [sy_full, (0, 8)] [] [(0, fx_r), (1, fx_i 0)] [] [mc_o 2 (fx_i 1)] [(mc_any, [], [], [])] [(39, (ng_L [(0, fx_r), (1, fx_i 0), (2, fx_i 1)], [], [], [(0, [(0, -1)]), (-999999, [(0, 1)]), (-7, [(1, 1)])], []))] 200 = true := by decide +kernel
noncomputable def mc_ds (a : Nat) : List (Nat × sx_F × sx_V) := (List.range 8).map fun (l : Nat) => mc_o (188 + 10 * (a : Int) + (l : Int)) (fx_k 0)
theorem mc_a2 : ((List.range 8).all fun a => ng_chk [(95, 2, 2), (95, 186 + 10 * a, 195 + 10 * a)] [] [] 299 173 pm_173 39 [(0, 999999)] [] [(0, fx_r), (1, fx_i 0), (2, fx_k a)] [] [mc_o 2 (fx_k a)] [(mc_any, mc_o 2 (fx_k (a + 1)) :: mc_o (186 + 10 * a) (fx_i 0) :: mc_ds a, [], [])] [] 400) = true := by decide +kernel
-- end: symbols 0 airline, 1 how many airlines
theorem mc_n1 : ng_chk [(97, 0, 5)] [] [] 299 194 pm_194 0 [sy_full, (0, 8)] [] [(0, fx_r), (1, fx_i 0)] [] [mc_o 2 (fx_i 1)] [(mc_any, [], [(1, [(0, 1)])], []), (mc_any, [], [(0, [(0, -1), (1, 1)])], [])] [(16, (ng_L [(0, fx_r), (1, fx_i 0)], [], [], [(0, [(0, -1)]), (1, [(0, 1), (1, -1)])], []))] 200 = true := by decide +kernel
-- symbols 0 to 7 debts
noncomputable def mc_dy (a : Nat) : List (Nat × sx_F × sx_V) := (List.range 8).map fun (l : Nat) => mc_o (188 + 10 * (a : Int) + (l : Int)) (fx_i l)
noncomputable def mc_al : sx_F := (0, [(0, 1), (1, 1), (2, 1), (3, 1), (4, 1), (5, 1), (6, 1), (7, 1)])
theorem mc_n2 : ((List.range 8).all fun a => ng_chk [(97, 0, 5)] [] [] 299 194 pm_194 16 [mc_d, mc_d, mc_d, mc_d, mc_d, mc_d, mc_d, mc_d, (0, 1)] [] [(0, fx_r), (1, fx_k a)] [] (mc_o (187 + 10 * (a : Int)) (fx_i 8) :: mc_dy a) [(mc_any, [], [(1, [(8, -1)])], [])] [(44, (ng_L [(0, fx_r), (1, fx_k a), (2, .inl (.inr mc_al))], [], [], [], []))] 400) = true := by decide +kernel
