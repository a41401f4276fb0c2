/-! end -/
-- symbols 0 airline, 1 all, 2 coin
noncomputable def mc_AN : List (Nat × List (Nat × sx_an)) := [(194, [(82, ([(6, true, -9223372036854775808, 9223372036854775807), (9, false, 0, 8)], [(102, none), (103, none)], false, [10, 11], 9, true)), (170, ([(6, true, -9223372036854775808, 9223372036854775807)], [(102, none), (103, none)], false, [9, 10, 11], 6, false)), (183, ([(9, false, 0, 7), (10, false, 1, 8)], [], false, [], 10, true))])]
noncomputable def mc_il (n : Nat) : sx_V := .inl (.inr (sx_y n))
noncomputable def mc_all : Int × Int := (0, 1143925600)
theorem mc_n4 : ((List.range 8).all fun a => ng_chk [(95, 143, 143), (95, 149, 149), (95, 155, 155), (95, 161, 161), (95, 167, 167), (95, 173, 173), (95, 179, 179), (95, 185, 185), (95, 188 + 10 * a, 195 + 10 * a)] [] [] 299 194 pm_194 253 [mc_all, mc_c] [] [(0, fx_r), (1, fx_k a), (2, mc_il 0), (4, mc_il 1)] [] [] [] [(334, (ng_L [(0, fx_r), (1, fx_k a), (2, mc_il 0), (4, mc_il 1)] ++ [(9, .inr sy_full)], [], mc_ds a, [], []))] 1000) = true := by decide +kernel
