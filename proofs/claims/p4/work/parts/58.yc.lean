/-! fly: the checks. Symbols 0 flight, 1 sheet -/
theorem fd_1 : ng_chk [(97, 0, 5)] [] [] 299 212 pm_212 0 [sy_full, sy_full, (0, 30)] [] [(0, fx_r), (1, fx_i 0), (2, fx_i 1)] [] [mc_o 5 (fx_i 2)] [(mc_any, [], [], [])] [(23, (ng_L [(0, fx_r), (1, fx_i 0), (2, fx_i 1)], [], [], [(0, [(0, -1)]), (1, [(0, 1), (2, -1)]), (0, [(1, -1)]), (-3, [(1, 1)])], []))] 200 = true := by decide +kernel
theorem fd_2 : ng_chk [(97, 0, 5)] [] [] 299 212 pm_212 23 [(0, 29), (0, 3)] [] [(0, fx_r), (1, fx_i 0), (2, fx_i 1)] [] [] [(mc_any, [], [], [])] [(42, (ng_L [(0, fx_r), (1, fx_i 0), (2, fx_i 1)], [fx_k (-1), fx_i 1, fx_r], [], [], []))] 200 = true := by decide +kernel
theorem fd_3 : ng_chk [(97, 0, 5)] [] [] 299 212 pm_212 45 [(0, 29), (0, 3), (0, 40)] [] [(0, fx_r), (1, fx_i 0), (2, fx_i 1)] [fx_k 1] [mc_o 6 (fx_i 2)] [(mc_any, [], [], [])] [(76, (ng_L [(0, fx_r), (1, fx_i 0), (2, fx_i 1), (3, fx_i 2)], [], [], [(-39, [(2, 1)])], []))] 200 = true := by decide +kernel
theorem fd_3z : ng_chk [(97, 0, 5)] [] [] 299 212 pm_212 45 [(0, 29), (0, 3)] [] [(0, fx_r), (1, fx_i 0), (2, fx_i 1)] [fx_k 0] [] [(mc_any, [], [], [])] [] 200 = true := by decide +kernel
noncomputable def fd_b (t k : sx_V) : List (Nat × sx_V) := [(0, fx_r), (1, fx_i 0), (2, fx_i 1), (4, t), (5, k)]
theorem fd_4 : ((List.range 40).all fun t => ng_chk [(95, 1322 + 15 * t, 1324 + 15 * t)] [] [] 299 212 pm_212 76 [(0, 29), (0, 3), (0, 12), sy_full] [] [(0, fx_r), (1, fx_i 0), (2, fx_i 1), (3, fx_k t)] [] [(99, sx_y 1, fx_i 2), mc_o 0 (fx_i 3)] [] [(129, gq_al (fd_b (fx_k (1322 + 15 * t)) (fx_k 0)) [mc_o (1324 + 15 * t) (fx_i 2)])] 200) = true := by decide +kernel
noncomputable def fd_5k (k t : Nat) : Bool := ng_chk [(95, 1325 + 15 * t + k, 1325 + 15 * t + k)] [] [] 299 212 pm_212 129 [(0, 29), (0, 3), (0, 12), (-1, 63)] [(1 + (k : Int), [(2, -1)])] (fd_b (fx_k (1322 + 15 * t)) (fx_k k)) [] [(99, sx_y 1, fx_i 2), (100, ((k : Int), [(1, 24)]), fx_i 3)] [] [(129, gq_al (fd_b (fx_k (1322 + 15 * t)) (fx_k (k + 1))) [mc_o (1325 + 15 * t + k) (fx_i 3)])] 100
theorem fd_5_0 : ((List.range 40).all (fd_5k 0)) = true := by decide +kernel
theorem fd_5_1 : ((List.range 40).all (fd_5k 1)) = true := by decide +kernel
theorem fd_5_2 : ((List.range 40).all (fd_5k 2)) = true := by decide +kernel
theorem fd_5_3 : ((List.range 40).all (fd_5k 3)) = true := by decide +kernel
theorem fd_5_4 : ((List.range 40).all (fd_5k 4)) = true := by decide +kernel
theorem fd_5_5 : ((List.range 40).all (fd_5k 5)) = true := by decide +kernel
theorem fd_5_6 : ((List.range 40).all (fd_5k 6)) = true := by decide +kernel
theorem fd_5_7 : ((List.range 40).all (fd_5k 7)) = true := by decide +kernel
theorem fd_5_8 : ((List.range 40).all (fd_5k 8)) = true := by decide +kernel
theorem fd_5_9 : ((List.range 40).all (fd_5k 9)) = true := by decide +kernel
theorem fd_5_10 : ((List.range 40).all (fd_5k 10)) = true := by decide +kernel
theorem fd_5_11 : ((List.range 40).all (fd_5k 11)) = true := by decide +kernel
theorem fd_5 : ∀ k : Nat, k < 12 → ((List.range 40).all (fd_5k k)) = true := fun k hk => match k, hk with
  | 0, _ => fd_5_0
  | 1, _ => fd_5_1
  | 2, _ => fd_5_2
  | 3, _ => fd_5_3
  | 4, _ => fd_5_4
  | 5, _ => fd_5_5
  | 6, _ => fd_5_6
  | 7, _ => fd_5_7
  | 8, _ => fd_5_8
  | 9, _ => fd_5_9
  | 10, _ => fd_5_10
  | 11, _ => fd_5_11
-- symbols 2 size, 3 the row's place, 4 how many tells
theorem fd_6 : ng_chk [(95, 6, 6)] [] [] 299 212 pm_212 129 [(0, 29), (0, 3), (0, 12), (1322, 1907), (0, 39)] [] (fd_b (fx_i 3) (fx_i 2)) [] [(99, sx_y 1, fx_i 2), mc_o 6 (fx_i 4)] [] [(181, (ng_L [(0, fx_r), (1, fx_i 0)], [], [mc_o 6 (.inl (.inl (1, [(4, 1)])))], [], []))] 100 = true := by decide +kernel
theorem fd_7 : ((List.range 30).all fun f => ng_chk [(95, 306 + 34 * f, 306 + 34 * f)] [] [] 299 212 pm_212 181 [] [] [(0, fx_r), (1, fx_k f)] [] [] [(mc_any, [], [], [])] [] 100) = true := by decide +kernel
