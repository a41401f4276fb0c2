/-! file, fly: the checks -/
-- symbols 0 plane, 1 sheet, 2 how many
theorem fc_1 : ng_chk [(97, 0, 5)] [] [] 299 208 pm_208 0 [sy_full, sy_full, (0, 12)] [] [(0, fx_r), (1, fx_i 0), (2, fx_i 1)] [] [mc_o 3 (fx_i 2)] [(mc_any, [], [], [])] [(23, (ng_L [(0, fx_r), (1, fx_i 0), (2, fx_i 1)], [], [], [(0, [(0, -1)]), (1, [(0, 1), (2, -1)]), (0, [(1, -1)]), (-3, [(1, 1)])], []))] 200 = true := by decide +kernel
theorem fc_2 : ng_chk [(97, 0, 5)] [] [] 299 208 pm_208 23 [(0, 11), (0, 3)] [] [(0, fx_r), (1, fx_i 0), (2, fx_i 1)] [] [] [(mc_any, [], [], [])] [(68, (ng_L [(0, fx_r), (1, fx_i 0), (2, fx_i 1)], [fx_k 0, fx_i 1, fx_r], [], [], []))] 200 = true := by decide +kernel
-- symbols 2 how many flights
theorem fc_3 : ng_chk [(97, 0, 5)] [] [] 299 208 pm_208 71 [(0, 11), (0, 3), (0, 30)] [] [(0, fx_r), (1, fx_i 0), (2, fx_i 1)] [fx_k 1] [mc_o 5 (fx_i 2)] [(mc_any, [], [], [])] [(104, (ng_L [(0, fx_r), (1, fx_i 0), (2, fx_i 1), (3, fx_i 2), (4, fx_k 0)], [], [], [(-29, [(2, 1)])], []))] 200 = true := by decide +kernel
theorem fc_3z : ng_chk [(97, 0, 5)] [] [] 299 208 pm_208 71 [(0, 11), (0, 3)] [] [(0, fx_r), (1, fx_i 0), (2, fx_i 1)] [fx_k 0] [] [(mc_any, [], [], [])] [] 200 = true := by decide +kernel
noncomputable def fc_b (f k : sx_V) : List (Nat × sx_V) := [(0, fx_r), (1, fx_i 0), (2, fx_i 1), (3, f), (4, k)]
-- the zeroing: before the fees (symbol 2 the place), the fees, behind them
theorem fc_4a : ((List.range 30).all fun f => ng_chk [(95, 302 + 34 * f, 335 + 34 * f)] [] [] 299 208 pm_208 104 [(0, 11), (0, 3), (0, 17)] [] (fc_b (fx_k f) (fx_i 2)) [] [] [] [(104, gq_al (fc_b (fx_k f) (.inl (.inl (1, [(2, 1)])))) [])] 60) = true := by decide +kernel
noncomputable def fc_z (f n : Nat) : sx_O := (List.range n).map fun (l : Nat) => mc_o (320 + 34 * (f : Int) + (l : Int)) (fx_k 0)
noncomputable def fc_4k (l f : Nat) : Bool := ng_chk [(95, 302 + 34 * f, 335 + 34 * f)] [] [] 299 208 pm_208 104 [(0, 11), (0, 3)] [] (fc_b (fx_k f) (fx_k (18 + l))) [] (fc_z f l) [] [(104, gq_al (fc_b (fx_k f) (fx_k (19 + l))) (fc_z f (l + 1)))] 60
theorem fc_4_0 : ((List.range 30).all (fc_4k 0)) = true := by decide +kernel
theorem fc_4_1 : ((List.range 30).all (fc_4k 1)) = true := by decide +kernel
theorem fc_4_2 : ((List.range 30).all (fc_4k 2)) = true := by decide +kernel
theorem fc_4_3 : ((List.range 30).all (fc_4k 3)) = true := by decide +kernel
theorem fc_4_4 : ((List.range 30).all (fc_4k 4)) = true := by decide +kernel
theorem fc_4_5 : ((List.range 30).all (fc_4k 5)) = true := by decide +kernel
theorem fc_4_6 : ((List.range 30).all (fc_4k 6)) = true := by decide +kernel
theorem fc_4_7 : ((List.range 30).all (fc_4k 7)) = true := by decide +kernel
theorem fc_4 : ∀ l : Nat, l < 8 → ((List.range 30).all (fc_4k l)) = true := fun l hl => match l, hl with
  | 0, _ => fc_4_0
  | 1, _ => fc_4_1
  | 2, _ => fc_4_2
  | 3, _ => fc_4_3
  | 4, _ => fc_4_4
  | 5, _ => fc_4_5
  | 6, _ => fc_4_6
  | 7, _ => fc_4_7
theorem fc_4c : ((List.range 30).all fun f => ng_chk [(95, 302 + 34 * f, 335 + 34 * f)] [] [] 299 208 pm_208 104 [(0, 11), (0, 3), (26, 33)] [] (fc_b (fx_k f) (fx_i 2)) [] (fc_z f 8) [] [(104, gq_al (fc_b (fx_k f) (.inl (.inl (1, [(2, 1)])))) (fc_z f 8))] 60) = true := by decide +kernel
-- symbols 2 size, 3 the day
theorem fc_5 : ((List.range 30).all fun f => ng_chk [(95, 302 + 34 * f, 304 + 34 * f), (95, 307 + 34 * f, 307 + 34 * f)] [] [] 299 208 pm_208 104 [(0, 11), (0, 3), (0, 12), sy_full] [] (fc_b (fx_k f) (fx_k 34)) [] [(99, sx_y 1, fx_i 2), mc_o 0 (fx_i 3)] [] [(186, gq_al (fc_b (fx_k f) (fx_k 0)) [mc_o (302 + 34 * f) (fx_i 0), mc_o (307 + 34 * f) (fx_i 2)])] 200) = true := by decide +kernel
-- symbols 2 size, 3 what stands there
noncomputable def fc_6k (k f : Nat) : Bool := ng_chk [(95, 308 + 34 * f + k, 308 + 34 * f + k)] [] [] 299 208 pm_208 186 [(0, 11), (0, 3), (0, 12), (0, 63)] [(1 + (k : Int), [(2, -1)])] (fc_b (fx_k f) (fx_k k)) [] [(99, sx_y 1, fx_i 2), (100, ((k : Int), [(1, 24)]), fx_i 3)] [] [(186, gq_al (fc_b (fx_k f) (fx_k (k + 1))) [mc_o (308 + 34 * f + k) (fx_i 3)])] 100
theorem fc_6_0 : ((List.range 30).all (fc_6k 0)) = true := by decide +kernel
theorem fc_6_1 : ((List.range 30).all (fc_6k 1)) = true := by decide +kernel
theorem fc_6_2 : ((List.range 30).all (fc_6k 2)) = true := by decide +kernel
theorem fc_6_3 : ((List.range 30).all (fc_6k 3)) = true := by decide +kernel
theorem fc_6_4 : ((List.range 30).all (fc_6k 4)) = true := by decide +kernel
theorem fc_6_5 : ((List.range 30).all (fc_6k 5)) = true := by decide +kernel
theorem fc_6_6 : ((List.range 30).all (fc_6k 6)) = true := by decide +kernel
theorem fc_6_7 : ((List.range 30).all (fc_6k 7)) = true := by decide +kernel
theorem fc_6_8 : ((List.range 30).all (fc_6k 8)) = true := by decide +kernel
theorem fc_6_9 : ((List.range 30).all (fc_6k 9)) = true := by decide +kernel
theorem fc_6_10 : ((List.range 30).all (fc_6k 10)) = true := by decide +kernel
theorem fc_6_11 : ((List.range 30).all (fc_6k 11)) = true := by decide +kernel
theorem fc_6 : ∀ k : Nat, k < 12 → ((List.range 30).all (fc_6k k)) = true := fun k hk => match k, hk with
  | 0, _ => fc_6_0
  | 1, _ => fc_6_1
  | 2, _ => fc_6_2
  | 3, _ => fc_6_3
  | 4, _ => fc_6_4
  | 5, _ => fc_6_5
  | 6, _ => fc_6_6
  | 7, _ => fc_6_7
  | 8, _ => fc_6_8
  | 9, _ => fc_6_9
  | 10, _ => fc_6_10
  | 11, _ => fc_6_11
-- symbols 2 size, 3 the flight
theorem fc_7 : ng_chk [(95, 5, 5)] [] [] 299 208 pm_208 186 [(0, 11), (0, 3), (0, 12), (0, 29)] [] (fc_b (fx_i 3) (fx_i 2)) [] [(99, sx_y 1, fx_i 2), mc_o 5 (fx_i 3)] [(mc_any, [mc_o 5 (.inl (.inl (1, [(3, 1)])))], [], [])] [] 100 = true := by decide +kernel
