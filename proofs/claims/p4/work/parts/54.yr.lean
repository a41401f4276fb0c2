/-! go and the year's end -/
theorem go_bin {k : Nat} {M : pq_M} {pc cs ss pc0 nx t : Nat} {ls : pq_L} {st : List Value} {w : pq_W} {res : pq_R} {i : Instr} {a : List Nat} {v x y z : Value} (hq : pq_look (pq_cd M) pc = some (pc0, 8, nx, i, a, v, t)) (hz : pq_bin i x y = some z) (g : pq_Go k M nx ls (z :: st) w cs ss res) : pq_Go k M pc ls (y :: x :: st) w cs ss res := by
  refine go_seg 1 g (fun call f => ?_)
  rw [pq_exec_s, hq]
  show (match pq_bin i x y with
    | some z => _
    | none => none) = _
  rw [hz]
theorem go_dv {x y : Int32} (hx : 0 ≤ x.toInt) (hy : 0 < y.toInt) : (x / y).toInt = x.toInt / y.toInt := by
  have rx := sx_i32 x
  obtain ⟨t1, t2, t3, t4, t5⟩ := @sx_tdb x.toInt y.toInt hy sx_b31 (by decide) rx.1 rx.2
  rw [Int32.toInt_div, sx_bm32 t1 t2, Int.tdiv_eq_ediv_of_nonneg hx]
theorem go_rm {x y : Int32} (hx : 0 ≤ x.toInt) (hy : 0 < y.toInt) : (x - x / y * y).toInt = x.toInt % y.toInt := by
  have rx := sx_i32 x
  obtain ⟨t1, t2, t3, t4, t5⟩ := @sx_tdb x.toInt y.toInt hy sx_b31 (by decide) rx.1 rx.2
  have e1 : (x / y).toInt = x.toInt.tdiv y.toInt := by rw [Int32.toInt_div, sx_bm32 t1 t2]
  have h1 : x.toInt.tmod y.toInt = x.toInt % y.toInt := Int.tmod_eq_emod_of_nonneg hx
  have h2 := Int.emod_nonneg x.toInt (show y.toInt ≠ 0 by omega)
  have h3 := Int.emod_lt_of_pos x.toInt hy
  have h4 := sx_i32 y
  rw [Int32.toInt_sub, Int32.toInt_mul, e1, sx_bm32 t3 t4, t5, h1]
  exact sx_bm32 (by unfold sx_b31 at *; omega) (by unfold sx_b31 at *; omega)
noncomputable def yc_b (a : sx_V) : List (Nat × sx_V) := [(0, fx_r), (1, a)]
theorem yc_0 : ng_chk [] [] [] 9 229 pm_229 0 [] [] [(0, fx_r)] [] [] [] [(2, gq_al (yc_b (fx_k 0)) [])] 60 = true := by decide +kernel
-- symbols 0 airline, 1 how many
theorem yc_1 : ng_chk [] [] [] 9 229 pm_229 2 [(0, 7), (0, 8)] [(1, [(0, 1), (1, -1)])] (yc_b (fx_i 0)) [] [mc_o 2 (fx_i 1)] [] [(14, gq_al (yc_b (fx_i 0) ++ [(2, fx_k 0)]) [])] 60 = true := by decide +kernel
theorem yc_2 : ng_chk [] [] [] 9 229 pm_229 2 [(0, 8)] [] (yc_b (fx_i 0)) [] [mc_o 2 (fx_i 0)] [] [(64, gq_al (yc_b (fx_k 0)) [])] 60 = true := by decide +kernel
-- symbols 0 airline, 1 land, 2 debt
theorem yc_3 : ng_chk [] [] [] 9 229 pm_229 14 [(0, 7), (0, 7), mc_d] [] (yc_b (fx_i 0) ++ [(2, fx_i 1)]) [] [(95, (188, [(0, 10), (1, 1)]), fx_i 2)] [] [(47, (ng_L (yc_b (fx_i 0) ++ [(2, fx_i 1)]), [fx_k 20, fx_i 2, fx_i 2, .inl (.inl (188, [(0, 10), (1, 1)])), .inr (.inr 95)], [], [], []))] 100 = true := by decide +kernel
theorem yc_4 : ng_chk [] [] [] 9 229 pm_229 14 [(0, 7)] [] (yc_b (fx_i 0) ++ [(2, fx_k 8)]) [] [] [] [(2, gq_al (yc_b (.inl (.inl (1, [(0, 1)])))) [])] 60 = true := by decide +kernel
-- symbols 0 debt, 1 what comes to it
theorem yc_5 : ((List.range 8).all fun a => (List.range 8).all fun l => ng_chk [(95, 188 + 10 * a + l, 188 + 10 * a + l)] [] [] 9 229 pm_229 48 [mc_d, (0, 7149535)] [] (yc_b (fx_k a) ++ [(2, fx_k l)]) [fx_i 1, fx_i 0, fx_k (188 + 10 * a + l), .inr (.inr 95)] [] [] [(14, gq_al (yc_b (fx_k a) ++ [(2, fx_k (l + 1))]) [mc_o (188 + 10 * a + l) (.inl (.inl (0, [(0, 1), (1, 1)])))])] 60) = true := by decide +kernel
theorem yc_6 : ng_chk [(95, 138, 185)] [] [(229, [(64, ([(1, false, 0, 8)], [], true, [2, 3, 4, 5], 1, true))])] 9 229 pm_229 64 [] [] (yc_b (fx_k 0)) [] [] [(.inr (), [], [], [])] [] 3000 = true := by decide +kernel
-- go: symbols 0 n, 1 the day
noncomputable def gd_b : (sx_V ⊕ (Int × Int)) ⊕ Unit := .inl (.inl (fx_k (-1000001)))
theorem yc_7 : ng_chk [(97, 0, 5)] [] [] 299 228 pm_228 0 [sy_full, (0, 3000)] [] [(0, fx_r), (1, fx_i 0)] [] [mc_o 0 (fx_i 1)] [(gd_b, [], [(0, [(0, 1)])], []), (gd_b, [], [(201, [(0, -1)])], []), (gd_b, [], [(3001, [(0, -1), (1, -1)])], [])] [(35, (ng_L [(0, fx_r), (1, fx_i 0), (2, fx_k 0)], [], [], [(1, [(0, -1)]), (-200, [(0, 1)]), (-3000, [(0, 1), (1, 1)])], []))] 200 = true := by decide +kernel
-- symbols 0 n, 1 k, 2 the day
theorem yc_8 : ng_chk [(95, 0, 0)] [] [] 299 228 pm_228 35 [(1, 200), (0, 199), (0, 2999)] [(1, [(0, -1), (1, 1)])] [(0, fx_r), (1, fx_i 0), (2, fx_i 1)] [] [mc_o 0 (fx_i 2)] [] [(58, (ng_L [(0, fx_r), (1, fx_i 0), (2, fx_i 1)], [fx_k 100, .inl (.inl (1, [(2, 1)]))], [mc_o 0 (.inl (.inl (1, [(2, 1)])))], [], []))] 100 = true := by decide +kernel
theorem yc_9 : ng_chk [] [] [] 299 228 pm_228 35 [(1, 200), (0, 3000)] [] [(0, fx_r), (1, fx_i 0), (2, fx_i 0)] [] [mc_o 0 (fx_i 1)] [(.inl (.inl (fx_i 1)), [], [], [])] [] 100 = true := by decide +kernel
theorem yc_a : ng_chk [] [] [] 299 228 pm_228 66 [(1, 200), (0, 199)] [] [(0, fx_r), (1, fx_i 0), (2, fx_i 1)] [] [] [] [(35, (ng_L [(0, fx_r), (1, fx_i 0), (2, .inl (.inl (1, [(1, 1)])))], [], [], [], []))] 100 = true := by decide +kernel
theorem yc_b2 : ng_chk [] [] [] 299 228 pm_228 62 [(1, 200), (0, 199)] [] [(0, fx_r), (1, fx_i 0), (2, fx_i 1)] [] [] [] [(63, (ng_L [(0, fx_r), (1, fx_i 0), (2, fx_i 1)], [fx_r], [], [], []))] 100 = true := by decide +kernel
