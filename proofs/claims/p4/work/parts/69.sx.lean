/-! go, airline, shut, told exactly: the checks -/
/-- places that both sides hold alike: the class's cell, its place, the reference's place -/
noncomputable def nq_M1 : List (Nat × Nat × Nat) := (6, 8, 0) :: (15, 0, 2) :: (List.range 64).map fun i => (8, i, 74 + i)
noncomputable def nq_M2 : List (Nat × Nat × Nat) := (15, 4, 3) :: ((List.range 8).map (fun l => (9, l, 138 + 6 * l)) ++ ((List.range 8).map (fun a => (17, a, 187 + 10 * a)) ++ ((List.range 12).map (fun p => (19, p, 266 + 3 * p)) ++ ((List.range 12).map (fun p => (20, p, 267 + 3 * p)) ++ (List.range 12).map (fun p => (21, p, 268 + 3 * p))))))
noncomputable def nq_M : List (Nat × Nat × Nat) := nq_M1 ++ nq_M2
noncomputable def nq_b (c n : Nat) : Int × Int := match sx_T0[c]? with
  | some (.inl (_, fs)) => (match fs[n]? with
    | some (.inl ab) => ab
    | _ => sy_full)
  | _ => sy_full
noncomputable def nq_iv (d : Nat) (l : List (Nat × Nat × Nat)) : List (Int × Int) := l.map fun q => nq_b (q.1 + d) q.2.1
noncomputable def nq_O (d : Nat) : Nat → List (Nat × Nat × Nat) → sx_O
  | _, [] => []
  | k, q :: l => sh_o (q.1 + d) (q.2.1 : Int) (fx_i k) :: nq_O d (k + 1) l
noncomputable def nq_i (l : List (Nat × Nat × Nat)) : Bool := ng_chk ci_A [] [] 299 147 pm_147 0 ((0, 100000) :: nq_iv 0 l) [] [(0, .inr (.inr 5))] [] (sh_o 5 15 (fx_i 0) :: nq_O 0 1 l) [(mc_any, nq_O 34 1 l, [], [])] [] 2000
noncomputable def nq_r (l : List (Nat × Nat × Nat)) : Bool := ng_chk ci_N [] [] 299 152 pm_152 0 ((1, 100000) :: nq_iv 34 l) [] [(0, .inr (.inr 5))] [] (sh_o 5 15 (fx_i 0) :: nq_O 34 1 l) [(mc_any, nq_O 0 1 l, [], [])] [] 2000
theorem nq_i1 : nq_i nq_M1 = true := by decide +kernel
theorem nq_r1 : nq_r nq_M1 = true := by decide +kernel
theorem nq_i2 : nq_i nq_M2 = true := by decide +kernel
theorem nq_r2 : nq_r nq_M2 = true := by decide +kernel
noncomputable def gx_N : sh_AN := [(118, [(2, ([(1, false, 0, 3000)], [(18, none)], false, [], 1, true))]), (119, [(2, ([(1, false, 0, 8)], [(11, none), (12, none), (13, none)], false, [], 1, true))])]
noncomputable def gx_A : sx_A := [(93, 0, 100000), (6, 8, 8), (11, 0, 100000), (12, 0, 100000), (13, 0, 100000), (18, 0, 100000)]
noncomputable def gx_sl (n i : sx_V) : List (Nat × sx_V) := [(0, .inr (.inr 5)), (1, n), (2, i)]
-- the class's go: symbols 0 n, 1 the day
theorem gx_1 : ng_chk [(93, 0, 100000)] [] gx_N 299 117 pm_117 0 [sy_full, (0, 3000)] [] [(0, .inr (.inr 5)), (1, fx_i 0)] [] [sh_o 6 8 (fx_i 1)] [(gd_b, [], [(0, [(0, 1)])], []), (gd_b, [], [(201, [(0, -1)])], []), (gd_b, [], [(3001, [(0, -1), (1, -1)])], [])] [(34, (ng_L (gx_sl (fx_i 0) (fx_k 0)), [], [], [(1, [(0, -1)]), (-200, [(0, 1)]), (-3000, [(0, 1), (1, 1)])], []))] 300 = true := by decide +kernel
-- symbols 0 n, 1 i, 2 the day
theorem gx_2 : ng_chk gx_A [] gx_N 299 117 pm_117 34 [(1, 200), (0, 199), (0, 2999)] [(1, [(0, -1), (1, 1)])] (gx_sl (fx_i 0) (fx_i 1)) [] [sh_o 6 8 (fx_i 2)] [] [(34, (ng_L (gx_sl (fx_i 0) (.inl (.inl (1, [(1, 1)])))), [], [sh_o 6 8 (.inl (.inl (1, [(2, 1)])))], [], []))] 3000 = true := by decide +kernel
theorem gx_3 : ng_chk [] [] gx_N 299 117 pm_117 34 [(1, 200), (0, 3000)] [] (gx_sl (fx_i 0) (fx_i 0)) [] [sh_o 6 8 (fx_i 1)] [(.inl (.inl (fx_i 1)), [], [], [])] [] 300 = true := by decide +kernel
-- airline: symbol 0 coin; n airlines
noncomputable def ai_re (cr ci : Nat) (n : Nat) : List ng_Ae := [(gd_b, [sh_o cr ci (fx_k n)], [(1, [(0, 1)])], []), (gd_b, [sh_o cr ci (fx_k n)], [(1000000, [(0, -1)])], []), (sh_x (bif Nat.beq n 8 then -1000004 else n), [sh_o cr ci (fx_k (bif Nat.beq n 8 then 8 else n + 1))], [(0, [(0, -1)]), (-999999, [(0, 1)])], [])]
noncomputable def ai_k (A : sx_A) (j : Nat) (M : pq_M) (r0 cr ci : Nat) : Bool := (List.range 9).all fun n => ng_chk A [] [] 299 j M 0 [sy_full] [] [(0, .inr (.inr r0)), (1, fx_i 0)] [] [sh_o cr ci (fx_k n)] (ai_re cr ci n) [] 1000
noncomputable def ai_Ac : sx_A := [(93, 0, 100000), (15, 0, 0), (16, 0, 100000), (17, 0, 100000), (18, 0, 100000)]
noncomputable def ai_Am : sx_A := [(97, 0, 5), (95, 2, 2), (95, 186, 265)]
theorem aic : ai_k ai_Ac 29 pm_29 5 15 0 = true := by decide +kernel
theorem aim : ai_k ai_Am 173 pm_173 94 95 2 = true := by decide +kernel
-- shut: cell c, as it is and as it shall be
noncomputable def su_o : List (Int × Int) := [sh_lo, (64, 2147483647)]
noncomputable def su_k1 (ce j : Nat) (M : pq_M) (r0 : Nat) : Bool := su_o.all fun ic => ng_chk [(ce, 0, 100000)] [] [] 299 j M 0 [ic, (0, 1)] [] [(0, .inr (.inr r0)), (1, fx_i 0), (2, fx_i 1)] [] [] [(gd_b, [], [], [])] [] 300
noncomputable def su_k2 (j : Nat) (M : pq_M) (r0 cr b : Nat) (v y : Int) : Bool := (List.range 64).all fun c => ng_chk [(cr, (b + c : Nat), (b + c : Nat))] [] [] 299 j M 0 [] [] [(0, .inr (.inr r0)), (1, fx_k c), (2, fx_k v)] [] [sh_o cr (b + c : Nat) (fx_k y)] [(sh_x (bif sx_ieq v y then 0 else 1), [sh_o cr (b + c : Nat) (fx_k v)], [], [])] [] 300
theorem suc_o : su_k1 93 22 pm_22 5 = true := by decide +kernel
theorem sum_o : su_k1 97 165 pm_165 94 = true := by decide +kernel
theorem suc_00 : su_k2 22 pm_22 5 8 0 0 0 = true := by decide +kernel
theorem suc_01 : su_k2 22 pm_22 5 8 0 0 1 = true := by decide +kernel
theorem suc_10 : su_k2 22 pm_22 5 8 0 1 0 = true := by decide +kernel
theorem suc_11 : su_k2 22 pm_22 5 8 0 1 1 = true := by decide +kernel
theorem suc_a {v y : Int} (hv : v = 0 ∨ v = 1) (hy : y = 0 ∨ y = 1) : su_k2 22 pm_22 5 8 0 v y = true := by
  rcases hv with rfl | rfl <;> rcases hy with rfl | rfl
  · exact suc_00
  · exact suc_01
  · exact suc_10
  · exact suc_11
theorem sum_00 : su_k2 165 pm_165 94 95 74 0 0 = true := by decide +kernel
theorem sum_01 : su_k2 165 pm_165 94 95 74 0 1 = true := by decide +kernel
theorem sum_10 : su_k2 165 pm_165 94 95 74 1 0 = true := by decide +kernel
theorem sum_11 : su_k2 165 pm_165 94 95 74 1 1 = true := by decide +kernel
theorem sum_a {v y : Int} (hv : v = 0 ∨ v = 1) (hy : y = 0 ∨ y = 1) : su_k2 165 pm_165 94 95 74 v y = true := by
  rcases hv with rfl | rfl <;> rcases hy with rfl | rfl
  · exact sum_00
  · exact sum_01
  · exact sum_10
  · exact sum_11
