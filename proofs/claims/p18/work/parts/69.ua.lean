/-! cell and block, told exactly: the checks -/
-- cell: symbols 0 land, 1 the land ahead
noncomputable def cl_re (cr ci : Nat) : List ng_Ae := [(gd_b, [sh_o cr ci (fx_i 1)], [(2, [(0, 1)])], []), (gd_b, [sh_o cr ci (fx_i 1)], [(8, [(0, -1)])], []), (.inl (.inl (fx_i 1)), [sh_o cr ci (fx_i 0)], [(-1, [(0, -1)]), (-7, [(0, 1)])], [])]
noncomputable def cl_k1 (A : sx_A) (j : Nat) (M : pq_M) (r0 : Nat) : Bool := su_o.all fun ic => ng_chk A [] [] 299 j M 0 [ic, sy_full] [] (as_sl r0 (fx_i 0) (fx_i 1)) [] [] [(gd_b, [], [], [])] [] 300
noncomputable def cl_k2 (ce j : Nat) (M : pq_M) (r0 cr b : Nat) : Bool := (List.range 64).all fun c => ng_chk [(ce, 0, 100000), (cr, (b + c : Nat), (b + c : Nat))] [] [] 299 j M 0 [sy_full, sy_full] [] (as_sl r0 (fx_k c) (fx_i 0)) [] [sh_o cr (b + c : Nat) (fx_i 1)] (cl_re cr (b + c)) [] 300
theorem clc_1 : cl_k1 [(93, 0, 100000)] 12 pm_12 5 = true := by decide +kernel
theorem clm_1 : cl_k1 [(97, 0, 100000)] 159 pm_159 94 = true := by decide +kernel
theorem clc_2 : cl_k2 93 12 pm_12 5 7 0 = true := by decide +kernel
theorem clm_2 : cl_k2 97 159 pm_159 94 95 10 = true := by decide +kernel
-- block: symbols 0 sheet, 1 from, 2 n, 3 i, 4 a number
noncomputable def bk_s (r0 : Nat) (i : sx_V) : List (Nat × sx_V) := [(0, .inr (.inr r0)), (1, fx_i 0), (2, fx_i 1), (3, fx_i 2), (4, i)]
noncomputable def bk_p (r : Nat) (k : sx_F) (v : sx_V) : Nat × sx_F × sx_V := (r, k, v)
noncomputable def bk_at : sx_F := (0, [(0, 24), (3, 1)])
noncomputable def bk_a (A : sx_A) (j : Nat) (M : pq_M) (r0 : Nat) : Bool := (sh_out.all fun ia => ng_chk A [] [] 299 j M 0 [ia, sy_full] [] (as_sl r0 (fx_i 0) (fx_i 1)) [] [] [(gd_b, [], [], [])] [] 300) && su_o.all fun ic => ng_chk A [] [] 299 j M 0 [(0, 3), ic] [] (as_sl r0 (fx_i 0) (fx_i 1)) [] [] [(gd_b, [], [], [])] [] 300
noncomputable def bk_c (A : sx_A) (j : Nat) (M : pq_M) (r0 cw : Nat) : Bool := ng_chk A [] [] 299 j M 0 [(0, 3), (0, 63)] [] (as_sl r0 (fx_i 0) (fx_i 1)) [] [bk_p cw (sx_y 0) (fx_k 0)] [(sh_x (-1000002), [], [], [])] [] 300
noncomputable def bk_d (A : sx_A) (j : Nat) (M : pq_M) (r0 cw cs : Nat) : Bool := ng_chk A [] [] 299 j M 0 [(0, 3), (0, 63), (0, 24), (1, 32)] [(65, [(1, -1), (2, -1)])] (as_sl r0 (fx_i 0) (fx_i 1)) [] [bk_p cw (sx_y 0) (fx_i 3), bk_p cs (sx_y 0) (fx_i 2)] [(sh_x (-1000003), [], [], [])] [] 300
noncomputable def bk_e (j : Nat) (M : pq_M) (r0 cw cs h1 : Nat) : Bool := ng_chk [] [] [] 299 j M 0 [(0, 3), (0, 63), (0, 24), (1, 32)] [(-64, [(1, 1), (2, 1)])] (as_sl r0 (fx_i 0) (fx_i 1)) [] [bk_p cw (sx_y 0) (fx_i 3), bk_p cs (sx_y 0) (fx_i 2)] [] [(h1, (ng_L (bk_s r0 (fx_k 0)), [], [], [], []))] 300
noncomputable def bk_iv (v : Int × Int) : List (Int × Int) := [(0, 3), (0, 63), (0, 24), (0, 23), v]
noncomputable def bk_1 (j : Nat) (M : pq_M) (r0 cn h1 : Nat) : Bool := ng_chk [] [] [] 299 j M h1 (bk_iv (-1, 7)) [(1, [(2, -1), (3, 1)])] (bk_s r0 (fx_i 3)) [] [bk_p cn bk_at (fx_i 4)] [] [(h1, (ng_L (bk_s r0 (.inl (.inl (1, [(3, 1)])))), [], [], [], []))] 300
noncomputable def bk_k (A : sx_A) (j : Nat) (M : pq_M) (r0 cn h1 : Nat) : Bool := [(-2147483648, -2), ((8 : Int), 2147483647)].all fun v => ng_chk A [] [] 299 j M h1 (bk_iv v) [(1, [(2, -1), (3, 1)])] (bk_s r0 (fx_i 3)) [] [bk_p cn bk_at (fx_i 4)] [(sh_x (-1000005), [], [], [])] [] 300
noncomputable def bk_2 (j : Nat) (M : pq_M) (r0 h1 h2 : Nat) : Bool := ng_chk [] [] [] 299 j M h1 [(0, 3), (0, 63), (0, 24)] [] (bk_s r0 (fx_i 2)) [] [] [] [(h2, (ng_L (bk_s r0 (fx_k 0)), [], [], [], []))] 300
noncomputable def bk_3 (j : Nat) (M : pq_M) (r0 cn co bo h2 : Nat) : Bool := (List.range 64).all fun c => ng_chk [(co, (bo + c : Nat), (bo + c : Nat))] [] [] 299 j M h2 (bk_iv (-1, 7)) [(1, [(2, -1), (3, 1)]), (-(c : Int), [(1, 1), (3, 1)]), ((c : Int), [(1, -1), (3, -1)])] (bk_s r0 (fx_i 3)) [] [bk_p cn bk_at (fx_i 4)] [] [(h2, (ng_L (bk_s r0 (.inl (.inl (1, [(3, 1)])))), [], [bk_p co ((bo : Int), [(1, 1), (3, 1)]) (fx_i 4)], [], []))] 300
noncomputable def bk_4 (j : Nat) (M : pq_M) (r0 h2 : Nat) : Bool := ng_chk [] [] [] 299 j M h2 [(0, 3), (0, 63), (0, 24)] [] (bk_s r0 (fx_i 2)) [] [] [(.inl (.inl (fx_i 2)), [], [], [])] [] 300
theorem bkc_a : bk_a [(93, 0, 100000)] 17 pm_17 5 = true := by decide +kernel
theorem bkc_c : bk_c [(93, 0, 100000)] 17 pm_17 5 90 = true := by decide +kernel
theorem bkc_d : bk_d [(93, 0, 100000)] 17 pm_17 5 90 92 = true := by decide +kernel
theorem bkc_e : bk_e 17 pm_17 5 90 92 63 = true := by decide +kernel
theorem bkc_1 : bk_1 17 pm_17 5 91 63 = true := by decide +kernel
theorem bkc_k : bk_k [(93, 0, 100000)] 17 pm_17 5 91 63 = true := by decide +kernel
theorem bkc_2 : bk_2 17 pm_17 5 63 100 = true := by decide +kernel
theorem bkc_3 : bk_3 17 pm_17 5 91 7 0 100 = true := by decide +kernel
theorem bkc_4 : bk_4 17 pm_17 5 100 = true := by decide +kernel
theorem bkm_a : bk_a [(97, 0, 5)] 163 pm_163 94 = true := by decide +kernel
theorem bkm_c : bk_c [(97, 0, 5)] 163 pm_163 94 98 = true := by decide +kernel
theorem bkm_d : bk_d [(97, 0, 5)] 163 pm_163 94 98 99 = true := by decide +kernel
theorem bkm_e : bk_e 163 pm_163 94 98 99 62 = true := by decide +kernel
theorem bkm_1 : bk_1 163 pm_163 94 100 62 = true := by decide +kernel
theorem bkm_k : bk_k [(97, 0, 5)] 163 pm_163 94 100 62 = true := by decide +kernel
theorem bkm_2 : bk_2 163 pm_163 94 62 109 = true := by decide +kernel
theorem bkm_3 : bk_3 163 pm_163 94 100 95 10 109 = true := by decide +kernel
theorem bkm_4 : bk_4 163 pm_163 94 109 = true := by decide +kernel
