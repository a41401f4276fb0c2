/-! numbers of sheets, told exactly: the checks -/
-- put: symbols 0 m, 1 r, 2 size (v is 256 m + r, or 65536 m + r)
noncomputable def pn_v (b : Nat) : sx_V := bif Nat.beq b 8 then .inl (.inl (0, [(0, 256), (1, 1)])) else bif Nat.beq b 16 then .inl (.inl (0, [(0, 65536), (1, 1)])) else fx_i 1
noncomputable def pn_iv (b : Nat) : List (Int × Int) := bif Nat.beq b 8 then [(-8388608, 8388608), (-128, 127), (0, 24)] else bif Nat.beq b 16 then [(-32768, 32768), (-32768, 32767), (0, 24)] else [(0, 0), sy_full, (0, 24)]
noncomputable def pn_k (j : Nat) (M : pq_M) (r0 cw cs cn b : Nat) : Bool := (List.range 4).all fun a => (List.range 24).all fun i => ng_chk [(cn, (24 * a + i : Nat), (24 * a + i : Nat))] [] [] 299 j M 0 (pn_iv b) [((i : Int) + 1, [(2, -1)])] (sh_sl r0 (fx_k a) (fx_k i) (pn_v b)) [] [sh_o cw a (fx_k b), sh_o cs a (fx_i 2)] [(sh_x 1, [sh_o cn (24 * a + i : Nat) (fx_i 1)], [], [])] [] 6000
noncomputable def pn_f1 (A : sx_A) (j : Nat) (M : pq_M) (r0 : Nat) : Bool := sh_out.all fun ia => ng_chk A [] [] 299 j M 0 [ia, sy_full, sy_full] [] (sh_sl r0 (fx_i 0) (fx_i 1) (fx_i 2)) [] [] [(sh_x (-1000001), [], [], [])] [] 6000
noncomputable def pn_f2 (A : sx_A) (j : Nat) (M : pq_M) (r0 cw : Nat) : Bool := (List.range 4).all fun a => ng_chk A [] [] 299 j M 0 [sy_full, sy_full] [] (sh_sl r0 (fx_k a) (fx_i 0) (fx_i 1)) [] [sh_o cw a (fx_k 0)] [(sh_x (-1000002), [], [], [])] [] 6000
noncomputable def pn_b : List ((Int × Int) × List sx_F) := [(sh_lo, []), ((0, 2147483647), [(0, [(0, -1), (2, 1)])])]
noncomputable def pn_f3 (A : sx_A) (j : Nat) (M : pq_M) (r0 cw cs : Nat) : Bool := (List.range 4).all fun a => pn_b.all fun z => ng_chk A [] [] 299 j M 0 [z.1, sy_full, (0, 24), (1, 32)] z.2 (sh_sl r0 (fx_k a) (fx_i 0) (fx_i 1)) [] [sh_o cs a (fx_i 2), sh_o cw a (fx_i 3)] [(sh_x (-1000001), [], [], [])] [] 6000
-- sheet, where it is done: symbol 0 n
noncomputable def sz_z (cn a : Nat) : sx_O := (List.range 24).map fun (t : Nat) => sh_o cn (24 * a + t : Nat) (fx_k 0)
noncomputable def sz_k (j : Nat) (M : pq_M) (r0 cw cs cn : Nat) (b : Int) (iv : Int × Int) : Bool := (List.range 4).all fun a => ng_chk [(cw, (a : Int), (a : Int)), (cs, (a : Int), (a : Int)), (cn, (24 * a : Nat), (24 * a + 23 : Nat))] [] [] 299 j M 0 [iv] [] (sh_sl r0 (fx_k a) (fx_k b) (fx_i 0)) [] [] [(sh_x 1, sz_z cn a, [], [])] [] 6000
-- move, where it is done: symbols 0 i, 1 j, 2 n, 3 and 4 sizes, 5 width
noncomputable def mn_C (s : Nat) : List sx_F := [(0, [(0, 1), (2, 1), (3, -1)]), (0, [(1, 1), (2, 1), (s, -1)])]
noncomputable def mn_iv : List (Int × Int) := [(0, 24), (0, 24), (0, 24), (0, 24), (0, 24), (1, 32)]
noncomputable def mn_O (cw cs a o : Nat) : sx_O := bif Nat.beq a o then [sh_o cw a (fx_i 5), sh_o cs a (fx_i 3)] else [sh_o cw a (fx_i 5), sh_o cw o (fx_i 5), sh_o cs a (fx_i 3), sh_o cs o (fx_i 4)]
noncomputable def mn_s (a o : Nat) : Nat := bif Nat.beq a o then 3 else 4
-- the class: up to the copy, and behind it
theorem mnc_1 : ((List.range 4).all fun a => (List.range 4).all fun o => ng_chk [] [] [] 299 145 pm_145 0 mn_iv (mn_C (mn_s a o)) (mv_sl 5 (fx_k a) (fx_i 0) (fx_k o) (fx_i 1) (fx_i 2)) [] (mn_O 90 92 a o) [] [(139, (ng_L [(0, .inr (.inr 5)), (5, fx_i 2)], [fx_i 2, .inl (.inl (24 * (o : Int), [(1, 1)])), .inr (.inr 91), .inl (.inl (24 * (a : Int), [(0, 1)])), .inr (.inr 91)], [], [], []))] 6000) = true := by decide +kernel
theorem mnc_2 : ng_chk [] [] [] 299 145 pm_145 142 [(0, 24)] [] [(0, .inr (.inr 5)), (5, fx_i 0)] [] [] [(.inl (.inl (fx_i 0)), [], [], [])] [] 100 = true := by decide +kernel
-- the reference: two loops
noncomputable def mn_sl (a o k : sx_V) : List (Nat × sx_V) := [(0, .inr (.inr 94)), (1, a), (2, fx_i 0), (3, o), (4, fx_i 1), (5, fx_i 2), (6, k)]
theorem mnm_1 : ((List.range 4).all fun a => (List.range 4).all fun o => ng_chk [] [] [] 299 244 pm_244 0 mn_iv (mn_C (mn_s a o)) (mv_sl 94 (fx_k a) (fx_i 0) (fx_k o) (fx_i 1) (fx_i 2)) [] (mn_O 98 99 a o) [] [(127, (ng_L (mn_sl (fx_k a) (fx_k o) (fx_k 0)), [], [], [], []))] 6000) = true := by decide +kernel
-- symbols 0 i, 1 j, 2 n, 3 the number, 4 the other sheet
theorem mnm_2 : ((List.range 4).all fun a => (List.range 24).all fun k => ng_chk [(113, (k : Int), (k : Int))] [] [] 299 244 pm_244 127 [(0, 24), (0, 24), (0, 24), sy_full, (0, 3)] [((k : Int) + 1, [(2, -1)]), (-24, [(0, 1), (2, 1)]), ((k : Int) - 23, [(0, 1)])] (mn_sl (fx_k a) (fx_i 4) (fx_k k)) [] [(100, ((24 * a + k : Nat), [(0, 1)]), fx_i 3)] [] [(127, (ng_L (mn_sl (fx_k a) (fx_i 4) (fx_k (k + 1))), [], [sh_o 113 k (fx_i 3)], [], []))] 300) = true := by decide +kernel
theorem mnm_3 : ng_chk [] [] [] 299 244 pm_244 127 [(0, 24), (0, 24), (0, 24), (0, 3), (0, 3)] [] (mn_sl (fx_i 3) (fx_i 4) (fx_i 2)) [] [] [] [(164, (ng_L (mn_sl (fx_i 3) (fx_i 4) (fx_k 0)), [], [], [], []))] 300 = true := by decide +kernel
-- symbols 0 i, 1 j, 2 n, 3 the number, 4 the first sheet, 5 k
theorem mnm_4 : ((List.range 4).all fun o => (List.range 24).all fun t => ng_chk [(100, (24 * o + t : Nat), (24 * o + t : Nat))] [] [] 299 244 pm_244 164 [(0, 24), (0, 24), (0, 24), sy_full, (0, 3), (0, 23)] [(1, [(2, -1), (5, 1)]), (-(t : Int), [(1, 1), (5, 1)]), ((t : Int), [(1, -1), (5, -1)])] (mn_sl (fx_i 4) (fx_k o) (fx_i 5)) [] [(113, sx_y 5, fx_i 3)] [] [(164, (ng_L (mn_sl (fx_i 4) (fx_k o) (.inl (.inl (1, [(5, 1)])))), [], [(100, (24 * (o : Int), [(1, 1), (5, 1)]), fx_i 3)], [], []))] 300) = true := by decide +kernel
theorem mnm_5 : ng_chk [] [] [] 299 244 pm_244 164 [(0, 24), (0, 24), (0, 24), (0, 3), (0, 3)] [] (mn_sl (fx_i 3) (fx_i 4) (fx_i 2)) [] [] [(.inl (.inl (fx_i 2)), [], [], [])] [] 300 = true := by decide +kernel
theorem pnc_8 : pn_k 142 pm_142 5 90 92 91 8 = true := by decide +kernel
theorem pnc_16 : pn_k 142 pm_142 5 90 92 91 16 = true := by decide +kernel
theorem pnc_32 : pn_k 142 pm_142 5 90 92 91 32 = true := by decide +kernel
theorem pnc_f1 : pn_f1 [(93, 0, 100000)] 142 pm_142 5 = true := by decide +kernel
theorem pnc_f2 : pn_f2 [(93, 0, 100000)] 142 pm_142 5 90 = true := by decide +kernel
theorem pnc_f3 : pn_f3 [(93, 0, 100000)] 142 pm_142 5 90 92 = true := by decide +kernel
theorem pnm_8 : pn_k 243 pm_243 94 98 99 100 8 = true := by decide +kernel
theorem pnm_16 : pn_k 243 pm_243 94 98 99 100 16 = true := by decide +kernel
theorem pnm_32 : pn_k 243 pm_243 94 98 99 100 32 = true := by decide +kernel
theorem pnm_f1 : pn_f1 [(97, 0, 5)] 243 pm_243 94 = true := by decide +kernel
theorem pnm_f2 : pn_f2 [(97, 0, 5)] 243 pm_243 94 98 = true := by decide +kernel
theorem pnm_f3 : pn_f3 [(97, 0, 5)] 243 pm_243 94 98 99 = true := by decide +kernel
theorem szc_0 : sz_k 139 pm_139 5 90 92 91 0 sy_full = true := by decide +kernel
theorem szc_8 : sz_k 139 pm_139 5 90 92 91 8 (0, 24) = true := by decide +kernel
theorem szc_16 : sz_k 139 pm_139 5 90 92 91 16 (0, 24) = true := by decide +kernel
theorem szc_32 : sz_k 139 pm_139 5 90 92 91 32 (0, 24) = true := by decide +kernel
theorem szm_0 : sz_k 241 pm_241 94 98 99 100 0 sy_full = true := by decide +kernel
theorem szm_8 : sz_k 241 pm_241 94 98 99 100 8 (0, 24) = true := by decide +kernel
theorem szm_16 : sz_k 241 pm_241 94 98 99 100 16 (0, 24) = true := by decide +kernel
theorem szm_32 : sz_k 241 pm_241 94 98 99 100 32 (0, 24) = true := by decide +kernel
