/-! sheet, put and move of both sides, told exactly: the checks -/
noncomputable def sh_o (r : Nat) (i : Int) (v : sx_V) : Nat × sx_F × sx_V := (r, (i, []), v)
noncomputable def sh_x (x : Int) : (sx_V ⊕ (Int × Int)) ⊕ Unit := .inl (.inl (fx_k x))
noncomputable def sh_lo : Int × Int := (-2147483648, -1)
noncomputable def sh_out : List (Int × Int) := [sh_lo, (4, 2147483647)]
noncomputable def sh_bad : List (Int × Int) := [sh_lo, (1, 7), (9, 15), (17, 31), (33, 2147483647)]
noncomputable def sh_wid : List Int := [8, 16, 32]
abbrev sh_AN : Type := List (Nat × List (Nat × sx_an))
noncomputable def sh_A1 (ce : Nat) : sx_A := [(ce, 0, 100000)]
noncomputable def sh_A2 (cw cs cn : Nat) (a : Nat) : sx_A := [(cw, (a : Int), (a : Int)), (cs, (a : Int), (a : Int)), (cn, 0, 100000)]
noncomputable def sh_sl (r0 : Nat) (a b n : sx_V) : List (Nat × sx_V) := [(0, .inr (.inr r0)), (1, a), (2, b), (3, n)]
noncomputable def sh_k1 (AN : sh_AN) (j : Nat) (M : pq_M) (r0 ce : Nat) : Bool := sh_out.all fun ia => ng_chk (sh_A1 ce) [] AN 299 j M 0 [ia, sy_full, sy_full] [] (sh_sl r0 (fx_i 0) (fx_i 1) (fx_i 2)) [] [] [(sh_x (-1000001), [], [], [])] [] 6000
noncomputable def sh_k2 (AN : sh_AN) (j : Nat) (M : pq_M) (r0 ce : Nat) : Bool := (List.range 4).all fun a => sh_bad.all fun ib => ng_chk (sh_A1 ce) [] AN 299 j M 0 [ib, sy_full] [] (sh_sl r0 (fx_k a) (fx_i 0) (fx_i 1)) [] [] [(sh_x (-1000001), [], [], [])] [] 6000
noncomputable def sh_k3 (AN : sh_AN) (j : Nat) (M : pq_M) (r0 cw cs cn : Nat) : Bool := (List.range 4).all fun a => ng_chk (sh_A2 cw cs cn a) [] AN 299 j M 0 [sy_full] [] (sh_sl r0 (fx_k a) (fx_k 0) (fx_i 0)) [] [] [(sh_x 1, [sh_o cw a (fx_k 0), sh_o cs a (fx_k 0)], [], [])] [] 6000
noncomputable def sh_k4 (AN : sh_AN) (j : Nat) (M : pq_M) (r0 ce : Nat) : Bool := (List.range 4).all fun a => sh_wid.all fun b => ng_chk (sh_A1 ce) [] AN 299 j M 0 [sh_lo] [] (sh_sl r0 (fx_k a) (fx_k b) (fx_i 0)) [] [] [(sh_x (-1000003), [], [], [])] [] 6000
noncomputable def sh_k5 (AN : sh_AN) (j : Nat) (M : pq_M) (r0 ce : Nat) : Bool := (List.range 4).all fun a => sh_wid.all fun b => ng_chk (sh_A1 ce) [] AN 299 j M 0 [(25, 2147483647)] [] (sh_sl r0 (fx_k a) (fx_k b) (fx_i 0)) [] [] [(sh_x (-1000001), [], [], [])] [] 6000
noncomputable def sh_k6 (AN : sh_AN) (j : Nat) (M : pq_M) (r0 cw cs cn : Nat) : Bool := (List.range 4).all fun a => sh_wid.all fun b => ng_chk (sh_A2 cw cs cn a) [] AN 299 j M 0 [(0, 24)] [] (sh_sl r0 (fx_k a) (fx_k b) (fx_i 0)) [] [] [(sh_x 1, [sh_o cw a (fx_k b), sh_o cs a (fx_i 0)], [], [])] [] 6000
noncomputable def sh_Nc : sh_AN := [(58, [(10, ([(4, false, 0, 3000)], [(91, none)], false, [], 4, true))])]
noncomputable def sh_Nm : sh_AN := [(241, [(82, ([(4, false, 0, 24)], [(100, none)], false, [], 4, true))])]
noncomputable def sh_Nv : sh_AN := [(244, [(127, ([(6, false, 0, 3000)], [], true, [], 6, true)), (164, ([(6, false, 0, 3000)], [], true, [], 6, true))])]
theorem shc_1 : sh_k1 sh_Nc 139 pm_139 5 93 = true := by decide +kernel
theorem shc_2 : sh_k2 sh_Nc 139 pm_139 5 93 = true := by decide +kernel
theorem shc_3 : sh_k3 sh_Nc 139 pm_139 5 90 92 91 = true := by decide +kernel
theorem shc_4 : sh_k4 sh_Nc 139 pm_139 5 93 = true := by decide +kernel
theorem shc_5 : sh_k5 sh_Nc 139 pm_139 5 93 = true := by decide +kernel
theorem shc_6 : sh_k6 sh_Nc 139 pm_139 5 90 92 91 = true := by decide +kernel
theorem shm_1 : sh_k1 sh_Nm 241 pm_241 94 97 = true := by decide +kernel
theorem shm_2 : sh_k2 sh_Nm 241 pm_241 94 97 = true := by decide +kernel
theorem shm_3 : sh_k3 sh_Nm 241 pm_241 94 98 99 100 = true := by decide +kernel
theorem shm_4 : sh_k4 sh_Nm 241 pm_241 94 97 = true := by decide +kernel
theorem shm_5 : sh_k5 sh_Nm 241 pm_241 94 97 = true := by decide +kernel
theorem shm_6 : sh_k6 sh_Nm 241 pm_241 94 98 99 100 = true := by decide +kernel
-- put: symbols 0 i, 1 v, 2 size, 3 width
noncomputable def pu_A (ce cn : Nat) : sx_A := [(ce, 0, 100000), (cn, 0, 100000)]
noncomputable def pu_re : List ng_Ae := [(sh_x (-1000001), [], [(1, [(0, 1)])], []), (sh_x (-1000001), [], [(0, [(0, -1), (2, 1)])], []), (sh_x 1, [], [(0, [(0, -1)]), (1, [(0, 1), (2, -1)])], [])]
noncomputable def pu_k1 (j : Nat) (M : pq_M) (r0 ce cn : Nat) : Bool := sh_out.all fun ia => ng_chk (pu_A ce cn) [] [] 299 j M 0 [ia, sy_full, sy_full] [] (sh_sl r0 (fx_i 0) (fx_i 1) (fx_i 2)) [] [] [(sh_x (-1000001), [], [], [])] [] 6000
noncomputable def pu_k2 (j : Nat) (M : pq_M) (r0 cw ce cn : Nat) : Bool := (List.range 4).all fun a => ng_chk (pu_A ce cn) [] [] 299 j M 0 [sy_full, sy_full] [] (sh_sl r0 (fx_k a) (fx_i 0) (fx_i 1)) [] [sh_o cw a (fx_k 0)] [(sh_x (-1000002), [], [], [])] [] 6000
noncomputable def pu_k3 (j : Nat) (M : pq_M) (r0 cw cs ce cn : Nat) : Bool := (List.range 4).all fun a => ng_chk (pu_A ce cn) [] [] 299 j M 0 [sy_full, sy_full, (0, 24), (1, 32)] [] (sh_sl r0 (fx_k a) (fx_i 0) (fx_i 1)) [] [sh_o cs a (fx_i 2), sh_o cw a (fx_i 3)] pu_re [] 6000
theorem puc_1 : pu_k1 142 pm_142 5 93 91 = true := by decide +kernel
theorem puc_2 : pu_k2 142 pm_142 5 90 93 91 = true := by decide +kernel
theorem puc_3 : pu_k3 142 pm_142 5 90 92 93 91 = true := by decide +kernel
theorem pum_1 : pu_k1 243 pm_243 94 97 100 = true := by decide +kernel
theorem pum_2 : pu_k2 243 pm_243 94 98 97 100 = true := by decide +kernel
theorem pum_3 : pu_k3 243 pm_243 94 98 99 97 100 = true := by decide +kernel
-- move: symbols 0 i, 1 j, 2 n, 3 and 4 sizes, 5 width
noncomputable def mv_A (ce cn cb : Nat) : sx_A := [(ce, 0, 100000), (cn, 0, 100000), (cb, 0, 100000)]
noncomputable def mv_sl (r0 : Nat) (a i o j n : sx_V) : List (Nat × sx_V) := [(0, .inr (.inr r0)), (1, a), (2, i), (3, o), (4, j), (5, n)]
noncomputable def mv_re (s : Nat) : List ng_Ae := [(sh_x (-1000001), [], [(1, [(2, 1)])], []), (sh_x (-1000001), [], [(1, [(0, 1)])], []), (sh_x (-1000001), [], [(1, [(1, 1)])], []), (sh_x (-1000001), [], [(1, [(0, -1), (2, -1), (3, 1)])], []), (sh_x (-1000001), [], [(1, [(1, -1), (2, -1), (s, 1)])], []), (.inl (.inl (fx_i 2)), [], [(0, [(2, -1)]), (0, [(0, -1)]), (0, [(1, -1)]), (0, [(0, 1), (2, 1), (3, -1)]), (0, [(1, 1), (2, 1), (s, -1)])], [])]
noncomputable def mv_k1 (AN : sh_AN) (j : Nat) (M : pq_M) (r0 ce cn cb : Nat) : Bool := sh_out.all fun ia => ng_chk (mv_A ce cn cb) [] AN 299 j M 0 [ia, sy_full, sy_full, sy_full, sy_full] [] (mv_sl r0 (fx_i 0) (fx_i 1) (fx_i 2) (fx_i 3) (fx_i 4)) [] [] [(sh_x (-1000001), [], [], [])] [] 6000
noncomputable def mv_k2 (AN : sh_AN) (j : Nat) (M : pq_M) (r0 ce cn cb : Nat) : Bool := (List.range 4).all fun a => sh_out.all fun io => ng_chk (mv_A ce cn cb) [] AN 299 j M 0 [io, sy_full, sy_full, sy_full] [] (mv_sl r0 (fx_k a) (fx_i 1) (fx_i 0) (fx_i 2) (fx_i 3)) [] [] [(sh_x (-1000001), [], [], [])] [] 6000
noncomputable def mv_k3 (AN : sh_AN) (j : Nat) (M : pq_M) (r0 cw ce cn cb : Nat) : Bool := (List.range 4).all fun a => (List.range 4).all fun o => ng_chk (mv_A ce cn cb) [] AN 299 j M 0 [sy_full, sy_full, sy_full] [] (mv_sl r0 (fx_k a) (fx_i 0) (fx_k o) (fx_i 1) (fx_i 2)) [] [sh_o cw a (fx_k 0)] [(sh_x (-1000002), [], [], [])] [] 6000
noncomputable def mv_k4 (AN : sh_AN) (j : Nat) (M : pq_M) (r0 cw ce cn cb : Nat) : Bool := (List.range 4).all fun a => (List.range 4).all fun o => Nat.beq a o || ng_chk (mv_A ce cn cb) [] AN 299 j M 0 [sy_full, sy_full, sy_full, (1, 32)] [] (mv_sl r0 (fx_k a) (fx_i 0) (fx_k o) (fx_i 1) (fx_i 2)) [] [sh_o cw a (fx_i 3), sh_o cw o (fx_k 0)] [(sh_x (-1000002), [], [], [])] [] 6000
noncomputable def mv_k5 (AN : sh_AN) (j : Nat) (M : pq_M) (r0 cw ce cn cb : Nat) (b1 b2 : Int) : Bool := (List.range 4).all fun a => (List.range 4).all fun o => Nat.beq a o || ng_chk (mv_A ce cn cb) [] AN 299 j M 0 [sy_full, sy_full, sy_full] [] (mv_sl r0 (fx_k a) (fx_i 0) (fx_k o) (fx_i 1) (fx_i 2)) [] [sh_o cw a (fx_k b1), sh_o cw o (fx_k b2)] [(sh_x (-1000005), [], [], [])] [] 6000
noncomputable def mv_k6 (AN : sh_AN) (j : Nat) (M : pq_M) (r0 cw cs ce cn cb : Nat) : Bool := (List.range 4).all fun a => (List.range 4).all fun o => Nat.beq a o || ng_chk (mv_A ce cn cb) [] AN 299 j M 0 [sy_full, sy_full, sy_full, (0, 24), (0, 24), (1, 32)] [] (mv_sl r0 (fx_k a) (fx_i 0) (fx_k o) (fx_i 1) (fx_i 2)) [] [sh_o cw a (fx_i 5), sh_o cw o (fx_i 5), sh_o cs a (fx_i 3), sh_o cs o (fx_i 4)] (mv_re 4) [] 6000
noncomputable def mv_k7 (AN : sh_AN) (j : Nat) (M : pq_M) (r0 cw cs ce cn cb : Nat) : Bool := (List.range 4).all fun a => ng_chk (mv_A ce cn cb) [] AN 299 j M 0 [sy_full, sy_full, sy_full, (0, 24), (0, 24), (1, 32)] [] (mv_sl r0 (fx_k a) (fx_i 0) (fx_k a) (fx_i 1) (fx_i 2)) [] [sh_o cw a (fx_i 5), sh_o cs a (fx_i 3)] (mv_re 3) [] 6000
theorem mvc_1 : mv_k1 [] 145 pm_145 5 93 91 93 = true := by decide +kernel
theorem mvc_2 : mv_k2 [] 145 pm_145 5 93 91 93 = true := by decide +kernel
theorem mvc_3 : mv_k3 [] 145 pm_145 5 90 93 91 93 = true := by decide +kernel
theorem mvc_4 : mv_k4 [] 145 pm_145 5 90 93 91 93 = true := by decide +kernel
theorem mvc_5_8_16 : mv_k5 [] 145 pm_145 5 90 93 91 93 8 16 = true := by decide +kernel
theorem mvc_5_8_32 : mv_k5 [] 145 pm_145 5 90 93 91 93 8 32 = true := by decide +kernel
theorem mvc_5_16_8 : mv_k5 [] 145 pm_145 5 90 93 91 93 16 8 = true := by decide +kernel
theorem mvc_5_16_32 : mv_k5 [] 145 pm_145 5 90 93 91 93 16 32 = true := by decide +kernel
theorem mvc_5_32_8 : mv_k5 [] 145 pm_145 5 90 93 91 93 32 8 = true := by decide +kernel
theorem mvc_5_32_16 : mv_k5 [] 145 pm_145 5 90 93 91 93 32 16 = true := by decide +kernel
theorem mvc_5 {b1 b2 : Int} (h1 : b1 = 8 ∨ b1 = 16 ∨ b1 = 32) (h2 : b2 = 8 ∨ b2 = 16 ∨ b2 = 32) (h : b1 ≠ b2) : mv_k5 [] 145 pm_145 5 90 93 91 93 b1 b2 = true := by
  rcases h1 with rfl | rfl | rfl <;> rcases h2 with rfl | rfl | rfl
  · exact absurd rfl h
  · exact mvc_5_8_16
  · exact mvc_5_8_32
  · exact mvc_5_16_8
  · exact absurd rfl h
  · exact mvc_5_16_32
  · exact mvc_5_32_8
  · exact mvc_5_32_16
  · exact absurd rfl h
theorem mvc_6 : mv_k6 [] 145 pm_145 5 90 92 93 91 93 = true := by decide +kernel
theorem mvc_7 : mv_k7 [] 145 pm_145 5 90 92 93 91 93 = true := by decide +kernel
theorem mvm_1 : mv_k1 sh_Nv 244 pm_244 94 97 100 113 = true := by decide +kernel
theorem mvm_2 : mv_k2 sh_Nv 244 pm_244 94 97 100 113 = true := by decide +kernel
theorem mvm_3 : mv_k3 sh_Nv 244 pm_244 94 98 97 100 113 = true := by decide +kernel
theorem mvm_4 : mv_k4 sh_Nv 244 pm_244 94 98 97 100 113 = true := by decide +kernel
theorem mvm_5_8_16 : mv_k5 sh_Nv 244 pm_244 94 98 97 100 113 8 16 = true := by decide +kernel
theorem mvm_5_8_32 : mv_k5 sh_Nv 244 pm_244 94 98 97 100 113 8 32 = true := by decide +kernel
theorem mvm_5_16_8 : mv_k5 sh_Nv 244 pm_244 94 98 97 100 113 16 8 = true := by decide +kernel
theorem mvm_5_16_32 : mv_k5 sh_Nv 244 pm_244 94 98 97 100 113 16 32 = true := by decide +kernel
theorem mvm_5_32_8 : mv_k5 sh_Nv 244 pm_244 94 98 97 100 113 32 8 = true := by decide +kernel
theorem mvm_5_32_16 : mv_k5 sh_Nv 244 pm_244 94 98 97 100 113 32 16 = true := by decide +kernel
theorem mvm_5 {b1 b2 : Int} (h1 : b1 = 8 ∨ b1 = 16 ∨ b1 = 32) (h2 : b2 = 8 ∨ b2 = 16 ∨ b2 = 32) (h : b1 ≠ b2) : mv_k5 sh_Nv 244 pm_244 94 98 97 100 113 b1 b2 = true := by
  rcases h1 with rfl | rfl | rfl <;> rcases h2 with rfl | rfl | rfl
  · exact absurd rfl h
  · exact mvm_5_8_16
  · exact mvm_5_8_32
  · exact mvm_5_16_8
  · exact absurd rfl h
  · exact mvm_5_16_32
  · exact mvm_5_32_8
  · exact mvm_5_32_16
  · exact absurd rfl h
theorem mvm_6 : mv_k6 sh_Nv 244 pm_244 94 98 99 97 100 113 = true := by decide +kernel
theorem mvm_7 : mv_k7 sh_Nv 244 pm_244 94 98 99 97 100 113 = true := by decide +kernel
