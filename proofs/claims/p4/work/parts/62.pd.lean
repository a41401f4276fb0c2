-- part
noncomputable def pz_dg (n : Int) : Nat × ng_Al := (184, pz_al [(2, .inr (0, 9999))] [fx_r] (pz_E n 0 (fx_i 2)) (pz_C n))
noncomputable def pz_nm (i : Int) : Nat × ng_Al := (236, pz_al [] [fx_k (10000 + i), fx_r] (pz_E 0 0 (fx_k 0)) (pz_C 1))
noncomputable def pz_op (pc : Nat) : Nat × ng_Al := (pc, pz_al [] [fx_r] (pz_E 1 1 (fx_k 0)) (pz_C 1 ++ [(-4, [(1, 1)])]))
noncomputable def pz_5 (k : Nat) : Bool := pz_ck k 202 pm_202 0 pz_05 [] [] [(.inr (), pz_E 0 0 (fx_k 1), [], [])] [pz_op 19, pz_op 54, pz_dg 1, pz_dg 2, pz_dg 3, pz_dg 4, pz_nm 0, pz_nm 1, pz_nm 2, pz_nm 3, pz_nm 4, pz_nm 5, pz_nm (-1)]
noncomputable def pz_6 (k : Nat) : Bool := pz_ck k 202 pm_202 22 (1, 5) [] [] [] [(36, pz_al [] [fx_k 20009, fx_r] (pz_E 0 (-1) (fx_i 2)) [])] && pz_ck k 202 pm_202 39 pz_05 [] [] pz_re [] && pz_ck k 202 pm_202 57 (1, 5) [] [] [(.inr (), pz_E 0 (-1) (fx_k 1), [], []), (.inr (), pz_E 1 (-1) (fx_k 0), pz_C 1, [])] [] && ng_chk pz_A [] [] k 202 pm_202 184 (pz_iv pz_05 ++ [(0, 9999)]) [] (pz_s ++ [(2, fx_i 4)]) [fx_r] pz_O [] [(185, (ng_L pz_s, [fx_i 4, fx_r], pz_E 0 0 (fx_i 2), [], []))] 30 && pz_ck k 202 pm_202 188 pz_05 [] [] pz_re [] && pz_ck k 202 pm_202 239 (0, 5) [] [] [(.inr (), pz_E 1 0 (fx_i 2), [], [])] []
theorem pz_a0_0 : pz_5 (pz_k 0 0) = true := by decide +kernel
theorem pz_a0_1 : pz_5 (pz_k 1 0) = true := by decide +kernel
theorem pz_a0_2 : pz_5 (pz_k 2 0) = true := by decide +kernel
theorem pz_a0_3 : pz_5 (pz_k 3 0) = true := by decide +kernel
theorem pz_a0_4 : pz_5 (pz_k 4 0) = true := by decide +kernel
theorem pz_a0_5 : pz_5 (pz_k 5 0) = true := by decide +kernel
theorem pz_a0 : ∀ o : Nat, o < 6 → pz_5 (pz_k o 0) = true := fun o ho => match o, ho with
  | 0, _ => pz_a0_0
  | 1, _ => pz_a0_1
  | 2, _ => pz_a0_2
  | 3, _ => pz_a0_3
  | 4, _ => pz_a0_4
  | 5, _ => pz_a0_5
theorem pz_a1 : pz_all (fun o => pz_6 (pz_k o 0)) = true := by decide +kernel
-- put
theorem pz_w : ((List.range 61).all fun c => ng_chk [(104, c, c), (94, 15, 15)] [] [] 4 205 pm_205 0 [sy_full] [] [(0, fx_r), (1, fx_i 0)] [] [pz_f 13 (fx_k 0), pz_f 15 (fx_k c)] [(.inr (), [(104, ((c : Int), []), fx_i 0), pz_f 15 (fx_k (c + 1))], [], [])] [] 60) = true := by decide +kernel
theorem pz_w1 : ng_chk [] [] [] 4 205 pm_205 0 [sy_full] [] [(0, fx_r), (1, fx_i 0)] [] [pz_f 13 (fx_k 1)] [(.inr (), [], [], [])] [] 60 = true := by decide +kernel
