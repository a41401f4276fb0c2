/-! law: the checks -/
-- symbols 0 use, 1 from, 2 how many laws
noncomputable def lw_b (v : sx_V) : List (Nat × sx_V) := [(0, fx_r), (1, fx_i 0), (2, fx_i 1), (3, v)]
theorem lw_1 : ng_chk [(97, 0, 5)] [] [] 299 196 pm_196 0 [sy_full, sy_full, (0, 12)] [] [(0, fx_r), (1, fx_i 0), (2, fx_i 1)] [] [mc_o 4 (fx_i 2)] [(mc_any, [], [], [])] [(51, (ng_L (lw_b (fx_i 2)), [], [], [(0, [(0, -1)]), (-3, [(0, 1)]), (0, [(1, -1)]), (-3000, [(1, 1)]), (-11, [(2, 1)])], []))] 200 = true := by decide +kernel
noncomputable def lw_iv : List (Int × Int) := [(0, 3), (0, 3000), (0, 11)]
theorem lw_2 : ng_chk [(94, 11, 13), (94, 15, 15)] [] [] 299 196 pm_196 51 lw_iv [] (lw_b (fx_i 2)) [] [] [] [(72, (ng_L (lw_b (fx_i 2)), [fx_r], [pz_f 11 (fx_k 0), pz_f 12 (fx_k 0), pz_f 13 (fx_k 0), pz_f 15 (fx_k 0)], [], []))] 100 = true := by decide +kernel
-- symbols 3 at, 4 fault, 5 how much is on the tape
theorem lw_3 : ng_chk [(94, 13, 13), (95, 7, 7)] [] [] 299 196 pm_196 75 (lw_iv ++ [(0, 60), (0, 1), (0, 60)]) [] (lw_b (fx_i 2)) [] [pz_f 11 (fx_i 3), pz_f 13 (fx_i 4), mc_o 7 (fx_i 5)] [(mc_any, [], [], [])] [(128, (ng_L (lw_b (fx_i 2)), [], [], [(0, [(4, 1)])], []))] 100 = true := by decide +kernel
-- symbols 2 coded
noncomputable def lw_c (r k : sx_V) (v : sx_V) : List (Nat × sx_V) := [(0, fx_r), (3, v), (4, r), (5, k)]
theorem lw_4 : ((List.range 12).all fun l => ng_chk [(95, 1922 + 73 * l, 1924 + 73 * l)] [] [] 299 196 pm_196 128 [(0, 3), (0, 3000), (0, 60)] [] (lw_b (fx_k l)) [] [pz_f 15 (fx_i 2)] [] [(174, gq_al (lw_c (fx_k (1922 + 73 * l)) (fx_k 0) (fx_k l)) [mc_o (1924 + 73 * l) (fx_i 2)])] 100) = true := by decide +kernel
-- symbols 0 coded, 1 what stands there
noncomputable def lw_5k (k l : Nat) : Bool := ng_chk [(95, 1925 + 73 * l + k, 1925 + 73 * l + k)] [] [] 299 196 pm_196 174 [(0, 60), sy_full] [(1 + (k : Int), [(0, -1)])] (lw_c (fx_k (1922 + 73 * l)) (fx_k k) (fx_k l)) [] [pz_f 15 (fx_i 0), (104, ((k : Int), []), fx_i 1)] [] [(174, gq_al (lw_c (fx_k (1922 + 73 * l)) (fx_k (k + 1)) (fx_k l)) [mc_o (1925 + 73 * l + k) (fx_i 1)])] 100
theorem lw_5_0 : ((List.range 12).all (lw_5k 0)) = true := by decide +kernel
theorem lw_5_1 : ((List.range 12).all (lw_5k 1)) = true := by decide +kernel
theorem lw_5_2 : ((List.range 12).all (lw_5k 2)) = true := by decide +kernel
theorem lw_5_3 : ((List.range 12).all (lw_5k 3)) = true := by decide +kernel
theorem lw_5_4 : ((List.range 12).all (lw_5k 4)) = true := by decide +kernel
theorem lw_5_5 : ((List.range 12).all (lw_5k 5)) = true := by decide +kernel
theorem lw_5_6 : ((List.range 12).all (lw_5k 6)) = true := by decide +kernel
theorem lw_5_7 : ((List.range 12).all (lw_5k 7)) = true := by decide +kernel
theorem lw_5_8 : ((List.range 12).all (lw_5k 8)) = true := by decide +kernel
theorem lw_5_9 : ((List.range 12).all (lw_5k 9)) = true := by decide +kernel
theorem lw_5_10 : ((List.range 12).all (lw_5k 10)) = true := by decide +kernel
theorem lw_5_11 : ((List.range 12).all (lw_5k 11)) = true := by decide +kernel
theorem lw_5_12 : ((List.range 12).all (lw_5k 12)) = true := by decide +kernel
theorem lw_5_13 : ((List.range 12).all (lw_5k 13)) = true := by decide +kernel
theorem lw_5_14 : ((List.range 12).all (lw_5k 14)) = true := by decide +kernel
theorem lw_5_15 : ((List.range 12).all (lw_5k 15)) = true := by decide +kernel
theorem lw_5_16 : ((List.range 12).all (lw_5k 16)) = true := by decide +kernel
theorem lw_5_17 : ((List.range 12).all (lw_5k 17)) = true := by decide +kernel
theorem lw_5_18 : ((List.range 12).all (lw_5k 18)) = true := by decide +kernel
theorem lw_5_19 : ((List.range 12).all (lw_5k 19)) = true := by decide +kernel
theorem lw_5_20 : ((List.range 12).all (lw_5k 20)) = true := by decide +kernel
theorem lw_5_21 : ((List.range 12).all (lw_5k 21)) = true := by decide +kernel
theorem lw_5_22 : ((List.range 12).all (lw_5k 22)) = true := by decide +kernel
theorem lw_5_23 : ((List.range 12).all (lw_5k 23)) = true := by decide +kernel
theorem lw_5_24 : ((List.range 12).all (lw_5k 24)) = true := by decide +kernel
theorem lw_5_25 : ((List.range 12).all (lw_5k 25)) = true := by decide +kernel
theorem lw_5_26 : ((List.range 12).all (lw_5k 26)) = true := by decide +kernel
theorem lw_5_27 : ((List.range 12).all (lw_5k 27)) = true := by decide +kernel
theorem lw_5_28 : ((List.range 12).all (lw_5k 28)) = true := by decide +kernel
theorem lw_5_29 : ((List.range 12).all (lw_5k 29)) = true := by decide +kernel
theorem lw_5_30 : ((List.range 12).all (lw_5k 30)) = true := by decide +kernel
theorem lw_5_31 : ((List.range 12).all (lw_5k 31)) = true := by decide +kernel
theorem lw_5_32 : ((List.range 12).all (lw_5k 32)) = true := by decide +kernel
theorem lw_5_33 : ((List.range 12).all (lw_5k 33)) = true := by decide +kernel
theorem lw_5_34 : ((List.range 12).all (lw_5k 34)) = true := by decide +kernel
theorem lw_5_35 : ((List.range 12).all (lw_5k 35)) = true := by decide +kernel
theorem lw_5_36 : ((List.range 12).all (lw_5k 36)) = true := by decide +kernel
theorem lw_5_37 : ((List.range 12).all (lw_5k 37)) = true := by decide +kernel
theorem lw_5_38 : ((List.range 12).all (lw_5k 38)) = true := by decide +kernel
theorem lw_5_39 : ((List.range 12).all (lw_5k 39)) = true := by decide +kernel
theorem lw_5_40 : ((List.range 12).all (lw_5k 40)) = true := by decide +kernel
theorem lw_5_41 : ((List.range 12).all (lw_5k 41)) = true := by decide +kernel
theorem lw_5_42 : ((List.range 12).all (lw_5k 42)) = true := by decide +kernel
theorem lw_5_43 : ((List.range 12).all (lw_5k 43)) = true := by decide +kernel
theorem lw_5_44 : ((List.range 12).all (lw_5k 44)) = true := by decide +kernel
theorem lw_5_45 : ((List.range 12).all (lw_5k 45)) = true := by decide +kernel
theorem lw_5_46 : ((List.range 12).all (lw_5k 46)) = true := by decide +kernel
theorem lw_5_47 : ((List.range 12).all (lw_5k 47)) = true := by decide +kernel
theorem lw_5_48 : ((List.range 12).all (lw_5k 48)) = true := by decide +kernel
theorem lw_5_49 : ((List.range 12).all (lw_5k 49)) = true := by decide +kernel
theorem lw_5_50 : ((List.range 12).all (lw_5k 50)) = true := by decide +kernel
theorem lw_5_51 : ((List.range 12).all (lw_5k 51)) = true := by decide +kernel
theorem lw_5_52 : ((List.range 12).all (lw_5k 52)) = true := by decide +kernel
theorem lw_5_53 : ((List.range 12).all (lw_5k 53)) = true := by decide +kernel
theorem lw_5_54 : ((List.range 12).all (lw_5k 54)) = true := by decide +kernel
theorem lw_5_55 : ((List.range 12).all (lw_5k 55)) = true := by decide +kernel
theorem lw_5_56 : ((List.range 12).all (lw_5k 56)) = true := by decide +kernel
theorem lw_5_57 : ((List.range 12).all (lw_5k 57)) = true := by decide +kernel
theorem lw_5_58 : ((List.range 12).all (lw_5k 58)) = true := by decide +kernel
theorem lw_5_59 : ((List.range 12).all (lw_5k 59)) = true := by decide +kernel
theorem lw_5 : ∀ k : Nat, k < 60 → ((List.range 12).all (lw_5k k)) = true := by
  intro k hk
  by_cases h0 : k = 0
  · subst h0; exact lw_5_0
  by_cases h1 : k = 1
  · subst h1; exact lw_5_1
  by_cases h2 : k = 2
  · subst h2; exact lw_5_2
  by_cases h3 : k = 3
  · subst h3; exact lw_5_3
  by_cases h4 : k = 4
  · subst h4; exact lw_5_4
  by_cases h5 : k = 5
  · subst h5; exact lw_5_5
  by_cases h6 : k = 6
  · subst h6; exact lw_5_6
  by_cases h7 : k = 7
  · subst h7; exact lw_5_7
  by_cases h8 : k = 8
  · subst h8; exact lw_5_8
  by_cases h9 : k = 9
  · subst h9; exact lw_5_9
  by_cases h10 : k = 10
  · subst h10; exact lw_5_10
  by_cases h11 : k = 11
  · subst h11; exact lw_5_11
  by_cases h12 : k = 12
  · subst h12; exact lw_5_12
  by_cases h13 : k = 13
  · subst h13; exact lw_5_13
  by_cases h14 : k = 14
  · subst h14; exact lw_5_14
  by_cases h15 : k = 15
  · subst h15; exact lw_5_15
  by_cases h16 : k = 16
  · subst h16; exact lw_5_16
  by_cases h17 : k = 17
  · subst h17; exact lw_5_17
  by_cases h18 : k = 18
  · subst h18; exact lw_5_18
  by_cases h19 : k = 19
  · subst h19; exact lw_5_19
  by_cases h20 : k = 20
  · subst h20; exact lw_5_20
  by_cases h21 : k = 21
  · subst h21; exact lw_5_21
  by_cases h22 : k = 22
  · subst h22; exact lw_5_22
  by_cases h23 : k = 23
  · subst h23; exact lw_5_23
  by_cases h24 : k = 24
  · subst h24; exact lw_5_24
  by_cases h25 : k = 25
  · subst h25; exact lw_5_25
  by_cases h26 : k = 26
  · subst h26; exact lw_5_26
  by_cases h27 : k = 27
  · subst h27; exact lw_5_27
  by_cases h28 : k = 28
  · subst h28; exact lw_5_28
  by_cases h29 : k = 29
  · subst h29; exact lw_5_29
  by_cases h30 : k = 30
  · subst h30; exact lw_5_30
  by_cases h31 : k = 31
  · subst h31; exact lw_5_31
  by_cases h32 : k = 32
  · subst h32; exact lw_5_32
  by_cases h33 : k = 33
  · subst h33; exact lw_5_33
  by_cases h34 : k = 34
  · subst h34; exact lw_5_34
  by_cases h35 : k = 35
  · subst h35; exact lw_5_35
  by_cases h36 : k = 36
  · subst h36; exact lw_5_36
  by_cases h37 : k = 37
  · subst h37; exact lw_5_37
  by_cases h38 : k = 38
  · subst h38; exact lw_5_38
  by_cases h39 : k = 39
  · subst h39; exact lw_5_39
  by_cases h40 : k = 40
  · subst h40; exact lw_5_40
  by_cases h41 : k = 41
  · subst h41; exact lw_5_41
  by_cases h42 : k = 42
  · subst h42; exact lw_5_42
  by_cases h43 : k = 43
  · subst h43; exact lw_5_43
  by_cases h44 : k = 44
  · subst h44; exact lw_5_44
  by_cases h45 : k = 45
  · subst h45; exact lw_5_45
  by_cases h46 : k = 46
  · subst h46; exact lw_5_46
  by_cases h47 : k = 47
  · subst h47; exact lw_5_47
  by_cases h48 : k = 48
  · subst h48; exact lw_5_48
  by_cases h49 : k = 49
  · subst h49; exact lw_5_49
  by_cases h50 : k = 50
  · subst h50; exact lw_5_50
  by_cases h51 : k = 51
  · subst h51; exact lw_5_51
  by_cases h52 : k = 52
  · subst h52; exact lw_5_52
  by_cases h53 : k = 53
  · subst h53; exact lw_5_53
  by_cases h54 : k = 54
  · subst h54; exact lw_5_54
  by_cases h55 : k = 55
  · subst h55; exact lw_5_55
  by_cases h56 : k = 56
  · subst h56; exact lw_5_56
  by_cases h57 : k = 57
  · subst h57; exact lw_5_57
  by_cases h58 : k = 58
  · subst h58; exact lw_5_58
  by_cases h59 : k = 59
  · subst h59; exact lw_5_59
  omega
-- symbols 0 coded, 1 the law's number, 2 its place
theorem lw_6 : ng_chk [(95, 4, 4)] [] [] 299 196 pm_196 174 [(0, 60), (0, 11), (1922, 2725)] [] (lw_c (fx_i 2) (fx_i 0) (fx_i 1)) [] [pz_f 15 (fx_i 0), mc_o 4 (fx_i 1)] [(mc_any, [mc_o 4 (.inl (.inl (1, [(1, 1)])))], [], [])] [] 100 = true := by decide +kernel
