/-! the reader of laws: the checks. Symbols 0 at, 1 open, 2 fault, 3 how much is on the tape -/
noncomputable def pz_iv (o : Int × Int) : List (Int × Int) := [(0, 60), o, (0, 1), (0, 60)]
noncomputable def pz_f (i : Int) (v : sx_V) : Nat × sx_F × sx_V := (94, (i, []), v)
noncomputable def pz_O : sx_O := [pz_f 11 (fx_i 0), pz_f 12 (fx_i 1), pz_f 13 (fx_i 2), (95, (7, []), fx_i 3)]
noncomputable def pz_at (n : Int) : sx_V := .inl (.inl (n, [(0, 1)]))
/-- at, open and fault afterwards -/
noncomputable def pz_E (n d : Int) (f : sx_V) : sx_O := [pz_f 11 (pz_at n), pz_f 12 (.inl (.inl (d, [(1, 1)]))), pz_f 13 f]
/-- at is not beyond the tape, and there is no fault -/
noncomputable def pz_C (n : Int) : List sx_F := [(n, [(0, 1), (3, -1)]), (0, [(2, 1)])]
noncomputable def pz_A : sx_A := [(94, 11, 13)]
noncomputable def pz_s : List (Nat × sx_V) := [(0, fx_r)]
noncomputable def pz_re : List ng_Ae := [(.inr (), pz_E 0 0 (fx_i 2), [], [])]
noncomputable def pz_ck (k j : Nat) (M : pq_M) (pc : Nat) (o : Int × Int) (iv : List (Int × Int)) (sl : List (Nat × sx_V)) (re : List ng_Ae) (hd : List (Nat × ng_Al)) : Bool := ng_chk pz_A [] [] k j M pc (pz_iv o ++ iv) [] (pz_s ++ sl) [] pz_O re hd 3000
noncomputable def pz_al (sl : ng_Sl) (st : List sx_V) (O : sx_O) (C : List sx_F) : ng_Al := (ng_L pz_s ++ sl, st, O, C, [])
noncomputable def pz_k (o i : Nat) : Nat := 60 - 8 * o + i
noncomputable def pz_05 : Int × Int := (0, 5)
noncomputable def pz_all (f : Nat → Bool) : Bool := (List.range 6).all f
-- where a method begins: its first call
noncomputable def pz_0 (k j : Nat) (M : pq_M) : Bool := pz_ck k j M 0 pz_05 [] [] [] [(1, pz_al [] [fx_r] (pz_E 0 0 (fx_i 2)) [])]
-- either, both
noncomputable def pz_1 (k j : Nat) (M : pq_M) : Bool := pz_0 k j M && pz_ck k j M 4 pz_05 [] [] pz_re [(24, pz_al [] [fx_r] (pz_E 1 0 (fx_i 2)) (pz_C 1))]
noncomputable def pz_2 (k j : Nat) (M : pq_M) (op : Int) : Bool := pz_ck k j M 27 pz_05 [] [] [] [(31, pz_al [] [fx_k op, fx_r] (pz_E 0 0 (fx_i 2)) [])] && pz_ck k j M 34 pz_05 [] [] [] [(4, pz_al [] [] (pz_E 0 0 (fx_i 2)) [])]
theorem pz_e : pz_all (fun o => pz_1 (pz_k o 5) 197 pm_197 && pz_2 (pz_k o 5) 197 pm_197 20000) = true := by decide +kernel
theorem pz_b : pz_all (fun o => pz_1 (pz_k o 4) 198 pm_198 && pz_2 (pz_k o 4) 198 pm_198 20001) = true := by decide +kernel
-- test
noncomputable def pz_c : Nat × (sx_V ⊕ (Int × Int)) := (1, .inr (0, 255))
noncomputable def pz_3 (k j : Nat) (M : pq_M) : Bool := pz_0 k j M && pz_ck k j M 4 pz_05 [] [] pz_re [(38, pz_al [pz_c] [fx_r] (pz_E 1 0 (fx_i 2)) (pz_C 1))] && pz_ck k j M 41 pz_05 [(0, 255)] [(1, fx_i 4)] [] [(69, pz_al [] [fx_k 20002, fx_r] (pz_E 0 0 (fx_i 2)) []), (69, pz_al [] [fx_k 20003, fx_r] (pz_E 0 0 (fx_i 2)) []), (69, pz_al [] [fx_k 20004, fx_r] (pz_E 0 0 (fx_i 2)) [])] && pz_ck k j M 72 pz_05 [] [] pz_re []
theorem pz_t : pz_all (fun o => pz_3 (pz_k o 3) 199 pm_199) = true := by decide +kernel
-- sum, product
noncomputable def pz_4 (k j : Nat) (M : pq_M) (p1 p2 : Int) : Bool := pz_0 k j M && pz_ck k j M 4 pz_05 [] [] pz_re [(32, pz_al [pz_c] [fx_r] (pz_E 1 0 (fx_i 2)) (pz_C 1))] && pz_ck k j M 54 pz_05 [] [] pz_re [(32, pz_al [pz_c] [fx_r] (pz_E 1 0 (fx_i 2)) (pz_C 1))] && pz_ck k j M 35 pz_05 [(0, 255)] [(1, fx_i 4)] [] [(51, pz_al [] [fx_k p1, fx_r] (pz_E 0 0 (fx_i 2)) []), (51, pz_al [] [fx_k p2, fx_r] (pz_E 0 0 (fx_i 2)) [])]
theorem pz_u : pz_all (fun o => pz_4 (pz_k o 2) 200 pm_200 20005 20006) = true := by decide +kernel
theorem pz_p : pz_all (fun o => pz_4 (pz_k o 1) 201 pm_201 20007 20008) = true := by decide +kernel
