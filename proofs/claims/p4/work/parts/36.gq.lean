/-! gone, stretch by stretch: the checks. Symbols 0 first, 1 size, 2 land -/
noncomputable def ng_L (l : List (Nat × sx_V)) : ng_Sl := l.map fun q => (q.1, .inl q.2)
noncomputable def gq_n (r : Nat) : Int := bif Nat.beq r 95 then 2800 else 72
noncomputable def gq_b (r : Nat) (s : Int) : List (Nat × sx_V) := [(0, fx_r), (1, .inr (.inr r)), (2, fx_i 0), (3, fx_i 1), (4, fx_i 2), (5, fx_k s)]
noncomputable def gq_iv (r : Nat) : List (Int × Int) := [(0, gq_n r), (1, 12), sy_full]
noncomputable def gq_al (l : List (Nat × sx_V)) (O : sx_O) : ng_Al := (ng_L l, [], O, [], [])
noncomputable def gq_ck (A : sx_A) (pc : Nat) (iv : List (Int × Int)) (C : List sx_F) (sl : List (Nat × sx_V)) (sa : List sx_V) (O : sx_O) (re : List ng_Ae) (hd : List (Nat × ng_Al)) : Bool := ng_chk A [] [] 19 210 pm_210 pc iv C sl sa O re hd 200
noncomputable def gq_c0 (r : Nat) (s : Int) : Bool := gq_ck [] 0 (gq_iv r) [] (gq_b r s) [] [] [] [(3, gq_al (gq_b r s ++ [(6, fx_k 0)]) [])]
noncomputable def gq_c1 (r : Nat) (s : Int) (c : Nat) (x : Int × Int) (v : Int) : Bool := gq_ck [(106, c, c)] 3 (gq_iv r ++ [x]) [] (gq_b r s ++ [(6, fx_k c)]) [] [(r, sx_y 0, fx_i 3)] [] [(3, gq_al (gq_b r s ++ [(6, fx_k (c + 1))]) [(106, ((c : Int), []), fx_k v)])]
noncomputable def gq_c2 (r : Nat) (s : Int) : Bool := gq_ck [] 3 (gq_iv r) [] (gq_b r s ++ [(6, fx_k 64)]) [] [] [] [(40, gq_al (gq_b r s ++ [(6, fx_k 1)]) [])]
noncomputable def gq_c3 (r : Nat) (s : Int) : Bool := gq_ck [] 40 (gq_iv r ++ [(1, 11), (-1, 63)]) [(1, [(1, -1), (3, 1)])] (gq_b r s ++ [(6, fx_i 3)]) [] [(r, (0, [(0, 1), (3, 1)]), fx_i 4)] [] [(57, gq_al (gq_b r s ++ [(6, fx_i 3), (7, fx_i 4), (8, fx_k 0)]) [])]
noncomputable def gq_c4 (r : Nat) (s : Int) : Bool := gq_ck [] 40 (gq_iv r ++ [(0, 63), sy_full]) [] (gq_b r s ++ [(6, fx_i 1)]) [] [(r, (-1, [(0, 1), (1, 1)]), fx_i 3), (106, sx_y 3, fx_i 4)] [(.inl (.inl (fx_i 4)), [], [], [])] []
noncomputable def gq_c5 (r : Nat) (s : Int) : Bool := gq_ck [] 57 (gq_iv r ++ [(1, 11), (-1, 63), (0, 63)]) [] (gq_b r s ++ [(6, fx_i 3), (7, fx_i 4), (8, fx_i 5)]) [] [] [] [(71, gq_al (gq_b r s ++ [(6, fx_i 3), (7, fx_i 4), (8, fx_i 5), (9, fx_k 1000000), (10, fx_k 0)]) [])]
noncomputable def gq_c6 (r : Nat) (s : Int) : Bool := gq_ck [] 57 (gq_iv r ++ [(1, 11), (-1, 63)]) [] (gq_b r s ++ [(6, fx_i 3), (7, fx_i 4), (8, fx_k 64)]) [] [] [] [(253, gq_al (gq_b r s ++ [(6, fx_i 3), (8, fx_k 0)]) [])]
noncomputable def gq_c7 (r : Nat) (s : Int) (c : Nat) (x : Int × Int) : Bool := gq_ck [(107, c, c)] 71 (gq_iv r ++ [(1, 11), x]) [] (gq_b r s ++ [(6, fx_i 3), (7, fx_i 4), (8, fx_k c), (9, fx_k 1000000), (10, fx_k 0)]) [] [] [] [(57, gq_al (gq_b r s ++ [(6, fx_i 3), (7, fx_i 4), (8, fx_k (c + 1))]) [(107, ((c : Int), []), fx_k 1000000)])]
noncomputable def gq_c8 (r : Nat) (s : Int) (c : Nat) : Bool := gq_ck [(107, c, c)] 71 (gq_iv r ++ [(1, 11), (-1, 63), sy_full]) [] (gq_b r s ++ [(6, fx_i 3), (7, fx_i 4), (8, fx_k c), (9, fx_i 5), (10, fx_k 4)]) [] [] [] [(57, gq_al (gq_b r s ++ [(6, fx_i 3), (7, fx_i 4), (8, fx_k (c + 1))]) [(107, ((c : Int), []), fx_i 5)])]
/-- from one cell to the next: symbols 3 k, 4 c, 5 best -/
noncomputable def gq_de (m : Nat) : Int := match m with
  | 0 => -8
  | 1 => 8
  | 2 => -1
  | _ => 1
noncomputable def gq_is (z : Bool) : sx_V := bif z then fx_k (-1) else fx_i 4
noncomputable def gq_c9 (r : Nat) (s : Int) (z : Bool) (m : Nat) : Bool := gq_ck [] 71 (gq_iv r ++ [(1, 11), (0, 63), sy_full]) [] (gq_b r s ++ [(6, fx_i 3), (7, gq_is z), (8, fx_i 4), (9, fx_i 5), (10, fx_k m)]) [] [] []
  [(148, (ng_L (gq_b r s ++ [(6, fx_i 3), (7, gq_is z), (8, fx_i 4), (9, fx_i 5), (10, fx_k m), (11, .inl (.inl (gq_de m, [(4, 1)])))]), [.inl (.inl (gq_de m, [(4, 1)])), fx_i 4], [], [(-gq_de m, [(4, -1)]), (gq_de m - 63, [(4, 1)])], [])),
   (71, (ng_L (gq_b r s ++ [(6, fx_i 3), (7, gq_is z), (8, fx_i 4), (9, fx_i 5), (10, fx_k (m + 1))]), [], [], [(gq_de m + 1, [(4, 1)])], [])),
   (71, (ng_L (gq_b r s ++ [(6, fx_i 3), (7, gq_is z), (8, fx_i 4), (9, fx_i 5), (10, fx_k (m + 1))]), [], [], [(64 - gq_de m, [(4, -1)])], []))]
/-- behind areNext: symbols 6 d, 7 what stands there, 8 the way's number -/
noncomputable def gq_ca (r : Nat) (s : Int) (z : Bool) (n : Int) (b v : Int × Int) (O : sx_O) (bs : sx_V ⊕ (Int × Int)) : Bool := gq_ck [] 151 (gq_iv r ++ [(1, 11), (0, 63), b, (0, 63), v, (0, 3)]) [] (gq_b r s ++ [(6, fx_i 3), (7, gq_is z), (8, fx_i 4), (9, fx_i 5), (10, fx_i 8), (11, fx_i 6)]) [fx_k n] O []
  [(71, (ng_L (gq_b r s ++ [(6, fx_i 3), (7, gq_is z), (8, fx_i 4)]) ++ [(9, bs), (10, .inl (.inl (.inl (1, [(8, 1)]))))], [], [], [], []))]
noncomputable def gq_lo (s : Int) (k : Nat) : Int := bif sx_ieq s 1 then 0 else -10 * k
noncomputable def gq_hi (s : Int) (k : Nat) : Int := bif sx_ieq s 1 then 10 * k else 0
noncomputable def gq_cb (r : Nat) (s : Int) (c : Nat) : Bool := gq_ck [(106, c, c)] 253 (gq_iv r ++ [(1, 11), sy_full]) [] (gq_b r s ++ [(6, fx_i 3), (8, fx_k c)]) [] [(107, ((c : Int), []), fx_i 4)] [] [(253, gq_al (gq_b r s ++ [(6, fx_i 3), (8, fx_k (c + 1))]) [(106, ((c : Int), []), fx_i 4)])]
noncomputable def gq_cc (r : Nat) (s : Int) : Bool := gq_ck [] 253 (gq_iv r ++ [(1, 11)]) [] (gq_b r s ++ [(6, fx_i 3), (8, fx_k 64)]) [] [] [] [(40, gq_al (gq_b r s ++ [(6, .inl (.inl (1, [(3, 1)])))]) [])]
noncomputable def gq_all (f : Nat → Int → Bool) : Bool := f 95 1 && f 95 (-1) && f 100 1 && f 100 (-1)
theorem gq_all_ok {f : Nat → Int → Bool} (h : gq_all f = true) {r : Nat} {s : Int} (hr : r = 95 ∨ r = 100) (hs : s = 1 ∨ s = -1) : f r s = true := by
  unfold gq_all at h
  simp only [Bool.and_eq_true] at h
  obtain ⟨⟨⟨h1, h2⟩, h3⟩, h4⟩ := h
  rcases hr with rfl | rfl <;> rcases hs with rfl | rfl <;> assumption
theorem gq_k0 : gq_all (fun r s => gq_c0 r s && gq_c2 r s && gq_c3 r s && gq_c4 r s && gq_c5 r s && gq_c6 r s && gq_cc r s) = true := by decide +kernel
theorem gq_k1 : gq_all (fun r s => (List.range 64).all fun c => gq_c1 r s c ((c : Int), (c : Int)) 0 && gq_c1 r s c (-1, (c : Int) - 1) 1000000 && gq_c1 r s c ((c : Int) + 1, 64) 1000000) = true := by decide +kernel
theorem gq_k7 : gq_all (fun r s => (List.range 64).all fun c => (bif Nat.beq c 0 then true else gq_c7 r s c (0, (c : Int) - 1)) && gq_c7 r s c ((c : Int) + 1, 64) && gq_c8 r s c && gq_cb r s c) = true := by decide +kernel
theorem gq_k9 : gq_all (fun r s => (List.range 4).all fun m => gq_c9 r s true m && gq_c9 r s false m) = true := by decide +kernel
theorem gq_ka : gq_all (fun r s => [true, false].all fun z => gq_ca r s z 0 sy_full sy_full [] (.inl (fx_i 5)) && gq_ca r s z 1 sy_full sy_full [(106, sx_y 6, fx_k 1000000)] (.inl (fx_i 5))) = true := by decide +kernel
theorem gq_kb : gq_all (fun r s => [true, false].all fun z => (List.range 11).all fun k => gq_ca r s z 1 (gq_lo s (k + 1), 1000000) (gq_lo s k, gq_hi s k) [(106, sx_y 6, fx_i 7)] (.inr (gq_lo s (k + 1), gq_hi s (k + 1)))) = true := by decide +kernel
