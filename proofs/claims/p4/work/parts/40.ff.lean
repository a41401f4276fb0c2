/-! knownOn: a row that is told; findFees: what is due lies between bounds -/
noncomputable def kq_b (a b : sx_V) : List (Nat × sx_V) := [(0, fx_r), (1, fx_i 0), (2, fx_i 1), (3, a), (4, b)]
theorem kq_1 : ng_chk [] [] [] 9 218 pm_218 0 [sy_full, sy_full] [] [(0, fx_r), (1, fx_i 0), (2, fx_i 1)] [] [] [] [(5, gq_al (kq_b (fx_k (-1)) (fx_k 0)) [])] 60 = true := by decide +kernel
theorem kq_2 : ng_chk [] [] [] 9 218 pm_218 5 [sy_full, sy_full, (-1, 1909), (0, 39), (0, 40)] [(1, [(3, 1), (4, -1)])] (kq_b (fx_i 2) (fx_i 3)) [] [(95, (6, []), fx_i 4)] [] [(5, gq_al (kq_b (fx_i 2) (.inl (.inl (1, [(3, 1)])))) []), (5, gq_al (kq_b (.inl (.inl (1324, [(3, 15)]))) (.inl (.inl (1, [(3, 1)])))) [])] 100 = true := by decide +kernel
theorem kq_3 : ng_chk [] [] [] 9 218 pm_218 5 [sy_full, sy_full, (-1, 1909), (0, 40)] [] (kq_b (fx_i 2) (fx_i 3)) [] [(95, (6, []), fx_i 3)] [(.inl (.inl (fx_i 2)), [], [], [])] [] 60 = true := by decide +kernel
noncomputable def kq_ok (w : pq_W) (x : Int) : Prop := x = -1 ∨ ∃ t : Nat, (t : Int) < sy_r w 95 6 ∧ x = 1324 + 15 * (t : Int)
noncomputable def kq_P (w : pq_W) (res : pq_R) : Prop := sx_Ty sx_T0 res.2 ∧ sx_Fr [] w res.2 ∧ ∃ x : Int32, res.1 = some (.int x) ∧ kq_ok w x.toInt
noncomputable def kqB (ls : pq_L) (a b c d : Int) : Prop := pq_lk ls 0 = some (.ref 94) ∧ ng_i ls 1 a ∧ ng_i ls 2 b ∧ ng_i ls 3 c ∧ ng_i ls 4 d
theorem kq_n {w : pq_W} (ht : sx_Ty sx_T0 w) : 0 ≤ sy_r w 95 6 ∧ sy_r w 95 6 ≤ 40 := sy_rg (r := 95) ht rfl (g := (6, 1, 1, 0, 0, 0, 40)) (by decide) (k := 0) (j := 0) (by decide) (Nat.le_refl _) (Nat.le_refl _) (by decide)
theorem kq_loop {w0 : pq_W} {a b : Int} {n : Nat} (hn : (n : Int) = sy_r w0 95 6) (hn2 : n ≤ 40) : ∀ (m t : Nat), t + m = n → ∀ (ls : pq_L) (w : pq_W) (x : Int), kqB ls a b x t → kq_ok w0 x → sx_Ty sx_T0 w → sx_Fr [] w0 w → ∃ res, pq_Go 9 pm_218 5 ls [] w 0 0 res ∧ kq_P w0 res := by
  intro m
  induction m with
  | zero =>
    intro t hm ls w x hb hx ht hf
    have ab := ng_ib hb.2.1
    have bb := ng_ib hb.2.2.1
    have xb : -1 ≤ x ∧ x ≤ 1909 := by
      rcases hx with h | ⟨t, h1, h2⟩ <;> omega
    refine ng_go (J := sx_tt) (Post := kq_P w0) (fx_p [a, b, x, t]) kq_3 rfl ⟨ab.1, ab.2, bb.1, bb.2, xb.1, xb.2, (by show (0 : Int) ≤ t; omega), (by show (t : Int) ≤ 40; omega), trivial⟩ trivial ⟨hb.1, ng_iy hb.2.1 rfl, ng_iy hb.2.2.1 rfl, ng_iy hb.2.2.2.1 rfl, ng_iy hb.2.2.2.2 rfl, trivial⟩ trivial ⟨?_, trivial⟩ ht sx_ctn (fun _ _ _ => trivial) ⟨fun r w2 t2 f2 q => ?_, trivial⟩ trivial
    · show sy_r w 95 (sx_ev _ (6, [])).toNat = sx_ev _ (sx_y 3)
      rw [ng_ek, sx_y_ev, ng_nil hf]
      show sy_r w0 95 6 = (t : Int)
      omega
    · obtain ⟨⟨y, y1, y2⟩, _⟩ := q
      rw [sx_y_ev] at y2
      have y2 : y.toInt = x := y2
      exact ⟨t2, sx_Fr_trans hf f2, y, y1, by rw [y2]; exact hx⟩
  | succ m ih =>
    intro t hm ls w x hb hx ht hf
    have ab := ng_ib hb.2.1
    have bb := ng_ib hb.2.2.1
    have xb : -1 ≤ x ∧ x ≤ 1909 := by
      rcases hx with h | ⟨t, h1, h2⟩ <;> omega
    refine ng_go (J := sx_tt) (Post := kq_P w0) (fx_p [a, b, x, t, n]) kq_2 rfl ⟨ab.1, ab.2, bb.1, bb.2, xb.1, xb.2, (by show (0 : Int) ≤ t; omega), (by show (t : Int) ≤ 39; omega), (by show (0 : Int) ≤ n; omega), (by show (n : Int) ≤ 40; omega), trivial⟩ ⟨by show 1 + (1 * (t : Int) + (-1 * (n : Int) + 0)) ≤ 0; omega, trivial⟩ ⟨hb.1, ng_iy hb.2.1 rfl, ng_iy hb.2.2.1 rfl, ng_iy hb.2.2.2.1 rfl, ng_iy hb.2.2.2.2 rfl, trivial⟩ trivial ⟨?_, trivial⟩ ht sx_ctn (fun _ _ _ => trivial) trivial ⟨fun ls2 st2 w2 t2 f2 q => ?_, fun ls2 st2 w2 t2 f2 q => ?_, trivial⟩
    · show sy_r w 95 (sx_ev _ (6, [])).toNat = sx_ev _ (sx_y 4)
      rw [ng_ek, sx_y_ev, ng_nil hf]
      show sy_r w0 95 6 = (n : Int)
      omega
    · obtain ⟨a1, a2, _⟩ := q
      cases ng_st0 a2
      obtain ⟨c0, c1, c2, c3, c4, _⟩ := a1
      exact ih (t + 1) (by omega) ls2 w2 x ⟨c0, ng_yi c1 rfl, ng_yi c2 rfl, ng_yi c3 rfl, ng_fi c4 (by show 1 + (1 * (t : Int) + 0) = _; omega)⟩ hx t2 (sx_Fr_trans hf f2)
    · obtain ⟨a1, a2, _⟩ := q
      cases ng_st0 a2
      obtain ⟨c0, c1, c2, c3, c4, _⟩ := a1
      exact ih (t + 1) (by omega) ls2 w2 (1324 + 15 * (t : Int)) ⟨c0, ng_yi c1 rfl, ng_yi c2 rfl, ng_fi c3 (by show 1324 + (15 * (t : Int) + 0) = _; omega), ng_fi c4 (by show 1 + (1 * (t : Int) + 0) = _; omega)⟩ (Or.inr ⟨t, by omega, rfl⟩) t2 (sx_Fr_trans hf f2)
theorem kx_known {w : pq_W} {xf xd : Int32} (ht : sx_Ty sx_T0 w) : ∃ res, pq_Ru 10 218 [.ref 94, .int xf, .int xd] w res ∧ kq_P w res := by
  have hn := kq_n ht
  have main : ∃ res, pq_Go 9 pm_218 0 (lv_args 0 [.ref 94, .int xf, .int xd]) [] w 0 0 res ∧ kq_P w res := by
    refine ng_go (J := sx_tt) (Post := kq_P w) (fx_p [xf.toInt, xd.toInt]) kq_1 rfl ⟨xf.minValue_le_toInt, xf.toInt_le, xd.minValue_le_toInt, xd.toInt_le, trivial⟩ trivial ⟨rfl, ng_iy ⟨xf, rfl, rfl⟩ rfl, ng_iy ⟨xd, rfl, rfl⟩ rfl, trivial⟩ trivial trivial ht sx_ctn (fun _ _ _ => trivial) trivial ⟨fun ls2 st2 w2 t2 f2 q => ?_, trivial⟩
    obtain ⟨a1, a2, _⟩ := q
    cases ng_st0 a2
    obtain ⟨c0, c1, c2, c3, c4, _⟩ := a1
    exact kq_loop (a := xf.toInt) (b := xd.toInt) (n := (sy_r w 95 6).toNat) (by omega) (by omega) (sy_r w 95 6).toNat 0 (by omega) ls2 w2 (-1) ⟨c0, ng_yi c1 rfl, ng_yi c2 rfl, ng_ki c3 rfl, ng_ki c4 rfl⟩ (Or.inl rfl) t2 f2
  obtain ⟨res, g1, g2⟩ := main
  refine ⟨res, ru_of (k := 9) (M := pm_218) rfl ?_ g1, g2⟩
  rw [Bool.and_eq_true]
  exact ⟨rfl, sq_rcv ht rfl rfl rfl⟩
/-! findFees. Symbols 0 flight, 1 then, 2 base, 3 plane, 4 good -/
noncomputable def ff_b (g : sx_V) : List (Nat × sx_V) := [(0, fx_r), (1, fx_i 0), (2, fx_i 1), (3, fx_i 2), (4, fx_i 3), (5, g)]
noncomputable def ff_iv : List (Int × Int) := [(0, 29), (0, 1), (-1, 1), (0, 11), (0, 1)]
noncomputable def ff_CT : List (Nat × sx_K) := [(184, kk_ruled), (180, kk_factor)]
noncomputable def ff_A (l : Nat) : sx_A := [(105, 0, 100000), (108, l, l)]
noncomputable def ff_ck (l : Nat) (pc : Nat) (iv : List (Int × Int)) (sl : List (Nat × sx_V)) (sa : List sx_V) (O : sx_O) (re : List ng_Ae) (hd : List (Nat × ng_Al)) : Bool := ng_chk (ff_A l) ff_CT [] 99 223 pm_223 pc iv [] sl sa O re hd 300
theorem ff_0 : ng_chk [] [] [] 99 223 pm_223 0 [(0, 29), (0, 1), (-1, 1), (0, 11)] [] [(0, fx_r), (1, fx_i 0), (2, fx_i 1), (3, fx_i 2)] [] [(95, (302, [(0, 34)]), fx_i 3)] [] [(18, gq_al (ff_b (fx_k 1) ++ [(6, fx_k 0)]) [])] 60 = true := by decide +kernel
theorem ff_9 : ng_chk [] [] [] 99 223 pm_223 18 ff_iv [] (ff_b (fx_i 4) ++ [(6, fx_k 8)]) [] [] [(.inl (.inl (fx_i 4)), [], [], [])] [] 60 = true := by decide +kernel
noncomputable def ff_z (l : Nat) : Nat × sx_F × sx_V := (108, ((l : Int), []), fx_k 0)
theorem ff_1 : ((List.range 8).all fun l => ff_ck l 18 (ff_iv ++ [(0, 12)]) (ff_b (fx_i 4) ++ [(6, fx_k l)]) [] [(95, (307, [(0, 34)]), fx_i 5)] [] [(18, gq_al (ff_b (fx_i 4) ++ [(6, fx_k (l + 1))]) [ff_z l]),
    (96, (ng_L (ff_b (fx_i 4) ++ [(6, fx_k l)]), [fx_k 3000, fx_i 0, fx_r], [ff_z l], [], [])),
    (146, (ng_L (ff_b (fx_i 4) ++ [(6, fx_k l)]) ++ [(9, .inr sy_full)], [fx_k l, fx_i 5, .inl (.inl (308, [(0, 34)])), fx_r], [], [], []))]) = true := by decide +kernel
theorem ff_2 : ((List.range 8).all fun l => ff_ck l 99 ff_iv (ff_b (fx_i 4) ++ [(6, fx_k l)]) [fx_k (-1)] [ff_z l] [] [(18, gq_al (ff_b (fx_k 0) ++ [(6, fx_k (l + 1))]) [ff_z l])]
    && ff_ck l 99 (ff_iv ++ [(0, 12), (0, 39)]) (ff_b (fx_i 4) ++ [(6, fx_k l)]) [.inl (.inl (1324, [(6, 15)]))] [(95, (1324, [(6, 15)]), fx_i 5)] [] [(146, (ng_L (ff_b (fx_i 4) ++ [(6, fx_k l)]) ++ [(9, .inr sy_full)], [fx_k l, fx_i 5, .inl (.inl (1325, [(6, 15)])), fx_r], [], [], []))]) = true := by decide +kernel
theorem ff_3 : ((List.range 8).all fun l => ff_ck l 146 (ff_iv ++ [(0, 12), (0, 2000), sy_full]) (ff_b (fx_i 4) ++ [(6, fx_k l), (9, fx_i 7)]) [fx_k l, fx_i 5, fx_i 6, fx_r] [] [] [(148, (ng_L (ff_b (fx_i 4) ++ [(6, fx_k l)]), [fx_i 7, fx_k l, fx_i 5, fx_i 6, fx_r], [], [], []))]
    && ff_ck l 151 (ff_iv ++ [(0, 110)]) (ff_b (fx_i 4) ++ [(6, fx_k l)]) [fx_i 5] [] [] [(18, (ng_L (ff_b (fx_i 4) ++ [(6, fx_k (l + 1))]), [], [], [], [(108, ((l : Int), []), false, 0, 1099690)]))]) = true := by decide +kernel
