/-! rows of numbers kept, the class: exactly -/
-- symbols 0 row, 1 sheet, 2 how many, 3 the number's place, 4 how far away any other place is, 5 what stands there, 6 the number
noncomputable def kr_sl (r n k : sx_V) : List (Nat × sx_V) := [(0, .inr (.inr 29)), (1, r), (2, .inr (.inr 89)), (3, fx_i 1), (4, n), (5, k)]
noncomputable def kr_iv (n : Int × Int) : List (Int × Int) := [(0, 69), (0, 3), n, (0, 11), (0, 839), sy_full, sy_full]
noncomputable def kr_0 : Bool := (List.range 70).all fun r => ng_chk [(38, (r : Int), (r : Int))] [] [] 5 87 pm_87 0 [(0, 0), (0, 3), (0, 12)] [] [(0, .inr (.inr 29)), (1, fx_k r), (2, .inr (.inr 89)), (3, fx_i 1)] [] [(92, sx_y 1, fx_i 2)] [] [(31, (ng_L (kr_sl (fx_k r) (fx_i 2) (fx_k 0)), [], [sh_o 38 r (fx_i 2)], [], []))] 6000
noncomputable def kr_n1 : sx_V := .inl (.inl (1, [(3, 1)]))
noncomputable def kr_w : sx_F := (0, [(0, 12), (3, 1)])
noncomputable def kr_c1 (C e : sx_F) : Bool := ng_chk [(39, 0, 839)] [] [] 5 87 pm_87 31 (kr_iv (1, 12)) [(1, [(2, -1), (3, 1)]), C] (kr_sl (fx_i 0) (fx_i 2) (fx_i 3)) [] [(39, e, fx_i 5)] [] [(31, (ng_L (kr_sl (fx_i 0) (fx_i 2) kr_n1), [], [(39, e, fx_i 5)], [], []))] 6000
noncomputable def kr_c2 : Bool := ng_chk [(39, 0, 839)] [] [] 5 87 pm_87 31 (kr_iv (1, 12)) [(1, [(2, -1), (3, 1)])] (kr_sl (fx_i 0) (fx_i 2) (fx_i 3)) [] [(91, (0, [(1, 24), (3, 1)]), fx_i 6)] [] [(31, (ng_L (kr_sl (fx_i 0) (fx_i 2) kr_n1), [], [(39, kr_w, fx_i 6)], [], []))] 6000
noncomputable def kr_c3 : Bool := ng_chk [] [] [] 5 87 pm_87 31 (kr_iv (0, 12)) [] (kr_sl (fx_i 0) (fx_i 2) (fx_i 2)) [] [] [(.inr (), [], [], [])] [] 6000
theorem kr_0_ok : kr_0 = true := by decide +kernel
theorem kr_1l : kr_c1 (1, [(0, -12), (3, -1), (4, 1)]) (-1, [(0, 12), (3, 1), (4, -1)]) = true := by decide +kernel
theorem kr_1g : kr_c1 (-838, [(0, 12), (3, 1), (4, 1)]) (1, [(0, 12), (3, 1), (4, 1)]) = true := by decide +kernel
theorem kr_2_ok : kr_c2 = true := by decide +kernel
theorem kr_3_ok : kr_c3 = true := by decide +kernel
/-- what stands in a row of numbers after k of them were laid -/
noncomputable def kr_N (old num : Nat → Int) (b k q : Nat) : Int := if b ≤ q ∧ q < b + k then num (q - b) else old q
theorem kr_Ns {old num : Nat → Int} {b k q : Nat} (h : ¬ q = b + k) : kr_N old num b (k + 1) q = kr_N old num b k q := by
  unfold kr_N
  by_cases c : b ≤ q ∧ q < b + k
  · rw [if_pos c, if_pos (by omega)]
  · rw [if_neg c, if_neg (by omega)]
theorem kr_Ne {old num : Nat → Int} {b k : Nat} : kr_N old num b (k + 1) (b + k) = num k := by
  unfold kr_N
  rw [if_pos (by omega), show b + k - b = k by omega]
noncomputable def kr_B (ls : pq_L) (r s n k : Int) : Prop := pq_lk ls 0 = some (.ref 29) ∧ ng_i ls 1 r ∧ pq_lk ls 2 = some (.ref 89) ∧ ng_i ls 3 s ∧ ng_i ls 4 n ∧ ng_i ls 5 k
theorem kr_lp {w0 : pq_W} {r s n q : Nat} {Post : pq_R → Prop} (hr : r < 70) (hs : s < 4) (hn : n ≤ 12) (hq : q < 840)
    (cont : ∀ w, sx_Ty sx_T0 w → sx_Fr [(39, 0, 839)] w0 w → sy_r w 39 q = kr_N (sy_r w0 39) (fun k => sy_r w0 91 (24 * s + k)) (12 * r) n q → Post (none, w)) :
    ∀ (m k : Nat), k + m = n → ∀ ls w, kr_B ls r s n k → sx_Ty sx_T0 w → sx_Fr [(39, 0, 839)] w0 w → sy_r w 39 q = kr_N (sy_r w0 39) (fun k => sy_r w0 91 (24 * s + k)) (12 * r) k q → ∃ res, pq_Go 5 pm_87 31 ls [] w 0 0 res ∧ Post res := by
  intro m
  induction m with
  | zero =>
    intro k hk ls w hb ht hf hv
    have hk : k = n := by omega
    subst hk
    refine ng_go (J := sx_tt) (Post := Post) (fx_p [r, s, k, 0, 0, 0, 0]) kr_3_ok rfl ⟨(show (0 : Int) ≤ r by omega), (show (r : Int) ≤ 69 by omega), (show (0 : Int) ≤ s by omega), (show (s : Int) ≤ 3 by omega), (show (0 : Int) ≤ k by omega), (show (k : Int) ≤ 12 by omega), (show (0 : Int) ≤ 0 by decide), (show (0 : Int) ≤ 11 by decide), (show (0 : Int) ≤ 0 by decide), (show (0 : Int) ≤ 839 by decide), (show (-2147483648 : Int) ≤ 0 by decide), (show (0 : Int) ≤ 2147483647 by decide), (show (-2147483648 : Int) ≤ 0 by decide), (show (0 : Int) ≤ 2147483647 by decide), trivial⟩ trivial ⟨hb.1, ng_iy hb.2.1 rfl, hb.2.2.1, ng_iy hb.2.2.2.1 rfl, ng_iy hb.2.2.2.2.1 rfl, ng_iy hb.2.2.2.2.2 rfl, trivial⟩ trivial trivial ht sx_ctn (fun _ _ _ => trivial) ⟨fun x w1 t1 f1 a => ?_, trivial⟩ trivial
    have e : x = none := a.1
    subst e
    exact cont w1 t1 (sx_Fr_trans hf (sx_Fr_sub (A := []) rfl f1)) (by rw [ng_nil f1]; exact hv)
  | succ m ih =>
    intro k hk ls w hb ht hf hv
    have n91 : ∀ i, sy_r w 91 i = sy_r w0 91 i := fun i => fr_no hf ⟨Or.inl (by decide), trivial⟩
    have vb := sy_rb w 39 q
    have xb := sy_rb w 91 (24 * s + k)
    have iv : ∀ d : Nat, d ≤ 839 → sx_ivs (fx_p [r, s, n, k, d, sy_r w 39 q, sy_r w 91 (24 * s + k)]) 0 (kr_iv (1, 12)) := fun d hd => ⟨(show (0 : Int) ≤ r by omega), (show (r : Int) ≤ 69 by omega), (show (0 : Int) ≤ s by omega), (show (s : Int) ≤ 3 by omega), (show (1 : Int) ≤ n by omega), (show (n : Int) ≤ 12 by omega), (show (0 : Int) ≤ k by omega), (show (k : Int) ≤ 11 by omega), (show (0 : Int) ≤ d by omega), (show (d : Int) ≤ 839 by omega), vb.1, vb.2, xb.1, xb.2, trivial⟩
    have sl : ∀ d : Nat, ng_sl0 (fx_p [r, s, n, k, d, sy_r w 39 q, sy_r w 91 (24 * s + k)]) ls (kr_sl (fx_i 0) (fx_i 2) (fx_i 3)) := fun d => ⟨hb.1, ng_iy hb.2.1 rfl, hb.2.2.1, ng_iy hb.2.2.2.1 rfl, ng_iy hb.2.2.2.2.1 rfl, ng_iy hb.2.2.2.2.2 rfl, trivial⟩
    have c1 : 1 + (-1 * (n : Int) + (1 * (k : Int) + 0)) ≤ 0 := by omega
    have nxt : ∀ (d : Nat) ls2, ng_sl (fx_p [r, s, n, k, d, sy_r w 39 q, sy_r w 91 (24 * s + k)]) ls2 (ng_L (kr_sl (fx_i 0) (fx_i 2) kr_n1)) → kr_B ls2 r s n ((k + 1 : Nat) : Int) := fun d ls2 a => by
      obtain ⟨d0, d1, d2, d3, d4, d5, _⟩ := a
      exact ⟨d0, ng_yi d1 rfl, d2, ng_yi d3 rfl, ng_yi d4 rfl, ng_fi d5 (by show 1 + (1 * (k : Int) + 0) = _; omega)⟩
    have go1 : ∀ (d : Nat) (C e : sx_F), d ≤ 839 → kr_c1 C e = true → sx_ev (fx_p [r, s, n, k, d, sy_r w 39 q, sy_r w 91 (24 * s + k)]) C ≤ 0 → sx_ev (fx_p [r, s, n, k, d, sy_r w 39 q, sy_r w 91 (24 * s + k)]) e = (q : Int) → ¬ q = 12 * r + k → ∃ res, pq_Go 5 pm_87 31 ls [] w 0 0 res ∧ Post res := fun d C e hd ck hC he hne => by
      refine ng_go (J := sx_tt) (Post := Post) (fx_p [r, s, n, k, d, sy_r w 39 q, sy_r w 91 (24 * s + k)]) ck rfl (iv d hd) ⟨c1, hC, trivial⟩ (sl d) trivial ⟨?_, trivial⟩ ht sx_ctn (fun _ _ _ => trivial) trivial ⟨fun ls2 st2 w2 t2 f2 a => ?_, trivial⟩
      · rw [he, sx_y_ev, Int.toNat_natCast]
        rfl
      · obtain ⟨a1, a2, a3, _⟩ := a
        cases ng_st0 a2
        have e1 := a3.1
        rw [he, sx_y_ev, Int.toNat_natCast] at e1
        have e1 : sy_r w2 39 q = sy_r w 39 q := e1
        exact ih (k + 1) (by omega) ls2 w2 (nxt d ls2 a1) t2 (sx_Fr_trans hf f2) (by rw [e1, hv, kr_Ns hne])
    by_cases e1 : q < 12 * r + k
    · refine go1 (12 * r + k - 1 - q) _ _ (by omega) kr_1l ?_ ?_ (by omega)
      · show 1 + (-12 * (r : Int) + (-1 * (k : Int) + (1 * ((12 * r + k - 1 - q : Nat) : Int) + 0))) ≤ 0
        omega
      · show -1 + (12 * (r : Int) + (1 * (k : Int) + (-1 * ((12 * r + k - 1 - q : Nat) : Int) + 0))) = (q : Int)
        omega
    by_cases e2 : 12 * r + k < q
    · refine go1 (q - (12 * r + k) - 1) _ _ (by omega) kr_1g ?_ ?_ (by omega)
      · show -838 + (12 * (r : Int) + (1 * (k : Int) + (1 * ((q - (12 * r + k) - 1 : Nat) : Int) + 0))) ≤ 0
        omega
      · show 1 + (12 * (r : Int) + (1 * (k : Int) + (1 * ((q - (12 * r + k) - 1 : Nat) : Int) + 0))) = (q : Int)
        omega
    have eq : q = 12 * r + k := by omega
    refine ng_go (J := sx_tt) (Post := Post) (fx_p [r, s, n, k, (0 : Nat), sy_r w 39 q, sy_r w 91 (24 * s + k)]) kr_2_ok rfl (iv 0 (by decide)) ⟨c1, trivial⟩ (sl 0) trivial ⟨?_, trivial⟩ ht sx_ctn (fun _ _ _ => trivial) trivial ⟨fun ls2 st2 w2 t2 f2 a => ?_, trivial⟩
    · show sy_r w 91 (0 + (24 * (s : Int) + (1 * (k : Int) + 0))).toNat = sx_ev _ (sx_y 6)
      rw [sx_y_ev, show (0 + (24 * (s : Int) + (1 * (k : Int) + 0))).toNat = 24 * s + k by omega]
      rfl
    · obtain ⟨a1, a2, a3, _⟩ := a
      cases ng_st0 a2
      have e := a3.1
      rw [sx_y_ev] at e
      have e : sy_r w2 39 (0 + (12 * (r : Int) + (1 * (k : Int) + 0))).toNat = sy_r w 91 (24 * s + k) := e
      rw [show (0 + (12 * (r : Int) + (1 * (k : Int) + 0))).toNat = q by omega, n91] at e
      refine ih (k + 1) (by omega) ls2 w2 (nxt 0 ls2 a1) t2 (sx_Fr_trans hf f2) ?_
      rw [e, eq]
      exact (kr_Ne (old := sy_r w0 39) (num := fun k => sy_r w0 91 (24 * s + k)) (b := 12 * r) (k := k)).symm
noncomputable def kr_Q (w : pq_W) (r s n q : Nat) (res : pq_R) : Prop := res.1 = none ∧ sx_Ty sx_T0 res.2 ∧ sx_Fr [(38, (r : Int), (r : Int)), (39, 0, 839)] w res.2 ∧ sy_r res.2 38 r = (n : Int) ∧ sy_r res.2 39 q = kr_N (sy_r w 39) (fun k => sy_r w 91 (24 * s + k)) (12 * r) n q
theorem kr_ok {xr xs : Int32} {w : pq_W} {r s n q : Nat} (hr : r < 70) (er : xr.toInt = (r : Int)) (hs : s < 4) (es : xs.toInt = (s : Int)) (hn : n ≤ 12) (en : sy_r w 92 s = (n : Int)) (hq : q < 840) (ht : sx_Ty sx_T0 w) : ∃ res, pq_Ru 6 87 [.ref 29, .int xr, .ref 89, .int xs] w res ∧ kr_Q w r s n q res := by
  have main : ∃ res, pq_Go 5 pm_87 0 (lv_args 0 [.ref 29, .int xr, .ref 89, .int xs]) [] w 0 0 res ∧ kr_Q w r s n q res := by
    have ck := List.all_eq_true.mp kr_0_ok r (List.mem_range.mpr hr)
    refine ng_go (J := sx_tt) (Post := kr_Q w r s n q) (fx_p [0, s, n]) ck rfl ⟨(show (0 : Int) ≤ 0 by decide), (show (0 : Int) ≤ 0 by decide), (show (0 : Int) ≤ s by omega), (show (s : Int) ≤ 3 by omega), (show (0 : Int) ≤ n by omega), (show (n : Int) ≤ 12 by omega), trivial⟩ trivial ⟨rfl, ng_ik ⟨xr, rfl, rfl⟩ er, rfl, ng_iy ⟨xs, rfl, rfl⟩ es.symm, trivial⟩ trivial ⟨?_, trivial⟩ ht sx_ctn (fun _ _ _ => trivial) trivial ⟨fun ls2 st2 w2 t2 f2 a => ?_, trivial⟩
    · rw [sx_y_ev, sx_y_ev]
      show sy_r w 92 (s : Int).toNat = (n : Int)
      rw [Int.toNat_natCast]
      exact en
    · obtain ⟨⟨d0, d1, d2, d3, d4, d5, _⟩, a2, a3, _⟩ := a
      cases ng_st0 a2
      obtain ⟨v, _⟩ := sh_oe (n := r) a3 rfl
      rw [sx_y_ev] at v
      have v : sy_r w2 38 r = (n : Int) := v
      have f2 : sx_Fr [(38, (r : Int), (r : Int))] w w2 := f2
      refine kr_lp (w0 := w2) (r := r) (s := s) (n := n) (q := q) hr hs hn hq (fun w3 t3 f3 v3 => ?_) n 0 (by omega) ls2 w2 ⟨d0, ng_ki d1 rfl, d2, ng_yi d3 rfl, ng_yi d4 rfl, ng_ki d5 rfl⟩ t2 (sx_Fr_refl _ _) (by unfold kr_N; rw [if_neg (by omega)])
      refine ⟨rfl, t3, fr_cat f2 f3, ?_, ?_⟩
      · show sy_r w3 38 r = _
        rw [fr_no f3 ⟨Or.inl (by decide), trivial⟩, v]
      · show sy_r w3 39 q = _
        rw [v3, show sy_r w2 39 = sy_r w 39 from funext (fun i => fr_no f2 ⟨Or.inl (by decide), trivial⟩), show (fun k => sy_r w2 91 (24 * s + k)) = (fun k => sy_r w 91 (24 * s + k)) from funext (fun i => fr_no f2 ⟨Or.inl (by decide), trivial⟩)]
  obtain ⟨res, g, h⟩ := main
  exact ⟨res, ru_of (k := 5) (M := pm_87) rfl (by rw [Bool.and_eq_true]; exact ⟨rfl, sq_rcv ht rfl rfl rfl⟩) g, h⟩
