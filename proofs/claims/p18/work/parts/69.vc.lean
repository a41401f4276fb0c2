/-! move, the numbers, told exactly -/
noncomputable def mn_N (N : Nat → Int) (a i o j n : Nat) (t : Nat) : Int := if 24 * o + j ≤ t ∧ t < 24 * o + j + n then N (24 * a + i + (t - (24 * o + j))) else N t
section PQK
variable {k : Nat} {M : pq_M} {pc cs ss pc0 nx tt r0 r1 : Nat} {ls : pq_L} {st : List Value} {w : pq_W} {res : pq_R} {i : Instr} {a : List Nat} {v : Value}
theorem go_cp {n dp sp : Int32} {c0 c1 c2 : pq_C} (hq : pq_look (pq_cd M) pc = some (pc0, 27, nx, i, a, v, tt)) (h0 : w[r0]? = some c0) (h1 : w[r1]? = some c1) (h2 : pq_cp c0 c1 sp dp n = some c2) (hc : (Nat.ble pq_E r0 && Nat.ble pq_E r1 && Nat.ble (pq_sum st) 8) = true) (g : pq_Go k M nx ls st (w.set r1 c2) cs ss res) : pq_Go k M pc ls (.int n :: .int dp :: .ref r1 :: .int sp :: .ref r0 :: st) w cs ss res := by
  refine go_seg 1 g (fun call f => ?_)
  rw [pq_exec_s, hq]
  show (match w[r0]?, w[r1]? with
    | some c0, some c1 => match pq_cp c0 c1 sp dp n with
      | some c2 => bif Nat.ble pq_E r0 && Nat.ble pq_E r1 && Nat.ble (pq_sum st) 8 then _ else none
      | none => none
    | _, _ => none) = _
  rw [h0, h1]
  show (match pq_cp c0 c1 sp dp n with
      | some c2 => bif Nat.ble pq_E r0 && Nat.ble pq_E r1 && Nat.ble (pq_sum st) 8 then _ else none
      | none => none) = _
  rw [h2]
  show (bif Nat.ble pq_E r0 && Nat.ble pq_E r1 && Nat.ble (pq_sum st) 8 then _ else none) = _
  rw [hc]
  rfl
end PQK
theorem mn_nn {x : Int32} {m : Nat} (h : x.toInt = m) : ¬ x < 0 ∧ x.toNatClampNeg = m := by
  refine ⟨fun q => ?_, ?_⟩
  · have := Int32.lt_iff_toInt_lt.mp q
    have z : (0 : Int32).toInt = 0 := by decide
    omega
  · show x.toInt.toNat = m
    omega
/-- what holds where move is done -/
noncomputable def mn_G (a i o j n : Nat) (wd1 wd2 s1 s2 : Int) : Prop := a < 4 ∧ o < 4 ∧ wd1 = wd2 ∧ (1 ≤ wd1 ∧ wd1 ≤ 32) ∧ ((i : Int) + n ≤ s1 ∧ s1 ≤ 24) ∧ (j : Int) + n ≤ s2 ∧ s2 ≤ 24
theorem mn_pre {cw cs a o : Nat} {i j n : Nat} {w : pq_W} (h : mn_G a i o j n (sy_r w cw a) (sy_r w cw o) (sy_r w cs a) (sy_r w cs o)) : sx_ivs (fx_p [(i : Int), j, n, sy_r w cs a, sy_r w cs o, sy_r w cw a]) 0 mn_iv ∧ ng_fs (fx_p [(i : Int), j, n, sy_r w cs a, sy_r w cs o, sy_r w cw a]) (mn_C (mn_s a o)) ∧ ng_eqs (fx_p [(i : Int), j, n, sy_r w cs a, sy_r w cs o, sy_r w cw a]) w (mn_O cw cs a o) := by
  obtain ⟨h1, h2, h3, h4, h5, h6⟩ := h
  refine ⟨⟨(show (0 : Int) ≤ i by omega), (show (i : Int) ≤ 24 by omega), (show (0 : Int) ≤ j by omega), (show (j : Int) ≤ 24 by omega), (show (0 : Int) ≤ n by omega), (show (n : Int) ≤ 24 by omega), (show 0 ≤ sy_r w cs a by omega), h5.2, (show 0 ≤ sy_r w cs o by omega), h6.2, h4.1, h4.2, trivial⟩, ?_⟩
  cases hb : Nat.beq a o with
  | true =>
    have e := Nat.eq_of_beq_eq_true hb
    subst e
    unfold mn_s mn_O
    rw [hb]
    refine ⟨⟨(by show 0 + (1 * (i : Int) + (1 * (n : Int) + (-1 * sy_r w cs a + 0))) ≤ 0; omega), (by show 0 + (1 * (j : Int) + (1 * (n : Int) + (-1 * sy_r w cs a + 0))) ≤ 0; omega), trivial⟩, sh_eo (n := a) (by rw [sx_y_ev]; rfl) rfl (sh_eo (n := a) (by rw [sx_y_ev]; rfl) rfl trivial)⟩
  | false =>
    unfold mn_s mn_O
    rw [hb]
    refine ⟨⟨(by show 0 + (1 * (i : Int) + (1 * (n : Int) + (-1 * sy_r w cs a + 0))) ≤ 0; omega), (by show 0 + (1 * (j : Int) + (1 * (n : Int) + (-1 * sy_r w cs o + 0))) ≤ 0; omega), trivial⟩, sh_eo (n := a) (by rw [sx_y_ev]; rfl) rfl (sh_eo (n := o) (by rw [sx_y_ev]; exact h3.symm) rfl (sh_eo (n := a) (by rw [sx_y_ev]; rfl) rfl (sh_eo (n := o) (by rw [sx_y_ev]; rfl) rfl trivial)))⟩
theorem mnc_gen {xa xi xo xj xn : Int32} {a i o j n : Nat} (ea : (a : Int) = xa.toInt) (ei : (i : Int) = xi.toInt) (eo : (o : Int) = xo.toInt) (ej : (j : Int) = xj.toInt) (en : (n : Int) = xn.toInt) {w : pq_W} (ht : sx_Ty sx_T0 w) (h : mn_G a i o j n (sy_r w 90 a) (sy_r w 90 o) (sy_r w 92 a) (sy_r w 92 o)) : ∃ res, pq_Go 299 pm_145 0 (lv_args 0 [.ref 5, .int xa, .int xi, .int xo, .int xj, .int xn]) [] w 0 0 res ∧ ∀ t, t < 96 → sy_r res.2 91 t = mn_N (sy_r w 91) a i o j n t := by
  obtain ⟨p1, p2, p3⟩ := mn_pre h
  obtain ⟨h1, h2, h3, h4, h5, h6⟩ := h
  refine ng_go (J := sx_tt) (Post := fun res => ∀ t, t < 96 → sy_r res.2 91 t = mn_N (sy_r w 91) a i o j n t) (fx_p [(i : Int), j, n, sy_r w 92 a, sy_r w 92 o, sy_r w 90 a]) (List.all_eq_true.mp (List.all_eq_true.mp mnc_1 a (List.mem_range.mpr h1)) o (List.mem_range.mpr h2)) rfl p1 p2 ⟨rfl, ng_ik ⟨xa, rfl, rfl⟩ ea.symm, ng_iy ⟨xi, rfl, rfl⟩ ei, ng_ik ⟨xo, rfl, rfl⟩ eo.symm, ng_iy ⟨xj, rfl, rfl⟩ ej, ng_iy ⟨xn, rfl, rfl⟩ en, trivial⟩ trivial p3 ht sx_ctn (fun _ _ _ => trivial) trivial ⟨fun ls2 st2 w2 t2 f2 q => ?_, trivial⟩
  obtain ⟨a1, a2, _⟩ := q
  obtain ⟨c0, c5, _⟩ := a1
  have f2 : sx_Fr [] w w2 := f2
  match st2, a2 with
  | .int yn :: .int yd :: .ref r1 :: .int ys :: .ref r0 :: [], ⟨e1, e2, e3, e4, e5, _⟩ =>
    have e3 : r1 = 91 := e3
    have e5 : r0 = 91 := e5
    subst e3
    subst e5
    have e1 : yn.toInt = 0 + (1 * (n : Int) + 0) := e1
    have e2 : yd.toInt = 24 * (o : Int) + (1 * (j : Int) + 0) := e2
    have e4 : ys.toInt = 24 * (a : Int) + (1 * (i : Int) + 0) := e4
    obtain ⟨g1, g2⟩ := mn_nn (m := n) (by omega : yn.toInt = (n : Int))
    obtain ⟨g3, g4⟩ := mn_nn (m := 24 * o + j) (by omega : yd.toInt = ((24 * o + j : Nat) : Int))
    obtain ⟨g5, g6⟩ := mn_nn (m := 24 * a + i) (by omega : ys.toInt = ((24 * a + i : Nat) : Int))
    obtain ⟨f, hf, _, hf2⟩ := sy_arr (r := 91) t2 rfl
    have hcp : pq_cp (.inl (.int, 96, .inl f)) (.inl (.int, 96, .inl f)) ys yd yn = some (.inl (.int, 96, .inl (va_cpy f f (24 * a + i) (24 * o + j) n))) := by
      unfold pq_cp
      rw [g2, g4, g6]
      exact if_pos ⟨Or.inl rfl, rfl, g5, g3, g1, by omega, by omega⟩
    have hlen : 91 < w2.length := by rw [t2.1]; decide
    have t3 : sx_Ty sx_T0 (w2.set 91 (.inl (.int, 96, .inl (va_cpy f f (24 * a + i) (24 * o + j) n)))) := sx_Ty_set t2 (t := .inr (.inl (.int, 96, []))) rfl ⟨rfl, rfl, fun g hg => by cases hg⟩
    obtain ⟨res, g, hr⟩ : ∃ res, pq_Go 299 pm_145 142 ls2 [] (w2.set 91 (.inl (.int, 96, .inl (va_cpy f f (24 * a + i) (24 * o + j) n)))) 0 0 res ∧ sx_Fr [] (w2.set 91 (.inl (.int, 96, .inl (va_cpy f f (24 * a + i) (24 * o + j) n)))) res.2 := by
      refine ng_go (J := sx_tt) (Post := fun res => sx_Fr [] (w2.set 91 (.inl (.int, 96, .inl (va_cpy f f (24 * a + i) (24 * o + j) n)))) res.2) (fx_p [(n : Int)]) mnc_2 rfl ⟨(show (0 : Int) ≤ n by omega), (show (n : Int) ≤ 24 by omega), trivial⟩ trivial ⟨c0, ng_iy (ng_yi c5 rfl) rfl, trivial⟩ trivial trivial t3 sx_ctn (fun _ _ _ => trivial) ⟨fun x w4 t4 f4 q => f4, trivial⟩ trivial
    refine ⟨res, go_cp rfl hf hf hcp (by decide) g, fun t ht => ?_⟩
    have e6 : ∀ s, s < 96 → sy_r w 91 s = (f s).toInt := fun s hs => by rw [← ng_nil f2 91 s]; exact im_arr hf hs
    rw [ng_nil hr 91 t, im_arr (w := w2.set 91 _) (List.getElem?_set_self hlen) ht]
    unfold mn_N va_cpy
    by_cases c : 24 * o + j ≤ t ∧ t < 24 * o + j + n
    · rw [if_pos c, if_pos c, e6 _ (by omega)]
    · rw [if_neg c, if_neg c, e6 t ht]
noncomputable def mnB (ls : pq_L) (a i o j n k : Int) : Prop := pq_lk ls 0 = some (.ref 94) ∧ ng_i ls 1 a ∧ ng_i ls 2 i ∧ ng_i ls 3 o ∧ ng_i ls 4 j ∧ ng_i ls 5 n ∧ ng_i ls 6 k
section MN
variable {a i o j n : Nat} {w0 : pq_W} {Post : pq_R → Prop}
theorem mn_l1 (ha : a < 4) (ho : o < 4) (hi : i + n ≤ 24) (hj : j + n ≤ 24) (hend : ∀ ls w, mnB ls a i o j n n → sx_Ty sx_T0 w → sx_Fr [(113, 0, 23)] w0 w → (∀ t, t < n → sy_r w 113 t = sy_r w0 100 (24 * a + i + t)) → ∃ res, pq_Go 299 pm_244 127 ls [] w 0 0 res ∧ Post res) : ∀ (m k : Nat), k + m = n → ∀ ls w, mnB ls a i o j n k → sx_Ty sx_T0 w → sx_Fr [(113, 0, 23)] w0 w → (∀ t, t < k → sy_r w 113 t = sy_r w0 100 (24 * a + i + t)) → ∃ res, pq_Go 299 pm_244 127 ls [] w 0 0 res ∧ Post res := by
  intro m
  induction m with
  | zero =>
    intro k hk ls w hb ht hf hg
    have e : k = n := by omega
    subst e
    exact hend ls w hb ht hf hg
  | succ m ih =>
    intro k hk ls w hb ht hf hg
    have hkn : k < n := by omega
    have e0 : sy_r w 100 (24 * a + i + k) = sy_r w0 100 (24 * a + i + k) := fr_no hf ⟨Or.inl (by decide), trivial⟩
    have hv := sy_bd w0 100 (24 * a + i + k)
    refine ng_go (J := sx_tt) (Post := Post) (fx_p [(i : Int), j, n, sy_r w0 100 (24 * a + i + k), o]) (List.all_eq_true.mp (List.all_eq_true.mp mnm_2 a (List.mem_range.mpr ha)) k (List.mem_range.mpr (by omega))) rfl ⟨(show (0 : Int) ≤ i by omega), (show (i : Int) ≤ 24 by omega), (show (0 : Int) ≤ j by omega), (show (j : Int) ≤ 24 by omega), (show (0 : Int) ≤ n by omega), (show (n : Int) ≤ 24 by omega), hv.1, hv.2, (show (0 : Int) ≤ o by omega), (show (o : Int) ≤ 3 by omega), trivial⟩ ⟨by show (k : Int) + 1 + (-1 * (n : Int) + 0) ≤ 0; omega, by show -24 + (1 * (i : Int) + (1 * (n : Int) + 0)) ≤ 0; omega, by show (k : Int) - 23 + (1 * (i : Int) + 0) ≤ 0; omega, trivial⟩ ⟨hb.1, ng_ik hb.2.1 rfl, ng_iy hb.2.2.1 rfl, ng_iy hb.2.2.2.1 rfl, ng_iy hb.2.2.2.2.1 rfl, ng_iy hb.2.2.2.2.2.1 rfl, ng_ik hb.2.2.2.2.2.2 rfl, trivial⟩ trivial (bk_eo (r := 100) (k := 24 * a + i + k) (by show ((24 * a + k : Nat) : Int) + (1 * (i : Int) + 0) = _; omega) (by rw [sx_y_ev, e0]; rfl) trivial) ht sx_ctn (fun _ _ _ => trivial) trivial ⟨fun ls2 st2 w2 t2 f2 q => ?_, trivial⟩
    obtain ⟨a1, a2, a3, _⟩ := q
    cases ng_st0 a2
    obtain ⟨c0, c1, c2, c3, c4, c5, c6, _⟩ := a1
    obtain ⟨v, _⟩ := sh_oe (n := k) a3 rfl
    rw [sx_y_ev] at v
    have v : sy_r w2 113 k = sy_r w0 100 (24 * a + i + k) := v
    have f2 : sx_Fr [(113, (k : Int), (k : Int))] w w2 := f2
    refine ih (k + 1) (by omega) ls2 w2 ⟨c0, ng_ki c1 rfl, ng_yi c2 rfl, ng_yi c3 rfl, ng_yi c4 rfl, ng_yi c5 rfl, ng_ki c6 (by omega)⟩ t2 (sx_Fr_trans hf (fr_wk (A := [(113, (k : Int), (k : Int))]) ⟨⟨0, 23, List.mem_cons_self, by omega, by omega⟩, trivial⟩ f2)) (fun t h => ?_)
    by_cases e : t = k
    · rw [e]; exact v
    · rw [fr_no f2 ⟨Or.inr (by omega), trivial⟩]
      exact hg t (by omega)
theorem mn_l2 (ha : a < 4) (ho : o < 4) (hi : i + n ≤ 24) (hj : j + n ≤ 24) : ∀ (m k : Nat), k + m = n → ∀ ls w, mnB ls a i o j n k → sx_Ty sx_T0 w → (∀ t, t < n → sy_r w 113 t = sy_r w0 100 (24 * a + i + t)) → (∀ t, t < 96 → sy_r w 100 t = mn_N (sy_r w0 100) a i o j k t) → ∃ res, pq_Go 299 pm_244 164 ls [] w 0 0 res ∧ ∀ t, t < 96 → sy_r res.2 100 t = mn_N (sy_r w0 100) a i o j n t := by
  intro m
  induction m with
  | zero =>
    intro k hk ls w hb ht hg hN
    have e : k = n := by omega
    subst e
    refine ng_go (J := sx_tt) (Post := fun res => ∀ t, t < 96 → sy_r res.2 100 t = mn_N (sy_r w0 100) a i o j k t) (fx_p [(i : Int), j, k, a, o]) mnm_5 rfl ⟨(show (0 : Int) ≤ i by omega), (show (i : Int) ≤ 24 by omega), (show (0 : Int) ≤ j by omega), (show (j : Int) ≤ 24 by omega), (show (0 : Int) ≤ k by omega), (show (k : Int) ≤ 24 by omega), (show (0 : Int) ≤ a by omega), (show (a : Int) ≤ 3 by omega), (show (0 : Int) ≤ o by omega), (show (o : Int) ≤ 3 by omega), trivial⟩ trivial ⟨hb.1, ng_iy hb.2.1 rfl, ng_iy hb.2.2.1 rfl, ng_iy hb.2.2.2.1 rfl, ng_iy hb.2.2.2.2.1 rfl, ng_iy hb.2.2.2.2.2.1 rfl, ng_iy hb.2.2.2.2.2.2 rfl, trivial⟩ trivial trivial ht sx_ctn (fun _ _ _ => trivial) ⟨fun x w2 t2 f2 q t h => ?_, trivial⟩ trivial
    have f2 : sx_Fr [] w w2 := f2
    show sy_r w2 100 t = _
    rw [ng_nil f2 100 t]
    exact hN t h
  | succ m ih =>
    intro k hk ls w hb ht hg hN
    have hkn : k < n := by omega
    have hv := sy_bd w0 100 (24 * a + i + k)
    have e0 := hg k hkn
    refine ng_go (J := sx_tt) (Post := fun res => ∀ t, t < 96 → sy_r res.2 100 t = mn_N (sy_r w0 100) a i o j n t) (fx_p [(i : Int), j, n, sy_r w0 100 (24 * a + i + k), a, k]) (List.all_eq_true.mp (List.all_eq_true.mp mnm_4 o (List.mem_range.mpr ho)) (j + k) (List.mem_range.mpr (by omega))) rfl ⟨(show (0 : Int) ≤ i by omega), (show (i : Int) ≤ 24 by omega), (show (0 : Int) ≤ j by omega), (show (j : Int) ≤ 24 by omega), (show (0 : Int) ≤ n by omega), (show (n : Int) ≤ 24 by omega), hv.1, hv.2, (show (0 : Int) ≤ a by omega), (show (a : Int) ≤ 3 by omega), (show (0 : Int) ≤ k by omega), (show (k : Int) ≤ 23 by omega), trivial⟩ ⟨by show 1 + (-1 * (n : Int) + (1 * (k : Int) + 0)) ≤ 0; omega, by show -((j + k : Nat) : Int) + (1 * (j : Int) + (1 * (k : Int) + 0)) ≤ 0; omega, by show ((j + k : Nat) : Int) + (-1 * (j : Int) + (-1 * (k : Int) + 0)) ≤ 0; omega, trivial⟩ ⟨hb.1, ng_iy hb.2.1 rfl, ng_iy hb.2.2.1 rfl, ng_ik hb.2.2.2.1 rfl, ng_iy hb.2.2.2.2.1 rfl, ng_iy hb.2.2.2.2.2.1 rfl, ng_iy hb.2.2.2.2.2.2 rfl, trivial⟩ trivial (bk_eo (r := 113) (k := k) (by rw [sx_y_ev]; rfl) (by rw [sx_y_ev, e0]; rfl) trivial) ht sx_ctn (fun _ _ _ => trivial) trivial ⟨fun ls2 st2 w2 t2 f2 q => ?_, trivial⟩
    obtain ⟨a1, a2, a3, _⟩ := q
    cases ng_st0 a2
    obtain ⟨c0, c1, c2, c3, c4, c5, c6, _⟩ := a1
    have v : sy_r w2 100 (24 * o + (j + k)) = sy_r w0 100 (24 * a + i + k) := by
      have h := a3.1
      rw [sx_y_ev, show sx_ev (fx_p [(i : Int), j, n, sy_r w0 100 (24 * a + i + k), a, k]) (24 * (o : Int), [(1, 1), (5, 1)]) = ((24 * o + (j + k) : Nat) : Int) from by show 24 * (o : Int) + (1 * (j : Int) + (1 * (k : Int) + 0)) = _; omega, Int.toNat_natCast] at h
      exact h
    have f2 : sx_Fr [(100, ((24 * o + (j + k) : Nat) : Int), ((24 * o + (j + k) : Nat) : Int))] w w2 := f2
    refine ih (k + 1) (by omega) ls2 w2 ⟨c0, ng_yi c1 rfl, ng_yi c2 rfl, ng_ki c3 rfl, ng_yi c4 rfl, ng_yi c5 rfl, ng_fi c6 (by show 1 + (1 * (k : Int) + 0) = _; omega)⟩ t2 (fun t h => by rw [fr_no f2 ⟨Or.inl (by decide), trivial⟩]; exact hg t h) (fun t h => ?_)
    by_cases e : t = 24 * o + (j + k)
    · subst e
      rw [v]
      unfold mn_N
      rw [if_pos ⟨by omega, by omega⟩, show 24 * o + (j + k) - (24 * o + j) = k by omega]
    · rw [fr_no f2 ⟨Or.inr (by omega), trivial⟩, hN t h]
      unfold mn_N
      by_cases c : 24 * o + j ≤ t ∧ t < 24 * o + j + k
      · rw [if_pos c, if_pos ⟨c.1, by omega⟩]
      · rw [if_neg c, if_neg (fun q => c ⟨q.1, by omega⟩)]
end MN
theorem mnm_gen {xa xi xo xj xn : Int32} {a i o j n : Nat} (ea : (a : Int) = xa.toInt) (ei : (i : Int) = xi.toInt) (eo : (o : Int) = xo.toInt) (ej : (j : Int) = xj.toInt) (en : (n : Int) = xn.toInt) {w : pq_W} (ht : sx_Ty sx_T0 w) (h : mn_G a i o j n (sy_r w 98 a) (sy_r w 98 o) (sy_r w 99 a) (sy_r w 99 o)) : ∃ res, pq_Go 299 pm_244 0 (lv_args 0 [.ref 94, .int xa, .int xi, .int xo, .int xj, .int xn]) [] w 0 0 res ∧ ∀ t, t < 96 → sy_r res.2 100 t = mn_N (sy_r w 100) a i o j n t := by
  obtain ⟨p1, p2, p3⟩ := mn_pre h
  obtain ⟨h1, h2, h3, h4, h5, h6⟩ := h
  refine ng_go (J := sx_tt) (Post := fun res => ∀ t, t < 96 → sy_r res.2 100 t = mn_N (sy_r w 100) a i o j n t) (fx_p [(i : Int), j, n, sy_r w 99 a, sy_r w 99 o, sy_r w 98 a]) (List.all_eq_true.mp (List.all_eq_true.mp mnm_1 a (List.mem_range.mpr h1)) o (List.mem_range.mpr h2)) rfl p1 p2 ⟨rfl, ng_ik ⟨xa, rfl, rfl⟩ ea.symm, ng_iy ⟨xi, rfl, rfl⟩ ei, ng_ik ⟨xo, rfl, rfl⟩ eo.symm, ng_iy ⟨xj, rfl, rfl⟩ ej, ng_iy ⟨xn, rfl, rfl⟩ en, trivial⟩ trivial p3 ht sx_ctn (fun _ _ _ => trivial) trivial ⟨fun ls2 st2 w2 t2 f2 q => ?_, trivial⟩
  obtain ⟨a1, a2, _⟩ := q
  cases ng_st0 a2
  obtain ⟨c0, c1, c2, c3, c4, c5, c6, _⟩ := a1
  have f2 : sx_Fr [] w w2 := f2
  refine mn_l1 (w0 := w) h1 h2 (by omega) (by omega) (fun ls3 w3 hb3 t3 f3 hg => ?_) n 0 (by omega) ls2 w2 ⟨c0, ng_ki c1 rfl, ng_yi c2 rfl, ng_ki c3 rfl, ng_yi c4 rfl, ng_yi c5 rfl, ng_ki c6 rfl⟩ t2 (ng_n2 f2) (fun t h => absurd h (Nat.not_lt_zero t))
  refine ng_go (J := sx_tt) (Post := fun res => ∀ t, t < 96 → sy_r res.2 100 t = mn_N (sy_r w 100) a i o j n t) (fx_p [(i : Int), j, n, a, o]) mnm_3 rfl ⟨(show (0 : Int) ≤ i by omega), (show (i : Int) ≤ 24 by omega), (show (0 : Int) ≤ j by omega), (show (j : Int) ≤ 24 by omega), (show (0 : Int) ≤ n by omega), (show (n : Int) ≤ 24 by omega), (show (0 : Int) ≤ a by omega), (show (a : Int) ≤ 3 by omega), (show (0 : Int) ≤ o by omega), (show (o : Int) ≤ 3 by omega), trivial⟩ trivial ⟨hb3.1, ng_iy hb3.2.1 rfl, ng_iy hb3.2.2.1 rfl, ng_iy hb3.2.2.2.1 rfl, ng_iy hb3.2.2.2.2.1 rfl, ng_iy hb3.2.2.2.2.2.1 rfl, ng_iy hb3.2.2.2.2.2.2 rfl, trivial⟩ trivial trivial t3 sx_ctn (fun _ _ _ => trivial) trivial ⟨fun ls4 st4 w4 t4 f4 q => ?_, trivial⟩
  obtain ⟨a1, a2, _⟩ := q
  cases ng_st0 a2
  obtain ⟨c0, c1, c2, c3, c4, c5, c6, _⟩ := a1
  have f4 : sx_Fr [] w3 w4 := f4
  refine mn_l2 (w0 := w) h1 h2 (by omega) (by omega) n 0 (by omega) ls4 w4 ⟨c0, ng_yi c1 rfl, ng_yi c2 rfl, ng_yi c3 rfl, ng_yi c4 rfl, ng_yi c5 rfl, ng_ki c6 rfl⟩ t4 (fun t h => by rw [ng_nil f4 113 t]; exact hg t h) (fun t h => ?_)
  rw [ng_nil f4 100 t, fr_no f3 ⟨Or.inl (by decide), trivial⟩]
  unfold mn_N
  rw [if_neg (by omega)]
