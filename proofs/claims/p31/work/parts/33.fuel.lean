/-! fuel of both sides, exactly -/
theorem sq_fat {w : pq_W} {r ci i : Nat} {fs : List sx_ft} {lo hi : Int} (ht : sx_Ty sx_T0 w) (hT : sx_T0[r]? = some (.inl (ci, fs))) (hf : fs[i]? = some (.inl (lo, hi))) : ∃ x : Int32, sx_wg w r i = some (.int x) ∧ x.toInt = sy_r w r i ∧ lo ≤ sy_r w r i ∧ sy_r w r i ≤ hi := by
  obtain ⟨c, h1, h2⟩ := sx_Ty_get ht hT
  match c, h1, h2 with
  | .inr (c, vs), h1, h2 =>
    obtain ⟨e1, e2, h3⟩ := h2
    have hl : i < vs.length := by
      rw [e2]
      exact (List.getElem?_eq_some_iff.mp hf).1
    have hv : vs[i]? = some vs[i] := List.getElem?_eq_getElem hl
    have h4 := h3 i _ _ hf hv
    have hg : sx_wg w r i = some vs[i] := by
      rw [sx_wg_of h1]
      exact hv
    generalize vs[i] = v at h4 hg
    match v, h4, hg with
    | .int x, h4, hg => exact ⟨x, hg, (sy_r_of hg).symm, by rw [sy_r_of hg]; exact h4.1, by rw [sy_r_of hg]; exact h4.2⟩
theorem sq_rcv {w : pq_W} {r ci : Nat} {fs : List sx_ft} {M : pq_M} {xs : List Value} (ht : sx_Ty sx_T0 w) (hT : sx_T0[r]? = some (.inl (ci, fs))) (h1 : (pq_ns M).headD 9 = 1) (h2 : (pq_ns M).getD 6 99 = ci) : pq_rcv M (.ref r :: xs) w = true := by
  obtain ⟨c, k1, k2⟩ := sx_Ty_get ht hT
  match c, k1, k2 with
  | .inr (c, vs), k1, k2 =>
    unfold pq_rcv
    rw [h1]
    show (match w[r]? with
      | some (.inr (ci, _)) => Nat.beq ci ((pq_ns M).getD 6 99)
      | _ => false) = true
    rw [k1]
    show Nat.beq c ((pq_ns M).getD 6 99) = true
    rw [h2, k2.1]
    exact Nat.beq_refl ci
def fu_P (A : sx_A) : sx_P := (sx_T0, A, [], [])
def fu_sl (r : Nat) : List (Nat × sx_V) := [(0, .inr (.inr r)), (1, fx_i 0)]
def fu_S (r j : Nat) (M : pq_M) (i : Int × Int) (O : sx_O) : sx_S := sq_s0 9 j M 0 [i, (0, 999)] [] (fu_sl r) [] O []
def fu_b : List sq_Ae := [(.inl (.inl (fx_k (-1000001))), [], [], [])]
theorem fu_m1 : fx_go (fu_P [(95, 1, 1)]) [(.inl (.inl (fx_i 1)), [(95, (1, []), fx_i 0)], [], [])] [] 100 (fu_S 94 230 pm_230 (0, 999) [(95, (1, []), fx_i 1)]) = true := by decide +kernel
theorem fu_m2 : fx_go (fu_P [(97, 0, 5)]) fu_b [] 100 (fu_S 94 230 pm_230 (-2147483648, -1) []) = true := by decide +kernel
theorem fu_m3 : fx_go (fu_P [(97, 0, 5)]) fu_b [] 100 (fu_S 94 230 pm_230 (1000, 2147483647) []) = true := by decide +kernel
theorem fu_c1 : fx_go (fu_P [(6, 9, 9)]) [(.inl (.inl (fx_i 1)), [(6, (9, []), fx_i 0)], [], [])] [] 100 (fu_S 5 121 pm_121 (0, 999) [(6, (9, []), fx_i 1)]) = true := by decide +kernel
theorem fu_c2 : fx_go (fu_P [(93, 0, 100000)]) fu_b [] 100 (fu_S 5 121 pm_121 (-2147483648, -1) []) = true := by decide +kernel
theorem fu_c3 : fx_go (fu_P [(93, 0, 100000)]) fu_b [] 100 (fu_S 5 121 pm_121 (1000, 2147483647) []) = true := by decide +kernel
