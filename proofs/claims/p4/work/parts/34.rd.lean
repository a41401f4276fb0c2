theorem pq_rcv1 {M : pq_M} {b ci : Nat} {as : List Value} {w : pq_W} {fs : List Value} (hk : (pq_ns M).headD 9 = 1) (h6 : (pq_ns M).getD 6 99 = ci) (hr : w[b]? = some (.inr (ci, fs))) : pq_rcv M (.ref b :: as) w = true := by
  unfold pq_rcv
  rw [hk]
  simp only [hr, h6]
  exact Nat.beq_refl ci
section PQK
variable {k : Nat} {M : pq_M} {pc cs ss pc0 nx t r : Nat} {ls : pq_L} {st : List Value} {w : pq_W} {res : pq_R} {i : Instr} {a : List Nat} {v z : Value}
theorem go_get {ci : Nat} {fs : List Value} (hq : pq_look (pq_cd M) pc = some (pc0, 19, nx, i, a, v, t)) (hr : w[r]? = some (.inr (ci, fs))) (hc : Nat.beq ci (a.headD 0) = true) (hz : fs[(a.getD 1 0)]? = some z) (g : pq_Go k M nx ls (z :: st) w cs ss res) : pq_Go k M pc ls (.ref r :: st) w cs ss res := by
  refine go_seg 1 g (fun call f => ?_)
  rw [pq_exec_s, hq]
  show (match w[r]? with
    | some (.inr (ci, fs)) => bif Nat.beq ci (a.headD 0) then (match fs[(a.getD 1 0)]? with
      | some z => _
      | none => none) else none
    | _ => none) = _
  rw [hr]
  show (bif Nat.beq ci (a.headD 0) then (match fs[(a.getD 1 0)]? with
      | some z => _
      | none => none) else none) = _
  rw [hc]
  show (match fs[(a.getD 1 0)]? with
      | some z => _
      | none => none) = _
  rw [hz]
theorem go_put {ci : Nat} {fs : List Value} (hq : pq_look (pq_cd M) pc = some (pc0, 20, nx, i, a, v, t)) (hr : w[r]? = some (.inr (ci, fs))) (hc : (Nat.beq ci (a.headD 0) && Nat.ble pq_E r && Nat.blt (a.getD 1 0) fs.length && pq_fit (a.getD 2 9) z) = true) (g : pq_Go k M nx ls st (w.set r (.inr (ci, fs.set (a.getD 1 0) z))) cs ss res) : pq_Go k M pc ls (z :: .ref r :: st) w cs ss res := by
  refine go_seg 1 g (fun call f => ?_)
  rw [pq_exec_s, hq]
  show (match w[r]? with
    | some (.inr (ci, fs)) => bif Nat.beq ci (a.headD 0) && Nat.ble pq_E r && Nat.blt (a.getD 1 0) fs.length && pq_fit (a.getD 2 9) z then _ else none
    | _ => none) = _
  rw [hr]
  show (bif Nat.beq ci (a.headD 0) && Nat.ble pq_E r && Nat.blt (a.getD 1 0) fs.length && pq_fit (a.getD 2 9) z then _ else none) = _
  rw [hc]
  rfl
theorem go_ald {x : Int32} {c0 : pq_C} (hq : pq_look (pq_cd M) pc = some (pc0, 21, nx, i, a, v, t)) (hr : w[r]? = some c0) (hz : pq_ald c0 x (a.headD 9) = some z) (g : pq_Go k M nx ls (z :: st) w cs ss res) : pq_Go k M pc ls (.int x :: .ref r :: st) w cs ss res := by
  refine go_seg 1 g (fun call f => ?_)
  rw [pq_exec_s, hq]
  show (match w[r]? with
    | some c => match pq_ald c x (a.headD 9) with
      | some z => _
      | none => none
    | none => none) = _
  rw [hr]
  show (match pq_ald c0 x (a.headD 9) with
      | some z => _
      | none => none) = _
  rw [hz]
end PQK
theorem pa_i {n j : Nat} {f : Nat → Int32} (h : j < n) (hn : n < 2 ^ 31) : pq_ald (.inl (.int, n, .inl f)) (nI j) 0 = some (.int (f j)) := by
  show (if FieldType.int = .int ∧ pq_in (nI j) n = true then (some (Value.int (f (nI j).toNatClampNeg)) : Option Value) else none) = _
  rw [if_pos ⟨rfl, decide_eq_true (vp_in_nI h hn)⟩, nI_clamp (by omega)]
theorem ps_i {n j : Nat} {f : Nat → Int32} {y : Int32} (h : j < n) (hn : n < 2 ^ 31) : pq_ast (.inl (.int, n, .inl f)) (nI j) (.int y) 0 = some (.inl (.int, n, .inl (upd f j y))) := by
  show (if FieldType.int = .int ∧ pq_in (nI j) n = true then (some (Sum.inl (FieldType.int, n, Sum.inl (upd f (nI j).toNatClampNeg y))) : Option pq_C) else none) = _
  rw [if_pos ⟨rfl, decide_eq_true (vp_in_nI h hn)⟩, nI_clamp (by omega)]
/-- n values of f laid over g -/
noncomputable def ct_c (f g : Nat → Int32) (n : Nat) : Nat → Int32 := fun j => if j < n then f j else g j
theorem ct_s (f g : Nat → Int32) (n : Nat) : upd (ct_c f g n) n (f n) = ct_c f g (n + 1) := by
  funext j
  unfold upd ct_c
  by_cases h : j = n
  · rw [if_pos h, if_pos (by omega), h]
  · rw [if_neg h]
    by_cases h2 : j < n
    · rw [if_pos h2, if_pos (by omega)]
    · rw [if_neg h2, if_neg (by omega)]
theorem ct_0 (f g : Nat → Int32) : ct_c f g 0 = g := by
  funext j
  unfold ct_c
  rw [if_neg (Nat.not_lt_zero j)]
/-- the reference's image: its loop -/
theorem im_loop (w : pq_W) (fs : List Value) (f g : Nat → Int32) (h90 : w[94]? = some (.inr (11, fs))) (k0 : fs[0]? = some (.ref 95)) (k1 : fs[1]? = some (.ref 96)) (h91 : w[95]? = some (.inl (.int, 2858, .inl f))) (hl : 96 < w.length) {res : pq_R}
    (e : pq_Go 0 pm_245 27 [(1, .int (nI 2858)), (0, .ref 94)] [] (w.set 96 (.inl (.int, 2858, .inl (ct_c f g 2858)))) 0 0 res) : ∀ (m i : Nat), i + m = 2858 → pq_Go 0 pm_245 2 [(1, .int (nI i)), (0, .ref 94)] [] (w.set 96 (.inl (.int, 2858, .inl (ct_c f g i)))) 0 0 res := by
  intro m
  induction m with
  | zero =>
    intro i hi
    have hi : i = 2858 := by omega
    subst hi
    refine go_seg 2 (pc' := 6) (ls' := [(1, .int (nI 2858)), (0, .ref 94)]) (st' := [.int 2858, .int (nI 2858)]) (w' := w.set 96 (.inl (.int, 2858, .inl (ct_c f g 2858)))) (cs' := 0) (ss' := 0) ?_ (fun _ _ => rfl)
    exact go_cmp true rfl (by decide +kernel) e
  | succ m ih =>
    intro i hi
    refine go_seg 2 (pc' := 6) (ls' := [(1, .int (nI i)), (0, .ref 94)]) (st' := [.int 2858, .int (nI i)]) (w' := w.set 96 (.inl (.int, 2858, .inl (ct_c f g i)))) (cs' := 0) (ss' := 0) ?_ (fun _ _ => rfl)
    refine go_cmp false rfl (br_ge_f (b := 2858) rfl (by rw [nI_toInt (by omega)]; omega)) ?_
    refine go_seg 1 (pc' := 10) (ls' := [(1, .int (nI i)), (0, .ref 94)]) (st' := [.ref 94]) (w' := w.set 96 (.inl (.int, 2858, .inl (ct_c f g i)))) (cs' := 0) (ss' := 0) ?_ (fun _ _ => rfl)
    refine go_get (z := .ref 96) rfl (by rw [List.getElem?_set_ne (by decide)]; exact h90) rfl k1 ?_
    refine go_seg 2 (pc' := 15) (ls' := [(1, .int (nI i)), (0, .ref 94)]) (st' := [.ref 94, .int (nI i), .ref 96]) (w' := w.set 96 (.inl (.int, 2858, .inl (ct_c f g i)))) (cs' := 0) (ss' := 0) ?_ (fun _ _ => rfl)
    refine go_get (z := .ref 95) rfl (by rw [List.getElem?_set_ne (by decide)]; exact h90) rfl k0 ?_
    refine go_seg 1 (pc' := 19) (ls' := [(1, .int (nI i)), (0, .ref 94)]) (st' := [.int (nI i), .ref 95, .int (nI i), .ref 96]) (w' := w.set 96 (.inl (.int, 2858, .inl (ct_c f g i)))) (cs' := 0) (ss' := 0) ?_ (fun _ _ => rfl)
    refine go_ald (z := .int (f i)) rfl (by rw [List.getElem?_set_ne (by decide)]; exact h91) (pa_i (by omega) (by omega)) ?_
    refine go_ast (c1 := .inl (.int, 2858, .inl (ct_c f g (i + 1)))) rfl (List.getElem?_set_self hl) (by rw [← ct_s]; exact ps_i (by omega) (by omega)) rfl ?_
    rw [pq_set_set]
    refine go_seg 2 (pc' := 2) (ls' := [(1, .int (nI (i + 1))), (0, .ref 94)]) (st' := []) (w' := w.set 96 (.inl (.int, 2858, .inl (ct_c f g (i + 1))))) (cs' := 0) (ss' := 0) ?_ (fun _ _ => by rw [nI_succ]; rfl)
    exact ih (i + 1) (by omega)
theorem im_ru (w : pq_W) (fs : List Value) (f g : Nat → Int32) (x : Int32) (h90 : w[94]? = some (.inr (11, fs))) (k0 : fs[0]? = some (.ref 95)) (k1 : fs[1]? = some (.ref 96)) (h91 : w[95]? = some (.inl (.int, 2858, .inl f))) (h92 : w[96]? = some (.inl (.int, 2858, .inl g))) (kI : fs[2]? = some (.int x)) (hlen : Nat.blt 2 fs.length = true) : pq_Ru 1 245 [.ref 94] w (some (.int (x + 1)), (w.set 96 (.inl (.int, 2858, .inl (ct_c f g 2858)))).set 94 (.inr (11, fs.set 2 (.int (x + 1))))) := by
  have hl : 96 < w.length := (List.getElem?_eq_some_iff.mp h92).1
  have e0 : w.set 96 (.inl (.int, 2858, .inl (ct_c f g 0))) = w := by
    rw [ct_0]
    obtain ⟨h1, h2⟩ := List.getElem?_eq_some_iff.mp h92
    rw [← h2, List.set_getElem_self]
  have h90' : (w.set 96 (.inl (.int, 2858, .inl (ct_c f g 2858))))[94]? = some (.inr (11, fs)) := by rw [List.getElem?_set_ne (by decide)]; exact h90
  refine ru_of (k := 0) (M := pm_245) rfl (by rw [pq_rcv1 rfl rfl h90]; rfl) ?_
  refine go_seg 2 (pc' := 2) (ls' := [(1, .int (nI 0)), (0, .ref 94)]) (st' := []) (w' := w) (cs' := 0) (ss' := 0) ?_ (fun _ _ => rfl)
  have h := im_loop w fs f g h90 k0 k1 h91 hl (res := (some (.int (x + 1)), (w.set 96 (.inl (.int, 2858, .inl (ct_c f g 2858)))).set 94 (.inr (11, fs.set 2 (.int (x + 1)))))) ?_ 2858 0 (by omega)
  · rw [e0] at h
    exact h
  · refine go_seg 2 (pc' := 29) (ls' := [(1, .int (nI 2858)), (0, .ref 94)]) (st' := [.ref 94, .ref 94]) (w' := w.set 96 (.inl (.int, 2858, .inl (ct_c f g 2858)))) (cs' := 0) (ss' := 0) ?_ (fun _ _ => rfl)
    refine go_get (z := .int x) rfl h90' rfl kI ?_
    refine go_seg 2 (pc' := 34) (ls' := [(1, .int (nI 2858)), (0, .ref 94)]) (st' := [.int (x + 1), .ref 94]) (w' := w.set 96 (.inl (.int, 2858, .inl (ct_c f g 2858)))) (cs' := 0) (ss' := 0) ?_ (fun _ _ => rfl)
    refine go_put rfl h90' (by show (true && true && Nat.blt 2 fs.length && true) = true; rw [hlen]; rfl) ?_
    refine go_seg 1 (pc' := 38) (ls' := [(1, .int (nI 2858)), (0, .ref 94)]) (st' := [.ref 94]) (w' := (w.set 96 (.inl (.int, 2858, .inl (ct_c f g 2858)))).set 94 (.inr (11, fs.set 2 (.int (x + 1))))) (cs' := 0) (ss' := 0) ?_ (fun _ _ => rfl)
    refine go_get (z := .int (x + 1)) rfl (List.getElem?_set_self (by rw [List.length_set]; omega)) rfl (List.getElem?_set_self (Nat.le_of_ble_eq_true hlen)) ?_
    exact go_end 1 (fun _ _ => rfl)

