section PQH
variable {k k1 : Nat} {M : pq_M} {pc pc' cs ss cs' ss' : Nat} {ls ls' : pq_L} {st st' : List Value} {w w' : pq_W} {res : pq_R}
theorem go_cl {j n pc0 nx t : Nat} {i : Instr} {v : Value} {as : List Value} {w1 : pq_W} {r : Option Value} (hq : pq_look (pq_cd M) pc = some (pc0, 28, nx, i, [j, n], v, t)) (hc : (Nat.ble n st.length && Nat.ble (pq_sum (st.drop n)) 8 && Nat.ble (cs + (pq_lim pq_tab j).1) (pq_lm M).1 && Nat.ble (ss + (pq_lim pq_tab j).2) (pq_lm M).2) = true) (has : (st.take n).reverse = as) (h1 : r.toList ++ st.drop n = st') (h2 : cs + (pq_lim pq_tab j).1 = cs') (h3 : ss + (pq_lim pq_tab j).2 = ss') (hk : Nat.ble k1 k = true) (hr : pq_Ru k1 j as w (r, w1)) (g : pq_Go k M nx ls st' w1 cs' ss' res) : pq_Go k M pc ls st w cs ss res := by
  refine go_call 1 (Nat.le_of_ble_eq_true hk) hr g (fun call f hcl => ?_)
  rw [pq_exec_s, hq]
  show (bif (Nat.ble n st.length && Nat.ble (pq_sum (st.drop n)) 8 && Nat.ble (cs + (pq_lim pq_tab j).1) (pq_lm M).1 && Nat.ble (ss + (pq_lim pq_tab j).2) (pq_lm M).2) then (match call j (st.take n).reverse w with
      | some (r, w1) => pq_exec call (pq_lim pq_tab) (pq_lm M) (pq_rt M) (pq_cd M) f nx ls (r.toList ++ st.drop n) w1 (cs + (pq_lim pq_tab j).1) (ss + (pq_lim pq_tab j).2)
      | none => none) else none) = _
  rw [hc, has, hcl, ← h1, ← h2, ← h3]
  rfl
theorem go_sw {pc0 nx t tgt : Nat} {i : Instr} {a : List Nat} {v : Value} {x : Int32} (hq : pq_look (pq_cd M) pc = some (pc0, 15, nx, i, a, v, t)) (hs : pq_sw i a x = some tgt) (g : pq_Go k M tgt ls st w cs ss res) : pq_Go k M pc ls (.int x :: st) w cs ss res := by
  refine go_seg 1 g (fun call f => ?_)
  rw [pq_exec_s, hq]
  show (match pq_sw i a x with
    | some t => _
    | none => none) = _
  rw [hs]
end PQH
theorem sw_out {d lo hi : Int} {offs : Array Int} {t : Nat} {a : List Nat} {x : Int32} (h : x.toInt < lo ∨ hi < x.toInt) : pq_sw (.tableswitch d lo hi offs) (t :: a) x = some t := by
  show (if x.toInt < lo ∨ hi < x.toInt then (t :: a)[0]? else _) = _
  rw [if_pos h]
  rfl
theorem br_lt_t {x y : Int32} {b : Int} (hy : y.toInt = b) (h : x.toInt < b) : pq_br .lt x y = true := decide_eq_true (Int32.lt_iff_toInt_lt.mpr (by rw [hy]; exact h))
theorem br_lt_f {x y : Int32} {b : Int} (hy : y.toInt = b) (h : ¬ x.toInt < b) : pq_br .lt x y = false := decide_eq_false (fun z => h (by rw [← hy]; exact Int32.lt_iff_toInt_lt.mp z))
theorem br_ge_t {x y : Int32} {b : Int} (hy : y.toInt = b) (h : b ≤ x.toInt) : pq_br .ge x y = true := decide_eq_true (Int32.le_iff_toInt_le.mpr (by rw [hy]; exact h))
theorem br_ge_f {x y : Int32} {b : Int} (hy : y.toInt = b) (h : ¬ b ≤ x.toInt) : pq_br .ge x y = false := decide_eq_false (fun z => h (by rw [← hy]; exact Int32.le_iff_toInt_le.mp z))
theorem br_gt_t {x y : Int32} {b : Int} (hy : y.toInt = b) (h : b < x.toInt) : pq_br .gt x y = true := decide_eq_true (Int32.lt_iff_toInt_lt.mpr (by rw [hy]; exact h))
theorem br_gt_f {x y : Int32} {b : Int} (hy : y.toInt = b) (h : ¬ b < x.toInt) : pq_br .gt x y = false := decide_eq_false (fun z => h (by rw [← hy]; exact Int32.lt_iff_toInt_lt.mp z))
theorem br_le_t {x y : Int32} {b : Int} (hy : y.toInt = b) (h : x.toInt ≤ b) : pq_br .le x y = true := decide_eq_true (Int32.le_iff_toInt_le.mpr (by rw [hy]; exact h))
theorem br_le_f {x y : Int32} {b : Int} (hy : y.toInt = b) (h : ¬ x.toInt ≤ b) : pq_br .le x y = false := decide_eq_false (fun z => h (by rw [← hy]; exact Int32.le_iff_toInt_le.mp z))
theorem br_eq_f {x y : Int32} {b : Int} (hy : y.toInt = b) (h : ¬ x.toInt = b) : pq_br .eq x y = false := decide_eq_false (fun z => h (by rw [z, hy]))
theorem br_ne_t {x y : Int32} {b : Int} (hy : y.toInt = b) (h : ¬ x.toInt = b) : pq_br .ne x y = true := decide_eq_true (fun z => h (by rw [z, hy]))
theorem ne_t {x y : Int32} {b : Int} (hy : y.toInt = b) (h : ¬ x = y) : ¬ x.toInt = b := fun z => h (Int32.toInt_inj.mp (by rw [z, hy]))
theorem lc_lt (x y : Int64) : pq_br .lt (lg_cmp x y) 0 = decide (x < y) := by
  show decide (lg_cmp x y < 0) = decide (x < y)
  congr 1
  unfold lg_cmp
  simp only [gt_iff_lt, Int64.lt_iff_toInt_lt, ← Int64.toInt_inj]
  repeat' split
  all_goals (apply propext; constructor <;> intro hh <;> first | omega | decide | exact absurd hh (by decide))
theorem lc_gt (x y : Int64) : pq_br .gt (lg_cmp x y) 0 = decide (y < x) := by
  show decide (0 < lg_cmp x y) = decide (y < x)
  congr 1
  unfold lg_cmp
  simp only [gt_iff_lt, Int64.lt_iff_toInt_lt, ← Int64.toInt_inj]
  repeat' split
  all_goals (apply propext; constructor <;> intro hh <;> first | omega | decide | exact absurd hh (by decide))
/-- the reference's 'within' of an int -/
theorem wi_l {a : Int32} {lo : Int64} {l : Int} (hl : lo.toInt = l) : (a.toInt64 < lo ↔ a.toInt < l) ∧ (lo < a.toInt64 ↔ l < a.toInt) := by
  rw [Int64.lt_iff_toInt_lt, Int64.lt_iff_toInt_lt, Int32.toInt_toInt64, hl]
  exact ⟨Iff.rfl, Iff.rfl⟩
theorem wi_t (w : pq_W) (a : Int32) (lo hi : Int64) (l h : Int) (hl : lo.toInt = l) (hh : hi.toInt = h) (hp : l ≤ a.toInt ∧ a.toInt ≤ h) : pq_Ru 1 161 [.long a.toInt64, .long lo, .long hi] w (some (.int 1), w) := by
  have e1 : ¬ a.toInt64 < lo := fun z => by have := (wi_l hl).1.mp z; omega
  have e2 : ¬ hi < a.toInt64 := fun z => by have := (wi_l (a := a) hh).2.mp z; omega
  refine ru_of (k := 0) (M := pm_161) rfl rfl ?_
  refine go_seg 3 (pc' := 3) (ls' := [(0, .long a.toInt64), (2, .long lo), (4, .long hi)]) (st' := [.int (lg_cmp a.toInt64 lo)]) (w' := w) (cs' := 0) (ss' := 0) ?_ (fun _ _ => rfl)
  refine go_if false rfl ((lc_lt _ _).trans (decide_eq_false e1)) ?_
  refine go_seg 3 (pc' := 10) (ls' := [(0, .long a.toInt64), (2, .long lo), (4, .long hi)]) (st' := [.int (lg_cmp a.toInt64 hi)]) (w' := w) (cs' := 0) (ss' := 0) ?_ (fun _ _ => rfl)
  refine go_if false rfl ((lc_gt _ _).trans (decide_eq_false e2)) ?_
  exact go_end 3 (fun _ _ => rfl)
theorem wi_f (w : pq_W) (a : Int32) (lo hi : Int64) (l h : Int) (hl : lo.toInt = l) (hh : hi.toInt = h) (hp : ¬ (l ≤ a.toInt ∧ a.toInt ≤ h)) : pq_Ru 1 161 [.long a.toInt64, .long lo, .long hi] w (some (.int 0), w) := by
  refine ru_of (k := 0) (M := pm_161) rfl rfl ?_
  refine go_seg 3 (pc' := 3) (ls' := [(0, .long a.toInt64), (2, .long lo), (4, .long hi)]) (st' := [.int (lg_cmp a.toInt64 lo)]) (w' := w) (cs' := 0) (ss' := 0) ?_ (fun _ _ => rfl)
  by_cases e1 : a.toInt64 < lo
  · refine go_if true rfl ((lc_lt _ _).trans (decide_eq_true e1)) ?_
    exact go_end 2 (fun _ _ => rfl)
  · have e2 : hi < a.toInt64 := (wi_l (a := a) hh).2.mpr (by
      have h3 : ¬ a.toInt < l := fun z => e1 ((wi_l hl).1.mpr z)
      omega)
    refine go_if false rfl ((lc_lt _ _).trans (decide_eq_false e1)) ?_
    refine go_seg 3 (pc' := 10) (ls' := [(0, .long a.toInt64), (2, .long lo), (4, .long hi)]) (st' := [.int (lg_cmp a.toInt64 hi)]) (w' := w) (cs' := 0) (ss' := 0) ?_ (fun _ _ => rfl)
    refine go_if true rfl ((lc_gt _ _).trans (decide_eq_true e2)) ?_
    exact go_end 2 (fun _ _ => rfl)
/-- Arrays.fill -/
def fl_c (n : Nat) (v : Int32) (f : Nat → Int32) : Nat → Int32 := fun j => if j < n then v else f j
theorem fl_s (n : Nat) (v : Int32) (f : Nat → Int32) : upd (fl_c n v f) n v = fl_c (n + 1) v f := by
  funext j
  unfold upd fl_c
  by_cases h : j = n
  · rw [if_pos h, if_pos (by omega)]
  · rw [if_neg h]
    by_cases h2 : j < n
    · rw [if_pos h2, if_pos (by omega)]
    · rw [if_neg h2, if_neg (by omega)]
theorem pq_set_set {w : pq_W} {r : Nat} {a b : pq_C} : (w.set r a).set r b = w.set r b := List.set_set ..
theorem fl_a {n i : Nat} {v : Int32} {f : Nat → Int32} (h : i < n) (hn : n < 2 ^ 31) : pq_ast (.inl (.int, n, .inl (fl_c i v f))) (nI i) (.int v) 0 = some (.inl (.int, n, .inl (fl_c (i + 1) v f))) := by
  show (if FieldType.int = .int ∧ pq_in (nI i) n = true then (some (Sum.inl (FieldType.int, n, Sum.inl (upd (fl_c i v f) (nI i).toNatClampNeg v))) : Option pq_C) else none) = _
  rw [if_pos ⟨rfl, decide_eq_true (vp_in_nI h hn)⟩, nI_clamp (by omega), fl_s]
theorem go_ast {k : Nat} {M : pq_M} {pc cs ss pc0 nx t r : Nat} {ls : pq_L} {st : List Value} {w : pq_W} {res : pq_R} {i : Instr} {a : List Nat} {v z : Value} {x : Int32} {c0 c1 : pq_C} (hq : pq_look (pq_cd M) pc = some (pc0, 22, nx, i, a, v, t)) (hr : w[r]? = some c0) (hz : pq_ast c0 x z (a.headD 9) = some c1) (hE : Nat.ble pq_E r = true) (g : pq_Go k M nx ls st (w.set r c1) cs ss res) : pq_Go k M pc ls (z :: .int x :: .ref r :: st) w cs ss res := by
  refine go_seg 1 g (fun call f => ?_)
  rw [pq_exec_s, hq]
  show (match w[r]? with
    | some c => match pq_ast c x z (a.headD 9) with
      | some c1 => bif Nat.ble pq_E r then _ else none
      | none => none
    | none => none) = _
  rw [hr]
  show (match pq_ast c0 x z (a.headD 9) with
      | some c1 => bif Nat.ble pq_E r then _ else none
      | none => none) = _
  rw [hz]
  show (bif Nat.ble pq_E r then _ else none) = _
  rw [hE]
  rfl
theorem go_alen {k : Nat} {M : pq_M} {pc cs ss pc0 nx t r n : Nat} {ls : pq_L} {st : List Value} {w : pq_W} {res : pq_R} {i : Instr} {a : List Nat} {v : Value} {c0 : pq_C} (hq : pq_look (pq_cd M) pc = some (pc0, 23, nx, i, a, v, t)) (hr : w[r]? = some c0) (hz : pq_alen c0 = some n) (g : pq_Go k M nx ls (.int (nI n) :: st) w cs ss res) : pq_Go k M pc ls (.ref r :: st) w cs ss res := by
  refine go_seg 1 g (fun call f => ?_)
  rw [pq_exec_s, hq]
  show (match w[r]? with
    | some c => match pq_alen c with
      | some n => _
      | none => none
    | none => none) = _
  rw [hr]
  show (match pq_alen c0 with
      | some n => _
      | none => none) = _
  rw [hz]
  rfl
theorem fl_loop (w : pq_W) (r n : Nat) (v : Int32) (f : Nat → Int32) (hr : r < w.length) (hE : pq_E ≤ r) (hn : n < 2 ^ 31) : ∀ (m i : Nat), i + m = n → pq_Go 0 pm_2 5 [(3, .int (nI n)), (2, .int (nI i)), (0, .ref r), (1, .int v)] [] (w.set r (.inl (.int, n, .inl (fl_c i v f)))) 0 0 (none, w.set r (.inl (.int, n, .inl (fl_c n v f)))) ∧ pq_Go 0 pm_2 5 [(2, .int (nI i)), (3, .int (nI n)), (0, .ref r), (1, .int v)] [] (w.set r (.inl (.int, n, .inl (fl_c i v f)))) 0 0 (none, w.set r (.inl (.int, n, .inl (fl_c n v f)))) := by
  intro m
  induction m with
  | zero =>
    intro i hi
    have hi : i = n := by omega
    subst hi
    constructor
    ·
      refine go_seg 2 (pc' := 7) (ls' := [(3, .int (nI i)), (2, .int (nI i)), (0, .ref r), (1, .int v)]) (st' := [.int (nI i), .int (nI i)]) (w' := (w.set r (.inl (.int, i, .inl (fl_c i v f))))) (cs' := 0) (ss' := 0) ?_ (fun _ _ => rfl)
      refine go_cmp true rfl (decide_eq_true (Int32.le_refl _)) ?_
      exact go_end 1 (fun _ _ => rfl)
    ·
      refine go_seg 2 (pc' := 7) (ls' := [(2, .int (nI i)), (3, .int (nI i)), (0, .ref r), (1, .int v)]) (st' := [.int (nI i), .int (nI i)]) (w' := (w.set r (.inl (.int, i, .inl (fl_c i v f))))) (cs' := 0) (ss' := 0) ?_ (fun _ _ => rfl)
      refine go_cmp true rfl (decide_eq_true (Int32.le_refl _)) ?_
      exact go_end 1 (fun _ _ => rfl)
  | succ m ih =>
    intro i hi
    have hi2 : i < n := by omega
    constructor
    ·
      refine go_seg 2 (pc' := 7) (ls' := [(3, .int (nI n)), (2, .int (nI i)), (0, .ref r), (1, .int v)]) (st' := [.int (nI n), .int (nI i)]) (w' := (w.set r (.inl (.int, n, .inl (fl_c i v f))))) (cs' := 0) (ss' := 0) ?_ (fun _ _ => rfl)
      refine go_cmp false rfl (decide_eq_false (nI_ge (by omega) hn)) ?_
      refine go_seg 3 (pc' := 13) (ls' := [(3, .int (nI n)), (2, .int (nI i)), (0, .ref r), (1, .int v)]) (st' := [.int v, .int (nI i), .ref r]) (w' := (w.set r (.inl (.int, n, .inl (fl_c i v f))))) (cs' := 0) (ss' := 0) ?_ (fun _ _ => rfl)
      refine go_ast (c0 := .inl (.int, n, .inl (fl_c i v f))) (c1 := .inl (.int, n, .inl (fl_c (i + 1) v f))) rfl (by rw [List.getElem?_set_self hr]) (fl_a hi2 hn) (Nat.ble_eq_true_of_le hE) ?_
      rw [pq_set_set]
      refine go_seg 2 (pc' := 5) (ls' := [(2, .int (nI (i + 1))), (3, .int (nI n)), (0, .ref r), (1, .int v)]) (st' := []) (w' := (w.set r (.inl (.int, n, .inl (fl_c (i + 1) v f))))) (cs' := 0) (ss' := 0) ?_ (fun _ _ => by rw [nI_succ]; rfl)
      exact (ih (i + 1) (by omega)).2
    ·
      refine go_seg 2 (pc' := 7) (ls' := [(2, .int (nI i)), (3, .int (nI n)), (0, .ref r), (1, .int v)]) (st' := [.int (nI n), .int (nI i)]) (w' := (w.set r (.inl (.int, n, .inl (fl_c i v f))))) (cs' := 0) (ss' := 0) ?_ (fun _ _ => rfl)
      refine go_cmp false rfl (decide_eq_false (nI_ge (by omega) hn)) ?_
      refine go_seg 3 (pc' := 13) (ls' := [(2, .int (nI i)), (3, .int (nI n)), (0, .ref r), (1, .int v)]) (st' := [.int v, .int (nI i), .ref r]) (w' := (w.set r (.inl (.int, n, .inl (fl_c i v f))))) (cs' := 0) (ss' := 0) ?_ (fun _ _ => rfl)
      refine go_ast (c0 := .inl (.int, n, .inl (fl_c i v f))) (c1 := .inl (.int, n, .inl (fl_c (i + 1) v f))) rfl (by rw [List.getElem?_set_self hr]) (fl_a hi2 hn) (Nat.ble_eq_true_of_le hE) ?_
      rw [pq_set_set]
      refine go_seg 2 (pc' := 5) (ls' := [(2, .int (nI (i + 1))), (3, .int (nI n)), (0, .ref r), (1, .int v)]) (st' := []) (w' := (w.set r (.inl (.int, n, .inl (fl_c (i + 1) v f))))) (cs' := 0) (ss' := 0) ?_ (fun _ _ => by rw [nI_succ]; rfl)
      exact (ih (i + 1) (by omega)).2
/-- Arrays.fill of a whole array -/
theorem fl_ru (w : pq_W) (r n : Nat) (v : Int32) (f : Nat → Int32) (hr : w[r]? = some (.inl (.int, n, .inl f))) (hE : pq_E ≤ r) (hn : n < 2 ^ 31) : pq_Ru 1 2 [.ref r, .int v] w (none, w.set r (.inl (.int, n, .inl (fl_c n v f)))) := by
  have hl : r < w.length := (List.getElem?_eq_some_iff.mp hr).1
  have e0 : w.set r (.inl (.int, n, .inl (fl_c 0 v f))) = w := by
    have e1 : fl_c 0 v f = f := by
      funext j
      unfold fl_c
      rw [if_neg (Nat.not_lt_zero j)]
    rw [e1]
    obtain ⟨h1, h2⟩ := List.getElem?_eq_some_iff.mp hr
    rw [← h2, List.set_getElem_self]
  refine ru_of (k := 0) (M := pm_2) rfl rfl ?_
  refine go_seg 3 (pc' := 3) (ls' := [(2, .int 0), (0, .ref r), (1, .int v)]) (st' := [.ref r]) (w' := w) (cs' := 0) (ss' := 0) ?_ (fun _ _ => rfl)
  refine go_alen (c0 := .inl (.int, n, .inl f)) (n := n) rfl hr rfl ?_
  refine go_seg 1 (pc' := 5) (ls' := [(3, .int (nI n)), (2, .int (nI 0)), (0, .ref r), (1, .int v)]) (st' := []) (w' := w) (cs' := 0) (ss' := 0) ?_ (fun _ _ => rfl)
  have h := (fl_loop w r n v f hl hE hn n 0 (by omega)).1
  rw [e0] at h
  exact h
