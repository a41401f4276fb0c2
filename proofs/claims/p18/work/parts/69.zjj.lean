/-! rules for the walker that goes by itself -/
theorem bq_eq_t {x y : Int32} (h : x.toInt = y.toInt) : pq_br .eq x y = true := decide_eq_true (Int32.toInt_inj.mp h)
theorem bq_eq_f {x y : Int32} (h : ¬ x.toInt = y.toInt) : pq_br .eq x y = false := decide_eq_false (fun z => h (by rw [z]))
theorem bq_ne_t {x y : Int32} (h : ¬ x.toInt = y.toInt) : pq_br .ne x y = true := decide_eq_true (fun z => h (by rw [z]))
theorem bq_ne_f {x y : Int32} (h : x.toInt = y.toInt) : pq_br .ne x y = false := decide_eq_false (fun z => z (Int32.toInt_inj.mp h))
theorem bq_lt_t {x y : Int32} (h : x.toInt < y.toInt) : pq_br .lt x y = true := br_lt_t rfl h
theorem bq_lt_f {x y : Int32} (h : y.toInt ≤ x.toInt) : pq_br .lt x y = false := br_lt_f rfl (by omega)
theorem bq_ge_t {x y : Int32} (h : y.toInt ≤ x.toInt) : pq_br .ge x y = true := br_ge_t rfl h
theorem bq_ge_f {x y : Int32} (h : x.toInt < y.toInt) : pq_br .ge x y = false := br_ge_f rfl (by omega)
theorem bq_gt_t {x y : Int32} (h : y.toInt < x.toInt) : pq_br .gt x y = true := br_gt_t rfl h
theorem bq_gt_f {x y : Int32} (h : x.toInt ≤ y.toInt) : pq_br .gt x y = false := br_gt_f rfl (by omega)
theorem bq_le_t {x y : Int32} (h : x.toInt ≤ y.toInt) : pq_br .le x y = true := br_le_t rfl h
theorem bq_le_f {x y : Int32} (h : y.toInt < x.toInt) : pq_br .le x y = false := br_le_f rfl (by omega)
theorem nI_q {x : Int32} {q : Nat} (h : x.toInt = (q : Int)) (hq : q < 2 ^ 31) : x = nI q := Int32.toInt_inj.mp (by rw [nI_toInt hq, h])
section AWR
variable {k k1 : Nat} {M : pq_M} {pc cs ss pc0 nx t r : Nat} {ls : pq_L} {st : List Value} {w : pq_W} {i : Instr} {a : List Nat} {v z : Value} {Q : pq_R → Prop}
theorem xs_bin {x y : Value} (hq : pq_look (pq_cd M) pc = some (pc0, 8, nx, i, a, v, t)) (hz : pq_bin i x y = some z) (g : ∃ res, pq_Go k M nx ls (z :: st) w cs ss res ∧ Q res) : ∃ res, pq_Go k M pc ls (y :: x :: st) w cs ss res ∧ Q res := by
  obtain ⟨res, g, q⟩ := g
  exact ⟨res, go_bin hq hz g, q⟩
theorem xs_div {x y : Int32} (hq : pq_look (pq_cd M) pc = some (pc0, 8, nx, .idiv, a, v, t)) (hy : ¬ y = 0) (g : ∃ res, pq_Go k M nx ls (.int (x / y) :: st) w cs ss res ∧ Q res) : ∃ res, pq_Go k M pc ls (.int y :: .int x :: st) w cs ss res ∧ Q res := xs_bin hq (if_neg hy) g
theorem xs_ldv {x y : Int64} (hq : pq_look (pq_cd M) pc = some (pc0, 8, nx, .ldiv, a, v, t)) (hy : ¬ y = 0) (g : ∃ res, pq_Go k M nx ls (.long (x / y) :: st) w cs ss res ∧ Q res) : ∃ res, pq_Go k M pc ls (.long y :: .long x :: st) w cs ss res ∧ Q res := xs_bin hq (if_neg hy) g
theorem xs_mx {x y z : Int32} (hq : pq_look (pq_cd M) pc = some (pc0, 29, nx, i, [0], v, t)) (hz : (if x < y then y else x) = z) (hc : (Nat.ble (pq_sum (.int z :: st)) 8 && Nat.ble cs (pq_lm M).1 && Nat.ble ss (pq_lm M).2) = true) (g : ∃ res, pq_Go k M nx ls (.int z :: st) w cs ss res ∧ Q res) : ∃ res, pq_Go k M pc ls (.int y :: .int x :: st) w cs ss res ∧ Q res := by
  obtain ⟨res, g, q⟩ := g
  refine ⟨res, go_seg 1 g (fun call f => ?_), q⟩
  rw [pq_exec_s, hq]
  subst hz
  show (bif Nat.ble (pq_sum (.int (if x < y then y else x) :: st)) 8 && Nat.ble cs (pq_lm M).1 && Nat.ble ss (pq_lm M).2 then _ else none) = _
  rw [hc]
  rfl
theorem xs_zl {n q : Nat} {gs : List sx_G} {x y : Int32} (hq : pq_look (pq_cd M) pc = some (pc0, 21, nx, i, 2 :: a, v, t)) (ht : sx_Ty sx_T0 w) (hT : sx_T0[r]? = some (.inr (.inl (FieldType.boolean, n, gs)))) (hi : q < n) (hn : n < 2 ^ 31) (hx : x = nI q) (hz : sy_r w r q = y.toInt) (g : ∃ res, pq_Go k M nx ls (.int y :: st) w cs ss res ∧ Q res) : ∃ res, pq_Go k M pc ls (.int x :: .ref r :: st) w cs ss res ∧ Q res := by
  obtain ⟨f, h1, h2, h3⟩ := sy_arr ht hT
  have e : f q = y := Int32.toInt_inj.mp (by rw [← hz, sy_r_of (h3 q hi)])
  refine xs_ald (z := .int y) hq h1 ?_ g
  subst hx
  show (if (FieldType.boolean = .byte ∨ FieldType.boolean = .boolean) ∧ pq_in (nI q) n = true then some (Value.int (f (nI q).toNatClampNeg)) else none) = _
  rw [if_pos ⟨Or.inr rfl, decide_eq_true (vp_in_nI hi hn)⟩, nI_clamp (by omega), e]
theorem xs_bl {n q : Nat} {gs : List sx_G} {x y : Int32} (hq : pq_look (pq_cd M) pc = some (pc0, 21, nx, i, 2 :: a, v, t)) (ht : sx_Ty sx_T0 w) (hT : sx_T0[r]? = some (.inr (.inl (FieldType.byte, n, gs)))) (hi : q < n) (hn : n < 2 ^ 31) (hx : x = nI q) (hz : sy_r w r q = y.toInt) (g : ∃ res, pq_Go k M nx ls (.int y :: st) w cs ss res ∧ Q res) : ∃ res, pq_Go k M pc ls (.int x :: .ref r :: st) w cs ss res ∧ Q res := by
  obtain ⟨f, h1, h2, h3⟩ := sy_arr ht hT
  have e : f q = y := Int32.toInt_inj.mp (by rw [← hz, sy_r_of (h3 q hi)])
  refine xs_ald (z := .int y) hq h1 ?_ g
  subst hx
  show (if (FieldType.byte = .byte ∨ FieldType.byte = .boolean) ∧ pq_in (nI q) n = true then some (Value.int (f (nI q).toNatClampNeg)) else none) = _
  rw [if_pos ⟨Or.inl rfl, decide_eq_true (vp_in_nI hi hn)⟩, nI_clamp (by omega), e]
end AWR
/-- a yes or no, with what it says -/
noncomputable def bo (b : Int32) (P : Prop) : Prop := (b.toInt = 1 ∧ P) ∨ (b.toInt = 0 ∧ ¬ P)
theorem wi_b (w : pq_W) (a : Int32) (lo hi : Int64) {l h : Int} (hl : lo.toInt = l) (hh : hi.toInt = h) : ∃ b : Int32, pq_Ru 1 161 [.long a.toInt64, .long lo, .long hi] w (some (.int b), w) ∧ bo b (l ≤ a.toInt ∧ a.toInt ≤ h) := by
  by_cases c : l ≤ a.toInt ∧ a.toInt ≤ h
  · exact ⟨1, wi_t w a lo hi l h hl hh c, Or.inl ⟨rfl, c⟩⟩
  · exact ⟨0, wi_f w a lo hi l h hl hh c, Or.inr ⟨rfl, c⟩⟩
theorem cw_b (w : pq_W) {x lo hi : Int32} {l h : Int} (hl : lo.toInt = l) (hh : hi.toInt = h) : ∃ b : Int32, pq_Ru 1 16 [.int x, .int lo, .int hi] w (some (.int b), w) ∧ bo b (l ≤ x.toInt ∧ x.toInt ≤ h) := by
  by_cases c : l ≤ x.toInt ∧ x.toInt ≤ h
  · exact ⟨1, cw_t w hl hh c, Or.inl ⟨rfl, c⟩⟩
  · exact ⟨0, cw_f w hl hh c, Or.inr ⟨rfl, c⟩⟩
theorem go_up {k k2 : Nat} {M : pq_M} {pc cs ss : Nat} {ls : pq_L} {st : List Value} {w : pq_W} {res : pq_R} (h : pq_Go k M pc ls st w cs ss res) (hk : k ≤ k2) : pq_Go k2 M pc ls st w cs ss res := by
  obtain ⟨N, h⟩ := h
  exact ⟨N, fun d F f a b c => h d F f (Nat.le_trans hk a) b c⟩
theorem xs_ii {k s : Nat} {M : pq_M} {pc cs ss pc0 nx t : Nat} {ls ls' : pq_L} {st : List Value} {w : pq_W} {i : Instr} {a : List Nat} {Q : pq_R → Prop} {x y : Int32} (hq : pq_look (pq_cd M) pc = some (pc0, 7, nx, i, s :: a, .int y, t)) (hl : pq_lk ls s = some (.int x)) (hls : ∀ v, pq_st1 ls s v = (s, v) :: ls') (g : ∀ z : Int32, x + y = z → ∃ res, pq_Go k M nx ((s, .int z) :: ls') st w cs ss res ∧ Q res) : ∃ res, pq_Go k M pc ls st w cs ss res ∧ Q res := by
  obtain ⟨res, g, q⟩ := g (x + y) rfl
  refine ⟨res, go_seg 1 g (fun call f => ?_), q⟩
  rw [pq_exec_s, hq]
  show (match pq_lk ls s, Value.int y with
    | some (.int x), .int y => _
    | _, _ => none) = _
  rw [hl, ← hls]
  rfl
