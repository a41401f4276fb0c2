theorem go_w {k : Nat} {M : pq_M} {pc cs ss : Nat} {ls : pq_L} {st : List Value} {w w2 : pq_W} {res : pq_R} (h : w = w2) (g : pq_Go k M pc ls st w2 cs ss res) : pq_Go k M pc ls st w cs ss res := by rw [h]; exact g
theorem pq_uu (f : Nat → Int32) (k : Nat) (x y : Int32) : upd (upd f k x) k y = upd f k y := by
  funext j
  unfold upd
  by_cases h : j = k
  · rw [if_pos h, if_pos h]
  · rw [if_neg h, if_neg h, if_neg h]
theorem rem_n (d : Nat) (h : d < 1000) : nI d - nI d / 100 * 100 = nI (d % 100) := pk_rem (d := 100) (by omega) (by omega) (by omega)
theorem n100 : nI 100 = (100 : Int32) := by decide +kernel
theorem n200 : nI 200 = (200 : Int32) := by decide +kernel
def skc (d : Int32) : pq_C := .inr (7, [.ref 3, .ref 4, .ref 5, .ref 6, .ref 7, .ref 8, .ref 9, .ref 10, .int d, .int 10])
def cgw (b : pq_W) (d : Int32) : pq_W := b.set 2 (skc d)
def nwc (f : Nat → Int32) (d : Int32) : pq_C := .inl (.int, 2858, .inl (upd f 0 d))
def mgw (f : Nat → Int32) (b : pq_W) (d : Int32) : pq_W := b.set 91 (nwc f d)
theorem cg_g {b : pq_W} {d : Int32} {c : pq_C} {r : Nat} (hr : b[r]? = some c) (h : 2 ≠ r) : (cgw b d)[r]? = some c := by
  unfold cgw
  rw [List.getElem?_set_ne h]
  exact hr
theorem mg_g {f : Nat → Int32} {b : pq_W} {d : Int32} {c : pq_C} {r : Nat} (hr : b[r]? = some c) (h : 91 ≠ r) : (mgw f b d)[r]? = some c := by
  unfold mgw
  rw [List.getElem?_set_ne h]
  exact hr
theorem mg_self {f : Nat → Int32} {b : pq_W} {d : Int32} (h91 : b[91]? = some (.inl (.int, 2858, .inl f))) (h0 : f 0 = d) : b = mgw f b d := by
  have e1 : upd f 0 d = f := by
    funext j
    unfold upd
    by_cases h : j = 0
    · rw [if_pos h, h, h0]
    · rw [if_neg h]
  unfold mgw nwc
  rw [e1]
  obtain ⟨h1, h2⟩ := List.getElem?_eq_some_iff.mp h91
  rw [← h2, List.set_getElem_self]
theorem wc_t (w : pq_W) (a lo hi : Int32) (l h : Int) (hl : lo.toInt = l) (hh : hi.toInt = h) (hp : l ≤ a.toInt ∧ a.toInt ≤ h) : pq_Ru 1 16 [.int a, .int lo, .int hi] w (some (.int 1), w) := by
  refine ru_of (k := 0) (M := pm_16) rfl rfl ?_
  refine go_seg 2 (pc' := 2) (ls' := [(0, .int a), (1, .int lo), (2, .int hi)]) (st' := [.int lo, .int a]) (w' := w) (cs' := 0) (ss' := 0) ?_ (fun _ _ => rfl)
  refine go_cmp false rfl (br_lt_f hl (by omega)) ?_
  refine go_seg 2 (pc' := 7) (ls' := [(0, .int a), (1, .int lo), (2, .int hi)]) (st' := [.int hi, .int a]) (w' := w) (cs' := 0) (ss' := 0) ?_ (fun _ _ => rfl)
  refine go_cmp false rfl (br_gt_f hh (by omega)) ?_
  exact go_end 3 (fun _ _ => rfl)
theorem cg_day (b : pq_W) (fs : List Value) (h1 : b[1]? = some (.inr (10, fs))) (k0 : fs[0]? = some (.ref 2)) (hl : 2 < b.length) (n d : Nat) (hd : d < n) (hn : n ≤ 200) {res : pq_R} (e : pq_Go 5 pm_117 62 [(2, .int (nI d)), (0, .ref 1), (1, .int (nI n))] [.int (nI ((d + 1) % 100))] (cgw b (nI (d + 1))) 0 0 res) : pq_Go 5 pm_117 34 [(2, .int (nI d)), (0, .ref 1), (1, .int (nI n))] [] (cgw b (nI d)) 0 0 res := by
  refine go_seg 2 (pc' := 36) (ls' := [(2, .int (nI d)), (0, .ref 1), (1, .int (nI n))]) (st' := [.int (nI n), .int (nI d)]) (w' := (cgw b (nI d))) (cs' := 0) (ss' := 0) ?_ (fun _ _ => rfl)
  refine go_cmp false rfl (decide_eq_false (nI_ge hd (by omega))) ?_
  refine go_seg 1 (pc' := 40) (ls' := [(2, .int (nI d)), (0, .ref 1), (1, .int (nI n))]) (st' := [.ref 1]) (w' := (cgw b (nI d))) (cs' := 0) (ss' := 0) ?_ (fun _ _ => rfl)
  refine go_get (z := .ref 2) rfl (cg_g h1 (by decide)) rfl k0 ?_
  refine go_seg 1 (pc' := 44) (ls' := [(2, .int (nI d)), (0, .ref 1), (1, .int (nI n))]) (st' := [.ref 2, .ref 2]) (w' := (cgw b (nI d))) (cs' := 0) (ss' := 0) ?_ (fun _ _ => rfl)
  refine go_get (z := .int (nI d)) rfl (List.getElem?_set_self hl) rfl rfl ?_
  refine go_seg 2 (pc' := 49) (ls' := [(2, .int (nI d)), (0, .ref 1), (1, .int (nI n))]) (st' := [.int (nI d + 1), .ref 2]) (w' := (cgw b (nI d))) (cs' := 0) (ss' := 0) ?_ (fun _ _ => rfl)
  refine go_put rfl (List.getElem?_set_self hl) rfl ?_
  refine go_w (w2 := (cgw b (nI (d + 1)))) (by unfold cgw; rw [pq_set_set, nI_succ]; rfl) ?_
  refine go_seg 1 (pc' := 53) (ls' := [(2, .int (nI d)), (0, .ref 1), (1, .int (nI n))]) (st' := [.ref 1]) (w' := (cgw b (nI (d + 1)))) (cs' := 0) (ss' := 0) ?_ (fun _ _ => rfl)
  refine go_get (z := .ref 2) rfl (cg_g h1 (by decide)) rfl k0 ?_
  refine go_get (z := .int (nI (d + 1))) rfl (List.getElem?_set_self hl) rfl rfl ?_
  refine go_seg 2 (pc' := 62) (ls' := [(2, .int (nI d)), (0, .ref 1), (1, .int (nI n))]) (st' := [.int (nI (d + 1) - nI (d + 1) / 100 * 100)]) (w' := (cgw b (nI (d + 1)))) (cs' := 0) (ss' := 0) ?_ (fun _ _ => rfl)
  rw [rem_n (d + 1) (by omega)]
  exact e
theorem cg_adv (b : pq_W) (fs : List Value) (h1 : b[1]? = some (.inr (10, fs))) (k0 : fs[0]? = some (.ref 2)) (hl : 2 < b.length) (n d1 : Nat) (hn : n ≤ 200) (hd : d1 ≤ n) {res : pq_R} (e : pq_Go 5 pm_117 34 [(2, .int (nI d1)), (0, .ref 1), (1, .int (nI n))] [] (cgw b (nI d1)) 0 0 res) : ∀ (m d0 : Nat), d0 + m = d1 → (∀ x, d0 < x → x ≤ d1 → ¬ x % 100 = 0) → pq_Go 5 pm_117 34 [(2, .int (nI d0)), (0, .ref 1), (1, .int (nI n))] [] (cgw b (nI d0)) 0 0 res := by
  intro m
  induction m with
  | zero =>
    intro d0 h0 hx
    have h0 : d0 = d1 := by omega
    subst h0
    exact e
  | succ m ih =>
    intro d0 h0 hx
    refine cg_day b fs h1 k0 hl n d0 (by omega) hn ?_
    have hne : ¬ (d0 + 1) % 100 = 0 := hx (d0 + 1) (by omega) (by omega)
    refine go_if true rfl (br_ne_t (b := 0) rfl (by rw [nI_toInt (by omega)]; omega)) ?_
    refine go_seg 2 (pc' := 34) (ls' := [(2, .int (nI (d0 + 1))), (0, .ref 1), (1, .int (nI n))]) (st' := []) (w' := (cgw b (nI (d0 + 1)))) (cs' := 0) (ss' := 0) ?_ (fun _ _ => by rw [nI_succ]; rfl)
    exact ih (d0 + 1) (by omega) (fun x y1 y2 => hx x (by omega) y2)
theorem cg_exit (b : pq_W) (fs : List Value) (h1 : b[1]? = some (.inr (10, fs))) (k0 : fs[0]? = some (.ref 2)) (hl : 2 < b.length) (n : Nat) : pq_Go 5 pm_117 34 [(2, .int (nI n)), (0, .ref 1), (1, .int (nI n))] [] (cgw b (nI n)) 0 0 (some (.int (nI n)), cgw b (nI n)) := by
  refine go_seg 2 (pc' := 36) (ls' := [(2, .int (nI n)), (0, .ref 1), (1, .int (nI n))]) (st' := [.int (nI n), .int (nI n)]) (w' := (cgw b (nI n))) (cs' := 0) (ss' := 0) ?_ (fun _ _ => rfl)
  refine go_cmp true rfl (decide_eq_true (Int32.le_refl _)) ?_
  refine go_seg 1 (pc' := 86) (ls' := [(2, .int (nI n)), (0, .ref 1), (1, .int (nI n))]) (st' := [.ref 1]) (w' := (cgw b (nI n))) (cs' := 0) (ss' := 0) ?_ (fun _ _ => rfl)
  refine go_get (z := .ref 2) rfl (cg_g h1 (by decide)) rfl k0 ?_
  refine go_get (z := .int (nI n)) rfl (List.getElem?_set_self hl) rfl rfl ?_
  exact go_end 1 (fun _ _ => rfl)
theorem mg_day (f : Nat → Int32) (b : pq_W) (fs : List Value) (h1 : b[90]? = some (.inr (11, fs))) (k0 : fs[0]? = some (.ref 91)) (hl : 91 < b.length) (n d : Nat) (hd : d < n) (hn : n ≤ 200) {res : pq_R} (e : pq_Go 5 pm_228 59 [(2, .int (nI d)), (0, .ref 90), (1, .int (nI n))] [.int (nI ((d + 1) % 100))] (mgw f b (nI (d + 1))) 0 0 res) : pq_Go 5 pm_228 35 [(2, .int (nI d)), (0, .ref 90), (1, .int (nI n))] [] (mgw f b (nI d)) 0 0 res := by
  refine go_seg 2 (pc' := 37) (ls' := [(2, .int (nI d)), (0, .ref 90), (1, .int (nI n))]) (st' := [.int (nI n), .int (nI d)]) (w' := (mgw f b (nI d))) (cs' := 0) (ss' := 0) ?_ (fun _ _ => rfl)
  refine go_cmp false rfl (decide_eq_false (nI_ge hd (by omega))) ?_
  refine go_seg 1 (pc' := 41) (ls' := [(2, .int (nI d)), (0, .ref 90), (1, .int (nI n))]) (st' := [.ref 90]) (w' := (mgw f b (nI d))) (cs' := 0) (ss' := 0) ?_ (fun _ _ => rfl)
  refine go_get (z := .ref 91) rfl (mg_g h1 (by decide)) rfl k0 ?_
  refine go_seg 2 (pc' := 46) (ls' := [(2, .int (nI d)), (0, .ref 90), (1, .int (nI n))]) (st' := [.int 0, .ref 91, .int 0, .ref 91]) (w' := (mgw f b (nI d))) (cs' := 0) (ss' := 0) ?_ (fun _ _ => rfl)
  refine go_ald (z := .int (nI d)) rfl (List.getElem?_set_self hl) rfl ?_
  refine go_seg 2 (pc' := 49) (ls' := [(2, .int (nI d)), (0, .ref 90), (1, .int (nI n))]) (st' := [.int (nI d + 1), .int 0, .ref 91]) (w' := (mgw f b (nI d))) (cs' := 0) (ss' := 0) ?_ (fun _ _ => rfl)
  refine go_ast (c1 := .inl (.int, 2858, .inl (upd (upd f 0 (nI d)) 0 (nI d + 1)))) rfl (List.getElem?_set_self hl) rfl rfl ?_
  refine go_w (w2 := (mgw f b (nI (d + 1)))) (by unfold mgw nwc; rw [pq_set_set, pq_uu, nI_succ]) ?_
  refine go_seg 1 (pc' := 51) (ls' := [(2, .int (nI d)), (0, .ref 90), (1, .int (nI n))]) (st' := [.ref 90]) (w' := (mgw f b (nI (d + 1)))) (cs' := 0) (ss' := 0) ?_ (fun _ _ => rfl)
  refine go_get (z := .ref 91) rfl (mg_g h1 (by decide)) rfl k0 ?_
  refine go_seg 1 (pc' := 55) (ls' := [(2, .int (nI d)), (0, .ref 90), (1, .int (nI n))]) (st' := [.int 0, .ref 91]) (w' := (mgw f b (nI (d + 1)))) (cs' := 0) (ss' := 0) ?_ (fun _ _ => rfl)
  refine go_ald (z := .int (nI (d + 1))) rfl (List.getElem?_set_self hl) rfl ?_
  refine go_seg 2 (pc' := 59) (ls' := [(2, .int (nI d)), (0, .ref 90), (1, .int (nI n))]) (st' := [.int (nI (d + 1) - nI (d + 1) / 100 * 100)]) (w' := (mgw f b (nI (d + 1)))) (cs' := 0) (ss' := 0) ?_ (fun _ _ => rfl)
  rw [rem_n (d + 1) (by omega)]
  exact e
theorem mg_adv (f : Nat → Int32) (b : pq_W) (fs : List Value) (h1 : b[90]? = some (.inr (11, fs))) (k0 : fs[0]? = some (.ref 91)) (hl : 91 < b.length) (n d1 : Nat) (hn : n ≤ 200) (hd : d1 ≤ n) {res : pq_R} (e : pq_Go 5 pm_228 35 [(2, .int (nI d1)), (0, .ref 90), (1, .int (nI n))] [] (mgw f b (nI d1)) 0 0 res) : ∀ (m d0 : Nat), d0 + m = d1 → (∀ x, d0 < x → x ≤ d1 → ¬ x % 100 = 0) → pq_Go 5 pm_228 35 [(2, .int (nI d0)), (0, .ref 90), (1, .int (nI n))] [] (mgw f b (nI d0)) 0 0 res := by
  intro m
  induction m with
  | zero =>
    intro d0 h0 hx
    have h0 : d0 = d1 := by omega
    subst h0
    exact e
  | succ m ih =>
    intro d0 h0 hx
    refine mg_day f b fs h1 k0 hl n d0 (by omega) hn ?_
    have hne : ¬ (d0 + 1) % 100 = 0 := hx (d0 + 1) (by omega) (by omega)
    refine go_if true rfl (br_ne_t (b := 0) rfl (by rw [nI_toInt (by omega)]; omega)) ?_
    refine go_seg 2 (pc' := 35) (ls' := [(2, .int (nI (d0 + 1))), (0, .ref 90), (1, .int (nI n))]) (st' := []) (w' := (mgw f b (nI (d0 + 1)))) (cs' := 0) (ss' := 0) ?_ (fun _ _ => by rw [nI_succ]; rfl)
    exact ih (d0 + 1) (by omega) (fun x y1 y2 => hx x (by omega) y2)
theorem mg_exit (f : Nat → Int32) (b : pq_W) (fs : List Value) (h1 : b[90]? = some (.inr (11, fs))) (k0 : fs[0]? = some (.ref 91)) (hl : 91 < b.length) (n : Nat) : pq_Go 5 pm_228 35 [(2, .int (nI n)), (0, .ref 90), (1, .int (nI n))] [] (mgw f b (nI n)) 0 0 (some (.int (nI n)), mgw f b (nI n)) := by
  refine go_seg 2 (pc' := 37) (ls' := [(2, .int (nI n)), (0, .ref 90), (1, .int (nI n))]) (st' := [.int (nI n), .int (nI n)]) (w' := (mgw f b (nI n))) (cs' := 0) (ss' := 0) ?_ (fun _ _ => rfl)
  refine go_cmp true rfl (decide_eq_true (Int32.le_refl _)) ?_
  refine go_seg 1 (pc' := 73) (ls' := [(2, .int (nI n)), (0, .ref 90), (1, .int (nI n))]) (st' := [.ref 90]) (w' := (mgw f b (nI n))) (cs' := 0) (ss' := 0) ?_ (fun _ _ => rfl)
  refine go_get (z := .ref 91) rfl (mg_g h1 (by decide)) rfl k0 ?_
  refine go_seg 1 (pc' := 77) (ls' := [(2, .int (nI n)), (0, .ref 90), (1, .int (nI n))]) (st' := [.int 0, .ref 91]) (w' := (mgw f b (nI n))) (cs' := 0) (ss' := 0) ?_ (fun _ _ => rfl)
  refine go_ald (z := .int (nI n)) rfl (List.getElem?_set_self hl) rfl ?_
  exact go_end 1 (fun _ _ => rfl)
theorem le3 {n : Nat} (hn : n ≤ 200) : pq_br .le (0 + nI n) 3000 = true := br_le_t (b := 3000) rfl (by rw [Int32.zero_add, nI_toInt (by omega)]; omega)
theorem cg_in (b : pq_W) (fs : List Value) (h1 : b[1]? = some (.inr (10, fs))) (k0 : fs[0]? = some (.ref 2)) (h2 : b[2]? = some (skc 0)) (n : Nat) (hn1 : 1 ≤ n) (hn : n ≤ 200) {res : pq_R} (e : pq_Go 5 pm_117 34 [(2, .int (nI 0)), (0, .ref 1), (1, .int (nI n))] [] b 0 0 res) : pq_Ru 6 117 [.ref 1, .int (nI n)] b res := by
  refine ru_of (k := 5) (M := pm_117) rfl (by rw [pq_rcv1 rfl rfl h1]; rfl) ?_
  refine go_seg 3 (pc' := 5) (ls' := [(0, .ref 1), (1, .int (nI n))]) (st' := [.int 200, .int 1, .int (nI n)]) (w' := b) (cs' := 0) (ss' := 0) ?_ (fun _ _ => rfl)
  refine go_cl (k := 5) (st' := [.int 1]) (cs' := 0) (ss' := 0) rfl rfl rfl rfl rfl rfl rfl (wc_t b (nI n) 1 200 1 200 rfl rfl (by rw [nI_toInt (by omega)]; omega)) ?_
  refine go_seg 2 (pc' := 12) (ls' := [(0, .ref 1), (1, .int (nI n))]) (st' := [.ref 1]) (w' := b) (cs' := 0) (ss' := 0) ?_ (fun _ _ => rfl)
  refine go_get (z := .ref 2) rfl h1 rfl k0 ?_
  refine go_get (z := .int 0) rfl h2 rfl rfl ?_
  refine go_seg 3 (pc' := 23) (ls' := [(0, .ref 1), (1, .int (nI n))]) (st' := [.int 3000, .int (0 + nI n)]) (w' := b) (cs' := 0) (ss' := 0) ?_ (fun _ _ => rfl)
  refine go_cmp true rfl (le3 hn) ?_
  refine go_seg 2 (pc' := 34) (ls' := [(2, .int (nI 0)), (0, .ref 1), (1, .int (nI n))]) (st' := []) (w' := b) (cs' := 0) (ss' := 0) ?_ (fun _ _ => rfl)
  exact e
theorem mg_in (f : Nat → Int32) (b : pq_W) (fs : List Value) (h1 : b[90]? = some (.inr (11, fs))) (k0 : fs[0]? = some (.ref 91)) (h2 : b[91]? = some (.inl (.int, 2858, .inl f))) (hf : f 0 = 0) (n : Nat) (hn1 : 1 ≤ n) (hn : n ≤ 200) {res : pq_R} (e : pq_Go 5 pm_228 35 [(2, .int (nI 0)), (0, .ref 90), (1, .int (nI n))] [] b 0 0 res) : pq_Ru 6 228 [.ref 90, .int (nI n)] b res := by
  refine ru_of (k := 5) (M := pm_228) rfl (by rw [pq_rcv1 rfl rfl h1]; rfl) ?_
  refine go_seg 4 (pc' := 6) (ls' := [(0, .ref 90), (1, .int (nI n))]) (st' := [.long 200, .long 1, .long (nI n).toInt64]) (w' := b) (cs' := 0) (ss' := 0) ?_ (fun _ _ => rfl)
  refine go_cl (k := 5) (st' := [.int 1]) (cs' := 0) (ss' := 0) rfl rfl rfl rfl rfl rfl rfl (wi_t b (nI n) 1 200 1 200 rfl rfl (by rw [nI_toInt (by omega)]; omega)) ?_
  refine go_seg 2 (pc' := 13) (ls' := [(0, .ref 90), (1, .int (nI n))]) (st' := [.ref 90]) (w' := b) (cs' := 0) (ss' := 0) ?_ (fun _ _ => rfl)
  refine go_get (z := .ref 91) rfl h1 rfl k0 ?_
  refine go_seg 1 (pc' := 17) (ls' := [(0, .ref 90), (1, .int (nI n))]) (st' := [.int 0, .ref 91]) (w' := b) (cs' := 0) (ss' := 0) ?_ (fun _ _ => rfl)
  refine go_ald (z := .int 0) rfl h2 (by show (some (Value.int (f 0)) : Option Value) = _; rw [hf]) ?_
  refine go_seg 3 (pc' := 23) (ls' := [(0, .ref 90), (1, .int (nI n))]) (st' := [.int 3000, .int (0 + nI n)]) (w' := b) (cs' := 0) (ss' := 0) ?_ (fun _ _ => rfl)
  refine go_cmp true rfl (le3 hn) ?_
  refine go_seg 2 (pc' := 35) (ls' := [(2, .int (nI 0)), (0, .ref 90), (1, .int (nI n))]) (st' := []) (w' := b) (cs' := 0) (ss' := 0) ?_ (fun _ _ => rfl)
  exact e
