/-! the class's isRow, exactly -/
section RCR
variable {k pc cs ss pc0 nx t i : Nat} {M : pq_M} {ls : pq_L} {st : List Value} {w : pq_W} {res : pq_R} {ins : Instr} {v : Value}
theorem go_lld {x : Int64} (hq : pq_look (pq_cd M) pc = some (pc0, 2, nx, ins, [i], v, t)) (hl : pq_lk ls i = some (.long x)) (g : pq_Go k M nx ls (.long x :: st) w cs ss res) : pq_Go k M pc ls st w cs ss res := by
  refine go_seg 1 g (fun call f => ?_)
  rw [pq_exec_s, hq]
  show (match pq_lk ls i with
    | some (.long x) => _
    | _ => none) = _
  first | (rw [hl]; done) | (rw [hl]; rfl)
theorem go_ild {x : Int32} (hq : pq_look (pq_cd M) pc = some (pc0, 1, nx, ins, [i], v, t)) (hl : pq_lk ls i = some (.int x)) (g : pq_Go k M nx ls (.int x :: st) w cs ss res) : pq_Go k M pc ls st w cs ss res := by
  refine go_seg 1 g (fun call f => ?_)
  rw [pq_exec_s, hq]
  show (match pq_lk ls i with
    | some (.int x) => _
    | _ => none) = _
  first | (rw [hl]; done) | (rw [hl]; rfl)
theorem go_kc {a : List Nat} (hq : pq_look (pq_cd M) pc = some (pc0, 0, nx, ins, a, v, t)) (g : pq_Go k M nx ls (v :: st) w cs ss res) : pq_Go k M pc ls st w cs ss res := by
  refine go_seg 1 g (fun call f => ?_)
  rw [pq_exec_s, hq]
  rfl
theorem go_bn {a : List Nat} {x y z : Value} (hq : pq_look (pq_cd M) pc = some (pc0, 8, nx, ins, a, v, t)) (hz : pq_bin ins x y = some z) (g : pq_Go k M nx ls (z :: st) w cs ss res) : pq_Go k M pc ls (y :: x :: st) w cs ss res := by
  refine go_seg 1 g (fun call f => ?_)
  rw [pq_exec_s, hq]
  show (match pq_bin ins x y with
    | some z => _
    | none => none) = _
  first | (rw [hz]; done) | (rw [hz]; rfl)
theorem go_lst {x : Int64} (hq : pq_look (pq_cd M) pc = some (pc0, 5, nx, ins, [i], v, t)) (g : pq_Go k M nx (pq_st2 ls i (.long x)) st w cs ss res) : pq_Go k M pc ls (.long x :: st) w cs ss res := by
  refine go_seg 1 g (fun call f => ?_)
  rw [pq_exec_s, hq]
  rfl
theorem go_gt {a : List Nat} (hq : pq_look (pq_cd M) pc = some (pc0, 14, nx, ins, i :: a, v, t)) (g : pq_Go k M i ls st w cs ss res) : pq_Go k M pc ls st w cs ss res := by
  refine go_seg 1 g (fun call f => ?_)
  rw [pq_exec_s, hq]
  rfl
end RCR
theorem ng_L_ok {p : Nat → Int} {ls : pq_L} : ∀ {sl : List (Nat × sx_V)}, ng_sl p ls (ng_L sl) → ng_sl0 p ls sl
  | [], _ => trivial
  | (_, _) :: _, h => ⟨h.1, ng_L_ok h.2⟩
theorem ra_sh1 : ((List.range 64).all fun n => decide (((1 : Int64) <<< ((Int32.ofInt (n : Int)).toInt64 &&& 63)).toBitVec = 1#64 <<< n)) = true := by decide +kernel
theorem ra_sh2 : ((List.range 64).all fun n => (List.range 64).all fun c => decide ((1#64 <<< n).getLsbD c = decide (c = n))) = true := by decide +kernel
theorem ra_sh {x7 : Int32} {n c : Nat} (a : Int64) (h : x7.toInt = n) (hn : n < 64) (hc : c < 64) : ra_B (a &&& ((1 : Int64) <<< (x7.toInt64 &&& 63))) c = (ra_B a c && decide (c = n)) := by
  have e : x7 = Int32.ofInt (n : Int) := by rw [← h]; exact (Int32.ofInt_toInt x7).symm
  subst e
  unfold ra_B
  rw [Int64.toBitVec_and, BitVec.getLsbD_and, of_decide_eq_true (List.all_eq_true.mp ra_sh1 n (List.mem_range.mpr hn)), of_decide_eq_true (List.all_eq_true.mp (List.all_eq_true.mp ra_sh2 n (List.mem_range.mpr hn)) c (List.mem_range.mpr hc))]
theorem ra_z (c : Nat) : ra_B 0 c = false := by
  show (0#64).getLsbD c = false
  exact BitVec.getLsbD_zero
theorem ra_m1 {c : Nat} (hc : c < 64) : ra_B (-1) c = true := by
  have h : ((List.range 64).all fun c => ra_B (-1) c) = true := by decide +kernel
  exact List.all_eq_true.mp h c (List.mem_range.mpr hc)
theorem ra_ne {x : Int64} (h : ¬ x.toInt = 0) : ∃ c, c < 64 ∧ ra_B x c = true := by
  apply Classical.byContradiction
  intro hn
  apply h
  have e : x.toBitVec = (0 : Int64).toBitVec := by
    apply BitVec.eq_of_getLsbD_eq
    intro c hc
    have h1 : ra_B x c = false := by
      cases hb : ra_B x c with
      | false => rfl
      | true => exact absurd ⟨c, hc, hb⟩ hn
    have h2 := ra_z c
    unfold ra_B at h1 h2
    rw [h1, h2]
  rw [Int64.toBitVec_inj.mp e]
  rfl
/-- what makes numbers a row -/
noncomputable def rk_ok (row : Nat → Int) (sz lo : Int) : Prop := 2 ≤ sz ∧ sz ≤ 12 ∧ (∀ k : Nat, (k : Int) < sz → lo ≤ row k ∧ row k ≤ 63) ∧ 0 ≤ row (sz.toNat - 1) ∧ gR row (sz.toNat - 1) (row (sz.toNat - 1)).toNat
noncomputable def rkV (row : Nat → Int) (sz g : Int) (k : Nat) : Prop := (0 ≤ row k ∧ row k ≤ 63) ∨ (g = 1 ∧ row k = -1 ∧ 0 < k ∧ (k : Int) + 1 < sz)
theorem rk_no {row : Nat → Int} {j : Nat} (h : ∀ c, c < 64 → ¬ gR row j c) : ∀ m c, c < 64 → ¬ gR row (j + m) c
  | 0, c, hc => h c hc
  | m + 1, c, hc => by
    rintro ⟨_, _, _, d, hd, g⟩
    exact rk_no h m d hd.2.1 g
theorem rk_V {row : Nat → Int} {sz g : Int} (hg : g = 0 ∨ g = 1) (h : rk_ok row sz (-g)) {k : Nat} (hk : 0 < k) (hs : (k : Int) < sz) : rkV row sz g k := by
  obtain ⟨h1, h2, h3, h4, h5⟩ := h
  have hb := h3 k hs
  by_cases c : 0 ≤ row k
  · exact Or.inl ⟨c, hb.2⟩
  · refine Or.inr ⟨by omega, by omega, hk, ?_⟩
    by_cases e : (k : Int) + 1 = sz
    · have : sz.toNat - 1 = k := by omega
      rw [this] at h4
      exact absurd h4 c
    · omega
theorem rk_dead {row : Nat → Int} {sz lo : Int} {j : Nat} (h : ∀ c, c < 64 → ¬ gR row j c) (hj : (j : Int) < sz) : ¬ rk_ok row sz lo := by
  rintro ⟨h1, h2, h3, h4, h5⟩
  have hb := h3 (sz.toNat - 1) (by omega)
  obtain ⟨m, hm⟩ : ∃ m, sz.toNat - 1 = j + m := ⟨sz.toNat - 1 - j, by omega⟩
  have h6 := rk_no h m (row (sz.toNat - 1)).toNat (by omega)
  rw [← hm] at h6
  exact h6 h5
/-! the class's isRow: the loop -/
noncomputable def rbB (ls : pq_L) (s g n : Int) (r : Int64) (k : Int) : Prop := pq_lk ls 0 = some (.ref 89) ∧ ng_i ls 1 s ∧ ng_i ls 2 g ∧ ng_i ls 3 n ∧ pq_lk ls 4 = some (.long r) ∧ ng_i ls 6 k
theorem rbB_to {p : Nat → Int} {ls : pq_L} {s g n k : Int} {r : Int64} (h : rbB ls s g n r k) (e0 : p 0 = s) (e1 : p 1 = g) (e2 : p 2 = n) (e3 : p 3 = r.toInt) (e4 : p 4 = k) : ng_sl0 p ls (rb_b (rb_l (sx_y 3)) (fx_i 4)) := ⟨h.1, ng_iy h.2.1 e0, ng_iy h.2.2.1 e1, ng_iy h.2.2.2.1 e2, ⟨r, h.2.2.2.2.1, by rw [sx_y_ev, e3]⟩, ng_iy h.2.2.2.2.2 e4, trivial⟩
theorem rbB_of {p : Nat → Int} {ls : pq_L} {rf kf : sx_F} {s g n k : Int} (h : ng_sl p ls (ng_L (rb_b (rb_l rf) (.inl (.inl kf))))) (e0 : p 0 = s) (e1 : p 1 = g) (e2 : p 2 = n) (ek : sx_ev p kf = k) : ∃ r : Int64, rbB ls s g n r k ∧ r.toInt = sx_ev p rf := by
  obtain ⟨h0, h1, h2, h3, ⟨r, h4, h5⟩, h6, _⟩ := h
  exact ⟨r, ⟨h0, ng_yi h1 e0, ng_yi h2 e1, ng_yi h3 e2, h4, ng_fi h6 ek⟩, h5⟩
theorem rb_lf (x : Int64) : rb_fl.1 ≤ x.toInt ∧ x.toInt ≤ rb_fl.2 := ⟨x.minValue_le_toInt, x.toInt_le⟩
/-- one bit is kept -/
theorem rc_74 {Post : pq_R → Prop} {w : pq_W} {ls : pq_L} {s g n k : Int} {h : Int64} {x7 : Int32} (h0 : pq_lk ls 0 = some (.ref 89)) (h1 : ng_i ls 1 s) (h2 : ng_i ls 2 g) (h3 : ng_i ls 3 n) (h6 : ng_i ls 6 k) (h7 : pq_lk ls 7 = some (.int x7)) (h8 : pq_lk ls 8 = some (.long h)) (bs : 0 ≤ s ∧ s ≤ 3) (bg : 0 ≤ g ∧ g ≤ 1) (bn : 2 ≤ n ∧ n ≤ 12) (bk : 0 ≤ k ∧ k ≤ 11) (ht : sx_Ty sx_T0 w) (cont : ∀ ls2 w2, rbB ls2 s g n (h &&& ((1 : Int64) <<< (x7.toInt64 &&& 63))) (k + 1) → sx_Ty sx_T0 w2 → sx_Fr [] w w2 → ∃ res, pq_Go 9 pm_84 26 ls2 [] w2 0 0 res ∧ Post res) : ∃ res, pq_Go 9 pm_84 74 ls [] w 0 0 res ∧ Post res := by
  have ck := rb_5
  unfold rb_ck at ck
  have bl := rb_lf (h &&& ((1 : Int64) <<< (x7.toInt64 &&& 63)))
  have hm : sx_lm (fx_p [s, g, n, (h &&& ((1 : Int64) <<< (x7.toInt64 &&& 63))).toInt, k]) [(0, .inr (.inr 89)), (1, fx_i 0), (2, fx_i 1), (3, fx_i 2), (6, fx_i 4)] ls := ng_sl0_ok ⟨h0, ng_iy h1 rfl, ng_iy h2 rfl, ng_iy h3 rfl, ng_iy h6 rfl, trivial⟩
  have hl := sx_sto2_ok (i := 4) (v := rb_l (sx_y 3)) (x := .long (h &&& ((1 : Int64) <<< (x7.toInt64 &&& 63)))) hm (by show (h &&& ((1 : Int64) <<< (x7.toInt64 &&& 63))).toInt = sx_ev _ (sx_y 3); rw [sx_y_ev]; rfl)
  have hl : sx_lm (fx_p [s, g, n, (h &&& ((1 : Int64) <<< (x7.toInt64 &&& 63))).toInt, k]) [(4, rb_l (sx_y 3)), (0, .inr (.inr 89)), (1, fx_i 0), (2, fx_i 1), (3, fx_i 2), (6, fx_i 4)] (pq_st2 ls 4 (.long (h &&& ((1 : Int64) <<< (x7.toInt64 &&& 63))))) := hl
  have m1 : ∀ {α : Type} {a b : α} {l : List α}, b ∈ l → b ∈ a :: l := fun h => List.mem_cons_of_mem _ h
  obtain ⟨res, g5, hp⟩ := ng_go (J := sx_tt) (Post := Post) (ls := pq_st2 ls 4 (.long (h &&& ((1 : Int64) <<< (x7.toInt64 &&& 63))))) (w := w) (st := []) (fx_p [s, g, n, (h &&& ((1 : Int64) <<< (x7.toInt64 &&& 63))).toInt, k]) ck rfl ⟨bs.1, bs.2, bg.1, bg.2, bn.1, bn.2, bl.1, bl.2, bk.1, bk.2, trivial⟩ trivial
    ⟨ng_d_of (hl _ (m1 List.mem_cons_self)), ng_d_of (hl _ (m1 (m1 List.mem_cons_self))), ng_d_of (hl _ (m1 (m1 (m1 List.mem_cons_self)))), ng_d_of (hl _ (m1 (m1 (m1 (m1 List.mem_cons_self))))), ng_d_of (hl _ List.mem_cons_self), ng_d_of (hl _ (m1 (m1 (m1 (m1 (m1 List.mem_cons_self)))))), trivial⟩ trivial trivial ht sx_ctn (fun _ _ _ => trivial) trivial ⟨fun ls2 st2 w2 t2 f2 a => by
      obtain ⟨a1, a2, _⟩ := a
      cases ng_st0 a2
      obtain ⟨r, b, e⟩ := rbB_of (s := s) (g := g) (n := n) (k := k + 1) a1 rfl rfl rfl (by show 1 + (1 * k + 0) = k + 1; omega)
      rw [sx_y_ev] at e
      have e : r.toInt = (h &&& ((1 : Int64) <<< (x7.toInt64 &&& 63))).toInt := e
      rw [Int64.toInt_inj.mp e] at b
      exact cont ls2 w2 b t2 f2, trivial⟩
  exact ⟨res, go_lld (i := 8) rfl h8 (go_kc rfl (go_ild (i := 7) rfl h7 (go_bn rfl rfl (go_bn rfl rfl (go_lst (i := 4) rfl (go_gt rfl g5)))))), hp⟩
noncomputable def rc_row (w : pq_W) (s : Nat) : Nat → Int := fun k => sy_r w 91 (24 * s + k)
noncomputable def rc_P (w : pq_W) (s : Nat) (g : Int) (res : pq_R) : Prop := sx_Ty sx_T0 res.2 ∧ sx_Fr [] w res.2 ∧ ∃ x : Int32, res.1 = some (.int x) ∧ ((x.toInt = 1 ∧ rk_ok (rc_row w s) (sy_r w 92 s) (-g)) ∨ (x.toInt = 0 ∧ ¬ rk_ok (rc_row w s) (sy_r w 92 s) (-g)))
/-- what is reached, ahead of number k -/
noncomputable def rc_I (row : Nat → Int) (n g : Int) (k : Nat) (r : Int64) : Prop := ((∀ k', k' < k → 0 < k' → rkV row n g k') ∧ (0 ≤ row 0 ∧ row 0 ≤ 63) ∧ ∀ c, c < 64 → (ra_B r c = true ↔ gR row (k - 1) c)) ∨ ((∀ c, c < 64 → ra_B r c = false) ∧ ¬ rk_ok row n (-g))
theorem rc_I0 {row : Nat → Int} {n g : Int} {k : Nat} {r : Int64} (h : rc_I row n g k r) (hr : r.toInt = 0) (hk : 1 ≤ k) (hn : (k : Int) ≤ n) : ¬ rk_ok row n (-g) := by
  have e : r = 0 := Int64.toInt_inj.mp hr
  rcases h with ⟨_, _, h⟩ | ⟨_, h⟩
  · refine rk_dead (j := k - 1) (fun c hc hg => ?_) (by omega)
    have := (h c hc).mpr hg
    rw [e, ra_z] at this
    cases this
  · exact h
theorem rc_IU {row : Nat → Int} {k : Nat} {r : Int64} (hk : 1 ≤ k) (h : ∀ c, c < 64 → (ra_B r c = true ↔ gR row (k - 1) c)) : ∀ c, c < 64 → (ra_B (ra_U r) c = true ↔ ∃ m, m < 4 ∧ ∃ d, gN c m d ∧ gR row (k - 1) d) := fun c hc => by
  rw [ra_bit r c hc]
  constructor
  · rintro ⟨m, hm, d, h1, h2⟩
    have hg := (ra_gN hc hm).mpr h1
    exact ⟨m, hm, d, hg, (h d hg.2.1).mp h2⟩
  · rintro ⟨m, hm, d, hg, h2⟩
    exact ⟨m, hm, d, (ra_gN hc hm).mp hg, (h d hg.2.1).mpr h2⟩
theorem rc_IZ {r : Int64} (h : ∀ c, c < 64 → ra_B r c = false) : ∀ c, c < 64 → ra_B (ra_U r) c = false := fun c hc => by
  cases hb : ra_B (ra_U r) c with
  | false => rfl
  | true =>
    obtain ⟨m, hm, d, h1, h2⟩ := (ra_bit r c hc).mp hb
    have hd := ((ra_gN hc hm).mpr h1).2.1
    rw [h d hd] at h2
    cases h2
theorem rc_end {row : Nat → Int} {n : Nat} {g : Int} {r : Int64} (hg : g = 0 ∨ g = 1) (h2 : 2 ≤ n) (h12 : n ≤ 12) (h : rc_I row n g n r) (hr : ¬ r.toInt = 0) : rk_ok row n (-g) := by
  obtain ⟨c, hc, hb⟩ := ra_ne hr
  rcases h with ⟨hv, hv0, h⟩ | ⟨h, _⟩
  · have g1 := (h c hc).mp hb
    have hV : ∀ k : Nat, k < n → -g ≤ row k ∧ row k ≤ 63 := fun k hk => by
      by_cases e : k = 0
      · subst e
        omega
      · rcases hv k hk (by omega) with q | q
        · omega
        · omega
    have hl : 0 ≤ row (n - 1) := by
      rcases hv (n - 1) (by omega) (by omega) with q | q
      · exact q.1
      · omega
    obtain ⟨j, hj⟩ : ∃ j, n - 1 = j + 1 := ⟨n - 2, by omega⟩
    refine ⟨by omega, by omega, fun k hk => hV k (by omega), by rw [Int.toNat_natCast]; exact hl, ?_⟩
    rw [Int.toNat_natCast]
    rw [hj] at g1 hl ⊢
    have e1 : row (j + 1) = c := by
      rcases g1.1 with q | q
      · omega
      · exact q
    rw [show (row (j + 1)).toNat = c by omega]
    exact g1
  · rw [h c hc] at hb
    cases hb
/-! the class's isRow, the whole -/
theorem rb_st {p : Nat → Int} {u : Int64} (e : p 3 = u.toInt) : sx_sm p [rb_l (sx_y 3)] [.long u] := ⟨by show u.toInt = sx_ev p (sx_y 3); rw [sx_y_ev, e], trivial⟩
/-- from behind around: a number that is a cell -/
theorem rc_64a {Post : pq_R → Prop} {w : pq_W} {ls : pq_L} {s g n k v : Int} {u : Int64} (h0 : pq_lk ls 0 = some (.ref 89)) (h1 : ng_i ls 1 s) (h2 : ng_i ls 2 g) (h3 : ng_i ls 3 n) (h6 : ng_i ls 6 k) (h7 : ng_i ls 7 v) (bs : 0 ≤ s ∧ s ≤ 3) (bg : 0 ≤ g ∧ g ≤ 1) (bn : 2 ≤ n ∧ n ≤ 12) (bk : 1 ≤ k ∧ k ≤ 11) (bv : 0 ≤ v ∧ v ≤ 63) (ht : sx_Ty sx_T0 w) (cont : ∀ (x7 : Int32) ls2 w2, x7.toInt = v → rbB ls2 s g n (u &&& ((1 : Int64) <<< (x7.toInt64 &&& 63))) (k + 1) → sx_Ty sx_T0 w2 → sx_Fr [] w w2 → ∃ res, pq_Go 9 pm_84 26 ls2 [] w2 0 0 res ∧ Post res) : ∃ res, pq_Go 9 pm_84 64 ls [.long u] w 0 0 res ∧ Post res := by
  have ck := rb_4a
  unfold rb_ck at ck
  have bu := rb_lf u
  refine ng_go (J := sx_tt) (Post := Post) (fx_p [s, g, n, u.toInt, k, v]) ck rfl ⟨bs.1, bs.2, bg.1, bg.2, bn.1, bn.2, bu.1, bu.2, bk.1, bk.2, bv.1, bv.2, trivial⟩ trivial ⟨h0, ng_iy h1 rfl, ng_iy h2 rfl, ng_iy h3 rfl, ng_iy h6 rfl, ng_iy h7 rfl, trivial⟩ (rb_st rfl) trivial ht sx_ctn (fun _ _ _ => trivial) trivial ⟨fun ls4 st4 w4 t4 f4 q => ?_, trivial⟩
  obtain ⟨⟨d0, d1, d2, d3, d6, ⟨x7, d7, e7⟩, ⟨x8, d8, e8⟩, _⟩, b2, _⟩ := q
  cases ng_st0 b2
  rw [sx_y_ev] at e7 e8
  have e7 : x7.toInt = v := e7
  have e8 : x8.toInt = u.toInt := e8
  have e8 : x8 = u := Int64.toInt_inj.mp e8
  rw [e8] at d8
  exact rc_74 (s := s) (g := g) (n := n) (k := k) d0 (ng_yi d1 rfl) (ng_yi d2 rfl) (ng_yi d3 rfl) (ng_yi d6 rfl) d7 d8 bs bg bn (by omega) t4 (fun ls5 w5 b5 t5 f5 => cont x7 ls5 w5 e7 b5 t5 (sx_Fr_trans f4 f5))
/-- a gap -/
theorem rc_64b {Post : pq_R → Prop} {w : pq_W} {ls : pq_L} {s n k : Int} {u : Int64} (h0 : pq_lk ls 0 = some (.ref 89)) (h1 : ng_i ls 1 s) (h2 : ng_i ls 2 1) (h3 : ng_i ls 3 n) (h6 : ng_i ls 6 k) (h7 : ng_i ls 7 (-1)) (bs : 0 ≤ s ∧ s ≤ 3) (bn : 2 ≤ n ∧ n ≤ 12) (bk : 1 ≤ k ∧ k ≤ 11) (hk : k + 1 < n) (ht : sx_Ty sx_T0 w) (cont : ∀ ls2 w2, rbB ls2 s 1 n u (k + 1) → sx_Ty sx_T0 w2 → sx_Fr [] w w2 → ∃ res, pq_Go 9 pm_84 26 ls2 [] w2 0 0 res ∧ Post res) : ∃ res, pq_Go 9 pm_84 64 ls [.long u] w 0 0 res ∧ Post res := by
  have ck := rb_4b
  unfold rb_ck at ck
  have bu := rb_lf u
  refine ng_go (J := sx_tt) (Post := Post) (fx_p [s, 1, n, u.toInt, k, -1]) ck rfl ⟨bs.1, bs.2, Int.le_refl _, Int.le_refl _, bn.1, bn.2, bu.1, bu.2, bk.1, bk.2, Int.le_refl _, Int.le_refl _, trivial⟩ ⟨by show 2 + (-1 * n + (1 * k + 0)) ≤ 0; omega, trivial⟩ ⟨h0, ng_iy h1 rfl, ng_iy h2 rfl, ng_iy h3 rfl, ng_iy h6 rfl, ng_iy h7 rfl, trivial⟩ (rb_st rfl) trivial ht sx_ctn (fun _ _ _ => trivial) trivial ⟨fun ls4 st4 w4 t4 f4 q => ?_, trivial⟩
  obtain ⟨a1, b2, _⟩ := q
  cases ng_st0 b2
  obtain ⟨r4, b4, e4⟩ := rbB_of (s := s) (g := 1) (n := n) (k := k + 1) a1 rfl rfl rfl (by show 1 + (1 * k + 0) = k + 1; omega)
  rw [sx_y_ev] at e4
  have e4 : r4.toInt = u.toInt := e4
  rw [Int64.toInt_inj.mp e4] at b4
  exact cont ls4 w4 b4 t4 f4
/-- neither -/
theorem rc_64c {Post : pq_R → Prop} {w : pq_W} {ls : pq_L} {s g n k v : Int} {u : Int64} (h0 : pq_lk ls 0 = some (.ref 89)) (h1 : ng_i ls 1 s) (h2 : ng_i ls 2 g) (h3 : ng_i ls 3 n) (h6 : ng_i ls 6 k) (h7 : ng_i ls 7 v) (bs : 0 ≤ s ∧ s ≤ 3) (bg : 0 ≤ g ∧ g ≤ 1) (bn : 2 ≤ n ∧ n ≤ 12) (bk : 1 ≤ k ∧ k ≤ 11) (bv : -2147483648 ≤ v ∧ v ≤ 2147483647) (hc : ¬ (0 ≤ v ∧ v ≤ 63)) (hp : ¬ (g = 1 ∧ v = -1 ∧ k + 1 < n)) (ht : sx_Ty sx_T0 w) (cont : ∀ ls2 w2, rbB ls2 s g n 0 (k + 1) → sx_Ty sx_T0 w2 → sx_Fr [] w w2 → ∃ res, pq_Go 9 pm_84 26 ls2 [] w2 0 0 res ∧ Post res) : ∃ res, pq_Go 9 pm_84 64 ls [.long u] w 0 0 res ∧ Post res := by
  have bu := rb_lf u
  have go : ∀ z ∈ rb_z, (z.1.1 ≤ g ∧ g ≤ z.1.2) → (z.2.1.1 ≤ v ∧ v ≤ z.2.1.2) → ng_fs (fx_p [s, g, n, u.toInt, k, v]) z.2.2 → ∃ res, pq_Go 9 pm_84 64 ls [.long u] w 0 0 res ∧ Post res := by
    intro z hzm z1 z2 z3
    have ck := List.all_eq_true.mp rb_4c z hzm
    unfold rb_ck at ck
    refine ng_go (J := sx_tt) (Post := Post) (fx_p [s, g, n, u.toInt, k, v]) ck rfl ⟨bs.1, bs.2, z1.1, z1.2, bn.1, bn.2, bu.1, bu.2, bk.1, bk.2, z2.1, z2.2, trivial⟩ z3 ⟨h0, ng_iy h1 rfl, ng_iy h2 rfl, ng_iy h3 rfl, ng_iy h6 rfl, ng_iy h7 rfl, trivial⟩ (rb_st rfl) trivial ht sx_ctn (fun _ _ _ => trivial) trivial ⟨fun ls4 st4 w4 t4 f4 q => ?_, trivial⟩
    obtain ⟨a1, b2, _⟩ := q
    cases ng_st0 b2
    obtain ⟨r4, b4, e4⟩ := rbB_of (s := s) (g := g) (n := n) (k := k + 1) a1 rfl rfl rfl (by show 1 + (1 * k + 0) = k + 1; omega)
    rw [ng_ek] at e4
    have e4 : r4 = 0 := Int64.toInt_inj.mp e4
    rw [e4] at b4
    exact cont ls4 w4 b4 t4 f4
  by_cases q1 : 64 ≤ v
  · exact go _ List.mem_cons_self bg ⟨q1, bv.2⟩ trivial
  by_cases q2 : v ≤ -2
  · exact go _ (List.mem_cons_of_mem _ List.mem_cons_self) bg ⟨bv.1, q2⟩ trivial
  by_cases q3 : g = 0
  · exact go _ (List.mem_cons_of_mem _ (List.mem_cons_of_mem _ List.mem_cons_self)) ⟨by show (0 : Int) ≤ g; omega, by show g ≤ (0 : Int); omega⟩ ⟨bv.1, by show v ≤ -1; omega⟩ trivial
  · exact go _ (List.mem_cons_of_mem _ (List.mem_cons_of_mem _ (List.mem_cons_of_mem _ List.mem_cons_self))) bg ⟨bv.1, by show v ≤ -1; omega⟩ ⟨by show -1 + (1 * n + (-1 * k + 0)) ≤ 0; omega, trivial⟩
/-- one round: to the call of around, or the answer 0 -/
theorem rc_26 {Post : pq_R → Prop} {w : pq_W} {ls : pq_L} {s k : Nat} {g n v : Int} {r : Int64} (hb : rbB ls s g n r k) (hs : s < 4) (bg : 0 ≤ g ∧ g ≤ 1) (bn : 2 ≤ n ∧ n ≤ 12) (bk : 1 ≤ k ∧ k ≤ 11) (hk : (k : Int) < n) (hv : sy_r w 91 (24 * s + k) = v) (ht : sx_Ty sx_T0 w) (zero : ∀ (y : Int32) w2, y.toInt = 0 → r.toInt = 0 → sx_Ty sx_T0 w2 → sx_Fr [] w w2 → Post (some (.int y), w2)) (cont : ∀ ls2 w2, pq_lk ls2 0 = some (.ref 89) → ng_i ls2 1 s → ng_i ls2 2 g → ng_i ls2 3 n → ng_i ls2 6 k → ng_i ls2 7 v → sx_Ty sx_T0 w2 → sx_Fr [] w w2 → ∃ res, pq_Go 9 pm_84 64 ls2 [.long (ra_U r)] w2 0 0 res ∧ Post res) : ∃ res, pq_Go 9 pm_84 26 ls [] w 0 0 res ∧ Post res := by
  have bl := rb_lf r
  have br : -2147483648 ≤ v ∧ v ≤ 2147483647 := by rw [← hv]; exact sy_rb w 91 _
  have bs : (0 : Int) ≤ s ∧ (s : Int) ≤ 3 := by omega
  have bk2 : (1 : Int) ≤ k ∧ (k : Int) ≤ 11 := by omega
  have ck := rb_2
  unfold rb_ck at ck
  refine ng_go (J := sx_tt) (Post := Post) (fx_p [s, g, n, r.toInt, k, v]) ck rfl ⟨bs.1, bs.2, bg.1, bg.2, bn.1, bn.2, bl.1, bl.2, bk2.1, bk2.2, br.1, br.2, trivial⟩ ⟨by show 1 + (-1 * n + (1 * (k : Int) + 0)) ≤ 0; omega, trivial⟩ (rbB_to hb rfl rfl rfl rfl rfl) trivial ⟨?_, trivial⟩ ht sx_ctn (fun _ _ _ => trivial) ⟨fun x w3 t3 f3 q => ?_, trivial⟩ ⟨fun ls3 st3 w3 t3 f3 q => ?_, trivial⟩
  · show sy_r w 91 (0 + (24 * (s : Int) + (1 * (k : Int) + 0))).toNat = sx_ev _ (sx_y 5)
    rw [sx_y_ev, show (0 + (24 * (s : Int) + (1 * (k : Int) + 0))).toNat = 24 * s + k by omega, hv]
    rfl
  · obtain ⟨y, y1, y2⟩ := sh_ans q.1
    have d1 : 0 + (1 * r.toInt + 0) ≤ 0 := q.2.2.1.1
    have d2 : 0 + (-1 * r.toInt + 0) ≤ 0 := q.2.2.1.2.1
    rw [y1]
    exact zero y w3 y2 (by omega) t3 f3
  · obtain ⟨⟨c0, c1, c2, c3, _, c6, c7, _⟩, a2, _⟩ := q
    have c0 : pq_lk ls3 0 = some (.ref 89) := c0
    have c1 : ng_i ls3 1 s := ng_yi c1 rfl
    have c2 : ng_i ls3 2 g := ng_yi c2 rfl
    have c3 : ng_i ls3 3 n := ng_yi c3 rfl
    have c6 : ng_i ls3 6 k := ng_yi c6 rfl
    have c7 : ng_i ls3 7 v := ng_yi c7 rfl
    have hst : st3 = [.long r] := by
      match st3, a2 with
      | [.long x], a2 =>
        have e : x.toInt = sx_ev _ (sx_y 3) := a2.1
        rw [sx_y_ev] at e
        have e : x.toInt = r.toInt := e
        rw [Int64.toInt_inj.mp e]
    subst hst
    obtain ⟨res, g1, g2⟩ := cont ls3 w3 c0 c1 c2 c3 c6 c7 t3 f3
    exact ⟨res, go_cl (j := 85) (n := 1) (as := [.long r]) (k1 := 1) rfl rfl rfl rfl rfl rfl rfl (ra_ru r w3) g1, g2⟩
/-- the loop's end -/
theorem rc_26e {Post : pq_R → Prop} {w : pq_W} {ls : pq_L} {s n : Nat} {g : Int} {r : Int64} (hb : rbB ls s g n r n) (hs : s < 4) (bg : 0 ≤ g ∧ g ≤ 1) (bn : 2 ≤ n ∧ n ≤ 12) (ht : sx_Ty sx_T0 w) (zero : ∀ (y : Int32) w2, y.toInt = 0 → r.toInt = 0 → sx_Ty sx_T0 w2 → sx_Fr [] w w2 → Post (some (.int y), w2)) (one : ∀ (y : Int32) w2, y.toInt = 1 → ¬ r.toInt = 0 → sx_Ty sx_T0 w2 → sx_Fr [] w w2 → Post (some (.int y), w2)) : ∃ res, pq_Go 9 pm_84 26 ls [] w 0 0 res ∧ Post res := by
  have bl := rb_lf r
  have bs : (0 : Int) ≤ s ∧ (s : Int) ≤ 3 := by omega
  have bn2 : (2 : Int) ≤ n ∧ (n : Int) ≤ 12 := by omega
  have ck := rb_3
  unfold rb_ck at ck
  refine ng_go (J := sx_tt) (Post := Post) (fx_p [s, g, n, r.toInt]) ck rfl ⟨bs.1, bs.2, bg.1, bg.2, bn2.1, bn2.2, bl.1, bl.2, trivial⟩ trivial ⟨hb.1, ng_iy hb.2.1 rfl, ng_iy hb.2.2.1 rfl, ng_iy hb.2.2.2.1 rfl, ⟨r, hb.2.2.2.2.1, by rw [sx_y_ev]; rfl⟩, ng_iy hb.2.2.2.2.2 rfl, trivial⟩ trivial trivial ht sx_ctn (fun _ _ _ => trivial) ⟨fun x w3 t3 f3 q => ?_, fun x w3 t3 f3 q => ?_, fun x w3 t3 f3 q => ?_, trivial⟩ trivial
  · obtain ⟨y, y1, y2⟩ := sh_ans q.1
    have d1 : 0 + (1 * r.toInt + 0) ≤ 0 := q.2.2.1.1
    have d2 : 0 + (-1 * r.toInt + 0) ≤ 0 := q.2.2.1.2.1
    rw [y1]
    exact zero y w3 y2 (by omega) t3 f3
  · obtain ⟨y, y1, y2⟩ := sh_ans q.1
    have d1 : 1 + (1 * r.toInt + 0) ≤ 0 := q.2.2.1.1
    rw [y1]
    exact one y w3 y2 (by omega) t3 f3
  · obtain ⟨y, y1, y2⟩ := sh_ans q.1
    have d1 : 1 + (-1 * r.toInt + 0) ≤ 0 := q.2.2.1.1
    rw [y1]
    exact one y w3 y2 (by omega) t3 f3
/-- what is reached, one number further -/
theorem rc_Ic {row : Nat → Int} {n g : Int} {k v : Nat} {r : Int64} {x7 : Int32} (h1 : 1 ≤ k) (hv : (v : Int) = row k) (hv63 : v < 64) (e7 : x7.toInt = row k) (h : rc_I row n g k r) : rc_I row n g (k + 1) (ra_U r &&& ((1 : Int64) <<< (x7.toInt64 &&& 63))) := by
  have bit : ∀ c, c < 64 → ra_B (ra_U r &&& ((1 : Int64) <<< (x7.toInt64 &&& 63))) c = (ra_B (ra_U r) c && decide (c = v)) := fun c hc2 => ra_sh _ (by rw [e7, hv]) hv63 hc2
  rcases h with ⟨hV, hV0, hI⟩ | ⟨hI, hno⟩
  · refine Or.inl ⟨fun k' hk' hp => ?_, hV0, fun c hc2 => ?_⟩
    · by_cases e : k' = k
      · subst e
        exact Or.inl ⟨by omega, by omega⟩
      · exact hV k' (by omega) hp
    · rw [bit c hc2, Bool.and_eq_true, decide_eq_true_eq, rc_IU h1 hI c hc2]
      obtain ⟨j, rfl⟩ : ∃ j, k = j + 1 := ⟨k - 1, by omega⟩
      show _ ↔ ((row (j + 1) = -1 ∨ row (j + 1) = c) ∧ _)
      constructor
      · rintro ⟨q1, q2⟩
        exact ⟨Or.inr (by omega), q1⟩
      · rintro ⟨q1, q2⟩
        exact ⟨q2, by omega⟩
  · refine Or.inr ⟨fun c hc2 => ?_, hno⟩
    rw [bit c hc2, rc_IZ hI c hc2]
    rfl
theorem rc_Ig {row : Nat → Int} {n g : Int} {k : Nat} {r : Int64} (h1 : 1 ≤ k) (hp : g = 1 ∧ row k = -1 ∧ (k : Int) + 1 < n) (h : rc_I row n g k r) : rc_I row n g (k + 1) (ra_U r) := by
  rcases h with ⟨hV, hV0, hI⟩ | ⟨hI, hno⟩
  · refine Or.inl ⟨fun k' hk' hpos => ?_, hV0, fun c hc2 => ?_⟩
    · by_cases e : k' = k
      · subst e
        exact Or.inr ⟨hp.1, hp.2.1, hpos, hp.2.2⟩
      · exact hV k' (by omega) hpos
    · rw [rc_IU h1 hI c hc2]
      obtain ⟨j, rfl⟩ : ∃ j, k = j + 1 := ⟨k - 1, by omega⟩
      exact ⟨fun q => ⟨Or.inl hp.2.1, q⟩, fun q => q.2⟩
  · exact Or.inr ⟨rc_IZ hI, hno⟩
theorem rc_lp {w : pq_W} {s n : Nat} {g : Int} (hs : s < 4) (hg : g = 0 ∨ g = 1) (h2 : 2 ≤ n) (h12 : n ≤ 12) (hn : sy_r w 92 s = n) : ∀ (m k : Nat), k + m = n → 1 ≤ k → ∀ (r : Int64) ls w2, rbB ls s g n r k → sx_Ty sx_T0 w2 → sx_Fr [] w w2 → rc_I (rc_row w s) n g k r → ∃ res, pq_Go 9 pm_84 26 ls [] w2 0 0 res ∧ rc_P w s g res := by
  have bg : 0 ≤ g ∧ g ≤ 1 := by omega
  have bs : (0 : Int) ≤ s ∧ (s : Int) ≤ 3 := by omega
  have bn : (2 : Int) ≤ n ∧ (n : Int) ≤ 12 := by omega
  intro m
  induction m with
  | zero =>
    intro k hk h1 r ls w2 hb ht hf hI
    have e : k = n := by omega
    rw [e] at hb hI
    exact rc_26e hb hs bg ⟨h2, h12⟩ ht (fun y w3 y2 hr t3 f3 => ⟨t3, sx_Fr_trans hf f3, y, rfl, Or.inr ⟨y2, by rw [hn]; exact rc_I0 hI hr (by omega) (by omega)⟩⟩) (fun y w3 y2 hr t3 f3 => ⟨t3, sx_Fr_trans hf f3, y, rfl, Or.inl ⟨y2, by rw [hn]; exact rc_end hg h2 h12 hI hr⟩⟩)
  | succ m ih =>
    intro k hk h1 r ls w2 hb ht hf hI
    have br : -2147483648 ≤ rc_row w s k ∧ rc_row w s k ≤ 2147483647 := sy_rb w 91 _
    have bk2 : (1 : Int) ≤ k ∧ (k : Int) ≤ 11 := by omega
    have ek : (k : Int) + 1 = ((k + 1 : Nat) : Int) := by omega
    refine rc_26 (v := rc_row w s k) hb hs bg bn ⟨h1, by omega⟩ (by omega) (ng_nil hf 91 _) ht (fun y w3 y2 hr t3 f3 => ⟨t3, sx_Fr_trans hf f3, y, rfl, Or.inr ⟨y2, by rw [hn]; exact rc_I0 hI hr h1 (by omega)⟩⟩) (fun ls3 w3 c0 c1 c2 c3 c6 c7 t3 f3 => ?_)
    have hf3 : sx_Fr [] w w3 := sx_Fr_trans hf f3
    by_cases hc : 0 ≤ rc_row w s k ∧ rc_row w s k ≤ 63
    · obtain ⟨v, hv⟩ : ∃ v : Nat, (v : Int) = rc_row w s k := ⟨(rc_row w s k).toNat, by omega⟩
      refine rc_64a c0 c1 c2 c3 c6 c7 bs bg bn bk2 hc t3 (fun x7 ls5 w5 e7 b5 t5 f5 => ?_)
      rw [ek] at b5
      exact ih (k + 1) (by omega) (by omega) _ ls5 w5 b5 t5 (sx_Fr_trans hf3 f5) (rc_Ic h1 hv (by omega) e7 hI)
    · by_cases hp : g = 1 ∧ rc_row w s k = -1 ∧ (k : Int) + 1 < n
      · have hI2 := rc_Ig h1 hp hI
        obtain ⟨p1, p2, p3⟩ := hp
        rw [p1] at c2
        rw [p2] at c7
        refine rc_64b c0 c1 c2 c3 c6 c7 bs bn bk2 p3 t3 (fun ls5 w5 b5 t5 f5 => ?_)
        rw [ek, ← p1] at b5
        exact ih (k + 1) (by omega) (by omega) _ ls5 w5 b5 t5 (sx_Fr_trans hf3 f5) hI2
      · refine rc_64c c0 c1 c2 c3 c6 c7 bs bg bn bk2 br hc hp t3 (fun ls5 w5 b5 t5 f5 => ?_)
        rw [ek] at b5
        refine ih (k + 1) (by omega) (by omega) _ ls5 w5 b5 t5 (sx_Fr_trans hf3 f5) (Or.inr ⟨fun c _ => ra_z c, fun hok => ?_⟩)
        rcases rk_V hg hok (k := k) (by omega) (by omega) with q | ⟨q1, q2, _, q3⟩
        · exact hc q
        · exact hp ⟨q1, q2, q3⟩
theorem rc_isrow {w : pq_W} {s : Nat} {xs xg : Int32} (ht : sx_Ty sx_T0 w) (hs : s < 4) (es : xs.toInt = s) (hg : xg.toInt = 0 ∨ xg.toInt = 1) (hz : 0 ≤ sy_r w 92 s ∧ sy_r w 92 s ≤ 24) : ∃ res, pq_Ru 10 84 [.ref 89, .int xs, .int xg] w res ∧ rc_P w s xg.toInt res := by
  have bs : (0 : Int) ≤ s ∧ (s : Int) ≤ 3 := by omega
  have bg : 0 ≤ xg.toInt ∧ xg.toInt ≤ 1 := by omega
  have main : ∃ res, pq_Go 9 pm_84 0 (lv_args 0 [.ref 89, .int xs, .int xg]) [] w 0 0 res ∧ rc_P w s xg.toInt res := by
    have ck := rb_0
    unfold rb_ck at ck
    refine ng_go (J := sx_tt) (Post := rc_P w s xg.toInt) (fx_p [s, xg.toInt, sy_r w 92 s]) ck rfl ⟨bs.1, bs.2, bg.1, bg.2, hz.1, hz.2, trivial⟩ trivial ⟨rfl, ng_iy ⟨xs, rfl, es⟩ rfl, ng_iy ⟨xg, rfl, rfl⟩ rfl, trivial⟩ trivial ⟨?_, trivial⟩ ht sx_ctn (fun _ _ _ => trivial) ⟨fun x w3 t3 f3 q => ?_, fun x w3 t3 f3 q => ?_, trivial⟩ ⟨fun ls3 st3 w3 t3 f3 q => ?_, trivial⟩
    · rw [sx_y_ev, sx_y_ev]
      show sy_r w 92 (s : Int).toNat = sy_r w 92 s
      rw [Int.toNat_natCast]
    · obtain ⟨y, y1, y2⟩ := sh_ans q.1
      have d1 : -1 + (1 * sy_r w 92 s + 0) ≤ 0 := q.2.2.1.1
      exact ⟨t3, f3, y, y1, Or.inr ⟨y2, fun h => by have := h.1; omega⟩⟩
    · obtain ⟨y, y1, y2⟩ := sh_ans q.1
      have d1 : 13 + (-1 * sy_r w 92 s + 0) ≤ 0 := q.2.2.1.1
      exact ⟨t3, f3, y, y1, Or.inr ⟨y2, fun h => by have := h.2.1; omega⟩⟩
    · obtain ⟨a1, b2, _, a4, _⟩ := q
      cases ng_st0 b2
      have d1 : 2 + (-1 * sy_r w 92 s + 0) ≤ 0 := a4.1
      have d2 : -12 + (1 * sy_r w 92 s + 0) ≤ 0 := a4.2.1
      obtain ⟨n, hn⟩ : ∃ n : Nat, (n : Int) = sy_r w 92 s := ⟨(sy_r w 92 s).toNat, by omega⟩
      have bn : (2 : Int) ≤ n ∧ (n : Int) ≤ 12 := by omega
      obtain ⟨r4, b4, e4⟩ := rbB_of (s := s) (g := xg.toInt) (n := n) (k := 0) a1 rfl rfl hn.symm (ng_ek _ _)
      rw [ng_ek] at e4
      have e4 : r4 = -1 := Int64.toInt_inj.mp e4
      subst e4
      have br : -2147483648 ≤ rc_row w s 0 ∧ rc_row w s 0 ≤ 2147483647 := sy_rb w 91 _
      have hO : ∀ v : Int, v = rc_row w s 0 → sy_r w3 91 (0 + (24 * (s : Int) + 0)).toNat = v := fun v hv => by
        rw [show (0 + (24 * (s : Int) + 0)).toNat = 24 * s + 0 by omega, ng_nil f3, hv]
        rfl
      by_cases hc : 0 ≤ rc_row w s 0 ∧ rc_row w s 0 ≤ 63
      · have ck := rb_1a
        unfold rb_ck at ck
        refine ng_go (J := sx_tt) (Post := rc_P w s xg.toInt) (fx_p [s, xg.toInt, n, rc_row w s 0]) ck rfl ⟨bs.1, bs.2, bg.1, bg.2, bn.1, bn.2, hc.1, hc.2, trivial⟩ trivial ⟨b4.1, ng_iy b4.2.1 rfl, ng_iy b4.2.2.1 rfl, ng_iy b4.2.2.2.1 rfl, ⟨-1, b4.2.2.2.2.1, by rw [ng_ek]; rfl⟩, ng_ik b4.2.2.2.2.2 rfl, trivial⟩ trivial ⟨by rw [sx_y_ev]; exact hO _ rfl, trivial⟩ t3 sx_ctn (fun _ _ _ => trivial) trivial ⟨fun ls4 st4 w4 t4 f4 q => ?_, trivial⟩
        obtain ⟨⟨d0, d1, d2, d3, d6, ⟨x7, d7, e7⟩, ⟨x8, d8, e8⟩, _⟩, b2, _⟩ := q
        cases ng_st0 b2
        rw [sx_y_ev] at e7
        rw [ng_ek] at e8
        have e7 : x7.toInt = rc_row w s 0 := e7
        have e8 : x8 = -1 := Int64.toInt_inj.mp e8
        subst e8
        obtain ⟨v, hv⟩ : ∃ v : Nat, (v : Int) = rc_row w s 0 := ⟨(rc_row w s 0).toNat, by omega⟩
        refine rc_74 (s := s) (g := xg.toInt) (n := n) (k := 0) d0 (ng_yi d1 rfl) (ng_yi d2 rfl) (ng_yi d3 rfl) (ng_ki d6 rfl) d7 d8 bs bg bn (by omega) t4 (fun ls5 w5 b5 t5 f5 => ?_)
        refine rc_lp hs hg (by omega) (by omega) hn.symm (n - 1) 1 (by omega) (Nat.le_refl _) _ ls5 w5 b5 t5 (sx_Fr_trans (sx_Fr_trans f3 f4) f5) (Or.inl ⟨fun k' hk' hp => by omega, hc, fun c hc2 => ?_⟩)
        rw [ra_sh _ (n := v) (by rw [e7, hv]) (by omega) hc2, ra_m1 hc2, Bool.true_and, decide_eq_true_eq]
        show c = v ↔ rc_row w s 0 = c
        omega
      · have hz : ∃ z ∈ ([(-2147483648, -1), (64, 2147483647)] : List (Int × Int)), z.1 ≤ rc_row w s 0 ∧ rc_row w s 0 ≤ z.2 := by
          by_cases q : rc_row w s 0 < 0
          · exact ⟨_, List.mem_cons_self, br.1, by show rc_row w s 0 ≤ -1; omega⟩
          · exact ⟨_, List.mem_cons_of_mem _ List.mem_cons_self, by show 64 ≤ rc_row w s 0; omega, br.2⟩
        obtain ⟨z, hzm, z1⟩ := hz
        have ck := List.all_eq_true.mp rb_1c z hzm
        unfold rb_ck at ck
        refine ng_go (J := sx_tt) (Post := rc_P w s xg.toInt) (fx_p [s, xg.toInt, n, rc_row w s 0]) ck rfl ⟨bs.1, bs.2, bg.1, bg.2, bn.1, bn.2, z1.1, z1.2, trivial⟩ trivial ⟨b4.1, ng_iy b4.2.1 rfl, ng_iy b4.2.2.1 rfl, ng_iy b4.2.2.2.1 rfl, ⟨-1, b4.2.2.2.2.1, by rw [ng_ek]; rfl⟩, ng_ik b4.2.2.2.2.2 rfl, trivial⟩ trivial ⟨by rw [sx_y_ev]; exact hO _ rfl, trivial⟩ t3 sx_ctn (fun _ _ _ => trivial) trivial ⟨fun ls4 st4 w4 t4 f4 q => ?_, trivial⟩
        obtain ⟨a1, b2, _⟩ := q
        cases ng_st0 b2
        obtain ⟨r5, b5, e5⟩ := rbB_of (s := s) (g := xg.toInt) (n := n) (k := 1) a1 rfl rfl rfl (ng_ek _ _)
        rw [ng_ek] at e5
        have e5 : r5 = 0 := Int64.toInt_inj.mp e5
        subst e5
        refine rc_lp hs hg (by omega) (by omega) hn.symm (n - 1) 1 (by omega) (Nat.le_refl _) _ ls4 w4 b5 t4 (sx_Fr_trans f3 f4) (Or.inr ⟨fun c _ => ra_z c, fun hok => hc ?_⟩)
        have h0 := hok.2.2.1 0 (by omega)
        refine ⟨?_, h0.2⟩
        have h5 : ∀ (j c : Nat), gR (rc_row w s) j c → 0 ≤ rc_row w s 0 := by
          intro j
          induction j with
          | zero =>
            intro c hg0
            have hg0 : rc_row w s 0 = c := hg0
            omega
          | succ j ih =>
            rintro c ⟨_, _, _, d, _, hg0⟩
            exact ih d hg0
        exact h5 _ _ hok.2.2.2.2
  obtain ⟨res, g1, g2⟩ := main
  refine ⟨res, ru_of (k := 9) (M := pm_84) rfl ?_ g1, g2⟩
  rw [Bool.and_eq_true]
  exact ⟨rfl, sq_rcv ht rfl rfl rfl⟩
