/-! the reference's reader: levels, smallest parts -/
theorem rq_QT {B : Nat → Int} {n o q : Nat} {a : List Int} {w w1 : pq_W} (h : rq_S B n o q a w1) (f : sx_Fr rq_A w w1) : rq_Q B n o true q a w w1 := ⟨f, h⟩
theorem rq_QF {B : Nat → Int} {n o q : Nat} {a : List Int} {w w1 : pq_W} (h : rq_F B n q w1) (f : sx_Fr rq_A w w1) : rq_Q B n o false q a w w1 := ⟨f, h⟩
theorem rq_QS {B : Nat → Int} {n o q : Nat} {a : List Int} {w w1 : pq_W} (h : rq_Q B n o true q a w w1) : rq_S B n o q a w1 := h.2
theorem rq_QG {B : Nat → Int} {n o q : Nat} {a : List Int} {w w1 : pq_W} (h : rq_Q B n o false q a w w1) : rq_F B n q w1 := h.2
theorem rq_Qt {B : Nat → Int} {n o q : Nat} {ok : Bool} {a : List Int} {w w1 w2 : pq_W} (f : sx_Fr rq_A w w1) (h : rq_Q B n o ok q a w1 w2) : rq_Q B n o ok q a w w2 := ⟨sx_Fr_trans f h.1, h.2⟩
theorem rq_oi {w : pq_W} (ht : sx_Ty sx_T0 w) : ∃ z : Int32, sx_wg w 94 12 = some (.int z) := by
  obtain ⟨c, h1, h2⟩ := sx_Ty_get ht (r := 94) rfl
  match c, h1, h2 with
  | .inr (c0, vs), h1, h2 =>
    obtain ⟨_, hlen, hv⟩ := h2
    rw [sx_wg_of h1]
    show ∃ z : Int32, vs[12]? = some (.int z)
    have hl : 12 < vs.length := by rw [hlen]; decide
    have h3 := hv 12 _ _ rfl (List.getElem?_eq_getElem hl)
    rw [List.getElem?_eq_getElem hl]
    match vs[12], h3 with
    | .int z, _ => exact ⟨z, rfl⟩
theorem rq_pd {o : Nat} (ho : o < 5) : nI (o + 1) - 1 = nI o := by
  apply Int32.toInt_inj.mp
  rw [Int32.toInt_sub, nI_toInt (by omega), nI_toInt (by omega), show (1 : Int32).toInt = 1 from rfl, show ((o + 1 : Nat) : Int) - 1 = (o : Int) by omega]
  exact Int.bmod_eq_of_le (by omega) (by omega)
theorem rq_lv0 {c : Int} (h : rd_lv c = 0) : c = 124 := by
  unfold rd_lv at h
  repeat' split at h
  all_goals first | assumption | exact absurd h (by decide)
theorem rq_lv1 {c : Int} (h : rd_lv c = 1) : c = 38 := by
  unfold rd_lv at h
  repeat' split at h
  all_goals first | assumption | exact absurd h (by decide)
theorem rq_lv2 {c : Int} (h : rd_lv c = 2) : c = 60 ∨ c = 61 ∨ c = 62 := by
  unfold rd_lv at h
  repeat' split at h
  all_goals first | assumption | exact absurd h (by decide)
theorem rq_lv3 {c : Int} (h : rd_lv c = 3) : c = 43 ∨ c = 45 := by
  unfold rd_lv at h
  repeat' split at h
  all_goals first | assumption | exact absurd h (by decide)
theorem rq_lv4 {c : Int} (h : rd_lv c = 4) : c = 42 ∨ c = 47 := by
  unfold rd_lv at h
  repeat' split at h
  all_goals first | assumption | exact absurd h (by decide)
theorem rd_sq {B : Nat → Int} {n q : Nat} {L : Nat} (h : rd_lv (rd_s B n q) = (L : Int)) : q < n := by
  by_cases z : q < n
  · exact z
  · rw [rd_lvn (by unfold rd_s; rw [if_neg z]; decide)] at h
    omega
theorem sm_10 {x y : Int32} {v c : Int} (hx : x.toInt = v) (hy : y.toInt = c) (hv : 0 ≤ v ∧ v ≤ 999) (hc : 48 ≤ c ∧ c ≤ 57) : (10 * x + y - 48).toInt = v * 10 + c - 48 := by
  rw [Int32.mul_comm]
  exact sm_mul10 hx hy hv hc
/-- method j reads what level m reads, with so much depth -/
noncomputable def rq_RM (B : Nat → Int) (n f m j d : Nat) : Prop := ∀ (o q : Nat) (a : List Int) (ok : Bool) (q1 : Nat) (a1 : List Int) (w : pq_W), o ≤ 5 → rd B n f m o q a = some (ok, q1, a1) → rq_S B n o q a w → q ≤ n → a.length ≤ q → ∃ w1, pq_Ru (d + 8 * (5 - o)) j [.ref 94] w (none, w1) ∧ rq_Q B n o ok q1 a1 w w1
/-- from a loop's head on -/
noncomputable def rq_PA (B : Nat → Int) (n f L d : Nat) (M : pq_M) : Prop := ∀ (o q : Nat) (a : List Int) (ok : Bool) (q1 : Nat) (a1 : List Int) (w : pq_W), o ≤ 5 → rd B n f (6 + L) o q a = some (ok, q1, a1) → rq_S B n o q a w → q ≤ n → a.length ≤ q → ∃ res, pq_Go (d + 8 * (5 - o)) M 4 [(0, .ref 94)] [] w 0 0 res ∧ (res.1 = none ∧ rq_Q B n o ok q1 a1 w res.2)
noncomputable def rq_PB (B : Nat → Int) (n f L d : Nat) (M : pq_M) : Prop := ∀ (o q : Nat) (a : List Int) (ok : Bool) (q1 : Nat) (a1 : List Int) (w : pq_W) (y : Int32), o ≤ 5 → rd B n f (6 + L) o q a = some (ok, q1, a1) → rq_S B n o q a w → q ≤ n → a.length ≤ q → y.toInt = rd_s B n q → ∃ res, pq_Go (d + 8 * (5 - o)) M 9 [(1, .int y), (0, .ref 94)] [] w 0 0 res ∧ (res.1 = none ∧ rq_Q B n o ok q1 a1 w res.2)
theorem rq_nu {B : Nat → Int} {n o : Nat} {a : List Int} {y0 : Int32} (hl : a.length < 60) : ∀ (k i q : Nat) (v : Int) (x : Int32) (w : pq_W) (K : Nat), 8 ≤ K → k + i = 4 → q ≤ n → x.toInt = v → 0 ≤ v ∧ v ≤ rp_vb k → rq_S B n o q a w → ∃ res, pq_Go K pm_202 132 [(3, .int (nI i)), (2, .int x), (1, .int y0), (0, .ref 94)] [] w 0 0 res ∧ (res.1 = none ∧ rq_S B n o (rd_nu B n k q v).1 (a ++ [(rd_nu B n k q v).2]) res.2 ∧ sx_Fr rq_A w res.2) := by
  intro k
  induction k with
  | zero =>
    intro i q v x w K hK hi hq hx hv h
    have e : i = 4 := by omega
    subst e
    obtain ⟨w2, r2, s2, f2⟩ := rq_pu (x := x) (v := v) h hl (by rw [hx]; unfold rq_m; rw [if_pos hv.1])
    refine xs_seg 2 (pc' := 134) (ls' := [(3, .int (nI 4)), (2, .int x), (1, .int y0), (0, .ref 94)]) (st' := [.int 4, .int (nI 4)]) (w' := w) (cs' := 0) (ss' := 0) ?_ (fun _ _ => rfl)
    refine xs_cmp true rfl (by decide) ?_
    refine xs_seg 2 (pc' := 185) (ls' := [(3, .int (nI 4)), (2, .int x), (1, .int y0), (0, .ref 94)]) (st' := [.int x, .ref 94]) (w' := w) (cs' := 0) (ss' := 0) ?_ (fun _ _ => rfl)
    refine xs_cl (as := [.ref 94, .int x]) (rv := none) (st' := []) (cs' := 0) (ss' := 0) (k1 := 6) rfl rfl rfl rfl rfl rfl (Nat.ble_eq_true_of_le (by omega)) r2 ?_
    exact ⟨_, go_end 1 (fun _ _ => rfl), rfl, s2, f2⟩
  | succ k ih =>
    intro i q v x w K hK hi hq hx hv h
    obtain ⟨y, ry, ey⟩ := rq_he h hq
    by_cases c : 48 ≤ rd_s B n q ∧ rd_s B n q ≤ 57
    · obtain ⟨b1, b2, b3⟩ := rp_vs (by omega) hv c
      refine xs_seg 2 (pc' := 134) (ls' := [(3, .int (nI i)), (2, .int x), (1, .int y0), (0, .ref 94)]) (st' := [.int 4, .int (nI i)]) (w' := w) (cs' := 0) (ss' := 0) ?_ (fun _ _ => rfl)
      refine xs_cmp false rfl (br_ge_f (b := 4) rfl (by rw [nI_toInt (by omega)]; omega)) ?_
      refine xs_seg 1 (pc' := 138) (ls' := [(3, .int (nI i)), (2, .int x), (1, .int y0), (0, .ref 94)]) (st' := [.ref 94]) (w' := w) (cs' := 0) (ss' := 0) ?_ (fun _ _ => rfl)
      refine xs_cl (as := [.ref 94]) (rv := some (.int y)) (st' := [.int y]) (cs' := 0) (ss' := 0) (k1 := 2) rfl rfl rfl rfl rfl rfl (Nat.ble_eq_true_of_le (by omega)) ry ?_
      refine xs_seg 3 (pc' := 148) (ls' := [(3, .int (nI i)), (2, .int x), (1, .int y0), (0, .ref 94)]) (st' := [.long 57, .long 48, .long (y).toInt64]) (w' := w) (cs' := 0) (ss' := 0) ?_ (fun _ _ => rfl)
      refine xs_cl (as := [.long (y).toInt64, .long 48, .long 57]) (rv := some (.int 1)) (st' := [.int 1]) (cs' := 0) (ss' := 0) (k1 := 1) rfl rfl rfl rfl rfl rfl (Nat.ble_eq_true_of_le (by omega)) (wi_t w y 48 57 48 57 rfl rfl (by rw [ey]; exact c)) ?_
      refine xs_if false rfl rfl ?_
      refine xs_seg 4 (pc' := 159) (ls' := [(3, .int (nI i)), (2, .int x), (1, .int y0), (0, .ref 94)]) (st' := [.ref 94, .int (10 * x)]) (w' := w) (cs' := 0) (ss' := 0) ?_ (fun _ _ => rfl)
      refine xs_cl (as := [.ref 94]) (rv := some (.int y)) (st' := [.int y, .int (10 * x)]) (cs' := 0) (ss' := 0) (k1 := 2) rfl rfl rfl rfl rfl rfl (Nat.ble_eq_true_of_le (by omega)) ry ?_
      refine xs_seg 6 (pc' := 169) (ls' := [(2, .int (((10 * x) + y) - 48)), (3, .int (nI i)), (1, .int y0), (0, .ref 94)]) (st' := [.ref 94, .ref 94]) (w' := w) (cs' := 0) (ss' := 0) ?_ (fun _ _ => rfl)
      refine xs_gf (z := .int (nI q)) rfl h.1.1 rfl rfl h.2.1 ?_
      refine xs_seg 2 (pc' := 174) (ls' := [(2, .int (((10 * x) + y) - 48)), (3, .int (nI i)), (1, .int y0), (0, .ref 94)]) (st' := [.int ((nI q) + 1), .ref 94]) (w' := w) (cs' := 0) (ss' := 0) ?_ (fun _ _ => rfl)
      refine xs_pf rfl h.1.1 rfl rfl rfl rfl (sh_i32 _) (fun w2 t2 f2 e2 => ?_)
      obtain ⟨s2, fa⟩ := rq_pl h (by omega) t2 f2 e2
      have en : rd_nu B n (k + 1) q v = rd_nu B n k (q + 1) (v * 10 + rd_s B n q - 48) := if_pos c
      rw [en]
      refine xs_seg 2 (pc' := 132) (ls' := [(3, .int (nI (i + 1))), (2, .int (((10 * x) + y) - 48)), (1, .int y0), (0, .ref 94)]) (st' := []) (w' := w2) (cs' := 0) (ss' := 0) ?_ (fun _ _ => by rw [nI_succ]; rfl)
      obtain ⟨res, g, e1, e2, e3⟩ := ih (i + 1) (q + 1) _ _ w2 K hK (by omega) (rd_sl (by decide) c.1) (sm_10 hx ey ⟨hv.1, b3⟩ c) ⟨b1, b2⟩ s2
      exact ⟨res, g, e1, e2, sx_Fr_trans fa e3⟩
    · have en : rd_nu B n (k + 1) q v = (q, v) := if_neg c
      rw [en]
      obtain ⟨w2, r2, s2, f2⟩ := rq_pu (x := x) (v := v) h hl (by rw [hx]; unfold rq_m; rw [if_pos hv.1])
      refine xs_seg 2 (pc' := 134) (ls' := [(3, .int (nI i)), (2, .int x), (1, .int y0), (0, .ref 94)]) (st' := [.int 4, .int (nI i)]) (w' := w) (cs' := 0) (ss' := 0) ?_ (fun _ _ => rfl)
      refine xs_cmp false rfl (br_ge_f (b := 4) rfl (by rw [nI_toInt (by omega)]; omega)) ?_
      refine xs_seg 1 (pc' := 138) (ls' := [(3, .int (nI i)), (2, .int x), (1, .int y0), (0, .ref 94)]) (st' := [.ref 94]) (w' := w) (cs' := 0) (ss' := 0) ?_ (fun _ _ => rfl)
      refine xs_cl (as := [.ref 94]) (rv := some (.int y)) (st' := [.int y]) (cs' := 0) (ss' := 0) (k1 := 2) rfl rfl rfl rfl rfl rfl (Nat.ble_eq_true_of_le (by omega)) ry ?_
      refine xs_seg 3 (pc' := 148) (ls' := [(3, .int (nI i)), (2, .int x), (1, .int y0), (0, .ref 94)]) (st' := [.long 57, .long 48, .long (y).toInt64]) (w' := w) (cs' := 0) (ss' := 0) ?_ (fun _ _ => rfl)
      refine xs_cl (as := [.long (y).toInt64, .long 48, .long 57]) (rv := some (.int 0)) (st' := [.int 0]) (cs' := 0) (ss' := 0) (k1 := 1) rfl rfl rfl rfl rfl rfl (Nat.ble_eq_true_of_le (by omega)) (wi_f w y 48 57 48 57 rfl rfl (by rw [ey]; exact c)) ?_
      refine xs_if true rfl rfl ?_
      refine xs_seg 2 (pc' := 185) (ls' := [(3, .int (nI i)), (2, .int x), (1, .int y0), (0, .ref 94)]) (st' := [.int x, .ref 94]) (w' := w) (cs' := 0) (ss' := 0) ?_ (fun _ _ => rfl)
      refine xs_cl (as := [.ref 94, .int x]) (rv := none) (st' := []) (cs' := 0) (ss' := 0) (k1 := 6) rfl rfl rfl rfl rfl rfl (Nat.ble_eq_true_of_le (by omega)) r2 ?_
      exact ⟨_, go_end 1 (fun _ _ => rfl), rfl, s2, f2⟩
theorem rq_rs {B : Nat → Int} {n f : Nat} (hB : ∀ i, i < n → 0 ≤ B i ∧ B i ≤ 255) (hS : rq_RM B n f 5 202 19) (hL : rq_RM B n f 0 197 24) : rq_RM B n (f + 1) 5 202 19 := by
  intro o q a ok q1 a1 w ho he h hq hl
  have hn := h.1.2.2.1
  have he : rd_5 B n (rd B n f) o q a = some (ok, q1, a1) := he
  unfold rd_5 at he
  obtain ⟨y, ry, ey⟩ := rq_he h hq
  have key : ∃ res, pq_Go (18 + 8 * (5 - o)) pm_202 0 (lv_args 0 [.ref 94]) [] w 0 0 res ∧ (res.1 = none ∧ rq_Q B n o ok q1 a1 w res.2) := by
    by_cases c33 : rd_s B n q = 33
    · have yc : y = 33 := Int32.toInt_inj.mp (by rw [ey, c33]; rfl)
      subst yc
      have hqn := rd_sn (by decide) c33
      rw [c33, if_neg (by omega), if_neg (by decide)] at he
      by_cases o5 : 5 ≤ o
      · have e5 : o = 5 := by omega
        subst e5
        rw [if_neg (fun z => absurd z.1 (by decide)), if_neg (fun z => absurd z.1 (by decide))] at he
        cases he
        obtain ⟨w2, r2, s2, f2⟩ := rq_o5 h
        refine xs_seg 1 (pc' := 1) (ls' := [(0, .ref 94)]) (st' := [.ref 94]) (w' := w) (cs' := 0) (ss' := 0) ?_ (fun _ _ => rfl)
        refine xs_cl (as := [.ref 94]) (rv := some (.int 33)) (st' := [.int 33]) (cs' := 0) (ss' := 0) (k1 := 2) rfl rfl rfl rfl rfl rfl (Nat.ble_eq_true_of_le (by omega)) ry ?_
        refine xs_seg 3 (pc' := 8) (ls' := [(1, .int 33), (0, .ref 94)]) (st' := [.int 33, .int 33]) (w' := w) (cs' := 0) (ss' := 0) ?_ (fun _ _ => rfl)
        refine xs_cmp false rfl (by decide) ?_
        refine xs_seg 1 (pc' := 12) (ls' := [(1, .int 33), (0, .ref 94)]) (st' := [.ref 94]) (w' := w) (cs' := 0) (ss' := 0) ?_ (fun _ _ => rfl)
        refine xs_cl (as := [.ref 94]) (rv := some (.int 0)) (st' := [.int 0]) (cs' := 0) (ss' := 0) (k1 := 3) rfl rfl rfl rfl rfl rfl (Nat.ble_eq_true_of_le (by omega)) r2 ?_
        refine xs_if true rfl rfl ?_
        exact ⟨_, go_end 1 (fun _ _ => rfl), rfl, rq_QF s2 f2⟩
      · have o4 : o < 5 := by omega
        rw [if_pos ⟨o4, rfl⟩] at he
        obtain ⟨w2, r2, s2, f2⟩ := rq_on h o4 (by omega)
        rcases rd_b_of he with ⟨q0, a0, h1, h2⟩ | ⟨rfl, h1⟩
        · cases h2
          obtain ⟨b1, b2, b3⟩ := rd_bd _ _ _ _ _ _ _ _ h1 (by omega)
          have b3 := b3 rfl
          obtain ⟨w3, r3, s3⟩ := hS (o + 1) (q + 1) a true q1 a0 w2 (by omega) h1 s2 (by omega) (by omega)
          refine xs_seg 1 (pc' := 1) (ls' := [(0, .ref 94)]) (st' := [.ref 94]) (w' := w) (cs' := 0) (ss' := 0) ?_ (fun _ _ => rfl)
          refine xs_cl (as := [.ref 94]) (rv := some (.int 33)) (st' := [.int 33]) (cs' := 0) (ss' := 0) (k1 := 2) rfl rfl rfl rfl rfl rfl (Nat.ble_eq_true_of_le (by omega)) ry ?_
          refine xs_seg 3 (pc' := 8) (ls' := [(1, .int 33), (0, .ref 94)]) (st' := [.int 33, .int 33]) (w' := w) (cs' := 0) (ss' := 0) ?_ (fun _ _ => rfl)
          refine xs_cmp false rfl (by decide) ?_
          refine xs_seg 1 (pc' := 12) (ls' := [(1, .int 33), (0, .ref 94)]) (st' := [.ref 94]) (w' := w) (cs' := 0) (ss' := 0) ?_ (fun _ _ => rfl)
          refine xs_cl (as := [.ref 94]) (rv := some (.int 1)) (st' := [.int 1]) (cs' := 0) (ss' := 0) (k1 := 3) rfl rfl rfl rfl rfl rfl (Nat.ble_eq_true_of_le (by omega)) r2 ?_
          refine xs_if false rfl rfl ?_
          refine xs_seg 1 (pc' := 19) (ls' := [(1, .int 33), (0, .ref 94)]) (st' := [.ref 94]) (w' := w2) (cs' := 0) (ss' := 0) ?_ (fun _ _ => rfl)
          refine xs_cl (as := [.ref 94]) (rv := none) (st' := []) (cs' := 0) (ss' := 0) (k1 := (19 + 8 * (5 - (o + 1)))) rfl rfl rfl rfl rfl rfl (Nat.ble_eq_true_of_le (by omega)) r3 ?_
          refine xs_seg 2 (pc' := 24) (ls' := [(1, .int 33), (0, .ref 94)]) (st' := [.ref 94, .ref 94]) (w' := w3) (cs' := 0) (ss' := 0) ?_ (fun _ _ => rfl)
          refine xs_gf (z := .int (nI (o + 1))) rfl s3.2.1.1 rfl rfl s3.2.2.2.1 ?_
          refine xs_seg 2 (pc' := 29) (ls' := [(1, .int 33), (0, .ref 94)]) (st' := [.int ((nI (o + 1)) - 1), .ref 94]) (w' := w3) (cs' := 0) (ss' := 0) ?_ (fun _ _ => rfl)
          refine xs_pf rfl s3.2.1.1 rfl rfl rfl rfl (sh_i32 _) (fun w4 t4 f4 e4 => ?_)
          obtain ⟨s4, f4⟩ := rq_op (o2 := o) (rq_QS s3) (by omega) t4 f4 e4 (rq_pd o4)
          obtain ⟨w5, r5, s5, f5⟩ := rq_pu (x := 20009) (v := -133) s4 (by omega) (by decide)
          refine xs_seg 2 (pc' := 36) (ls' := [(1, .int 33), (0, .ref 94)]) (st' := [.int 20009, .ref 94]) (w' := w4) (cs' := 0) (ss' := 0) ?_ (fun _ _ => rfl)
          refine xs_cl (as := [.ref 94, .int 20009]) (rv := none) (st' := []) (cs' := 0) (ss' := 0) (k1 := 6) rfl rfl rfl rfl rfl rfl (Nat.ble_eq_true_of_le (by omega)) r5 ?_
          exact ⟨_, go_end 1 (fun _ _ => rfl), rfl, rq_QT s5 (sx_Fr_trans f2 (sx_Fr_trans s3.1 (sx_Fr_trans f4 f5)))⟩
        · obtain ⟨w3, r3, s3⟩ := hS (o + 1) (q + 1) a false q1 a1 w2 (by omega) h1 s2 (by omega) (by omega)
          obtain ⟨oz, hoz⟩ := rq_oi (rq_QG s3).1.1
          refine xs_seg 1 (pc' := 1) (ls' := [(0, .ref 94)]) (st' := [.ref 94]) (w' := w) (cs' := 0) (ss' := 0) ?_ (fun _ _ => rfl)
          refine xs_cl (as := [.ref 94]) (rv := some (.int 33)) (st' := [.int 33]) (cs' := 0) (ss' := 0) (k1 := 2) rfl rfl rfl rfl rfl rfl (Nat.ble_eq_true_of_le (by omega)) ry ?_
          refine xs_seg 3 (pc' := 8) (ls' := [(1, .int 33), (0, .ref 94)]) (st' := [.int 33, .int 33]) (w' := w) (cs' := 0) (ss' := 0) ?_ (fun _ _ => rfl)
          refine xs_cmp false rfl (by decide) ?_
          refine xs_seg 1 (pc' := 12) (ls' := [(1, .int 33), (0, .ref 94)]) (st' := [.ref 94]) (w' := w) (cs' := 0) (ss' := 0) ?_ (fun _ _ => rfl)
          refine xs_cl (as := [.ref 94]) (rv := some (.int 1)) (st' := [.int 1]) (cs' := 0) (ss' := 0) (k1 := 3) rfl rfl rfl rfl rfl rfl (Nat.ble_eq_true_of_le (by omega)) r2 ?_
          refine xs_if false rfl rfl ?_
          refine xs_seg 1 (pc' := 19) (ls' := [(1, .int 33), (0, .ref 94)]) (st' := [.ref 94]) (w' := w2) (cs' := 0) (ss' := 0) ?_ (fun _ _ => rfl)
          refine xs_cl (as := [.ref 94]) (rv := none) (st' := []) (cs' := 0) (ss' := 0) (k1 := (19 + 8 * (5 - (o + 1)))) rfl rfl rfl rfl rfl rfl (Nat.ble_eq_true_of_le (by omega)) r3 ?_
          refine xs_seg 2 (pc' := 24) (ls' := [(1, .int 33), (0, .ref 94)]) (st' := [.ref 94, .ref 94]) (w' := w3) (cs' := 0) (ss' := 0) ?_ (fun _ _ => rfl)
          refine xs_gf (z := .int oz) rfl (rq_QG s3).1.1 rfl rfl hoz ?_
          refine xs_seg 2 (pc' := 29) (ls' := [(1, .int 33), (0, .ref 94)]) (st' := [.int (oz - 1), .ref 94]) (w' := w3) (cs' := 0) (ss' := 0) ?_ (fun _ _ => rfl)
          refine xs_pf rfl (rq_QG s3).1.1 rfl rfl rfl rfl (sh_i32 _) (fun w4 t4 f4 e4 => ?_)
          obtain ⟨s4, f4⟩ := rq_oF (rq_QG s3) t4 f4
          refine xs_seg 2 (pc' := 36) (ls' := [(1, .int 33), (0, .ref 94)]) (st' := [.int 20009, .ref 94]) (w' := w4) (cs' := 0) (ss' := 0) ?_ (fun _ _ => rfl)
          refine xs_cl (as := [.ref 94, .int 20009]) (rv := none) (st' := []) (cs' := 0) (ss' := 0) (k1 := 6) rfl rfl rfl rfl rfl rfl (Nat.ble_eq_true_of_le (by omega)) (rq_pG s4) ?_
          exact ⟨_, go_end 1 (fun _ _ => rfl), rfl, rq_QF s4 (sx_Fr_trans f2 (sx_Fr_trans s3.1 f4))⟩
    by_cases c40 : rd_s B n q = 40
    · have yc : y = 40 := Int32.toInt_inj.mp (by rw [ey, c40]; rfl)
      subst yc
      have hqn := rd_sn (by decide) c40
      rw [c40, if_neg (by omega), if_neg (by decide), if_neg (fun z => absurd z.2 (by decide))] at he
      by_cases o5 : 5 ≤ o
      · have e5 : o = 5 := by omega
        subst e5
        rw [if_neg (fun z => absurd z.1 (by decide))] at he
        cases he
        obtain ⟨w2, r2, s2, f2⟩ := rq_o5 h
        refine xs_seg 1 (pc' := 1) (ls' := [(0, .ref 94)]) (st' := [.ref 94]) (w' := w) (cs' := 0) (ss' := 0) ?_ (fun _ _ => rfl)
        refine xs_cl (as := [.ref 94]) (rv := some (.int 40)) (st' := [.int 40]) (cs' := 0) (ss' := 0) (k1 := 2) rfl rfl rfl rfl rfl rfl (Nat.ble_eq_true_of_le (by omega)) ry ?_
        refine xs_seg 3 (pc' := 8) (ls' := [(1, .int 40), (0, .ref 94)]) (st' := [.int 33, .int 40]) (w' := w) (cs' := 0) (ss' := 0) ?_ (fun _ _ => rfl)
        refine xs_cmp true rfl (by decide) ?_
        refine xs_seg 2 (pc' := 43) (ls' := [(1, .int 40), (0, .ref 94)]) (st' := [.int 40, .int 40]) (w' := w) (cs' := 0) (ss' := 0) ?_ (fun _ _ => rfl)
        refine xs_cmp false rfl (by decide) ?_
        refine xs_seg 1 (pc' := 47) (ls' := [(1, .int 40), (0, .ref 94)]) (st' := [.ref 94]) (w' := w) (cs' := 0) (ss' := 0) ?_ (fun _ _ => rfl)
        refine xs_cl (as := [.ref 94]) (rv := some (.int 0)) (st' := [.int 0]) (cs' := 0) (ss' := 0) (k1 := 3) rfl rfl rfl rfl rfl rfl (Nat.ble_eq_true_of_le (by omega)) r2 ?_
        refine xs_if true rfl rfl ?_
        exact ⟨_, go_end 1 (fun _ _ => rfl), rfl, rq_QF s2 f2⟩
      · have o4 : o < 5 := by omega
        rw [if_pos ⟨o4, rfl⟩] at he
        obtain ⟨w2, r2, s2, f2⟩ := rq_on h o4 (by omega)
        rcases rd_b_of he with ⟨q0, a0, h1, h2⟩ | ⟨rfl, h1⟩
        · obtain ⟨b1, b2, b3⟩ := rd_bd _ _ _ _ _ _ _ _ h1 (by omega)
          have b3 := b3 rfl
          obtain ⟨w3, r3, s3⟩ := hL (o + 1) (q + 1) a true q0 a0 w2 (by omega) h1 s2 (by omega) (by omega)
          refine xs_seg 1 (pc' := 1) (ls' := [(0, .ref 94)]) (st' := [.ref 94]) (w' := w) (cs' := 0) (ss' := 0) ?_ (fun _ _ => rfl)
          refine xs_cl (as := [.ref 94]) (rv := some (.int 40)) (st' := [.int 40]) (cs' := 0) (ss' := 0) (k1 := 2) rfl rfl rfl rfl rfl rfl (Nat.ble_eq_true_of_le (by omega)) ry ?_
          refine xs_seg 3 (pc' := 8) (ls' := [(1, .int 40), (0, .ref 94)]) (st' := [.int 33, .int 40]) (w' := w) (cs' := 0) (ss' := 0) ?_ (fun _ _ => rfl)
          refine xs_cmp true rfl (by decide) ?_
          refine xs_seg 2 (pc' := 43) (ls' := [(1, .int 40), (0, .ref 94)]) (st' := [.int 40, .int 40]) (w' := w) (cs' := 0) (ss' := 0) ?_ (fun _ _ => rfl)
          refine xs_cmp false rfl (by decide) ?_
          refine xs_seg 1 (pc' := 47) (ls' := [(1, .int 40), (0, .ref 94)]) (st' := [.ref 94]) (w' := w) (cs' := 0) (ss' := 0) ?_ (fun _ _ => rfl)
          refine xs_cl (as := [.ref 94]) (rv := some (.int 1)) (st' := [.int 1]) (cs' := 0) (ss' := 0) (k1 := 3) rfl rfl rfl rfl rfl rfl (Nat.ble_eq_true_of_le (by omega)) r2 ?_
          refine xs_if false rfl rfl ?_
          refine xs_seg 1 (pc' := 54) (ls' := [(1, .int 40), (0, .ref 94)]) (st' := [.ref 94]) (w' := w2) (cs' := 0) (ss' := 0) ?_ (fun _ _ => rfl)
          refine xs_cl (as := [.ref 94]) (rv := none) (st' := []) (cs' := 0) (ss' := 0) (k1 := (24 + 8 * (5 - (o + 1)))) rfl rfl rfl rfl rfl rfl (Nat.ble_eq_true_of_le (by omega)) r3 ?_
          refine xs_seg 2 (pc' := 59) (ls' := [(1, .int 40), (0, .ref 94)]) (st' := [.ref 94, .ref 94]) (w' := w3) (cs' := 0) (ss' := 0) ?_ (fun _ _ => rfl)
          refine xs_gf (z := .int (nI (o + 1))) rfl s3.2.1.1 rfl rfl s3.2.2.2.1 ?_
          refine xs_seg 2 (pc' := 64) (ls' := [(1, .int 40), (0, .ref 94)]) (st' := [.int ((nI (o + 1)) - 1), .ref 94]) (w' := w3) (cs' := 0) (ss' := 0) ?_ (fun _ _ => rfl)
          refine xs_pf rfl s3.2.1.1 rfl rfl rfl rfl (sh_i32 _) (fun w4 t4 f4 e4 => ?_)
          obtain ⟨s4, f4⟩ := rq_op (o2 := o) (rq_QS s3) (by omega) t4 f4 e4 (rq_pd o4)
          have fw4 : sx_Fr rq_A w w4 := sx_Fr_trans f2 (sx_Fr_trans s3.1 f4)
          obtain ⟨y9, ry9, ey9⟩ := rq_he s4 b2
          refine xs_seg 2 (pc' := 69) (ls' := [(1, .int 40), (0, .ref 94)]) (st' := [.ref 94, .ref 94]) (w' := w4) (cs' := 0) (ss' := 0) ?_ (fun _ _ => rfl)
          refine xs_gf (z := .int 0) rfl s4.1.1 rfl rfl s4.2.2.2.1 ?_
          refine xs_if false rfl rfl ?_
          refine xs_seg 1 (pc' := 76) (ls' := [(1, .int 40), (0, .ref 94)]) (st' := [.ref 94, .ref 94]) (w' := w4) (cs' := 0) (ss' := 0) ?_ (fun _ _ => rfl)
          refine xs_cl (as := [.ref 94]) (rv := some (.int y9)) (st' := [.int y9, .ref 94]) (cs' := 0) (ss' := 0) (k1 := 2) rfl rfl rfl rfl rfl rfl (Nat.ble_eq_true_of_le (by omega)) ry9 ?_
          refine xs_seg 1 (pc' := 81) (ls' := [(1, .int 40), (0, .ref 94)]) (st' := [.int 41, .int y9, .ref 94]) (w' := w4) (cs' := 0) (ss' := 0) ?_ (fun _ _ => rfl)
          by_cases c41 : rd_s B n q0 = 41
          · rw [if_pos c41] at h2
            cases h2
            have hq0 := rd_sn (by decide) c41
            refine xs_cmp true rfl (decide_eq_true (Int32.toInt_inj.mp (by rw [ey9, c41]; rfl))) ?_
            refine xs_seg 1 (pc' := 89) (ls' := [(1, .int 40), (0, .ref 94)]) (st' := [.int 0, .ref 94]) (w' := w4) (cs' := 0) (ss' := 0) ?_ (fun _ _ => rfl)
            refine xs_pb rfl s4.1.1 rfl rfl rfl rfl ⟨⟨by decide, by decide⟩, Or.inl rfl⟩ (fun w5 t5 f5 e5 => ?_)
            obtain ⟨s5, f5⟩ := rq_f0 s4 (by omega) t5 f5 e5
            refine xs_seg 2 (pc' := 94) (ls' := [(1, .int 40), (0, .ref 94)]) (st' := [.ref 94, .ref 94]) (w' := w5) (cs' := 0) (ss' := 0) ?_ (fun _ _ => rfl)
            refine xs_gf (z := .int (nI q0)) rfl s5.1.1 rfl rfl s5.2.1 ?_
            refine xs_seg 1 (pc' := 98) (ls' := [(1, .int 40), (0, .ref 94)]) (st' := [.ref 94, .int (nI q0), .ref 94]) (w' := w5) (cs' := 0) (ss' := 0) ?_ (fun _ _ => rfl)
            refine xs_gf (z := .int 0) rfl s5.1.1 rfl rfl s5.2.2.2.1 ?_
            refine xs_if true rfl rfl ?_
            refine xs_seg 2 (pc' := 110) (ls' := [(1, .int 40), (0, .ref 94)]) (st' := [.int ((nI q0) + 1), .ref 94]) (w' := w5) (cs' := 0) (ss' := 0) ?_ (fun _ _ => rfl)
            refine xs_pf rfl s5.1.1 rfl rfl rfl rfl (sh_i32 _) (fun w6 t6 f6 e6 => ?_)
            obtain ⟨s6, f6⟩ := rq_pl s5 (by omega) t6 f6 e6
            exact ⟨_, go_end 1 (fun _ _ => rfl), rfl, rq_QT s6 (sx_Fr_trans fw4 (sx_Fr_trans f5 f6))⟩
          · rw [if_neg c41] at h2
            cases h2
            refine xs_cmp false rfl (br_eq_f (b := 41) rfl (by rw [ey9]; exact c41)) ?_
            refine xs_seg 2 (pc' := 89) (ls' := [(1, .int 40), (0, .ref 94)]) (st' := [.int 1, .ref 94]) (w' := w4) (cs' := 0) (ss' := 0) ?_ (fun _ _ => rfl)
            refine xs_pb rfl s4.1.1 rfl rfl rfl rfl ⟨⟨by decide, by decide⟩, Or.inr rfl⟩ (fun w5a ta fa ea => ?_)
            obtain ⟨sa, fa⟩ := rq_f1 s4 ta fa ea
            refine xs_seg 2 (pc' := 94) (ls' := [(1, .int 40), (0, .ref 94)]) (st' := [.ref 94, .ref 94]) (w' := w5a) (cs' := 0) (ss' := 0) ?_ (fun _ _ => rfl)
            refine xs_gf (z := .int (nI q1)) rfl sa.1.1 rfl rfl sa.2.1 ?_
            refine xs_seg 1 (pc' := 98) (ls' := [(1, .int 40), (0, .ref 94)]) (st' := [.ref 94, .int (nI q1), .ref 94]) (w' := w5a) (cs' := 0) (ss' := 0) ?_ (fun _ _ => rfl)
            refine xs_gf (z := .int 1) rfl sa.1.1 rfl rfl sa.2.2 ?_
            refine xs_if false rfl rfl ?_
            refine xs_seg 3 (pc' := 110) (ls' := [(1, .int 40), (0, .ref 94)]) (st' := [.int ((nI q1) + 0), .ref 94]) (w' := w5a) (cs' := 0) (ss' := 0) ?_ (fun _ _ => rfl)
            refine xs_pf rfl sa.1.1 rfl rfl rfl rfl (sh_i32 _) (fun w5b tb fb eb => ?_)
            obtain ⟨sb, fb⟩ := rq_pF sa tb fb eb
            exact ⟨_, go_end 1 (fun _ _ => rfl), rfl, rq_QF sb (sx_Fr_trans fw4 (sx_Fr_trans fa fb))⟩
        · obtain ⟨w3, r3, s3⟩ := hL (o + 1) (q + 1) a false q1 a1 w2 (by omega) h1 s2 (by omega) (by omega)
          obtain ⟨oz, hoz⟩ := rq_oi (rq_QG s3).1.1
          refine xs_seg 1 (pc' := 1) (ls' := [(0, .ref 94)]) (st' := [.ref 94]) (w' := w) (cs' := 0) (ss' := 0) ?_ (fun _ _ => rfl)
          refine xs_cl (as := [.ref 94]) (rv := some (.int 40)) (st' := [.int 40]) (cs' := 0) (ss' := 0) (k1 := 2) rfl rfl rfl rfl rfl rfl (Nat.ble_eq_true_of_le (by omega)) ry ?_
          refine xs_seg 3 (pc' := 8) (ls' := [(1, .int 40), (0, .ref 94)]) (st' := [.int 33, .int 40]) (w' := w) (cs' := 0) (ss' := 0) ?_ (fun _ _ => rfl)
          refine xs_cmp true rfl (by decide) ?_
          refine xs_seg 2 (pc' := 43) (ls' := [(1, .int 40), (0, .ref 94)]) (st' := [.int 40, .int 40]) (w' := w) (cs' := 0) (ss' := 0) ?_ (fun _ _ => rfl)
          refine xs_cmp false rfl (by decide) ?_
          refine xs_seg 1 (pc' := 47) (ls' := [(1, .int 40), (0, .ref 94)]) (st' := [.ref 94]) (w' := w) (cs' := 0) (ss' := 0) ?_ (fun _ _ => rfl)
          refine xs_cl (as := [.ref 94]) (rv := some (.int 1)) (st' := [.int 1]) (cs' := 0) (ss' := 0) (k1 := 3) rfl rfl rfl rfl rfl rfl (Nat.ble_eq_true_of_le (by omega)) r2 ?_
          refine xs_if false rfl rfl ?_
          refine xs_seg 1 (pc' := 54) (ls' := [(1, .int 40), (0, .ref 94)]) (st' := [.ref 94]) (w' := w2) (cs' := 0) (ss' := 0) ?_ (fun _ _ => rfl)
          refine xs_cl (as := [.ref 94]) (rv := none) (st' := []) (cs' := 0) (ss' := 0) (k1 := (24 + 8 * (5 - (o + 1)))) rfl rfl rfl rfl rfl rfl (Nat.ble_eq_true_of_le (by omega)) r3 ?_
          refine xs_seg 2 (pc' := 59) (ls' := [(1, .int 40), (0, .ref 94)]) (st' := [.ref 94, .ref 94]) (w' := w3) (cs' := 0) (ss' := 0) ?_ (fun _ _ => rfl)
          refine xs_gf (z := .int oz) rfl (rq_QG s3).1.1 rfl rfl hoz ?_
          refine xs_seg 2 (pc' := 64) (ls' := [(1, .int 40), (0, .ref 94)]) (st' := [.int (oz - 1), .ref 94]) (w' := w3) (cs' := 0) (ss' := 0) ?_ (fun _ _ => rfl)
          refine xs_pf rfl (rq_QG s3).1.1 rfl rfl rfl rfl (sh_i32 _) (fun w4 t4 f4 e4 => ?_)
          obtain ⟨s4, f4⟩ := rq_oF (rq_QG s3) t4 f4
          have fw4 : sx_Fr rq_A w w4 := sx_Fr_trans f2 (sx_Fr_trans s3.1 f4)
          refine xs_seg 2 (pc' := 69) (ls' := [(1, .int 40), (0, .ref 94)]) (st' := [.ref 94, .ref 94]) (w' := w4) (cs' := 0) (ss' := 0) ?_ (fun _ _ => rfl)
          refine xs_gf (z := .int 1) rfl s4.1.1 rfl rfl s4.2.2 ?_
          refine xs_if true rfl rfl ?_
          refine xs_seg 2 (pc' := 89) (ls' := [(1, .int 40), (0, .ref 94)]) (st' := [.int 1, .ref 94]) (w' := w4) (cs' := 0) (ss' := 0) ?_ (fun _ _ => rfl)
          refine xs_pb rfl s4.1.1 rfl rfl rfl rfl ⟨⟨by decide, by decide⟩, Or.inr rfl⟩ (fun w5a ta fa ea => ?_)
          obtain ⟨sa, fa⟩ := rq_fF s4 ta fa ea
          refine xs_seg 2 (pc' := 94) (ls' := [(1, .int 40), (0, .ref 94)]) (st' := [.ref 94, .ref 94]) (w' := w5a) (cs' := 0) (ss' := 0) ?_ (fun _ _ => rfl)
          refine xs_gf (z := .int (nI q1)) rfl sa.1.1 rfl rfl sa.2.1 ?_
          refine xs_seg 1 (pc' := 98) (ls' := [(1, .int 40), (0, .ref 94)]) (st' := [.ref 94, .int (nI q1), .ref 94]) (w' := w5a) (cs' := 0) (ss' := 0) ?_ (fun _ _ => rfl)
          refine xs_gf (z := .int 1) rfl sa.1.1 rfl rfl sa.2.2 ?_
          refine xs_if false rfl rfl ?_
          refine xs_seg 3 (pc' := 110) (ls' := [(1, .int 40), (0, .ref 94)]) (st' := [.int ((nI q1) + 0), .ref 94]) (w' := w5a) (cs' := 0) (ss' := 0) ?_ (fun _ _ => rfl)
          refine xs_pf rfl sa.1.1 rfl rfl rfl rfl (sh_i32 _) (fun w5b tb fb eb => ?_)
          obtain ⟨sb, fb⟩ := rq_pF sa tb fb eb
          exact ⟨_, go_end 1 (fun _ _ => rfl), rfl, rq_QF sb (sx_Fr_trans fw4 (sx_Fr_trans fa fb))⟩
    by_cases d : 48 ≤ rd_s B n q ∧ rd_s B n q ≤ 57
    · rw [if_pos d] at he
      cases he
      have hqn := rd_sl (by decide) d.1
      refine xs_seg 1 (pc' := 1) (ls' := [(0, .ref 94)]) (st' := [.ref 94]) (w' := w) (cs' := 0) (ss' := 0) ?_ (fun _ _ => rfl)
      refine xs_cl (as := [.ref 94]) (rv := some (.int y)) (st' := [.int y]) (cs' := 0) (ss' := 0) (k1 := 2) rfl rfl rfl rfl rfl rfl (Nat.ble_eq_true_of_le (by omega)) ry ?_
      refine xs_seg 3 (pc' := 8) (ls' := [(1, .int y), (0, .ref 94)]) (st' := [.int 33, .int y]) (w' := w) (cs' := 0) (ss' := 0) ?_ (fun _ _ => rfl)
      refine xs_cmp true rfl (br_ne_t (b := 33) rfl (by rw [ey]; exact c33)) ?_
      refine xs_seg 2 (pc' := 43) (ls' := [(1, .int y), (0, .ref 94)]) (st' := [.int 40, .int y]) (w' := w) (cs' := 0) (ss' := 0) ?_ (fun _ _ => rfl)
      refine xs_cmp true rfl (br_ne_t (b := 40) rfl (by rw [ey]; exact c40)) ?_
      refine xs_seg 4 (pc' := 122) (ls' := [(1, .int y), (0, .ref 94)]) (st' := [.long 57, .long 48, .long (y).toInt64]) (w' := w) (cs' := 0) (ss' := 0) ?_ (fun _ _ => rfl)
      refine xs_cl (as := [.long (y).toInt64, .long 48, .long 57]) (rv := some (.int 1)) (st' := [.int 1]) (cs' := 0) (ss' := 0) (k1 := 1) rfl rfl rfl rfl rfl rfl (Nat.ble_eq_true_of_le (by omega)) (wi_t w y 48 57 48 57 rfl rfl (by rw [ey]; exact d)) ?_
      refine xs_if false rfl rfl ?_
      refine xs_seg 4 (pc' := 132) (ls' := [(3, .int 0), (2, .int 0), (1, .int y), (0, .ref 94)]) (st' := []) (w' := w) (cs' := 0) (ss' := 0) ?_ (fun _ _ => rfl)
      obtain ⟨res, g, e1, e2, e3⟩ := rq_nu (y0 := y) (by omega) 4 0 q 0 0 w (18 + 8 * (5 - o)) (by omega) rfl hq rfl ⟨by decide, by decide⟩ h
      exact ⟨res, g, e1, rq_QT e2 e3⟩
    rw [if_neg d] at he
    refine xs_seg 1 (pc' := 1) (ls' := [(0, .ref 94)]) (st' := [.ref 94]) (w' := w) (cs' := 0) (ss' := 0) ?_ (fun _ _ => rfl)
    refine xs_cl (as := [.ref 94]) (rv := some (.int y)) (st' := [.int y]) (cs' := 0) (ss' := 0) (k1 := 2) rfl rfl rfl rfl rfl rfl (Nat.ble_eq_true_of_le (by omega)) ry ?_
    refine xs_seg 3 (pc' := 8) (ls' := [(1, .int y), (0, .ref 94)]) (st' := [.int 33, .int y]) (w' := w) (cs' := 0) (ss' := 0) ?_ (fun _ _ => rfl)
    refine xs_cmp true rfl (br_ne_t (b := 33) rfl (by rw [ey]; exact c33)) ?_
    refine xs_seg 2 (pc' := 43) (ls' := [(1, .int y), (0, .ref 94)]) (st' := [.int 40, .int y]) (w' := w) (cs' := 0) (ss' := 0) ?_ (fun _ _ => rfl)
    refine xs_cmp true rfl (br_ne_t (b := 40) rfl (by rw [ey]; exact c40)) ?_
    refine xs_seg 4 (pc' := 122) (ls' := [(1, .int y), (0, .ref 94)]) (st' := [.long 57, .long 48, .long (y).toInt64]) (w' := w) (cs' := 0) (ss' := 0) ?_ (fun _ _ => rfl)
    refine xs_cl (as := [.long (y).toInt64, .long 48, .long 57]) (rv := some (.int 0)) (st' := [.int 0]) (cs' := 0) (ss' := 0) (k1 := 1) rfl rfl rfl rfl rfl rfl (Nat.ble_eq_true_of_le (by omega)) (wi_f w y 48 57 48 57 rfl rfl (by rw [ey]; exact d)) ?_
    refine xs_if true rfl rfl ?_
    refine xs_seg 2 (pc' := 191) (ls' := [(1, .int y), (0, .ref 94)]) (st' := [.ref 94, .ref 94]) (w' := w) (cs' := 0) (ss' := 0) ?_ (fun _ _ => rfl)
    refine xs_gf (z := .int 0) rfl h.1.1 rfl rfl h.2.2.2.1 ?_
    refine xs_if false rfl rfl ?_
    refine xs_seg 1 (pc' := 198) (ls' := [(1, .int y), (0, .ref 94)]) (st' := [.int y, .ref 94]) (w' := w) (cs' := 0) (ss' := 0) ?_ (fun _ _ => rfl)
    by_cases c0 : rd_s B n q < 0
    · rw [rd_nmn c0, if_neg (by decide), if_neg (fun z => c33 z.2), if_neg (fun z => c40 z.2)] at he
      cases he
      refine xs_if true rfl (br_lt_t (b := 0) rfl (by rw [ey]; exact c0)) ?_
      refine xs_seg 2 (pc' := 215) (ls' := [(1, .int y), (0, .ref 94)]) (st' := [.int 1, .ref 94]) (w' := w) (cs' := 0) (ss' := 0) ?_ (fun _ _ => rfl)
      refine xs_pb rfl h.1.1 rfl rfl rfl rfl ⟨⟨by decide, by decide⟩, Or.inr rfl⟩ (fun w2 ta fa ea => ?_)
      obtain ⟨sa, fa⟩ := rq_f1 h ta fa ea
      refine xs_seg 1 (pc' := 219) (ls' := [(1, .int y), (0, .ref 94)]) (st' := [.ref 94]) (w' := w2) (cs' := 0) (ss' := 0) ?_ (fun _ _ => rfl)
      refine xs_gf (z := .int 1) rfl sa.1.1 rfl rfl sa.2.2 ?_
      refine xs_if true rfl rfl ?_
      exact ⟨_, go_end 1 (fun _ _ => rfl), rfl, rq_QF sa (fa)⟩
    have hqn : q < n := by
      by_cases z : q < n
      · exact z
      · exact absurd (show rd_s B n q < 0 by unfold rd_s; rw [if_neg z]; decide) c0
    have bs : 0 ≤ rd_s B n q ∧ rd_s B n q ≤ 255 := by
      unfold rd_s
      rw [if_pos hqn]
      exact hB q hqn
    obtain ⟨u, w2, r2, eu, t2, f2⟩ := rq_ix (y := y) h.1.1 h.1.2.2.2.2 (by rw [ey]; exact bs)
    rw [ey] at eu
    have s2 := rq_S0 h (by omega) t2 f2
    have fa2 : sx_Fr rq_A w w2 := sx_Fr_sub rfl f2
    refine xs_if false rfl (br_lt_f (b := 0) rfl (by rw [ey]; exact c0)) ?_
    refine xs_seg 2 (pc' := 204) (ls' := [(1, .int y), (0, .ref 94)]) (st' := [.int y, .ref 3, .ref 94]) (w' := w) (cs' := 0) (ss' := 0) ?_ (fun _ _ => rfl)
    refine xs_cl (as := [.ref 3, .int y]) (rv := some (.int u)) (st' := [.int u, .ref 94]) (cs' := 0) (ss' := 0) (k1 := 10) rfl rfl rfl rfl rfl rfl (Nat.ble_eq_true_of_le (by omega)) r2 ?_
    by_cases m : 0 ≤ rd_nm (rd_s B n q)
    · rw [if_pos m] at he
      cases he
      refine xs_if true rfl (br_ge_t (b := 0) rfl (by rw [eu]; exact m)) ?_
      refine xs_seg 1 (pc' := 215) (ls' := [(1, .int y), (0, .ref 94)]) (st' := [.int 0, .ref 94]) (w' := w2) (cs' := 0) (ss' := 0) ?_ (fun _ _ => rfl)
      refine xs_pb rfl s2.1.1 rfl rfl rfl rfl ⟨⟨by decide, by decide⟩, Or.inl rfl⟩ (fun w3 t3 f3 e3 => ?_)
      obtain ⟨s3, f3⟩ := rq_f0 s2 (by omega) t3 f3 e3
      obtain ⟨u4, w4, r4, eu4, t4, f4⟩ := rq_ix (y := y) s3.1.1 s3.1.2.2.2.2 (by rw [ey]; exact bs)
      rw [ey] at eu4
      have s4 := rq_S0 s3 (by omega) t4 f4
      have fa4 : sx_Fr rq_A w3 w4 := sx_Fr_sub rfl f4
      have hu : rd_nm (rd_s B n q) ≤ 5 := by
        unfold rd_nm
        repeat' split
        all_goals decide
      obtain ⟨w5, r5, s5, f5⟩ := rq_pu (x := 10000 + u4) (v := -1 - rd_nm (rd_s B n q)) s4 (by omega) (by
        rw [Int32.toInt_add, eu4, show (10000 : Int32).toInt = 10000 from rfl]
        unfold rq_m
        rw [if_neg (by omega), if_pos (by omega), show 9999 - (-1 - rd_nm (rd_s B n q)) = 10000 + rd_nm (rd_s B n q) by omega]
        exact Int.bmod_eq_of_le (by omega) (by omega))
      refine xs_seg 1 (pc' := 219) (ls' := [(1, .int y), (0, .ref 94)]) (st' := [.ref 94]) (w' := w3) (cs' := 0) (ss' := 0) ?_ (fun _ _ => rfl)
      refine xs_gf (z := .int 0) rfl s3.1.1 rfl rfl s3.2.2.2.1 ?_
      refine xs_if false rfl rfl ?_
      refine xs_seg 4 (pc' := 232) (ls' := [(1, .int y), (0, .ref 94)]) (st' := [.int y, .ref 3, .int 10000, .ref 94]) (w' := w3) (cs' := 0) (ss' := 0) ?_ (fun _ _ => rfl)
      refine xs_cl (as := [.ref 3, .int y]) (rv := some (.int u4)) (st' := [.int u4, .int 10000, .ref 94]) (cs' := 0) (ss' := 0) (k1 := 10) rfl rfl rfl rfl rfl rfl (Nat.ble_eq_true_of_le (by omega)) r4 ?_
      refine xs_seg 1 (pc' := 236) (ls' := [(1, .int y), (0, .ref 94)]) (st' := [.int (10000 + u4), .ref 94]) (w' := w4) (cs' := 0) (ss' := 0) ?_ (fun _ _ => rfl)
      refine xs_cl (as := [.ref 94, .int (10000 + u4)]) (rv := none) (st' := []) (cs' := 0) (ss' := 0) (k1 := 6) rfl rfl rfl rfl rfl rfl (Nat.ble_eq_true_of_le (by omega)) r5 ?_
      refine xs_seg 2 (pc' := 241) (ls' := [(1, .int y), (0, .ref 94)]) (st' := [.ref 94, .ref 94]) (w' := w5) (cs' := 0) (ss' := 0) ?_ (fun _ _ => rfl)
      refine xs_gf (z := .int (nI q)) rfl s5.1.1 rfl rfl s5.2.1 ?_
      refine xs_seg 2 (pc' := 246) (ls' := [(1, .int y), (0, .ref 94)]) (st' := [.int ((nI q) + 1), .ref 94]) (w' := w5) (cs' := 0) (ss' := 0) ?_ (fun _ _ => rfl)
      refine xs_pf rfl s5.1.1 rfl rfl rfl rfl (sh_i32 _) (fun w6 t6 f6 e6 => ?_)
      obtain ⟨s6, f6⟩ := rq_pl s5 (by rw [List.length_append]; show a.length + 1 ≤ _; omega) t6 f6 e6
      exact ⟨_, go_end 1 (fun _ _ => rfl), rfl, rq_QT s6 (sx_Fr_trans fa2 (sx_Fr_trans f3 (sx_Fr_trans fa4 (sx_Fr_trans f5 f6))))⟩
    · rw [if_neg m, if_neg (fun z => c33 z.2), if_neg (fun z => c40 z.2)] at he
      cases he
      refine xs_if false rfl (br_ge_f (b := 0) rfl (by rw [eu]; exact m)) ?_
      refine xs_seg 2 (pc' := 215) (ls' := [(1, .int y), (0, .ref 94)]) (st' := [.int 1, .ref 94]) (w' := w2) (cs' := 0) (ss' := 0) ?_ (fun _ _ => rfl)
      refine xs_pb rfl s2.1.1 rfl rfl rfl rfl ⟨⟨by decide, by decide⟩, Or.inr rfl⟩ (fun w3 ta fa ea => ?_)
      obtain ⟨sa, fa⟩ := rq_f1 s2 ta fa ea
      refine xs_seg 1 (pc' := 219) (ls' := [(1, .int y), (0, .ref 94)]) (st' := [.ref 94]) (w' := w3) (cs' := 0) (ss' := 0) ?_ (fun _ _ => rfl)
      refine xs_gf (z := .int 1) rfl sa.1.1 rfl rfl sa.2.2 ?_
      refine xs_if true rfl rfl ?_
      exact ⟨_, go_end 1 (fun _ _ => rfl), rfl, rq_QF sa (sx_Fr_trans fa2 fa)⟩
  obtain ⟨⟨r, w1⟩, g, e, h1⟩ := key
  have e : r = none := e
  subst e
  exact ⟨w1, ru_mono (ru_of (k := 18 + 8 * (5 - o)) (M := pm_202) rfl (by rw [Bool.and_eq_true]; exact ⟨rfl, sq_rcv h.1.1 rfl rfl rfl⟩) g) (by omega), h1⟩
theorem rq_l0 {B : Nat → Int} {n f : Nat} (hS : rq_RM B n f 1 198 23) (hP : rq_PA B n f 0 23 pm_197) : rq_RM B n (f + 1) 0 197 24 := by
  intro o q a ok q1 a1 w ho he h hq hl
  have hn := h.1.2.2.1
  have he : rd_b (rd B n f 1 o q a) (fun q1 a1 => rd B n f (6 + 0) o q1 a1) = some (ok, q1, a1) := he
  have key : ∃ res, pq_Go (23 + 8 * (5 - o)) pm_197 0 (lv_args 0 [.ref 94]) [] w 0 0 res ∧ (res.1 = none ∧ rq_Q B n o ok q1 a1 w res.2) := by
    rcases rd_b_of he with ⟨q0, a0, h1, h2⟩ | ⟨rfl, h1⟩
    · obtain ⟨b1, b2, b3⟩ := rd_bd _ _ _ _ _ _ _ _ h1 hq
      have b3 := b3 rfl
      obtain ⟨w3, r3, s3⟩ := hS o q a true q0 a0 w ho h1 h hq hl
      refine xs_seg 1 (pc' := 1) (ls' := [(0, .ref 94)]) (st' := [.ref 94]) (w' := w) (cs' := 0) (ss' := 0) ?_ (fun _ _ => rfl)
      refine xs_cl (as := [.ref 94]) (rv := none) (st' := []) (cs' := 0) (ss' := 0) (k1 := (23 + 8 * (5 - o))) rfl rfl rfl rfl rfl rfl (Nat.ble_eq_true_of_le (by omega)) r3 ?_
      obtain ⟨res, g, e1, e2⟩ := hP o q0 a0 ok q1 a1 w3 ho h2 (rq_QS s3) b2 (by omega)
      exact ⟨res, g, e1, rq_Qt s3.1 e2⟩
    · obtain ⟨w3, r3, s3⟩ := hS o q a false q1 a1 w ho h1 h hq hl
      refine xs_seg 1 (pc' := 1) (ls' := [(0, .ref 94)]) (st' := [.ref 94]) (w' := w) (cs' := 0) (ss' := 0) ?_ (fun _ _ => rfl)
      refine xs_cl (as := [.ref 94]) (rv := none) (st' := []) (cs' := 0) (ss' := 0) (k1 := (23 + 8 * (5 - o))) rfl rfl rfl rfl rfl rfl (Nat.ble_eq_true_of_le (by omega)) r3 ?_
      refine xs_seg 1 (pc' := 5) (ls' := [(0, .ref 94)]) (st' := [.ref 94]) (w' := w3) (cs' := 0) (ss' := 0) ?_ (fun _ _ => rfl)
      refine xs_cl (as := [.ref 94]) (rv := some (.int (-1))) (st' := [.int (-1)]) (cs' := 0) (ss' := 0) (k1 := 2) rfl rfl rfl rfl rfl rfl (Nat.ble_eq_true_of_le (by omega)) (rq_hF (rq_QG s3)) ?_
      refine xs_seg 1 (pc' := 10) (ls' := [(0, .ref 94)]) (st' := [.int 124, .int (-1)]) (w' := w3) (cs' := 0) (ss' := 0) ?_ (fun _ _ => rfl)
      refine xs_cmp true rfl (by decide) ?_
      exact ⟨_, go_end 1 (fun _ _ => rfl), rfl, s3⟩
  obtain ⟨⟨r, w1⟩, g, e, h1⟩ := key
  have e : r = none := e
  subst e
  exact ⟨w1, ru_mono (ru_of (k := 23 + 8 * (5 - o)) (M := pm_197) rfl (by rw [Bool.and_eq_true]; exact ⟨rfl, sq_rcv h.1.1 rfl rfl rfl⟩) g) (by omega), h1⟩
theorem rq_l1 {B : Nat → Int} {n f : Nat} (hS : rq_RM B n f 2 199 22) (hP : rq_PA B n f 1 22 pm_198) : rq_RM B n (f + 1) 1 198 23 := by
  intro o q a ok q1 a1 w ho he h hq hl
  have hn := h.1.2.2.1
  have he : rd_b (rd B n f 2 o q a) (fun q1 a1 => rd B n f (6 + 1) o q1 a1) = some (ok, q1, a1) := he
  have key : ∃ res, pq_Go (22 + 8 * (5 - o)) pm_198 0 (lv_args 0 [.ref 94]) [] w 0 0 res ∧ (res.1 = none ∧ rq_Q B n o ok q1 a1 w res.2) := by
    rcases rd_b_of he with ⟨q0, a0, h1, h2⟩ | ⟨rfl, h1⟩
    · obtain ⟨b1, b2, b3⟩ := rd_bd _ _ _ _ _ _ _ _ h1 hq
      have b3 := b3 rfl
      obtain ⟨w3, r3, s3⟩ := hS o q a true q0 a0 w ho h1 h hq hl
      refine xs_seg 1 (pc' := 1) (ls' := [(0, .ref 94)]) (st' := [.ref 94]) (w' := w) (cs' := 0) (ss' := 0) ?_ (fun _ _ => rfl)
      refine xs_cl (as := [.ref 94]) (rv := none) (st' := []) (cs' := 0) (ss' := 0) (k1 := (22 + 8 * (5 - o))) rfl rfl rfl rfl rfl rfl (Nat.ble_eq_true_of_le (by omega)) r3 ?_
      obtain ⟨res, g, e1, e2⟩ := hP o q0 a0 ok q1 a1 w3 ho h2 (rq_QS s3) b2 (by omega)
      exact ⟨res, g, e1, rq_Qt s3.1 e2⟩
    · obtain ⟨w3, r3, s3⟩ := hS o q a false q1 a1 w ho h1 h hq hl
      refine xs_seg 1 (pc' := 1) (ls' := [(0, .ref 94)]) (st' := [.ref 94]) (w' := w) (cs' := 0) (ss' := 0) ?_ (fun _ _ => rfl)
      refine xs_cl (as := [.ref 94]) (rv := none) (st' := []) (cs' := 0) (ss' := 0) (k1 := (22 + 8 * (5 - o))) rfl rfl rfl rfl rfl rfl (Nat.ble_eq_true_of_le (by omega)) r3 ?_
      refine xs_seg 1 (pc' := 5) (ls' := [(0, .ref 94)]) (st' := [.ref 94]) (w' := w3) (cs' := 0) (ss' := 0) ?_ (fun _ _ => rfl)
      refine xs_cl (as := [.ref 94]) (rv := some (.int (-1))) (st' := [.int (-1)]) (cs' := 0) (ss' := 0) (k1 := 2) rfl rfl rfl rfl rfl rfl (Nat.ble_eq_true_of_le (by omega)) (rq_hF (rq_QG s3)) ?_
      refine xs_seg 1 (pc' := 10) (ls' := [(0, .ref 94)]) (st' := [.int 38, .int (-1)]) (w' := w3) (cs' := 0) (ss' := 0) ?_ (fun _ _ => rfl)
      refine xs_cmp true rfl (by decide) ?_
      exact ⟨_, go_end 1 (fun _ _ => rfl), rfl, s3⟩
  obtain ⟨⟨r, w1⟩, g, e, h1⟩ := key
  have e : r = none := e
  subst e
  exact ⟨w1, ru_mono (ru_of (k := 22 + 8 * (5 - o)) (M := pm_198) rfl (by rw [Bool.and_eq_true]; exact ⟨rfl, sq_rcv h.1.1 rfl rfl rfl⟩) g) (by omega), h1⟩
theorem rq_l2 {B : Nat → Int} {n f : Nat} (hS : rq_RM B n f 3 200 21) (hP : rq_PA B n f 2 21 pm_199) : rq_RM B n (f + 1) 2 199 22 := by
  intro o q a ok q1 a1 w ho he h hq hl
  have hn := h.1.2.2.1
  have he : rd_b (rd B n f 3 o q a) (fun q1 a1 => rd B n f (6 + 2) o q1 a1) = some (ok, q1, a1) := he
  have key : ∃ res, pq_Go (21 + 8 * (5 - o)) pm_199 0 (lv_args 0 [.ref 94]) [] w 0 0 res ∧ (res.1 = none ∧ rq_Q B n o ok q1 a1 w res.2) := by
    rcases rd_b_of he with ⟨q0, a0, h1, h2⟩ | ⟨rfl, h1⟩
    · obtain ⟨b1, b2, b3⟩ := rd_bd _ _ _ _ _ _ _ _ h1 hq
      have b3 := b3 rfl
      obtain ⟨w3, r3, s3⟩ := hS o q a true q0 a0 w ho h1 h hq hl
      refine xs_seg 1 (pc' := 1) (ls' := [(0, .ref 94)]) (st' := [.ref 94]) (w' := w) (cs' := 0) (ss' := 0) ?_ (fun _ _ => rfl)
      refine xs_cl (as := [.ref 94]) (rv := none) (st' := []) (cs' := 0) (ss' := 0) (k1 := (21 + 8 * (5 - o))) rfl rfl rfl rfl rfl rfl (Nat.ble_eq_true_of_le (by omega)) r3 ?_
      obtain ⟨res, g, e1, e2⟩ := hP o q0 a0 ok q1 a1 w3 ho h2 (rq_QS s3) b2 (by omega)
      exact ⟨res, g, e1, rq_Qt s3.1 e2⟩
    · obtain ⟨w3, r3, s3⟩ := hS o q a false q1 a1 w ho h1 h hq hl
      refine xs_seg 1 (pc' := 1) (ls' := [(0, .ref 94)]) (st' := [.ref 94]) (w' := w) (cs' := 0) (ss' := 0) ?_ (fun _ _ => rfl)
      refine xs_cl (as := [.ref 94]) (rv := none) (st' := []) (cs' := 0) (ss' := 0) (k1 := (21 + 8 * (5 - o))) rfl rfl rfl rfl rfl rfl (Nat.ble_eq_true_of_le (by omega)) r3 ?_
      refine xs_seg 1 (pc' := 5) (ls' := [(0, .ref 94)]) (st' := [.ref 94]) (w' := w3) (cs' := 0) (ss' := 0) ?_ (fun _ _ => rfl)
      refine xs_cl (as := [.ref 94]) (rv := some (.int (-1))) (st' := [.int (-1)]) (cs' := 0) (ss' := 0) (k1 := 2) rfl rfl rfl rfl rfl rfl (Nat.ble_eq_true_of_le (by omega)) (rq_hF (rq_QG s3)) ?_
      refine xs_seg 3 (pc' := 12) (ls' := [(1, .int (-1)), (0, .ref 94)]) (st' := [.int 60, .int (-1)]) (w' := w3) (cs' := 0) (ss' := 0) ?_ (fun _ _ => rfl)
      refine xs_cmp false rfl (by decide) ?_
      refine xs_seg 2 (pc' := 18) (ls' := [(1, .int (-1)), (0, .ref 94)]) (st' := [.int 61, .int (-1)]) (w' := w3) (cs' := 0) (ss' := 0) ?_ (fun _ _ => rfl)
      refine xs_cmp false rfl (by decide) ?_
      refine xs_seg 2 (pc' := 24) (ls' := [(1, .int (-1)), (0, .ref 94)]) (st' := [.int 62, .int (-1)]) (w' := w3) (cs' := 0) (ss' := 0) ?_ (fun _ _ => rfl)
      refine xs_cmp true rfl (by decide) ?_
      exact ⟨_, go_end 1 (fun _ _ => rfl), rfl, s3⟩
  obtain ⟨⟨r, w1⟩, g, e, h1⟩ := key
  have e : r = none := e
  subst e
  exact ⟨w1, ru_mono (ru_of (k := 21 + 8 * (5 - o)) (M := pm_199) rfl (by rw [Bool.and_eq_true]; exact ⟨rfl, sq_rcv h.1.1 rfl rfl rfl⟩) g) (by omega), h1⟩
theorem rq_l3 {B : Nat → Int} {n f : Nat} (hS : rq_RM B n f 4 201 20) (hP : rq_PB B n f 3 20 pm_200) : rq_RM B n (f + 1) 3 200 21 := by
  intro o q a ok q1 a1 w ho he h hq hl
  have hn := h.1.2.2.1
  have he : rd_b (rd B n f 4 o q a) (fun q1 a1 => rd B n f (6 + 3) o q1 a1) = some (ok, q1, a1) := he
  have key : ∃ res, pq_Go (20 + 8 * (5 - o)) pm_200 0 (lv_args 0 [.ref 94]) [] w 0 0 res ∧ (res.1 = none ∧ rq_Q B n o ok q1 a1 w res.2) := by
    rcases rd_b_of he with ⟨q0, a0, h1, h2⟩ | ⟨rfl, h1⟩
    · obtain ⟨b1, b2, b3⟩ := rd_bd _ _ _ _ _ _ _ _ h1 hq
      have b3 := b3 rfl
      obtain ⟨w3, r3, s3⟩ := hS o q a true q0 a0 w ho h1 h hq hl
      refine xs_seg 1 (pc' := 1) (ls' := [(0, .ref 94)]) (st' := [.ref 94]) (w' := w) (cs' := 0) (ss' := 0) ?_ (fun _ _ => rfl)
      refine xs_cl (as := [.ref 94]) (rv := none) (st' := []) (cs' := 0) (ss' := 0) (k1 := (20 + 8 * (5 - o))) rfl rfl rfl rfl rfl rfl (Nat.ble_eq_true_of_le (by omega)) r3 ?_
      obtain ⟨y, ry, ey⟩ := rq_he (rq_QS s3) b2
      refine xs_seg 1 (pc' := 5) (ls' := [(0, .ref 94)]) (st' := [.ref 94]) (w' := w3) (cs' := 0) (ss' := 0) ?_ (fun _ _ => rfl)
      refine xs_cl (as := [.ref 94]) (rv := some (.int y)) (st' := [.int y]) (cs' := 0) (ss' := 0) (k1 := 2) rfl rfl rfl rfl rfl rfl (Nat.ble_eq_true_of_le (by omega)) ry ?_
      refine xs_seg 1 (pc' := 9) (ls' := [(1, .int y), (0, .ref 94)]) (st' := []) (w' := w3) (cs' := 0) (ss' := 0) ?_ (fun _ _ => rfl)
      obtain ⟨res, g, e1, e2⟩ := hP o q0 a0 ok q1 a1 w3 y ho h2 (rq_QS s3) b2 (by omega) ey
      exact ⟨res, g, e1, rq_Qt s3.1 e2⟩
    · obtain ⟨w3, r3, s3⟩ := hS o q a false q1 a1 w ho h1 h hq hl
      refine xs_seg 1 (pc' := 1) (ls' := [(0, .ref 94)]) (st' := [.ref 94]) (w' := w) (cs' := 0) (ss' := 0) ?_ (fun _ _ => rfl)
      refine xs_cl (as := [.ref 94]) (rv := none) (st' := []) (cs' := 0) (ss' := 0) (k1 := (20 + 8 * (5 - o))) rfl rfl rfl rfl rfl rfl (Nat.ble_eq_true_of_le (by omega)) r3 ?_
      refine xs_seg 1 (pc' := 5) (ls' := [(0, .ref 94)]) (st' := [.ref 94]) (w' := w3) (cs' := 0) (ss' := 0) ?_ (fun _ _ => rfl)
      refine xs_cl (as := [.ref 94]) (rv := some (.int (-1))) (st' := [.int (-1)]) (cs' := 0) (ss' := 0) (k1 := 2) rfl rfl rfl rfl rfl rfl (Nat.ble_eq_true_of_le (by omega)) (rq_hF (rq_QG s3)) ?_
      refine xs_seg 3 (pc' := 12) (ls' := [(1, .int (-1)), (0, .ref 94)]) (st' := [.int 43, .int (-1)]) (w' := w3) (cs' := 0) (ss' := 0) ?_ (fun _ _ => rfl)
      refine xs_cmp false rfl (by decide) ?_
      refine xs_seg 2 (pc' := 18) (ls' := [(1, .int (-1)), (0, .ref 94)]) (st' := [.int 45, .int (-1)]) (w' := w3) (cs' := 0) (ss' := 0) ?_ (fun _ _ => rfl)
      refine xs_cmp true rfl (by decide) ?_
      exact ⟨_, go_end 1 (fun _ _ => rfl), rfl, s3⟩
  obtain ⟨⟨r, w1⟩, g, e, h1⟩ := key
  have e : r = none := e
  subst e
  exact ⟨w1, ru_mono (ru_of (k := 20 + 8 * (5 - o)) (M := pm_200) rfl (by rw [Bool.and_eq_true]; exact ⟨rfl, sq_rcv h.1.1 rfl rfl rfl⟩) g) (by omega), h1⟩
theorem rq_l4 {B : Nat → Int} {n f : Nat} (hS : rq_RM B n f 5 202 19) (hP : rq_PB B n f 4 19 pm_201) : rq_RM B n (f + 1) 4 201 20 := by
  intro o q a ok q1 a1 w ho he h hq hl
  have hn := h.1.2.2.1
  have he : rd_b (rd B n f 5 o q a) (fun q1 a1 => rd B n f (6 + 4) o q1 a1) = some (ok, q1, a1) := he
  have key : ∃ res, pq_Go (19 + 8 * (5 - o)) pm_201 0 (lv_args 0 [.ref 94]) [] w 0 0 res ∧ (res.1 = none ∧ rq_Q B n o ok q1 a1 w res.2) := by
    rcases rd_b_of he with ⟨q0, a0, h1, h2⟩ | ⟨rfl, h1⟩
    · obtain ⟨b1, b2, b3⟩ := rd_bd _ _ _ _ _ _ _ _ h1 hq
      have b3 := b3 rfl
      obtain ⟨w3, r3, s3⟩ := hS o q a true q0 a0 w ho h1 h hq hl
      refine xs_seg 1 (pc' := 1) (ls' := [(0, .ref 94)]) (st' := [.ref 94]) (w' := w) (cs' := 0) (ss' := 0) ?_ (fun _ _ => rfl)
      refine xs_cl (as := [.ref 94]) (rv := none) (st' := []) (cs' := 0) (ss' := 0) (k1 := (19 + 8 * (5 - o))) rfl rfl rfl rfl rfl rfl (Nat.ble_eq_true_of_le (by omega)) r3 ?_
      obtain ⟨y, ry, ey⟩ := rq_he (rq_QS s3) b2
      refine xs_seg 1 (pc' := 5) (ls' := [(0, .ref 94)]) (st' := [.ref 94]) (w' := w3) (cs' := 0) (ss' := 0) ?_ (fun _ _ => rfl)
      refine xs_cl (as := [.ref 94]) (rv := some (.int y)) (st' := [.int y]) (cs' := 0) (ss' := 0) (k1 := 2) rfl rfl rfl rfl rfl rfl (Nat.ble_eq_true_of_le (by omega)) ry ?_
      refine xs_seg 1 (pc' := 9) (ls' := [(1, .int y), (0, .ref 94)]) (st' := []) (w' := w3) (cs' := 0) (ss' := 0) ?_ (fun _ _ => rfl)
      obtain ⟨res, g, e1, e2⟩ := hP o q0 a0 ok q1 a1 w3 y ho h2 (rq_QS s3) b2 (by omega) ey
      exact ⟨res, g, e1, rq_Qt s3.1 e2⟩
    · obtain ⟨w3, r3, s3⟩ := hS o q a false q1 a1 w ho h1 h hq hl
      refine xs_seg 1 (pc' := 1) (ls' := [(0, .ref 94)]) (st' := [.ref 94]) (w' := w) (cs' := 0) (ss' := 0) ?_ (fun _ _ => rfl)
      refine xs_cl (as := [.ref 94]) (rv := none) (st' := []) (cs' := 0) (ss' := 0) (k1 := (19 + 8 * (5 - o))) rfl rfl rfl rfl rfl rfl (Nat.ble_eq_true_of_le (by omega)) r3 ?_
      refine xs_seg 1 (pc' := 5) (ls' := [(0, .ref 94)]) (st' := [.ref 94]) (w' := w3) (cs' := 0) (ss' := 0) ?_ (fun _ _ => rfl)
      refine xs_cl (as := [.ref 94]) (rv := some (.int (-1))) (st' := [.int (-1)]) (cs' := 0) (ss' := 0) (k1 := 2) rfl rfl rfl rfl rfl rfl (Nat.ble_eq_true_of_le (by omega)) (rq_hF (rq_QG s3)) ?_
      refine xs_seg 3 (pc' := 12) (ls' := [(1, .int (-1)), (0, .ref 94)]) (st' := [.int 42, .int (-1)]) (w' := w3) (cs' := 0) (ss' := 0) ?_ (fun _ _ => rfl)
      refine xs_cmp false rfl (by decide) ?_
      refine xs_seg 2 (pc' := 18) (ls' := [(1, .int (-1)), (0, .ref 94)]) (st' := [.int 47, .int (-1)]) (w' := w3) (cs' := 0) (ss' := 0) ?_ (fun _ _ => rfl)
      refine xs_cmp true rfl (by decide) ?_
      exact ⟨_, go_end 1 (fun _ _ => rfl), rfl, s3⟩
  obtain ⟨⟨r, w1⟩, g, e, h1⟩ := key
  have e : r = none := e
  subst e
  exact ⟨w1, ru_mono (ru_of (k := 19 + 8 * (5 - o)) (M := pm_201) rfl (by rw [Bool.and_eq_true]; exact ⟨rfl, sq_rcv h.1.1 rfl rfl rfl⟩) g) (by omega), h1⟩
theorem rq_p0 {B : Nat → Int} {n f : Nat} (hS : rq_RM B n f 1 198 23) (hP : rq_PA B n f 0 23 pm_197) : rq_PA B n (f + 1) 0 23 pm_197 := by
  intro o q a ok q1 a1 w ho he h hq hl
  have hn := h.1.2.2.1
  have he : rd_6 B n (rd B n f) 0 o q a = some (ok, q1, a1) := he
  unfold rd_6 at he
  obtain ⟨y, ry, ey⟩ := rq_he h hq
  by_cases lv : rd_lv (rd_s B n q) = ((0 : Nat) : Int)
  · rw [if_pos lv] at he
    have hqn := rd_sq lv
    have c := rq_lv0 lv
    have yc : y = 124 := Int32.toInt_inj.mp (by rw [ey, c]; rfl)
    subst yc
    rw [c] at he
    refine xs_seg 1 (pc' := 5) (ls' := [(0, .ref 94)]) (st' := [.ref 94]) (w' := w) (cs' := 0) (ss' := 0) ?_ (fun _ _ => rfl)
    refine xs_cl (as := [.ref 94]) (rv := some (.int 124)) (st' := [.int 124]) (cs' := 0) (ss' := 0) (k1 := 2) rfl rfl rfl rfl rfl rfl (Nat.ble_eq_true_of_le (by omega)) ry ?_
    refine xs_seg 1 (pc' := 10) (ls' := [(0, .ref 94)]) (st' := [.int 124, .int 124]) (w' := w) (cs' := 0) (ss' := 0) ?_ (fun _ _ => rfl)
    refine xs_cmp false rfl (by decide) ?_
    refine xs_seg 2 (pc' := 15) (ls' := [(0, .ref 94)]) (st' := [.ref 94, .ref 94]) (w' := w) (cs' := 0) (ss' := 0) ?_ (fun _ _ => rfl)
    refine xs_gf (z := .int (nI q)) rfl h.1.1 rfl rfl h.2.1 ?_
    refine xs_seg 2 (pc' := 20) (ls' := [(0, .ref 94)]) (st' := [.int ((nI q) + 1), .ref 94]) (w' := w) (cs' := 0) (ss' := 0) ?_ (fun _ _ => rfl)
    refine xs_pf rfl h.1.1 rfl rfl rfl rfl (sh_i32 _) (fun w2 t2 f2 e2 => ?_)
    obtain ⟨s2, fa⟩ := rq_pl h (by omega) t2 f2 e2
    refine xs_seg 1 (pc' := 24) (ls' := [(0, .ref 94)]) (st' := [.ref 94]) (w' := w2) (cs' := 0) (ss' := 0) ?_ (fun _ _ => rfl)
    rcases rd_b_of he with ⟨q0, a0, h1, h2⟩ | ⟨rfl, h1⟩
    · obtain ⟨b1, b2, b3⟩ := rd_bd _ _ _ _ _ _ _ _ h1 (by omega)
      have b3 := b3 rfl
      have b4 := b3.2 (by omega)
      obtain ⟨w3, r3, s3⟩ := hS o (q + 1) a true q0 a0 w2 ho h1 s2 (by omega) (by omega)
      obtain ⟨w4, r4, s4, f4⟩ := rq_pu (x := 20000) (v := -100 - 124) (rq_QS s3) (by omega) (by decide)
      have fw : sx_Fr rq_A w w4 := sx_Fr_trans fa (sx_Fr_trans s3.1 f4)
      refine xs_cl (as := [.ref 94]) (rv := none) (st' := []) (cs' := 0) (ss' := 0) (k1 := (23 + 8 * (5 - o))) rfl rfl rfl rfl rfl rfl (Nat.ble_eq_true_of_le (by omega)) r3 ?_
      refine xs_seg 2 (pc' := 31) (ls' := [(0, .ref 94)]) (st' := [.int 20000, .ref 94]) (w' := w3) (cs' := 0) (ss' := 0) ?_ (fun _ _ => rfl)
      refine xs_cl (as := [.ref 94, .int 20000]) (rv := none) (st' := []) (cs' := 0) (ss' := 0) (k1 := 6) rfl rfl rfl rfl rfl rfl (Nat.ble_eq_true_of_le (by omega)) r4 ?_
      refine xs_seg 1 (pc' := 4) (ls' := [(0, .ref 94)]) (st' := []) (w' := w4) (cs' := 0) (ss' := 0) ?_ (fun _ _ => rfl)
      have h2 : rd B n f (6 + 0) o q0 (a0 ++ [-100 - 124]) = some (ok, q1, a1) := h2
      obtain ⟨res, g, e1, e2⟩ := hP o q0 _ ok q1 a1 w4 ho h2 s4 b2 (by rw [List.length_append]; show a0.length + 1 ≤ _; omega)
      exact ⟨res, g, e1, rq_Qt fw e2⟩
    · obtain ⟨w3, r3, s3⟩ := hS o (q + 1) a false q1 a1 w2 ho h1 s2 (by omega) (by omega)
      refine xs_cl (as := [.ref 94]) (rv := none) (st' := []) (cs' := 0) (ss' := 0) (k1 := (23 + 8 * (5 - o))) rfl rfl rfl rfl rfl rfl (Nat.ble_eq_true_of_le (by omega)) r3 ?_
      refine xs_seg 2 (pc' := 31) (ls' := [(0, .ref 94)]) (st' := [.int 20000, .ref 94]) (w' := w3) (cs' := 0) (ss' := 0) ?_ (fun _ _ => rfl)
      refine xs_cl (as := [.ref 94, .int 20000]) (rv := none) (st' := []) (cs' := 0) (ss' := 0) (k1 := 6) rfl rfl rfl rfl rfl rfl (Nat.ble_eq_true_of_le (by omega)) (rq_pG (rq_QG s3)) ?_
      refine xs_seg 2 (pc' := 5) (ls' := [(0, .ref 94)]) (st' := [.ref 94]) (w' := w3) (cs' := 0) (ss' := 0) ?_ (fun _ _ => rfl)
      refine xs_cl (as := [.ref 94]) (rv := some (.int (-1))) (st' := [.int (-1)]) (cs' := 0) (ss' := 0) (k1 := 2) rfl rfl rfl rfl rfl rfl (Nat.ble_eq_true_of_le (by omega)) (rq_hF (rq_QG s3)) ?_
      refine xs_seg 1 (pc' := 10) (ls' := [(0, .ref 94)]) (st' := [.int 124, .int (-1)]) (w' := w3) (cs' := 0) (ss' := 0) ?_ (fun _ _ => rfl)
      refine xs_cmp true rfl (by decide) ?_
      exact ⟨_, go_end 1 (fun _ _ => rfl), rfl, rq_QF (rq_QG s3) (sx_Fr_trans fa s3.1)⟩
  · rw [if_neg lv] at he
    cases he
    refine xs_seg 1 (pc' := 5) (ls' := [(0, .ref 94)]) (st' := [.ref 94]) (w' := w) (cs' := 0) (ss' := 0) ?_ (fun _ _ => rfl)
    refine xs_cl (as := [.ref 94]) (rv := some (.int y)) (st' := [.int y]) (cs' := 0) (ss' := 0) (k1 := 2) rfl rfl rfl rfl rfl rfl (Nat.ble_eq_true_of_le (by omega)) ry ?_
    refine xs_seg 1 (pc' := 10) (ls' := [(0, .ref 94)]) (st' := [.int 124, .int y]) (w' := w) (cs' := 0) (ss' := 0) ?_ (fun _ _ => rfl)
    refine xs_cmp true rfl (br_ne_t (b := 124) rfl (by rw [ey]; exact fun z => lv (by rw [z]; decide))) ?_
    exact ⟨_, go_end 1 (fun _ _ => rfl), rfl, rq_QT h (sx_Fr_refl _ _)⟩
theorem rq_p1 {B : Nat → Int} {n f : Nat} (hS : rq_RM B n f 2 199 22) (hP : rq_PA B n f 1 22 pm_198) : rq_PA B n (f + 1) 1 22 pm_198 := by
  intro o q a ok q1 a1 w ho he h hq hl
  have hn := h.1.2.2.1
  have he : rd_6 B n (rd B n f) 1 o q a = some (ok, q1, a1) := he
  unfold rd_6 at he
  obtain ⟨y, ry, ey⟩ := rq_he h hq
  by_cases lv : rd_lv (rd_s B n q) = ((1 : Nat) : Int)
  · rw [if_pos lv] at he
    have hqn := rd_sq lv
    have c := rq_lv1 lv
    have yc : y = 38 := Int32.toInt_inj.mp (by rw [ey, c]; rfl)
    subst yc
    rw [c] at he
    refine xs_seg 1 (pc' := 5) (ls' := [(0, .ref 94)]) (st' := [.ref 94]) (w' := w) (cs' := 0) (ss' := 0) ?_ (fun _ _ => rfl)
    refine xs_cl (as := [.ref 94]) (rv := some (.int 38)) (st' := [.int 38]) (cs' := 0) (ss' := 0) (k1 := 2) rfl rfl rfl rfl rfl rfl (Nat.ble_eq_true_of_le (by omega)) ry ?_
    refine xs_seg 1 (pc' := 10) (ls' := [(0, .ref 94)]) (st' := [.int 38, .int 38]) (w' := w) (cs' := 0) (ss' := 0) ?_ (fun _ _ => rfl)
    refine xs_cmp false rfl (by decide) ?_
    refine xs_seg 2 (pc' := 15) (ls' := [(0, .ref 94)]) (st' := [.ref 94, .ref 94]) (w' := w) (cs' := 0) (ss' := 0) ?_ (fun _ _ => rfl)
    refine xs_gf (z := .int (nI q)) rfl h.1.1 rfl rfl h.2.1 ?_
    refine xs_seg 2 (pc' := 20) (ls' := [(0, .ref 94)]) (st' := [.int ((nI q) + 1), .ref 94]) (w' := w) (cs' := 0) (ss' := 0) ?_ (fun _ _ => rfl)
    refine xs_pf rfl h.1.1 rfl rfl rfl rfl (sh_i32 _) (fun w2 t2 f2 e2 => ?_)
    obtain ⟨s2, fa⟩ := rq_pl h (by omega) t2 f2 e2
    refine xs_seg 1 (pc' := 24) (ls' := [(0, .ref 94)]) (st' := [.ref 94]) (w' := w2) (cs' := 0) (ss' := 0) ?_ (fun _ _ => rfl)
    rcases rd_b_of he with ⟨q0, a0, h1, h2⟩ | ⟨rfl, h1⟩
    · obtain ⟨b1, b2, b3⟩ := rd_bd _ _ _ _ _ _ _ _ h1 (by omega)
      have b3 := b3 rfl
      have b4 := b3.2 (by omega)
      obtain ⟨w3, r3, s3⟩ := hS o (q + 1) a true q0 a0 w2 ho h1 s2 (by omega) (by omega)
      obtain ⟨w4, r4, s4, f4⟩ := rq_pu (x := 20001) (v := -100 - 38) (rq_QS s3) (by omega) (by decide)
      have fw : sx_Fr rq_A w w4 := sx_Fr_trans fa (sx_Fr_trans s3.1 f4)
      refine xs_cl (as := [.ref 94]) (rv := none) (st' := []) (cs' := 0) (ss' := 0) (k1 := (22 + 8 * (5 - o))) rfl rfl rfl rfl rfl rfl (Nat.ble_eq_true_of_le (by omega)) r3 ?_
      refine xs_seg 2 (pc' := 31) (ls' := [(0, .ref 94)]) (st' := [.int 20001, .ref 94]) (w' := w3) (cs' := 0) (ss' := 0) ?_ (fun _ _ => rfl)
      refine xs_cl (as := [.ref 94, .int 20001]) (rv := none) (st' := []) (cs' := 0) (ss' := 0) (k1 := 6) rfl rfl rfl rfl rfl rfl (Nat.ble_eq_true_of_le (by omega)) r4 ?_
      refine xs_seg 1 (pc' := 4) (ls' := [(0, .ref 94)]) (st' := []) (w' := w4) (cs' := 0) (ss' := 0) ?_ (fun _ _ => rfl)
      have h2 : rd B n f (6 + 1) o q0 (a0 ++ [-100 - 38]) = some (ok, q1, a1) := h2
      obtain ⟨res, g, e1, e2⟩ := hP o q0 _ ok q1 a1 w4 ho h2 s4 b2 (by rw [List.length_append]; show a0.length + 1 ≤ _; omega)
      exact ⟨res, g, e1, rq_Qt fw e2⟩
    · obtain ⟨w3, r3, s3⟩ := hS o (q + 1) a false q1 a1 w2 ho h1 s2 (by omega) (by omega)
      refine xs_cl (as := [.ref 94]) (rv := none) (st' := []) (cs' := 0) (ss' := 0) (k1 := (22 + 8 * (5 - o))) rfl rfl rfl rfl rfl rfl (Nat.ble_eq_true_of_le (by omega)) r3 ?_
      refine xs_seg 2 (pc' := 31) (ls' := [(0, .ref 94)]) (st' := [.int 20001, .ref 94]) (w' := w3) (cs' := 0) (ss' := 0) ?_ (fun _ _ => rfl)
      refine xs_cl (as := [.ref 94, .int 20001]) (rv := none) (st' := []) (cs' := 0) (ss' := 0) (k1 := 6) rfl rfl rfl rfl rfl rfl (Nat.ble_eq_true_of_le (by omega)) (rq_pG (rq_QG s3)) ?_
      refine xs_seg 2 (pc' := 5) (ls' := [(0, .ref 94)]) (st' := [.ref 94]) (w' := w3) (cs' := 0) (ss' := 0) ?_ (fun _ _ => rfl)
      refine xs_cl (as := [.ref 94]) (rv := some (.int (-1))) (st' := [.int (-1)]) (cs' := 0) (ss' := 0) (k1 := 2) rfl rfl rfl rfl rfl rfl (Nat.ble_eq_true_of_le (by omega)) (rq_hF (rq_QG s3)) ?_
      refine xs_seg 1 (pc' := 10) (ls' := [(0, .ref 94)]) (st' := [.int 38, .int (-1)]) (w' := w3) (cs' := 0) (ss' := 0) ?_ (fun _ _ => rfl)
      refine xs_cmp true rfl (by decide) ?_
      exact ⟨_, go_end 1 (fun _ _ => rfl), rfl, rq_QF (rq_QG s3) (sx_Fr_trans fa s3.1)⟩
  · rw [if_neg lv] at he
    cases he
    refine xs_seg 1 (pc' := 5) (ls' := [(0, .ref 94)]) (st' := [.ref 94]) (w' := w) (cs' := 0) (ss' := 0) ?_ (fun _ _ => rfl)
    refine xs_cl (as := [.ref 94]) (rv := some (.int y)) (st' := [.int y]) (cs' := 0) (ss' := 0) (k1 := 2) rfl rfl rfl rfl rfl rfl (Nat.ble_eq_true_of_le (by omega)) ry ?_
    refine xs_seg 1 (pc' := 10) (ls' := [(0, .ref 94)]) (st' := [.int 38, .int y]) (w' := w) (cs' := 0) (ss' := 0) ?_ (fun _ _ => rfl)
    refine xs_cmp true rfl (br_ne_t (b := 38) rfl (by rw [ey]; exact fun z => lv (by rw [z]; decide))) ?_
    exact ⟨_, go_end 1 (fun _ _ => rfl), rfl, rq_QT h (sx_Fr_refl _ _)⟩
theorem rq_p2 {B : Nat → Int} {n f : Nat} (hS : rq_RM B n f 3 200 21) : rq_PA B n (f + 1) 2 21 pm_199 := by
  intro o q a ok q1 a1 w ho he h hq hl
  have hn := h.1.2.2.1
  have he : rd_6 B n (rd B n f) 2 o q a = some (ok, q1, a1) := he
  unfold rd_6 at he
  obtain ⟨y, ry, ey⟩ := rq_he h hq
  by_cases lv : rd_lv (rd_s B n q) = ((2 : Nat) : Int)
  · rw [if_pos lv] at he
    have hqn := rd_sq lv
    rcases rq_lv2 lv with c | c | c
    · have yc : y = 60 := Int32.toInt_inj.mp (by rw [ey, c]; rfl)
      subst yc
      rw [c] at he
      refine xs_seg 1 (pc' := 5) (ls' := [(0, .ref 94)]) (st' := [.ref 94]) (w' := w) (cs' := 0) (ss' := 0) ?_ (fun _ _ => rfl)
      refine xs_cl (as := [.ref 94]) (rv := some (.int 60)) (st' := [.int 60]) (cs' := 0) (ss' := 0) (k1 := 2) rfl rfl rfl rfl rfl rfl (Nat.ble_eq_true_of_le (by omega)) ry ?_
      refine xs_seg 3 (pc' := 12) (ls' := [(1, .int 60), (0, .ref 94)]) (st' := [.int 60, .int 60]) (w' := w) (cs' := 0) (ss' := 0) ?_ (fun _ _ => rfl)
      refine xs_cmp true rfl (by decide) ?_
      refine xs_seg 2 (pc' := 29) (ls' := [(1, .int 60), (0, .ref 94)]) (st' := [.ref 94, .ref 94]) (w' := w) (cs' := 0) (ss' := 0) ?_ (fun _ _ => rfl)
      refine xs_gf (z := .int (nI q)) rfl h.1.1 rfl rfl h.2.1 ?_
      refine xs_seg 2 (pc' := 34) (ls' := [(1, .int 60), (0, .ref 94)]) (st' := [.int ((nI q) + 1), .ref 94]) (w' := w) (cs' := 0) (ss' := 0) ?_ (fun _ _ => rfl)
      refine xs_pf rfl h.1.1 rfl rfl rfl rfl (sh_i32 _) (fun w2 t2 f2 e2 => ?_)
      obtain ⟨s2, fa⟩ := rq_pl h (by omega) t2 f2 e2
      refine xs_seg 1 (pc' := 38) (ls' := [(1, .int 60), (0, .ref 94)]) (st' := [.ref 94]) (w' := w2) (cs' := 0) (ss' := 0) ?_ (fun _ _ => rfl)
      rcases rd_b_of he with ⟨q0, a0, h1, h2⟩ | ⟨rfl, h1⟩
      · obtain ⟨b1, b2, b3⟩ := rd_bd _ _ _ _ _ _ _ _ h1 (by omega)
        have b3 := b3 rfl
        have b4 := b3.2 (by omega)
        obtain ⟨w3, r3, s3⟩ := hS o (q + 1) a true q0 a0 w2 ho h1 s2 (by omega) (by omega)
        obtain ⟨w4, r4, s4, f4⟩ := rq_pu (x := 20002) (v := -100 - 60) (rq_QS s3) (by omega) (by decide)
        have fw : sx_Fr rq_A w w4 := sx_Fr_trans fa (sx_Fr_trans s3.1 f4)
        refine xs_cl (as := [.ref 94]) (rv := none) (st' := []) (cs' := 0) (ss' := 0) (k1 := (21 + 8 * (5 - o))) rfl rfl rfl rfl rfl rfl (Nat.ble_eq_true_of_le (by omega)) r3 ?_
        refine xs_seg 3 (pc' := 45) (ls' := [(1, .int 60), (0, .ref 94)]) (st' := [.int 60, .int 60, .ref 94]) (w' := w3) (cs' := 0) (ss' := 0) ?_ (fun _ _ => rfl)
        refine xs_cmp false rfl (by decide) ?_
        refine xs_seg 2 (pc' := 69) (ls' := [(1, .int 60), (0, .ref 94)]) (st' := [.int 20002, .ref 94]) (w' := w3) (cs' := 0) (ss' := 0) ?_ (fun _ _ => rfl)
        refine xs_cl (as := [.ref 94, .int 20002]) (rv := none) (st' := []) (cs' := 0) (ss' := 0) (k1 := 6) rfl rfl rfl rfl rfl rfl (Nat.ble_eq_true_of_le (by omega)) r4 ?_
        have h2 : some (true, q0, a0 ++ [-100 - 60]) = some (ok, q1, a1) := h2
        cases h2
        exact ⟨_, go_end 1 (fun _ _ => rfl), rfl, rq_QT s4 fw⟩
      · obtain ⟨w3, r3, s3⟩ := hS o (q + 1) a false q1 a1 w2 ho h1 s2 (by omega) (by omega)
        refine xs_cl (as := [.ref 94]) (rv := none) (st' := []) (cs' := 0) (ss' := 0) (k1 := (21 + 8 * (5 - o))) rfl rfl rfl rfl rfl rfl (Nat.ble_eq_true_of_le (by omega)) r3 ?_
        refine xs_seg 3 (pc' := 45) (ls' := [(1, .int 60), (0, .ref 94)]) (st' := [.int 60, .int 60, .ref 94]) (w' := w3) (cs' := 0) (ss' := 0) ?_ (fun _ _ => rfl)
        refine xs_cmp false rfl (by decide) ?_
        refine xs_seg 2 (pc' := 69) (ls' := [(1, .int 60), (0, .ref 94)]) (st' := [.int 20002, .ref 94]) (w' := w3) (cs' := 0) (ss' := 0) ?_ (fun _ _ => rfl)
        refine xs_cl (as := [.ref 94, .int 20002]) (rv := none) (st' := []) (cs' := 0) (ss' := 0) (k1 := 6) rfl rfl rfl rfl rfl rfl (Nat.ble_eq_true_of_le (by omega)) (rq_pG (rq_QG s3)) ?_
        exact ⟨_, go_end 1 (fun _ _ => rfl), rfl, rq_QF (rq_QG s3) (sx_Fr_trans fa s3.1)⟩
    · have yc : y = 61 := Int32.toInt_inj.mp (by rw [ey, c]; rfl)
      subst yc
      rw [c] at he
      refine xs_seg 1 (pc' := 5) (ls' := [(0, .ref 94)]) (st' := [.ref 94]) (w' := w) (cs' := 0) (ss' := 0) ?_ (fun _ _ => rfl)
      refine xs_cl (as := [.ref 94]) (rv := some (.int 61)) (st' := [.int 61]) (cs' := 0) (ss' := 0) (k1 := 2) rfl rfl rfl rfl rfl rfl (Nat.ble_eq_true_of_le (by omega)) ry ?_
      refine xs_seg 3 (pc' := 12) (ls' := [(1, .int 61), (0, .ref 94)]) (st' := [.int 60, .int 61]) (w' := w) (cs' := 0) (ss' := 0) ?_ (fun _ _ => rfl)
      refine xs_cmp false rfl (by decide) ?_
      refine xs_seg 2 (pc' := 18) (ls' := [(1, .int 61), (0, .ref 94)]) (st' := [.int 61, .int 61]) (w' := w) (cs' := 0) (ss' := 0) ?_ (fun _ _ => rfl)
      refine xs_cmp true rfl (by decide) ?_
      refine xs_seg 2 (pc' := 29) (ls' := [(1, .int 61), (0, .ref 94)]) (st' := [.ref 94, .ref 94]) (w' := w) (cs' := 0) (ss' := 0) ?_ (fun _ _ => rfl)
      refine xs_gf (z := .int (nI q)) rfl h.1.1 rfl rfl h.2.1 ?_
      refine xs_seg 2 (pc' := 34) (ls' := [(1, .int 61), (0, .ref 94)]) (st' := [.int ((nI q) + 1), .ref 94]) (w' := w) (cs' := 0) (ss' := 0) ?_ (fun _ _ => rfl)
      refine xs_pf rfl h.1.1 rfl rfl rfl rfl (sh_i32 _) (fun w2 t2 f2 e2 => ?_)
      obtain ⟨s2, fa⟩ := rq_pl h (by omega) t2 f2 e2
      refine xs_seg 1 (pc' := 38) (ls' := [(1, .int 61), (0, .ref 94)]) (st' := [.ref 94]) (w' := w2) (cs' := 0) (ss' := 0) ?_ (fun _ _ => rfl)
      rcases rd_b_of he with ⟨q0, a0, h1, h2⟩ | ⟨rfl, h1⟩
      · obtain ⟨b1, b2, b3⟩ := rd_bd _ _ _ _ _ _ _ _ h1 (by omega)
        have b3 := b3 rfl
        have b4 := b3.2 (by omega)
        obtain ⟨w3, r3, s3⟩ := hS o (q + 1) a true q0 a0 w2 ho h1 s2 (by omega) (by omega)
        obtain ⟨w4, r4, s4, f4⟩ := rq_pu (x := 20003) (v := -100 - 61) (rq_QS s3) (by omega) (by decide)
        have fw : sx_Fr rq_A w w4 := sx_Fr_trans fa (sx_Fr_trans s3.1 f4)
        refine xs_cl (as := [.ref 94]) (rv := none) (st' := []) (cs' := 0) (ss' := 0) (k1 := (21 + 8 * (5 - o))) rfl rfl rfl rfl rfl rfl (Nat.ble_eq_true_of_le (by omega)) r3 ?_
        refine xs_seg 3 (pc' := 45) (ls' := [(1, .int 61), (0, .ref 94)]) (st' := [.int 60, .int 61, .ref 94]) (w' := w3) (cs' := 0) (ss' := 0) ?_ (fun _ _ => rfl)
        refine xs_cmp true rfl (by decide) ?_
        refine xs_seg 2 (pc' := 57) (ls' := [(1, .int 61), (0, .ref 94)]) (st' := [.int 61, .int 61, .ref 94]) (w' := w3) (cs' := 0) (ss' := 0) ?_ (fun _ _ => rfl)
        refine xs_cmp false rfl (by decide) ?_
        refine xs_seg 2 (pc' := 69) (ls' := [(1, .int 61), (0, .ref 94)]) (st' := [.int 20003, .ref 94]) (w' := w3) (cs' := 0) (ss' := 0) ?_ (fun _ _ => rfl)
        refine xs_cl (as := [.ref 94, .int 20003]) (rv := none) (st' := []) (cs' := 0) (ss' := 0) (k1 := 6) rfl rfl rfl rfl rfl rfl (Nat.ble_eq_true_of_le (by omega)) r4 ?_
        have h2 : some (true, q0, a0 ++ [-100 - 61]) = some (ok, q1, a1) := h2
        cases h2
        exact ⟨_, go_end 1 (fun _ _ => rfl), rfl, rq_QT s4 fw⟩
      · obtain ⟨w3, r3, s3⟩ := hS o (q + 1) a false q1 a1 w2 ho h1 s2 (by omega) (by omega)
        refine xs_cl (as := [.ref 94]) (rv := none) (st' := []) (cs' := 0) (ss' := 0) (k1 := (21 + 8 * (5 - o))) rfl rfl rfl rfl rfl rfl (Nat.ble_eq_true_of_le (by omega)) r3 ?_
        refine xs_seg 3 (pc' := 45) (ls' := [(1, .int 61), (0, .ref 94)]) (st' := [.int 60, .int 61, .ref 94]) (w' := w3) (cs' := 0) (ss' := 0) ?_ (fun _ _ => rfl)
        refine xs_cmp true rfl (by decide) ?_
        refine xs_seg 2 (pc' := 57) (ls' := [(1, .int 61), (0, .ref 94)]) (st' := [.int 61, .int 61, .ref 94]) (w' := w3) (cs' := 0) (ss' := 0) ?_ (fun _ _ => rfl)
        refine xs_cmp false rfl (by decide) ?_
        refine xs_seg 2 (pc' := 69) (ls' := [(1, .int 61), (0, .ref 94)]) (st' := [.int 20003, .ref 94]) (w' := w3) (cs' := 0) (ss' := 0) ?_ (fun _ _ => rfl)
        refine xs_cl (as := [.ref 94, .int 20003]) (rv := none) (st' := []) (cs' := 0) (ss' := 0) (k1 := 6) rfl rfl rfl rfl rfl rfl (Nat.ble_eq_true_of_le (by omega)) (rq_pG (rq_QG s3)) ?_
        exact ⟨_, go_end 1 (fun _ _ => rfl), rfl, rq_QF (rq_QG s3) (sx_Fr_trans fa s3.1)⟩
    · have yc : y = 62 := Int32.toInt_inj.mp (by rw [ey, c]; rfl)
      subst yc
      rw [c] at he
      refine xs_seg 1 (pc' := 5) (ls' := [(0, .ref 94)]) (st' := [.ref 94]) (w' := w) (cs' := 0) (ss' := 0) ?_ (fun _ _ => rfl)
      refine xs_cl (as := [.ref 94]) (rv := some (.int 62)) (st' := [.int 62]) (cs' := 0) (ss' := 0) (k1 := 2) rfl rfl rfl rfl rfl rfl (Nat.ble_eq_true_of_le (by omega)) ry ?_
      refine xs_seg 3 (pc' := 12) (ls' := [(1, .int 62), (0, .ref 94)]) (st' := [.int 60, .int 62]) (w' := w) (cs' := 0) (ss' := 0) ?_ (fun _ _ => rfl)
      refine xs_cmp false rfl (by decide) ?_
      refine xs_seg 2 (pc' := 18) (ls' := [(1, .int 62), (0, .ref 94)]) (st' := [.int 61, .int 62]) (w' := w) (cs' := 0) (ss' := 0) ?_ (fun _ _ => rfl)
      refine xs_cmp false rfl (by decide) ?_
      refine xs_seg 2 (pc' := 24) (ls' := [(1, .int 62), (0, .ref 94)]) (st' := [.int 62, .int 62]) (w' := w) (cs' := 0) (ss' := 0) ?_ (fun _ _ => rfl)
      refine xs_cmp false rfl (by decide) ?_
      refine xs_seg 2 (pc' := 29) (ls' := [(1, .int 62), (0, .ref 94)]) (st' := [.ref 94, .ref 94]) (w' := w) (cs' := 0) (ss' := 0) ?_ (fun _ _ => rfl)
      refine xs_gf (z := .int (nI q)) rfl h.1.1 rfl rfl h.2.1 ?_
      refine xs_seg 2 (pc' := 34) (ls' := [(1, .int 62), (0, .ref 94)]) (st' := [.int ((nI q) + 1), .ref 94]) (w' := w) (cs' := 0) (ss' := 0) ?_ (fun _ _ => rfl)
      refine xs_pf rfl h.1.1 rfl rfl rfl rfl (sh_i32 _) (fun w2 t2 f2 e2 => ?_)
      obtain ⟨s2, fa⟩ := rq_pl h (by omega) t2 f2 e2
      refine xs_seg 1 (pc' := 38) (ls' := [(1, .int 62), (0, .ref 94)]) (st' := [.ref 94]) (w' := w2) (cs' := 0) (ss' := 0) ?_ (fun _ _ => rfl)
      rcases rd_b_of he with ⟨q0, a0, h1, h2⟩ | ⟨rfl, h1⟩
      · obtain ⟨b1, b2, b3⟩ := rd_bd _ _ _ _ _ _ _ _ h1 (by omega)
        have b3 := b3 rfl
        have b4 := b3.2 (by omega)
        obtain ⟨w3, r3, s3⟩ := hS o (q + 1) a true q0 a0 w2 ho h1 s2 (by omega) (by omega)
        obtain ⟨w4, r4, s4, f4⟩ := rq_pu (x := 20004) (v := -100 - 62) (rq_QS s3) (by omega) (by decide)
        have fw : sx_Fr rq_A w w4 := sx_Fr_trans fa (sx_Fr_trans s3.1 f4)
        refine xs_cl (as := [.ref 94]) (rv := none) (st' := []) (cs' := 0) (ss' := 0) (k1 := (21 + 8 * (5 - o))) rfl rfl rfl rfl rfl rfl (Nat.ble_eq_true_of_le (by omega)) r3 ?_
        refine xs_seg 3 (pc' := 45) (ls' := [(1, .int 62), (0, .ref 94)]) (st' := [.int 60, .int 62, .ref 94]) (w' := w3) (cs' := 0) (ss' := 0) ?_ (fun _ _ => rfl)
        refine xs_cmp true rfl (by decide) ?_
        refine xs_seg 2 (pc' := 57) (ls' := [(1, .int 62), (0, .ref 94)]) (st' := [.int 61, .int 62, .ref 94]) (w' := w3) (cs' := 0) (ss' := 0) ?_ (fun _ _ => rfl)
        refine xs_cmp true rfl (by decide) ?_
        refine xs_seg 1 (pc' := 69) (ls' := [(1, .int 62), (0, .ref 94)]) (st' := [.int 20004, .ref 94]) (w' := w3) (cs' := 0) (ss' := 0) ?_ (fun _ _ => rfl)
        refine xs_cl (as := [.ref 94, .int 20004]) (rv := none) (st' := []) (cs' := 0) (ss' := 0) (k1 := 6) rfl rfl rfl rfl rfl rfl (Nat.ble_eq_true_of_le (by omega)) r4 ?_
        have h2 : some (true, q0, a0 ++ [-100 - 62]) = some (ok, q1, a1) := h2
        cases h2
        exact ⟨_, go_end 1 (fun _ _ => rfl), rfl, rq_QT s4 fw⟩
      · obtain ⟨w3, r3, s3⟩ := hS o (q + 1) a false q1 a1 w2 ho h1 s2 (by omega) (by omega)
        refine xs_cl (as := [.ref 94]) (rv := none) (st' := []) (cs' := 0) (ss' := 0) (k1 := (21 + 8 * (5 - o))) rfl rfl rfl rfl rfl rfl (Nat.ble_eq_true_of_le (by omega)) r3 ?_
        refine xs_seg 3 (pc' := 45) (ls' := [(1, .int 62), (0, .ref 94)]) (st' := [.int 60, .int 62, .ref 94]) (w' := w3) (cs' := 0) (ss' := 0) ?_ (fun _ _ => rfl)
        refine xs_cmp true rfl (by decide) ?_
        refine xs_seg 2 (pc' := 57) (ls' := [(1, .int 62), (0, .ref 94)]) (st' := [.int 61, .int 62, .ref 94]) (w' := w3) (cs' := 0) (ss' := 0) ?_ (fun _ _ => rfl)
        refine xs_cmp true rfl (by decide) ?_
        refine xs_seg 1 (pc' := 69) (ls' := [(1, .int 62), (0, .ref 94)]) (st' := [.int 20004, .ref 94]) (w' := w3) (cs' := 0) (ss' := 0) ?_ (fun _ _ => rfl)
        refine xs_cl (as := [.ref 94, .int 20004]) (rv := none) (st' := []) (cs' := 0) (ss' := 0) (k1 := 6) rfl rfl rfl rfl rfl rfl (Nat.ble_eq_true_of_le (by omega)) (rq_pG (rq_QG s3)) ?_
        exact ⟨_, go_end 1 (fun _ _ => rfl), rfl, rq_QF (rq_QG s3) (sx_Fr_trans fa s3.1)⟩
  · rw [if_neg lv] at he
    cases he
    refine xs_seg 1 (pc' := 5) (ls' := [(0, .ref 94)]) (st' := [.ref 94]) (w' := w) (cs' := 0) (ss' := 0) ?_ (fun _ _ => rfl)
    refine xs_cl (as := [.ref 94]) (rv := some (.int y)) (st' := [.int y]) (cs' := 0) (ss' := 0) (k1 := 2) rfl rfl rfl rfl rfl rfl (Nat.ble_eq_true_of_le (by omega)) ry ?_
    refine xs_seg 3 (pc' := 12) (ls' := [(1, .int y), (0, .ref 94)]) (st' := [.int 60, .int y]) (w' := w) (cs' := 0) (ss' := 0) ?_ (fun _ _ => rfl)
    refine xs_cmp false rfl (br_eq_f (b := 60) rfl (by rw [ey]; exact fun z => lv (by rw [z]; decide))) ?_
    refine xs_seg 2 (pc' := 18) (ls' := [(1, .int y), (0, .ref 94)]) (st' := [.int 61, .int y]) (w' := w) (cs' := 0) (ss' := 0) ?_ (fun _ _ => rfl)
    refine xs_cmp false rfl (br_eq_f (b := 61) rfl (by rw [ey]; exact fun z => lv (by rw [z]; decide))) ?_
    refine xs_seg 2 (pc' := 24) (ls' := [(1, .int y), (0, .ref 94)]) (st' := [.int 62, .int y]) (w' := w) (cs' := 0) (ss' := 0) ?_ (fun _ _ => rfl)
    refine xs_cmp true rfl (br_ne_t (b := 62) rfl (by rw [ey]; exact fun z => lv (by rw [z]; decide))) ?_
    exact ⟨_, go_end 1 (fun _ _ => rfl), rfl, rq_QT h (sx_Fr_refl _ _)⟩
theorem rq_p3 {B : Nat → Int} {n f : Nat} (hS : rq_RM B n f 4 201 20) (hP : rq_PB B n f 3 20 pm_200) : rq_PB B n (f + 1) 3 20 pm_200 := by
  intro o q a ok q1 a1 w y ho he h hq hl ey
  have hn := h.1.2.2.1
  have he : rd_6 B n (rd B n f) 3 o q a = some (ok, q1, a1) := he
  unfold rd_6 at he
  by_cases lv : rd_lv (rd_s B n q) = ((3 : Nat) : Int)
  · rw [if_pos lv] at he
    have hqn := rd_sq lv
    rcases rq_lv3 lv with c | c
    · have yc : y = 43 := Int32.toInt_inj.mp (by rw [ey, c]; rfl)
      subst yc
      rw [c] at he
      refine xs_seg 2 (pc' := 12) (ls' := [(1, .int 43), (0, .ref 94)]) (st' := [.int 43, .int 43]) (w' := w) (cs' := 0) (ss' := 0) ?_ (fun _ _ => rfl)
      refine xs_cmp true rfl (by decide) ?_
      refine xs_seg 2 (pc' := 23) (ls' := [(1, .int 43), (0, .ref 94)]) (st' := [.ref 94, .ref 94]) (w' := w) (cs' := 0) (ss' := 0) ?_ (fun _ _ => rfl)
      refine xs_gf (z := .int (nI q)) rfl h.1.1 rfl rfl h.2.1 ?_
      refine xs_seg 2 (pc' := 28) (ls' := [(1, .int 43), (0, .ref 94)]) (st' := [.int ((nI q) + 1), .ref 94]) (w' := w) (cs' := 0) (ss' := 0) ?_ (fun _ _ => rfl)
      refine xs_pf rfl h.1.1 rfl rfl rfl rfl (sh_i32 _) (fun w2 t2 f2 e2 => ?_)
      obtain ⟨s2, fa⟩ := rq_pl h (by omega) t2 f2 e2
      refine xs_seg 1 (pc' := 32) (ls' := [(1, .int 43), (0, .ref 94)]) (st' := [.ref 94]) (w' := w2) (cs' := 0) (ss' := 0) ?_ (fun _ _ => rfl)
      rcases rd_b_of he with ⟨q0, a0, h1, h2⟩ | ⟨rfl, h1⟩
      · obtain ⟨b1, b2, b3⟩ := rd_bd _ _ _ _ _ _ _ _ h1 (by omega)
        have b3 := b3 rfl
        have b4 := b3.2 (by omega)
        obtain ⟨w3, r3, s3⟩ := hS o (q + 1) a true q0 a0 w2 ho h1 s2 (by omega) (by omega)
        obtain ⟨w4, r4, s4, f4⟩ := rq_pu (x := 20005) (v := -100 - 43) (rq_QS s3) (by omega) (by decide)
        have fw : sx_Fr rq_A w w4 := sx_Fr_trans fa (sx_Fr_trans s3.1 f4)
        refine xs_cl (as := [.ref 94]) (rv := none) (st' := []) (cs' := 0) (ss' := 0) (k1 := (20 + 8 * (5 - o))) rfl rfl rfl rfl rfl rfl (Nat.ble_eq_true_of_le (by omega)) r3 ?_
        refine xs_seg 3 (pc' := 39) (ls' := [(1, .int 43), (0, .ref 94)]) (st' := [.int 43, .int 43, .ref 94]) (w' := w3) (cs' := 0) (ss' := 0) ?_ (fun _ _ => rfl)
        refine xs_cmp false rfl (by decide) ?_
        refine xs_seg 2 (pc' := 51) (ls' := [(1, .int 43), (0, .ref 94)]) (st' := [.int 20005, .ref 94]) (w' := w3) (cs' := 0) (ss' := 0) ?_ (fun _ _ => rfl)
        refine xs_cl (as := [.ref 94, .int 20005]) (rv := none) (st' := []) (cs' := 0) (ss' := 0) (k1 := 6) rfl rfl rfl rfl rfl rfl (Nat.ble_eq_true_of_le (by omega)) r4 ?_
        obtain ⟨y9, ry9, ey9⟩ := rq_he s4 b2
        refine xs_seg 1 (pc' := 55) (ls' := [(1, .int 43), (0, .ref 94)]) (st' := [.ref 94]) (w' := w4) (cs' := 0) (ss' := 0) ?_ (fun _ _ => rfl)
        refine xs_cl (as := [.ref 94]) (rv := some (.int y9)) (st' := [.int y9]) (cs' := 0) (ss' := 0) (k1 := 2) rfl rfl rfl rfl rfl rfl (Nat.ble_eq_true_of_le (by omega)) ry9 ?_
        refine xs_seg 2 (pc' := 9) (ls' := [(1, .int y9), (0, .ref 94)]) (st' := []) (w' := w4) (cs' := 0) (ss' := 0) ?_ (fun _ _ => rfl)
        have h2 : rd B n f (6 + 3) o q0 (a0 ++ [-100 - 43]) = some (ok, q1, a1) := h2
        obtain ⟨res, g, e1, e2⟩ := hP o q0 _ ok q1 a1 w4 y9 ho h2 s4 b2 (by rw [List.length_append]; show a0.length + 1 ≤ _; omega) ey9
        exact ⟨res, g, e1, rq_Qt fw e2⟩
      · obtain ⟨w3, r3, s3⟩ := hS o (q + 1) a false q1 a1 w2 ho h1 s2 (by omega) (by omega)
        refine xs_cl (as := [.ref 94]) (rv := none) (st' := []) (cs' := 0) (ss' := 0) (k1 := (20 + 8 * (5 - o))) rfl rfl rfl rfl rfl rfl (Nat.ble_eq_true_of_le (by omega)) r3 ?_
        refine xs_seg 3 (pc' := 39) (ls' := [(1, .int 43), (0, .ref 94)]) (st' := [.int 43, .int 43, .ref 94]) (w' := w3) (cs' := 0) (ss' := 0) ?_ (fun _ _ => rfl)
        refine xs_cmp false rfl (by decide) ?_
        refine xs_seg 2 (pc' := 51) (ls' := [(1, .int 43), (0, .ref 94)]) (st' := [.int 20005, .ref 94]) (w' := w3) (cs' := 0) (ss' := 0) ?_ (fun _ _ => rfl)
        refine xs_cl (as := [.ref 94, .int 20005]) (rv := none) (st' := []) (cs' := 0) (ss' := 0) (k1 := 6) rfl rfl rfl rfl rfl rfl (Nat.ble_eq_true_of_le (by omega)) (rq_pG (rq_QG s3)) ?_
        refine xs_seg 1 (pc' := 55) (ls' := [(1, .int 43), (0, .ref 94)]) (st' := [.ref 94]) (w' := w3) (cs' := 0) (ss' := 0) ?_ (fun _ _ => rfl)
        refine xs_cl (as := [.ref 94]) (rv := some (.int (-1))) (st' := [.int (-1)]) (cs' := 0) (ss' := 0) (k1 := 2) rfl rfl rfl rfl rfl rfl (Nat.ble_eq_true_of_le (by omega)) (rq_hF (rq_QG s3)) ?_
        refine xs_seg 4 (pc' := 12) (ls' := [(1, .int (-1)), (0, .ref 94)]) (st' := [.int 43, .int (-1)]) (w' := w3) (cs' := 0) (ss' := 0) ?_ (fun _ _ => rfl)
        refine xs_cmp false rfl (by decide) ?_
        refine xs_seg 2 (pc' := 18) (ls' := [(1, .int (-1)), (0, .ref 94)]) (st' := [.int 45, .int (-1)]) (w' := w3) (cs' := 0) (ss' := 0) ?_ (fun _ _ => rfl)
        refine xs_cmp true rfl (by decide) ?_
        exact ⟨_, go_end 1 (fun _ _ => rfl), rfl, rq_QF (rq_QG s3) (sx_Fr_trans fa s3.1)⟩
    · have yc : y = 45 := Int32.toInt_inj.mp (by rw [ey, c]; rfl)
      subst yc
      rw [c] at he
      refine xs_seg 2 (pc' := 12) (ls' := [(1, .int 45), (0, .ref 94)]) (st' := [.int 43, .int 45]) (w' := w) (cs' := 0) (ss' := 0) ?_ (fun _ _ => rfl)
      refine xs_cmp false rfl (by decide) ?_
      refine xs_seg 2 (pc' := 18) (ls' := [(1, .int 45), (0, .ref 94)]) (st' := [.int 45, .int 45]) (w' := w) (cs' := 0) (ss' := 0) ?_ (fun _ _ => rfl)
      refine xs_cmp false rfl (by decide) ?_
      refine xs_seg 2 (pc' := 23) (ls' := [(1, .int 45), (0, .ref 94)]) (st' := [.ref 94, .ref 94]) (w' := w) (cs' := 0) (ss' := 0) ?_ (fun _ _ => rfl)
      refine xs_gf (z := .int (nI q)) rfl h.1.1 rfl rfl h.2.1 ?_
      refine xs_seg 2 (pc' := 28) (ls' := [(1, .int 45), (0, .ref 94)]) (st' := [.int ((nI q) + 1), .ref 94]) (w' := w) (cs' := 0) (ss' := 0) ?_ (fun _ _ => rfl)
      refine xs_pf rfl h.1.1 rfl rfl rfl rfl (sh_i32 _) (fun w2 t2 f2 e2 => ?_)
      obtain ⟨s2, fa⟩ := rq_pl h (by omega) t2 f2 e2
      refine xs_seg 1 (pc' := 32) (ls' := [(1, .int 45), (0, .ref 94)]) (st' := [.ref 94]) (w' := w2) (cs' := 0) (ss' := 0) ?_ (fun _ _ => rfl)
      rcases rd_b_of he with ⟨q0, a0, h1, h2⟩ | ⟨rfl, h1⟩
      · obtain ⟨b1, b2, b3⟩ := rd_bd _ _ _ _ _ _ _ _ h1 (by omega)
        have b3 := b3 rfl
        have b4 := b3.2 (by omega)
        obtain ⟨w3, r3, s3⟩ := hS o (q + 1) a true q0 a0 w2 ho h1 s2 (by omega) (by omega)
        obtain ⟨w4, r4, s4, f4⟩ := rq_pu (x := 20006) (v := -100 - 45) (rq_QS s3) (by omega) (by decide)
        have fw : sx_Fr rq_A w w4 := sx_Fr_trans fa (sx_Fr_trans s3.1 f4)
        refine xs_cl (as := [.ref 94]) (rv := none) (st' := []) (cs' := 0) (ss' := 0) (k1 := (20 + 8 * (5 - o))) rfl rfl rfl rfl rfl rfl (Nat.ble_eq_true_of_le (by omega)) r3 ?_
        refine xs_seg 3 (pc' := 39) (ls' := [(1, .int 45), (0, .ref 94)]) (st' := [.int 43, .int 45, .ref 94]) (w' := w3) (cs' := 0) (ss' := 0) ?_ (fun _ _ => rfl)
        refine xs_cmp true rfl (by decide) ?_
        refine xs_seg 1 (pc' := 51) (ls' := [(1, .int 45), (0, .ref 94)]) (st' := [.int 20006, .ref 94]) (w' := w3) (cs' := 0) (ss' := 0) ?_ (fun _ _ => rfl)
        refine xs_cl (as := [.ref 94, .int 20006]) (rv := none) (st' := []) (cs' := 0) (ss' := 0) (k1 := 6) rfl rfl rfl rfl rfl rfl (Nat.ble_eq_true_of_le (by omega)) r4 ?_
        obtain ⟨y9, ry9, ey9⟩ := rq_he s4 b2
        refine xs_seg 1 (pc' := 55) (ls' := [(1, .int 45), (0, .ref 94)]) (st' := [.ref 94]) (w' := w4) (cs' := 0) (ss' := 0) ?_ (fun _ _ => rfl)
        refine xs_cl (as := [.ref 94]) (rv := some (.int y9)) (st' := [.int y9]) (cs' := 0) (ss' := 0) (k1 := 2) rfl rfl rfl rfl rfl rfl (Nat.ble_eq_true_of_le (by omega)) ry9 ?_
        refine xs_seg 2 (pc' := 9) (ls' := [(1, .int y9), (0, .ref 94)]) (st' := []) (w' := w4) (cs' := 0) (ss' := 0) ?_ (fun _ _ => rfl)
        have h2 : rd B n f (6 + 3) o q0 (a0 ++ [-100 - 45]) = some (ok, q1, a1) := h2
        obtain ⟨res, g, e1, e2⟩ := hP o q0 _ ok q1 a1 w4 y9 ho h2 s4 b2 (by rw [List.length_append]; show a0.length + 1 ≤ _; omega) ey9
        exact ⟨res, g, e1, rq_Qt fw e2⟩
      · obtain ⟨w3, r3, s3⟩ := hS o (q + 1) a false q1 a1 w2 ho h1 s2 (by omega) (by omega)
        refine xs_cl (as := [.ref 94]) (rv := none) (st' := []) (cs' := 0) (ss' := 0) (k1 := (20 + 8 * (5 - o))) rfl rfl rfl rfl rfl rfl (Nat.ble_eq_true_of_le (by omega)) r3 ?_
        refine xs_seg 3 (pc' := 39) (ls' := [(1, .int 45), (0, .ref 94)]) (st' := [.int 43, .int 45, .ref 94]) (w' := w3) (cs' := 0) (ss' := 0) ?_ (fun _ _ => rfl)
        refine xs_cmp true rfl (by decide) ?_
        refine xs_seg 1 (pc' := 51) (ls' := [(1, .int 45), (0, .ref 94)]) (st' := [.int 20006, .ref 94]) (w' := w3) (cs' := 0) (ss' := 0) ?_ (fun _ _ => rfl)
        refine xs_cl (as := [.ref 94, .int 20006]) (rv := none) (st' := []) (cs' := 0) (ss' := 0) (k1 := 6) rfl rfl rfl rfl rfl rfl (Nat.ble_eq_true_of_le (by omega)) (rq_pG (rq_QG s3)) ?_
        refine xs_seg 1 (pc' := 55) (ls' := [(1, .int 45), (0, .ref 94)]) (st' := [.ref 94]) (w' := w3) (cs' := 0) (ss' := 0) ?_ (fun _ _ => rfl)
        refine xs_cl (as := [.ref 94]) (rv := some (.int (-1))) (st' := [.int (-1)]) (cs' := 0) (ss' := 0) (k1 := 2) rfl rfl rfl rfl rfl rfl (Nat.ble_eq_true_of_le (by omega)) (rq_hF (rq_QG s3)) ?_
        refine xs_seg 4 (pc' := 12) (ls' := [(1, .int (-1)), (0, .ref 94)]) (st' := [.int 43, .int (-1)]) (w' := w3) (cs' := 0) (ss' := 0) ?_ (fun _ _ => rfl)
        refine xs_cmp false rfl (by decide) ?_
        refine xs_seg 2 (pc' := 18) (ls' := [(1, .int (-1)), (0, .ref 94)]) (st' := [.int 45, .int (-1)]) (w' := w3) (cs' := 0) (ss' := 0) ?_ (fun _ _ => rfl)
        refine xs_cmp true rfl (by decide) ?_
        exact ⟨_, go_end 1 (fun _ _ => rfl), rfl, rq_QF (rq_QG s3) (sx_Fr_trans fa s3.1)⟩
  · rw [if_neg lv] at he
    cases he
    refine xs_seg 2 (pc' := 12) (ls' := [(1, .int y), (0, .ref 94)]) (st' := [.int 43, .int y]) (w' := w) (cs' := 0) (ss' := 0) ?_ (fun _ _ => rfl)
    refine xs_cmp false rfl (br_eq_f (b := 43) rfl (by rw [ey]; exact fun z => lv (by rw [z]; decide))) ?_
    refine xs_seg 2 (pc' := 18) (ls' := [(1, .int y), (0, .ref 94)]) (st' := [.int 45, .int y]) (w' := w) (cs' := 0) (ss' := 0) ?_ (fun _ _ => rfl)
    refine xs_cmp true rfl (br_ne_t (b := 45) rfl (by rw [ey]; exact fun z => lv (by rw [z]; decide))) ?_
    exact ⟨_, go_end 1 (fun _ _ => rfl), rfl, rq_QT h (sx_Fr_refl _ _)⟩
theorem rq_p4 {B : Nat → Int} {n f : Nat} (hS : rq_RM B n f 5 202 19) (hP : rq_PB B n f 4 19 pm_201) : rq_PB B n (f + 1) 4 19 pm_201 := by
  intro o q a ok q1 a1 w y ho he h hq hl ey
  have hn := h.1.2.2.1
  have he : rd_6 B n (rd B n f) 4 o q a = some (ok, q1, a1) := he
  unfold rd_6 at he
  by_cases lv : rd_lv (rd_s B n q) = ((4 : Nat) : Int)
  · rw [if_pos lv] at he
    have hqn := rd_sq lv
    rcases rq_lv4 lv with c | c
    · have yc : y = 42 := Int32.toInt_inj.mp (by rw [ey, c]; rfl)
      subst yc
      rw [c] at he
      refine xs_seg 2 (pc' := 12) (ls' := [(1, .int 42), (0, .ref 94)]) (st' := [.int 42, .int 42]) (w' := w) (cs' := 0) (ss' := 0) ?_ (fun _ _ => rfl)
      refine xs_cmp true rfl (by decide) ?_
      refine xs_seg 2 (pc' := 23) (ls' := [(1, .int 42), (0, .ref 94)]) (st' := [.ref 94, .ref 94]) (w' := w) (cs' := 0) (ss' := 0) ?_ (fun _ _ => rfl)
      refine xs_gf (z := .int (nI q)) rfl h.1.1 rfl rfl h.2.1 ?_
      refine xs_seg 2 (pc' := 28) (ls' := [(1, .int 42), (0, .ref 94)]) (st' := [.int ((nI q) + 1), .ref 94]) (w' := w) (cs' := 0) (ss' := 0) ?_ (fun _ _ => rfl)
      refine xs_pf rfl h.1.1 rfl rfl rfl rfl (sh_i32 _) (fun w2 t2 f2 e2 => ?_)
      obtain ⟨s2, fa⟩ := rq_pl h (by omega) t2 f2 e2
      refine xs_seg 1 (pc' := 32) (ls' := [(1, .int 42), (0, .ref 94)]) (st' := [.ref 94]) (w' := w2) (cs' := 0) (ss' := 0) ?_ (fun _ _ => rfl)
      rcases rd_b_of he with ⟨q0, a0, h1, h2⟩ | ⟨rfl, h1⟩
      · obtain ⟨b1, b2, b3⟩ := rd_bd _ _ _ _ _ _ _ _ h1 (by omega)
        have b3 := b3 rfl
        have b4 := b3.2 (by omega)
        obtain ⟨w3, r3, s3⟩ := hS o (q + 1) a true q0 a0 w2 ho h1 s2 (by omega) (by omega)
        obtain ⟨w4, r4, s4, f4⟩ := rq_pu (x := 20007) (v := -100 - 42) (rq_QS s3) (by omega) (by decide)
        have fw : sx_Fr rq_A w w4 := sx_Fr_trans fa (sx_Fr_trans s3.1 f4)
        refine xs_cl (as := [.ref 94]) (rv := none) (st' := []) (cs' := 0) (ss' := 0) (k1 := (19 + 8 * (5 - o))) rfl rfl rfl rfl rfl rfl (Nat.ble_eq_true_of_le (by omega)) r3 ?_
        refine xs_seg 3 (pc' := 39) (ls' := [(1, .int 42), (0, .ref 94)]) (st' := [.int 42, .int 42, .ref 94]) (w' := w3) (cs' := 0) (ss' := 0) ?_ (fun _ _ => rfl)
        refine xs_cmp false rfl (by decide) ?_
        refine xs_seg 2 (pc' := 51) (ls' := [(1, .int 42), (0, .ref 94)]) (st' := [.int 20007, .ref 94]) (w' := w3) (cs' := 0) (ss' := 0) ?_ (fun _ _ => rfl)
        refine xs_cl (as := [.ref 94, .int 20007]) (rv := none) (st' := []) (cs' := 0) (ss' := 0) (k1 := 6) rfl rfl rfl rfl rfl rfl (Nat.ble_eq_true_of_le (by omega)) r4 ?_
        obtain ⟨y9, ry9, ey9⟩ := rq_he s4 b2
        refine xs_seg 1 (pc' := 55) (ls' := [(1, .int 42), (0, .ref 94)]) (st' := [.ref 94]) (w' := w4) (cs' := 0) (ss' := 0) ?_ (fun _ _ => rfl)
        refine xs_cl (as := [.ref 94]) (rv := some (.int y9)) (st' := [.int y9]) (cs' := 0) (ss' := 0) (k1 := 2) rfl rfl rfl rfl rfl rfl (Nat.ble_eq_true_of_le (by omega)) ry9 ?_
        refine xs_seg 2 (pc' := 9) (ls' := [(1, .int y9), (0, .ref 94)]) (st' := []) (w' := w4) (cs' := 0) (ss' := 0) ?_ (fun _ _ => rfl)
        have h2 : rd B n f (6 + 4) o q0 (a0 ++ [-100 - 42]) = some (ok, q1, a1) := h2
        obtain ⟨res, g, e1, e2⟩ := hP o q0 _ ok q1 a1 w4 y9 ho h2 s4 b2 (by rw [List.length_append]; show a0.length + 1 ≤ _; omega) ey9
        exact ⟨res, g, e1, rq_Qt fw e2⟩
      · obtain ⟨w3, r3, s3⟩ := hS o (q + 1) a false q1 a1 w2 ho h1 s2 (by omega) (by omega)
        refine xs_cl (as := [.ref 94]) (rv := none) (st' := []) (cs' := 0) (ss' := 0) (k1 := (19 + 8 * (5 - o))) rfl rfl rfl rfl rfl rfl (Nat.ble_eq_true_of_le (by omega)) r3 ?_
        refine xs_seg 3 (pc' := 39) (ls' := [(1, .int 42), (0, .ref 94)]) (st' := [.int 42, .int 42, .ref 94]) (w' := w3) (cs' := 0) (ss' := 0) ?_ (fun _ _ => rfl)
        refine xs_cmp false rfl (by decide) ?_
        refine xs_seg 2 (pc' := 51) (ls' := [(1, .int 42), (0, .ref 94)]) (st' := [.int 20007, .ref 94]) (w' := w3) (cs' := 0) (ss' := 0) ?_ (fun _ _ => rfl)
        refine xs_cl (as := [.ref 94, .int 20007]) (rv := none) (st' := []) (cs' := 0) (ss' := 0) (k1 := 6) rfl rfl rfl rfl rfl rfl (Nat.ble_eq_true_of_le (by omega)) (rq_pG (rq_QG s3)) ?_
        refine xs_seg 1 (pc' := 55) (ls' := [(1, .int 42), (0, .ref 94)]) (st' := [.ref 94]) (w' := w3) (cs' := 0) (ss' := 0) ?_ (fun _ _ => rfl)
        refine xs_cl (as := [.ref 94]) (rv := some (.int (-1))) (st' := [.int (-1)]) (cs' := 0) (ss' := 0) (k1 := 2) rfl rfl rfl rfl rfl rfl (Nat.ble_eq_true_of_le (by omega)) (rq_hF (rq_QG s3)) ?_
        refine xs_seg 4 (pc' := 12) (ls' := [(1, .int (-1)), (0, .ref 94)]) (st' := [.int 42, .int (-1)]) (w' := w3) (cs' := 0) (ss' := 0) ?_ (fun _ _ => rfl)
        refine xs_cmp false rfl (by decide) ?_
        refine xs_seg 2 (pc' := 18) (ls' := [(1, .int (-1)), (0, .ref 94)]) (st' := [.int 47, .int (-1)]) (w' := w3) (cs' := 0) (ss' := 0) ?_ (fun _ _ => rfl)
        refine xs_cmp true rfl (by decide) ?_
        exact ⟨_, go_end 1 (fun _ _ => rfl), rfl, rq_QF (rq_QG s3) (sx_Fr_trans fa s3.1)⟩
    · have yc : y = 47 := Int32.toInt_inj.mp (by rw [ey, c]; rfl)
      subst yc
      rw [c] at he
      refine xs_seg 2 (pc' := 12) (ls' := [(1, .int 47), (0, .ref 94)]) (st' := [.int 42, .int 47]) (w' := w) (cs' := 0) (ss' := 0) ?_ (fun _ _ => rfl)
      refine xs_cmp false rfl (by decide) ?_
      refine xs_seg 2 (pc' := 18) (ls' := [(1, .int 47), (0, .ref 94)]) (st' := [.int 47, .int 47]) (w' := w) (cs' := 0) (ss' := 0) ?_ (fun _ _ => rfl)
      refine xs_cmp false rfl (by decide) ?_
      refine xs_seg 2 (pc' := 23) (ls' := [(1, .int 47), (0, .ref 94)]) (st' := [.ref 94, .ref 94]) (w' := w) (cs' := 0) (ss' := 0) ?_ (fun _ _ => rfl)
      refine xs_gf (z := .int (nI q)) rfl h.1.1 rfl rfl h.2.1 ?_
      refine xs_seg 2 (pc' := 28) (ls' := [(1, .int 47), (0, .ref 94)]) (st' := [.int ((nI q) + 1), .ref 94]) (w' := w) (cs' := 0) (ss' := 0) ?_ (fun _ _ => rfl)
      refine xs_pf rfl h.1.1 rfl rfl rfl rfl (sh_i32 _) (fun w2 t2 f2 e2 => ?_)
      obtain ⟨s2, fa⟩ := rq_pl h (by omega) t2 f2 e2
      refine xs_seg 1 (pc' := 32) (ls' := [(1, .int 47), (0, .ref 94)]) (st' := [.ref 94]) (w' := w2) (cs' := 0) (ss' := 0) ?_ (fun _ _ => rfl)
      rcases rd_b_of he with ⟨q0, a0, h1, h2⟩ | ⟨rfl, h1⟩
      · obtain ⟨b1, b2, b3⟩ := rd_bd _ _ _ _ _ _ _ _ h1 (by omega)
        have b3 := b3 rfl
        have b4 := b3.2 (by omega)
        obtain ⟨w3, r3, s3⟩ := hS o (q + 1) a true q0 a0 w2 ho h1 s2 (by omega) (by omega)
        obtain ⟨w4, r4, s4, f4⟩ := rq_pu (x := 20008) (v := -100 - 47) (rq_QS s3) (by omega) (by decide)
        have fw : sx_Fr rq_A w w4 := sx_Fr_trans fa (sx_Fr_trans s3.1 f4)
        refine xs_cl (as := [.ref 94]) (rv := none) (st' := []) (cs' := 0) (ss' := 0) (k1 := (19 + 8 * (5 - o))) rfl rfl rfl rfl rfl rfl (Nat.ble_eq_true_of_le (by omega)) r3 ?_
        refine xs_seg 3 (pc' := 39) (ls' := [(1, .int 47), (0, .ref 94)]) (st' := [.int 42, .int 47, .ref 94]) (w' := w3) (cs' := 0) (ss' := 0) ?_ (fun _ _ => rfl)
        refine xs_cmp true rfl (by decide) ?_
        refine xs_seg 1 (pc' := 51) (ls' := [(1, .int 47), (0, .ref 94)]) (st' := [.int 20008, .ref 94]) (w' := w3) (cs' := 0) (ss' := 0) ?_ (fun _ _ => rfl)
        refine xs_cl (as := [.ref 94, .int 20008]) (rv := none) (st' := []) (cs' := 0) (ss' := 0) (k1 := 6) rfl rfl rfl rfl rfl rfl (Nat.ble_eq_true_of_le (by omega)) r4 ?_
        obtain ⟨y9, ry9, ey9⟩ := rq_he s4 b2
        refine xs_seg 1 (pc' := 55) (ls' := [(1, .int 47), (0, .ref 94)]) (st' := [.ref 94]) (w' := w4) (cs' := 0) (ss' := 0) ?_ (fun _ _ => rfl)
        refine xs_cl (as := [.ref 94]) (rv := some (.int y9)) (st' := [.int y9]) (cs' := 0) (ss' := 0) (k1 := 2) rfl rfl rfl rfl rfl rfl (Nat.ble_eq_true_of_le (by omega)) ry9 ?_
        refine xs_seg 2 (pc' := 9) (ls' := [(1, .int y9), (0, .ref 94)]) (st' := []) (w' := w4) (cs' := 0) (ss' := 0) ?_ (fun _ _ => rfl)
        have h2 : rd B n f (6 + 4) o q0 (a0 ++ [-100 - 47]) = some (ok, q1, a1) := h2
        obtain ⟨res, g, e1, e2⟩ := hP o q0 _ ok q1 a1 w4 y9 ho h2 s4 b2 (by rw [List.length_append]; show a0.length + 1 ≤ _; omega) ey9
        exact ⟨res, g, e1, rq_Qt fw e2⟩
      · obtain ⟨w3, r3, s3⟩ := hS o (q + 1) a false q1 a1 w2 ho h1 s2 (by omega) (by omega)
        refine xs_cl (as := [.ref 94]) (rv := none) (st' := []) (cs' := 0) (ss' := 0) (k1 := (19 + 8 * (5 - o))) rfl rfl rfl rfl rfl rfl (Nat.ble_eq_true_of_le (by omega)) r3 ?_
        refine xs_seg 3 (pc' := 39) (ls' := [(1, .int 47), (0, .ref 94)]) (st' := [.int 42, .int 47, .ref 94]) (w' := w3) (cs' := 0) (ss' := 0) ?_ (fun _ _ => rfl)
        refine xs_cmp true rfl (by decide) ?_
        refine xs_seg 1 (pc' := 51) (ls' := [(1, .int 47), (0, .ref 94)]) (st' := [.int 20008, .ref 94]) (w' := w3) (cs' := 0) (ss' := 0) ?_ (fun _ _ => rfl)
        refine xs_cl (as := [.ref 94, .int 20008]) (rv := none) (st' := []) (cs' := 0) (ss' := 0) (k1 := 6) rfl rfl rfl rfl rfl rfl (Nat.ble_eq_true_of_le (by omega)) (rq_pG (rq_QG s3)) ?_
        refine xs_seg 1 (pc' := 55) (ls' := [(1, .int 47), (0, .ref 94)]) (st' := [.ref 94]) (w' := w3) (cs' := 0) (ss' := 0) ?_ (fun _ _ => rfl)
        refine xs_cl (as := [.ref 94]) (rv := some (.int (-1))) (st' := [.int (-1)]) (cs' := 0) (ss' := 0) (k1 := 2) rfl rfl rfl rfl rfl rfl (Nat.ble_eq_true_of_le (by omega)) (rq_hF (rq_QG s3)) ?_
        refine xs_seg 4 (pc' := 12) (ls' := [(1, .int (-1)), (0, .ref 94)]) (st' := [.int 42, .int (-1)]) (w' := w3) (cs' := 0) (ss' := 0) ?_ (fun _ _ => rfl)
        refine xs_cmp false rfl (by decide) ?_
        refine xs_seg 2 (pc' := 18) (ls' := [(1, .int (-1)), (0, .ref 94)]) (st' := [.int 47, .int (-1)]) (w' := w3) (cs' := 0) (ss' := 0) ?_ (fun _ _ => rfl)
        refine xs_cmp true rfl (by decide) ?_
        exact ⟨_, go_end 1 (fun _ _ => rfl), rfl, rq_QF (rq_QG s3) (sx_Fr_trans fa s3.1)⟩
  · rw [if_neg lv] at he
    cases he
    refine xs_seg 2 (pc' := 12) (ls' := [(1, .int y), (0, .ref 94)]) (st' := [.int 42, .int y]) (w' := w) (cs' := 0) (ss' := 0) ?_ (fun _ _ => rfl)
    refine xs_cmp false rfl (br_eq_f (b := 42) rfl (by rw [ey]; exact fun z => lv (by rw [z]; decide))) ?_
    refine xs_seg 2 (pc' := 18) (ls' := [(1, .int y), (0, .ref 94)]) (st' := [.int 47, .int y]) (w' := w) (cs' := 0) (ss' := 0) ?_ (fun _ _ => rfl)
    refine xs_cmp true rfl (br_ne_t (b := 47) rfl (by rw [ey]; exact fun z => lv (by rw [z]; decide))) ?_
    exact ⟨_, go_end 1 (fun _ _ => rfl), rfl, rq_QT h (sx_Fr_refl _ _)⟩
theorem rq_all {B : Nat → Int} {n : Nat} (hB : ∀ i, i < n → 0 ≤ B i ∧ B i ≤ 255) : ∀ f, rq_RM B n f 5 202 19 ∧ rq_RM B n f 0 197 24 ∧ rq_RM B n f 1 198 23 ∧ rq_RM B n f 2 199 22 ∧ rq_RM B n f 3 200 21 ∧ rq_RM B n f 4 201 20 ∧ rq_PA B n f 0 23 pm_197 ∧ rq_PA B n f 1 22 pm_198 ∧ rq_PA B n f 2 21 pm_199 ∧ rq_PB B n f 3 20 pm_200 ∧ rq_PB B n f 4 19 pm_201
  | 0 => by
    refine ⟨?_, ?_, ?_, ?_, ?_, ?_, ?_, ?_, ?_, ?_, ?_⟩
    · intro o q a ok q1 a1 w _ he
      cases he
    · intro o q a ok q1 a1 w _ he
      cases he
    · intro o q a ok q1 a1 w _ he
      cases he
    · intro o q a ok q1 a1 w _ he
      cases he
    · intro o q a ok q1 a1 w _ he
      cases he
    · intro o q a ok q1 a1 w _ he
      cases he
    · intro o q a ok q1 a1 w _ he
      cases he
    · intro o q a ok q1 a1 w _ he
      cases he
    · intro o q a ok q1 a1 w _ he
      cases he
    · intro o q a ok q1 a1 w y _ he
      cases he
    · intro o q a ok q1 a1 w y _ he
      cases he
  | f + 1 => by
    obtain ⟨hS, l0, l1, l2, l3, l4, p0, p1, p2, p3, p4⟩ := rq_all hB f
    exact ⟨rq_rs hB hS l0, rq_l0 l1 p0, rq_l1 l2 p1, rq_l2 l3 p2, rq_l3 l4 p3, rq_l4 hS p4, rq_p0 l1 p0, rq_p1 l2 p1, rq_p2 l3, rq_p3 l4 p3, rq_p4 hS p4⟩
