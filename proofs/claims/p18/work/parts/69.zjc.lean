/-! the class's reader: levels, smallest parts, what stands behind a level's first part -/
theorem rp_QT {B : Nat → Int} {n q : Nat} {a : List Int} {w w1 : pq_W} (h : rp_S B n q a w1) (f : sx_Fr rp_A w w1) : rp_Q B n true q a w w1 := ⟨f, h⟩
theorem rp_QF {B : Nat → Int} {n q : Nat} {a : List Int} {w w1 : pq_W} (h : rp_F B n q w1) (f : sx_Fr rp_A w w1) : rp_Q B n false q a w w1 := ⟨f, h⟩
theorem rp_QS {B : Nat → Int} {n q : Nat} {a : List Int} {w w1 : pq_W} (h : rp_Q B n true q a w w1) : rp_S B n q a w1 := h.2
theorem rp_QG {B : Nat → Int} {n q : Nat} {a : List Int} {w w1 : pq_W} (h : rp_Q B n false q a w w1) : rp_F B n q w1 := h.2
theorem rp_Qt {B : Nat → Int} {n q : Nat} {ok : Bool} {a : List Int} {w w1 w2 : pq_W} (f : sx_Fr rp_A w w1) (h : rp_Q B n ok q a w1 w2) : rp_Q B n ok q a w w2 := ⟨sx_Fr_trans f h.1, h.2⟩
/-- smallest parts, levels, and behind a level's first part, with so much fuel -/
noncomputable def rp_RS (B : Nat → Int) (n f : Nat) : Prop := ∀ (o q : Nat) (a : List Int) (ok : Bool) (q1 : Nat) (a1 : List Int) (w : pq_W), o ≤ 5 → rd B n f 5 o q a = some (ok, q1, a1) → rp_S B n q a w → q ≤ n → a.length ≤ q → ∃ w1, pq_Ru (19 + 8 * (5 - o)) 70 [.ref 74, .int (nI o)] w (none, w1) ∧ rp_Q B n ok q1 a1 w w1
noncomputable def rp_RL (B : Nat → Int) (n f : Nat) : Prop := ∀ (m o q : Nat) (a : List Int) (ok : Bool) (q1 : Nat) (a1 : List Int) (w : pq_W), m ≤ 5 → o ≤ 5 → rd B n f m o q a = some (ok, q1, a1) → rp_S B n q a w → q ≤ n → a.length ≤ q → ∃ w1, pq_Ru (20 + 8 * (5 - o) + (5 - m)) 69 [.ref 74, .int (nI m), .int (nI o)] w (none, w1) ∧ rp_Q B n ok q1 a1 w w1
noncomputable def rp_LP (B : Nat → Int) (n f : Nat) : Prop := ∀ (L o q i : Nat) (a : List Int) (ok : Bool) (q1 : Nat) (a1 : List Int) (w : pq_W), L < 5 → o ≤ 5 → rd B n f (6 + L) o q a = some (ok, q1, a1) → rp_S B n q a w → q ≤ n → a.length ≤ q → i ≤ q → (∃ res, pq_Go (19 + 8 * (5 - o) + (5 - L)) pm_69 21 [(3, .int (nI i)), (0, .ref 74), (1, .int (nI L)), (2, .int (nI o))] [] w 0 0 res ∧ (res.1 = none ∧ rp_Q B n ok q1 a1 w res.2)) ∧ ∀ y0 : Int32, (∃ res, pq_Go (19 + 8 * (5 - o) + (5 - L)) pm_69 21 [(3, .int (nI i)), (4, .int y0), (0, .ref 74), (1, .int (nI L)), (2, .int (nI o))] [] w 0 0 res ∧ (res.1 = none ∧ rp_Q B n ok q1 a1 w res.2))
theorem rp_rs {B : Nat → Int} {n f : Nat} (hS : rp_RS B n f) (hL : rp_RL B n f) : rp_RS B n (f + 1) := by
  intro o q a ok q1 a1 w ho he h hq hl
  have hn := h.1.2.2.2.1
  have he : rd_5 B n (rd B n f) o q a = some (ok, q1, a1) := he
  obtain ⟨y, ry, ey⟩ := rp_sg h.1 h.2.1 hq
  obtain ⟨u, ru, eu⟩ := rp_nm y w
  obtain ⟨z, rz, ez⟩ := rp_dg y w
  rw [ey] at eu ez
  have key : ∃ res, pq_Go (18 + 8 * (5 - o)) pm_70 0 (lv_args 0 [.ref 74, .int (nI o)]) [] w 0 0 res ∧ (res.1 = none ∧ rp_Q B n ok q1 a1 w res.2) := by
    refine xs_seg 1 (pc' := 1) (ls' := [(0, .ref 74), (1, .int (nI o))]) (st' := [.ref 74]) (w' := w) (cs' := 0) (ss' := 0) ?_ (fun _ _ => rfl)
    refine xs_cl (as := [.ref 74]) (rv := some (.int y)) (st' := [.int y]) (cs' := 0) (ss' := 0) (k1 := 2) rfl rfl rfl rfl rfl rfl (Nat.ble_eq_true_of_le (by omega)) ry ?_
    refine xs_seg 2 (pc' := 6) (ls' := [(2, .int y), (0, .ref 74), (1, .int (nI o))]) (st' := [.int y]) (w' := w) (cs' := 0) (ss' := 0) ?_ (fun _ _ => rfl)
    refine xs_cl (as := [.int y]) (rv := some (.int u)) (st' := [.int u]) (cs' := 0) (ss' := 0) (k1 := 1) rfl rfl rfl rfl rfl rfl (Nat.ble_eq_true_of_le (by omega)) ru ?_
    refine xs_seg 2 (pc' := 11) (ls' := [(3, .int u), (2, .int y), (0, .ref 74), (1, .int (nI o))]) (st' := [.int y]) (w' := w) (cs' := 0) (ss' := 0) ?_ (fun _ _ => rfl)
    refine xs_cl (as := [.int y]) (rv := some (.int z)) (st' := [.int z]) (cs' := 0) (ss' := 0) (k1 := 1) rfl rfl rfl rfl rfl rfl (Nat.ble_eq_true_of_le (by omega)) rz ?_
    unfold rd_5 at he
    by_cases d : 48 ≤ rd_s B n q ∧ rd_s B n q ≤ 57
    · have z1 : z = 1 := (ez.resolve_right (fun e => e.2 d)).1
      subst z1
      rw [if_pos d] at he
      cases he
      have hqn := rd_sl (by decide) d.1
      obtain ⟨w2, r2, s2, f2⟩ := rp_rn h hq (by omega)
      refine xs_if false rfl rfl ?_
      refine xs_seg 1 (pc' := 18) (ls' := [(3, .int u), (2, .int y), (0, .ref 74), (1, .int (nI o))]) (st' := [.ref 74]) (w' := w) (cs' := 0) (ss' := 0) ?_ (fun _ _ => rfl)
      refine xs_cl (as := [.ref 74]) (rv := none) (st' := []) (cs' := 0) (ss' := 0) (k1 := 9) rfl rfl rfl rfl rfl rfl (Nat.ble_eq_true_of_le (by omega)) r2 ?_
      refine xs_seg 1 (pc' := 127) (ls' := [(3, .int u), (2, .int y), (0, .ref 74), (1, .int (nI o))]) (st' := []) (w' := w2) (cs' := 0) (ss' := 0) ?_ (fun _ _ => rfl)
      exact ⟨_, go_end 1 (fun _ _ => rfl), rfl, rp_QT s2 f2⟩
    · have z1 : z = 0 := (ez.resolve_left (fun e => d e.2)).1
      subst z1
      rw [if_neg d] at he
      refine xs_if true rfl rfl ?_
      refine xs_seg 1 (pc' := 25) (ls' := [(3, .int u), (2, .int y), (0, .ref 74), (1, .int (nI o))]) (st' := [.int u]) (w' := w) (cs' := 0) (ss' := 0) ?_ (fun _ _ => rfl)
      by_cases m : 0 ≤ rd_nm (rd_s B n q)
      · rw [if_pos m] at he
        cases he
        have hqn : q < n := by
          by_cases z : q < n
          · exact z
          · rw [rd_nmn (by unfold rd_s; rw [if_neg z]; decide)] at m
            omega
        refine xs_if false rfl (br_lt_f (b := 0) rfl (by rw [eu]; omega)) ?_
        refine xs_seg 2 (pc' := 30) (ls' := [(3, .int u), (2, .int y), (0, .ref 74), (1, .int (nI o))]) (st' := [.ref 74, .ref 74]) (w' := w) (cs' := 0) (ss' := 0) ?_ (fun _ _ => rfl)
        refine xs_gf (z := .int (nI q)) rfl h.1.1 rfl rfl h.2.1 ?_
        refine xs_seg 2 (pc' := 35) (ls' := [(3, .int u), (2, .int y), (0, .ref 74), (1, .int (nI o))]) (st' := [.int ((nI q) + 1), .ref 74]) (w' := w) (cs' := 0) (ss' := 0) ?_ (fun _ _ => rfl)
        refine xs_pf rfl h.1.1 rfl rfl rfl rfl (sh_i32 _) (fun w2 t2 f2 e2 => ?_)
        obtain ⟨s2, fa⟩ := rp_pl h (by omega) t2 f2 e2
        obtain ⟨w3, r3, s3, f3⟩ := rp_em (x := -1 - u) s2 (by omega)
        have hu : rd_nm (rd_s B n q) ≤ 5 := by
          unfold rd_nm
          repeat' split
          all_goals decide
        have eu2 : (-1 - u).toInt = -1 - rd_nm (rd_s B n q) := by
          rw [Int32.toInt_sub, eu, show (-1 : Int32).toInt = -1 from rfl]
          exact Int.bmod_eq_of_le (by omega) (by omega)
        rw [eu2] at s3
        refine xs_seg 4 (pc' := 42) (ls' := [(3, .int u), (2, .int y), (0, .ref 74), (1, .int (nI o))]) (st' := [.int ((-1) - u), .ref 74]) (w' := w2) (cs' := 0) (ss' := 0) ?_ (fun _ _ => rfl)
        refine xs_cl (as := [.ref 74, .int ((-1) - u)]) (rv := none) (st' := []) (cs' := 0) (ss' := 0) (k1 := 6) rfl rfl rfl rfl rfl rfl (Nat.ble_eq_true_of_le (by omega)) r3 ?_
        refine xs_seg 1 (pc' := 127) (ls' := [(3, .int u), (2, .int y), (0, .ref 74), (1, .int (nI o))]) (st' := []) (w' := w3) (cs' := 0) (ss' := 0) ?_ (fun _ _ => rfl)
        exact ⟨_, go_end 1 (fun _ _ => rfl), rfl, rp_QT s3 (sx_Fr_trans fa f3)⟩
      · rw [if_neg m] at he
        refine xs_if true rfl (br_lt_t (b := 0) rfl (by rw [eu]; omega)) ?_
        refine xs_seg 2 (pc' := 50) (ls' := [(3, .int u), (2, .int y), (0, .ref 74), (1, .int (nI o))]) (st' := [.int 5, .int (nI o)]) (w' := w) (cs' := 0) (ss' := 0) ?_ (fun _ _ => rfl)
        by_cases o5 : 5 ≤ o
        · rw [if_neg (fun z => by omega), if_neg (fun z => by omega)] at he
          cases he
          obtain ⟨w2, r2, s2, f2⟩ := rp_nf h
          refine xs_cmp true rfl (br_ge_t (b := 5) rfl (by rw [nI_toInt (by omega)]; omega)) ?_
          refine xs_seg 2 (pc' := 89) (ls' := [(3, .int u), (2, .int y), (0, .ref 74), (1, .int (nI o))]) (st' := [.int 5, .int (nI o)]) (w' := w) (cs' := 0) (ss' := 0) ?_ (fun _ _ => rfl)
          refine xs_cmp true rfl (br_ge_t (b := 5) rfl (by rw [nI_toInt (by omega)]; omega)) ?_
          refine xs_seg 1 (pc' := 124) (ls' := [(3, .int u), (2, .int y), (0, .ref 74), (1, .int (nI o))]) (st' := [.ref 74]) (w' := w) (cs' := 0) (ss' := 0) ?_ (fun _ _ => rfl)
          refine xs_cl (as := [.ref 74]) (rv := none) (st' := []) (cs' := 0) (ss' := 0) (k1 := 3) rfl rfl rfl rfl rfl rfl (Nat.ble_eq_true_of_le (by omega)) r2 ?_
          exact ⟨_, go_end 1 (fun _ _ => rfl), rfl, rp_QF s2 f2⟩
        have o4 : o < 5 := by omega
        refine xs_cmp false rfl (br_ge_f (b := 5) rfl (by rw [nI_toInt (by omega)]; omega)) ?_
        refine xs_seg 2 (pc' := 56) (ls' := [(3, .int u), (2, .int y), (0, .ref 74), (1, .int (nI o))]) (st' := [.int 33, .int y]) (w' := w) (cs' := 0) (ss' := 0) ?_ (fun _ _ => rfl)
        by_cases c33 : rd_s B n q = 33
        · rw [if_pos ⟨o4, c33⟩] at he
          have hqn := rd_sn (by decide) c33
          have y33 : y = 33 := Int32.toInt_inj.mp (by rw [ey, c33]; rfl)
          subst y33
          refine xs_cmp false rfl (by decide) ?_
          refine xs_seg 2 (pc' := 61) (ls' := [(3, .int u), (2, .int 33), (0, .ref 74), (1, .int (nI o))]) (st' := [.ref 74, .ref 74]) (w' := w) (cs' := 0) (ss' := 0) ?_ (fun _ _ => rfl)
          refine xs_gf (z := .int (nI q)) rfl h.1.1 rfl rfl h.2.1 ?_
          refine xs_seg 2 (pc' := 66) (ls' := [(3, .int u), (2, .int 33), (0, .ref 74), (1, .int (nI o))]) (st' := [.int ((nI q) + 1), .ref 74]) (w' := w) (cs' := 0) (ss' := 0) ?_ (fun _ _ => rfl)
          refine xs_pf rfl h.1.1 rfl rfl rfl rfl (sh_i32 _) (fun w2 t2 f2 e2 => ?_)
          obtain ⟨s2, fa⟩ := rp_pl h (by omega) t2 f2 e2
          refine xs_seg 4 (pc' := 73) (ls' := [(3, .int u), (2, .int 33), (0, .ref 74), (1, .int (nI o))]) (st' := [.int (nI (o + 1)), .ref 74]) (w' := w2) (cs' := 0) (ss' := 0) ?_ (fun _ _ => by rw [nI_succ]; rfl)
          rcases rd_b_of he with ⟨q0, a0, h1, h2⟩ | ⟨rfl, h1⟩
          · cases h2
            obtain ⟨b1, b2, b3⟩ := rd_bd _ _ _ _ _ _ _ _ h1 (by omega)
            have b3 := b3 rfl
            obtain ⟨w3, r3, s3⟩ := hS (o + 1) (q + 1) a true q1 a0 w2 (by omega) h1 s2 (by omega) (by omega)
            obtain ⟨w4, r4, s4, f4⟩ := rp_em (x := -133) (rp_QS s3) (by omega)
            refine xs_cl (as := [.ref 74, .int (nI (o + 1))]) (rv := none) (st' := []) (cs' := 0) (ss' := 0) (k1 := (19 + 8 * (5 - (o + 1)))) rfl rfl rfl rfl rfl rfl (Nat.ble_eq_true_of_le (by omega)) r3 ?_
            refine xs_seg 4 (pc' := 81) (ls' := [(3, .int u), (2, .int 33), (0, .ref 74), (1, .int (nI o))]) (st' := [.int (-133), .ref 74]) (w' := w3) (cs' := 0) (ss' := 0) ?_ (fun _ _ => rfl)
            refine xs_cl (as := [.ref 74, .int (-133)]) (rv := none) (st' := []) (cs' := 0) (ss' := 0) (k1 := 6) rfl rfl rfl rfl rfl rfl (Nat.ble_eq_true_of_le (by omega)) r4 ?_
            refine xs_seg 1 (pc' := 127) (ls' := [(3, .int u), (2, .int 33), (0, .ref 74), (1, .int (nI o))]) (st' := []) (w' := w4) (cs' := 0) (ss' := 0) ?_ (fun _ _ => rfl)
            exact ⟨_, go_end 1 (fun _ _ => rfl), rfl, rp_QT s4 (sx_Fr_trans fa (sx_Fr_trans s3.1 f4))⟩
          · obtain ⟨b1, b2, _⟩ := rd_bd _ _ _ _ _ _ _ _ h1 (by omega)
            obtain ⟨w3, r3, s3⟩ := hS (o + 1) (q + 1) a false q1 a1 w2 (by omega) h1 s2 (by omega) (by omega)
            obtain ⟨w4, r4, s4, f4⟩ := rp_ef (x := -133) (rp_QG s3)
            refine xs_cl (as := [.ref 74, .int (nI (o + 1))]) (rv := none) (st' := []) (cs' := 0) (ss' := 0) (k1 := (19 + 8 * (5 - (o + 1)))) rfl rfl rfl rfl rfl rfl (Nat.ble_eq_true_of_le (by omega)) r3 ?_
            refine xs_seg 4 (pc' := 81) (ls' := [(3, .int u), (2, .int 33), (0, .ref 74), (1, .int (nI o))]) (st' := [.int (-133), .ref 74]) (w' := w3) (cs' := 0) (ss' := 0) ?_ (fun _ _ => rfl)
            refine xs_cl (as := [.ref 74, .int (-133)]) (rv := none) (st' := []) (cs' := 0) (ss' := 0) (k1 := 6) rfl rfl rfl rfl rfl rfl (Nat.ble_eq_true_of_le (by omega)) r4 ?_
            refine xs_seg 1 (pc' := 127) (ls' := [(3, .int u), (2, .int 33), (0, .ref 74), (1, .int (nI o))]) (st' := []) (w' := w4) (cs' := 0) (ss' := 0) ?_ (fun _ _ => rfl)
            exact ⟨_, go_end 1 (fun _ _ => rfl), rfl, rp_QF s4 (sx_Fr_trans fa (sx_Fr_trans s3.1 f4))⟩
        rw [if_neg (fun z => c33 z.2)] at he
        refine xs_cmp true rfl (br_ne_t (b := 33) rfl (by rw [ey]; exact c33)) ?_
        refine xs_seg 2 (pc' := 89) (ls' := [(3, .int u), (2, .int y), (0, .ref 74), (1, .int (nI o))]) (st' := [.int 5, .int (nI o)]) (w' := w) (cs' := 0) (ss' := 0) ?_ (fun _ _ => rfl)
        refine xs_cmp false rfl (br_ge_f (b := 5) rfl (by rw [nI_toInt (by omega)]; omega)) ?_
        refine xs_seg 2 (pc' := 95) (ls' := [(3, .int u), (2, .int y), (0, .ref 74), (1, .int (nI o))]) (st' := [.int 40, .int y]) (w' := w) (cs' := 0) (ss' := 0) ?_ (fun _ _ => rfl)
        by_cases c40 : rd_s B n q = 40
        · rw [if_pos ⟨o4, c40⟩] at he
          have hqn := rd_sn (by decide) c40
          have y40 : y = 40 := Int32.toInt_inj.mp (by rw [ey, c40]; rfl)
          subst y40
          refine xs_cmp false rfl (by decide) ?_
          refine xs_seg 2 (pc' := 100) (ls' := [(3, .int u), (2, .int 40), (0, .ref 74), (1, .int (nI o))]) (st' := [.ref 74, .ref 74]) (w' := w) (cs' := 0) (ss' := 0) ?_ (fun _ _ => rfl)
          refine xs_gf (z := .int (nI q)) rfl h.1.1 rfl rfl h.2.1 ?_
          refine xs_seg 2 (pc' := 105) (ls' := [(3, .int u), (2, .int 40), (0, .ref 74), (1, .int (nI o))]) (st' := [.int ((nI q) + 1), .ref 74]) (w' := w) (cs' := 0) (ss' := 0) ?_ (fun _ _ => rfl)
          refine xs_pf rfl h.1.1 rfl rfl rfl rfl (sh_i32 _) (fun w2 t2 f2 e2 => ?_)
          obtain ⟨s2, fa⟩ := rp_pl h (by omega) t2 f2 e2
          refine xs_seg 5 (pc' := 113) (ls' := [(3, .int u), (2, .int 40), (0, .ref 74), (1, .int (nI o))]) (st' := [.int (nI (o + 1)), .int 0, .ref 74]) (w' := w2) (cs' := 0) (ss' := 0) ?_ (fun _ _ => by rw [nI_succ]; rfl)
          rcases rd_b_of he with ⟨q0, a0, h1, h2⟩ | ⟨rfl, h1⟩
          · obtain ⟨b1, b2, b3⟩ := rd_bd _ _ _ _ _ _ _ _ h1 (by omega)
            have b3 := b3 rfl
            obtain ⟨w3, r3, s3⟩ := hL 0 (o + 1) (q + 1) a true q0 a0 w2 (by omega) (by omega) h1 s2 (by omega) (by omega)
            obtain ⟨w4, r4, s4, f4⟩ := rp_cl (rp_QS s3) b2 (by omega)
            refine xs_cl (as := [.ref 74, .int 0, .int (nI (o + 1))]) (rv := none) (st' := []) (cs' := 0) (ss' := 0) (k1 := (20 + 8 * (5 - (o + 1)) + (5 - 0))) rfl rfl rfl rfl rfl rfl (Nat.ble_eq_true_of_le (by omega)) r3 ?_
            refine xs_seg 1 (pc' := 117) (ls' := [(3, .int u), (2, .int 40), (0, .ref 74), (1, .int (nI o))]) (st' := [.ref 74]) (w' := w3) (cs' := 0) (ss' := 0) ?_ (fun _ _ => rfl)
            refine xs_cl (as := [.ref 74]) (rv := none) (st' := []) (cs' := 0) (ss' := 0) (k1 := 6) rfl rfl rfl rfl rfl rfl (Nat.ble_eq_true_of_le (by omega)) r4 ?_
            refine xs_seg 1 (pc' := 127) (ls' := [(3, .int u), (2, .int 40), (0, .ref 74), (1, .int (nI o))]) (st' := []) (w' := w4) (cs' := 0) (ss' := 0) ?_ (fun _ _ => rfl)
            by_cases c41 : rd_s B n q0 = 41
            · rw [if_pos c41] at h2 s4
              cases h2
              exact ⟨_, go_end 1 (fun _ _ => rfl), rfl, rp_QT s4 (sx_Fr_trans fa (sx_Fr_trans s3.1 f4))⟩
            · rw [if_neg c41] at h2 s4
              cases h2
              exact ⟨_, go_end 1 (fun _ _ => rfl), rfl, rp_QF s4 (sx_Fr_trans fa (sx_Fr_trans s3.1 f4))⟩
          · obtain ⟨b1, b2, _⟩ := rd_bd _ _ _ _ _ _ _ _ h1 (by omega)
            obtain ⟨w3, r3, s3⟩ := hL 0 (o + 1) (q + 1) a false q1 a1 w2 (by omega) (by omega) h1 s2 (by omega) (by omega)
            have r4 := rp_cf (rp_QG s3) (by omega)
            refine xs_cl (as := [.ref 74, .int 0, .int (nI (o + 1))]) (rv := none) (st' := []) (cs' := 0) (ss' := 0) (k1 := (20 + 8 * (5 - (o + 1)) + (5 - 0))) rfl rfl rfl rfl rfl rfl (Nat.ble_eq_true_of_le (by omega)) r3 ?_
            refine xs_seg 1 (pc' := 117) (ls' := [(3, .int u), (2, .int 40), (0, .ref 74), (1, .int (nI o))]) (st' := [.ref 74]) (w' := w3) (cs' := 0) (ss' := 0) ?_ (fun _ _ => rfl)
            refine xs_cl (as := [.ref 74]) (rv := none) (st' := []) (cs' := 0) (ss' := 0) (k1 := 6) rfl rfl rfl rfl rfl rfl (Nat.ble_eq_true_of_le (by omega)) r4 ?_
            refine xs_seg 1 (pc' := 127) (ls' := [(3, .int u), (2, .int 40), (0, .ref 74), (1, .int (nI o))]) (st' := []) (w' := w3) (cs' := 0) (ss' := 0) ?_ (fun _ _ => rfl)
            exact ⟨_, go_end 1 (fun _ _ => rfl), rfl, rp_QF (rp_QG s3) (sx_Fr_trans fa s3.1)⟩
        rw [if_neg (fun z => c40 z.2)] at he
        cases he
        obtain ⟨w2, r2, s2, f2⟩ := rp_nf h
        refine xs_cmp true rfl (br_ne_t (b := 40) rfl (by rw [ey]; exact c40)) ?_
        refine xs_seg 1 (pc' := 124) (ls' := [(3, .int u), (2, .int y), (0, .ref 74), (1, .int (nI o))]) (st' := [.ref 74]) (w' := w) (cs' := 0) (ss' := 0) ?_ (fun _ _ => rfl)
        refine xs_cl (as := [.ref 74]) (rv := none) (st' := []) (cs' := 0) (ss' := 0) (k1 := 3) rfl rfl rfl rfl rfl rfl (Nat.ble_eq_true_of_le (by omega)) r2 ?_
        exact ⟨_, go_end 1 (fun _ _ => rfl), rfl, rp_QF s2 f2⟩
  obtain ⟨⟨r, w1⟩, g, e, h1⟩ := key
  have e : r = none := e
  subst e
  exact ⟨w1, ru_mono (ru_of (k := 18 + 8 * (5 - o)) (M := pm_70) rfl (by rw [Bool.and_eq_true]; exact ⟨rfl, sq_rcv h.1.1 rfl rfl rfl⟩) g) (by omega), h1⟩
theorem rp_lp {B : Nat → Int} {n f : Nat} (hB : ∀ i, i < n → 0 ≤ B i ∧ B i ≤ 255) (hL : rp_RL B n f) (hP : rp_LP B n f) : rp_LP B n (f + 1) := by
  intro L o q i a ok q1 a1 w hL5 ho he h hq hl hi
  have hn := h.1.2.2.2.1
  have he : rd_6 B n (rd B n f) (6 + L - 6) o q a = some (ok, q1, a1) := by
    have he : rd_S B n (rd B n f) (6 + L) o q a = some (ok, q1, a1) := he
    unfold rd_S at he
    rw [if_neg (by omega), if_neg (by omega)] at he
    exact he
  rw [show 6 + L - 6 = L by omega] at he
  unfold rd_6 at he
  obtain ⟨y, ry, ey⟩ := rp_sg h.1 h.2.1 hq
  obtain ⟨u, ru, eu⟩ := rp_lv y w
  rw [ey] at eu
  have bs : -1 ≤ rd_s B n q ∧ rd_s B n q ≤ 255 := by
    unfold rd_s
    split
    · have := hB q (by assumption)
      omega
    · omega
  have ey2 : (-100 - y).toInt = -100 - rd_s B n q := by
    rw [Int32.toInt_sub, ey, show (-100 : Int32).toInt = -100 from rfl]
    exact Int.bmod_eq_of_le (by omega) (by omega)
  constructor
  · skip
    refine xs_seg 2 (pc' := 24) (ls' := [(3, .int (nI i)), (0, .ref 74), (1, .int (nI L)), (2, .int (nI o))]) (st' := [.int 60, .int (nI i)]) (w' := w) (cs' := 0) (ss' := 0) ?_ (fun _ _ => rfl)
    by_cases i60 : 60 ≤ i
    · rw [if_neg (by rw [rd_lvn (by unfold rd_s; rw [if_neg (by omega)]; decide)]; omega)] at he
      cases he
      refine xs_cmp true rfl (br_ge_t (b := 60) rfl (by rw [nI_toInt (by omega)]; omega)) ?_
      exact ⟨_, go_end 1 (fun _ _ => rfl), rfl, rp_QT h (sx_Fr_refl _ _)⟩
    refine xs_cmp false rfl (br_ge_f (b := 60) rfl (by rw [nI_toInt (by omega)]; omega)) ?_
    refine xs_seg 1 (pc' := 28) (ls' := [(3, .int (nI i)), (0, .ref 74), (1, .int (nI L)), (2, .int (nI o))]) (st' := [.ref 74]) (w' := w) (cs' := 0) (ss' := 0) ?_ (fun _ _ => rfl)
    refine xs_gf (z := .int (-1)) rfl h.1.1 rfl rfl h.2.2.1 ?_
    refine xs_if false rfl rfl ?_
    refine xs_seg 1 (pc' := 35) (ls' := [(3, .int (nI i)), (0, .ref 74), (1, .int (nI L)), (2, .int (nI o))]) (st' := [.ref 74]) (w' := w) (cs' := 0) (ss' := 0) ?_ (fun _ _ => rfl)
    refine xs_cl (as := [.ref 74]) (rv := some (.int y)) (st' := [.int y]) (cs' := 0) (ss' := 0) (k1 := 2) rfl rfl rfl rfl rfl rfl (Nat.ble_eq_true_of_le (by omega)) ry ?_
    refine xs_cl (as := [.int y]) (rv := some (.int u)) (st' := [.int u]) (cs' := 0) (ss' := 0) (k1 := 1) rfl rfl rfl rfl rfl rfl (Nat.ble_eq_true_of_le (by omega)) ru ?_
    refine xs_seg 1 (pc' := 42) (ls' := [(3, .int (nI i)), (0, .ref 74), (1, .int (nI L)), (2, .int (nI o))]) (st' := [.int (nI L), .int u]) (w' := w) (cs' := 0) (ss' := 0) ?_ (fun _ _ => rfl)
    by_cases lv : rd_lv (rd_s B n q) = (L : Int)
    · rw [if_pos lv] at he
      have hqn : q < n := by
        by_cases z : q < n
        · exact z
        · rw [rd_lvn (by unfold rd_s; rw [if_neg z]; decide)] at lv
          omega
      refine xs_cmp false rfl (decide_eq_false (fun z => z (Int32.toInt_inj.mp (by rw [eu, lv, nI_toInt (by omega)])))) ?_
      refine xs_seg 1 (pc' := 46) (ls' := [(3, .int (nI i)), (0, .ref 74), (1, .int (nI L)), (2, .int (nI o))]) (st' := [.ref 74]) (w' := w) (cs' := 0) (ss' := 0) ?_ (fun _ _ => rfl)
      refine xs_cl (as := [.ref 74]) (rv := some (.int y)) (st' := [.int y]) (cs' := 0) (ss' := 0) (k1 := 2) rfl rfl rfl rfl rfl rfl (Nat.ble_eq_true_of_le (by omega)) ry ?_
      refine xs_seg 3 (pc' := 53) (ls' := [(4, .int y), (3, .int (nI i)), (0, .ref 74), (1, .int (nI L)), (2, .int (nI o))]) (st' := [.ref 74, .ref 74]) (w' := w) (cs' := 0) (ss' := 0) ?_ (fun _ _ => rfl)
      refine xs_gf (z := .int (nI q)) rfl h.1.1 rfl rfl h.2.1 ?_
      refine xs_seg 2 (pc' := 58) (ls' := [(4, .int y), (3, .int (nI i)), (0, .ref 74), (1, .int (nI L)), (2, .int (nI o))]) (st' := [.int ((nI q) + 1), .ref 74]) (w' := w) (cs' := 0) (ss' := 0) ?_ (fun _ _ => rfl)
      refine xs_pf rfl h.1.1 rfl rfl rfl rfl (sh_i32 _) (fun w2 t2 f2 e2 => ?_)
      obtain ⟨s2, fa⟩ := rp_pl h (by omega) t2 f2 e2
      refine xs_seg 5 (pc' := 66) (ls' := [(4, .int y), (3, .int (nI i)), (0, .ref 74), (1, .int (nI L)), (2, .int (nI o))]) (st' := [.int (nI o), .int (nI (L + 1)), .ref 74]) (w' := w2) (cs' := 0) (ss' := 0) ?_ (fun _ _ => by rw [nI_succ]; rfl)
      rcases rd_b_of he with ⟨q0, a0, h1, h2⟩ | ⟨rfl, h1⟩
      · obtain ⟨b1, b2, b3⟩ := rd_bd _ _ _ _ _ _ _ _ h1 (by omega)
        have b3 := b3 rfl
        have b4 := b3.2 (by omega)
        obtain ⟨w3, r3, s3⟩ := hL (L + 1) o (q + 1) a true q0 a0 w2 (by omega) ho h1 s2 (by omega) (by omega)
        obtain ⟨w4, r4, s4, f4⟩ := rp_em (x := -100 - y) (rp_QS s3) (by omega)
        rw [ey2] at s4
        have fw : sx_Fr rp_A w w4 := sx_Fr_trans fa (sx_Fr_trans s3.1 f4)
        refine xs_cl (as := [.ref 74, .int (nI (L + 1)), .int (nI o)]) (rv := none) (st' := []) (cs' := 0) (ss' := 0) (k1 := (20 + 8 * (5 - o) + (5 - (L + 1)))) rfl rfl rfl rfl rfl rfl (Nat.ble_eq_true_of_le (by omega)) r3 ?_
        refine xs_seg 4 (pc' := 75) (ls' := [(4, .int y), (3, .int (nI i)), (0, .ref 74), (1, .int (nI L)), (2, .int (nI o))]) (st' := [.int (-100 - y), .ref 74]) (w' := w3) (cs' := 0) (ss' := 0) ?_ (fun _ _ => rfl)
        refine xs_cl (as := [.ref 74, .int (-100 - y)]) (rv := none) (st' := []) (cs' := 0) (ss' := 0) (k1 := 6) rfl rfl rfl rfl rfl rfl (Nat.ble_eq_true_of_le (by omega)) r4 ?_
        refine xs_seg 2 (pc' := 80) (ls' := [(4, .int y), (3, .int (nI i)), (0, .ref 74), (1, .int (nI L)), (2, .int (nI o))]) (st' := [.int 2, .int (nI L)]) (w' := w4) (cs' := 0) (ss' := 0) ?_ (fun _ _ => rfl)
        by_cases l2 : L = 2
        · rw [if_pos l2] at h2
          cases h2
          refine xs_cmp false rfl (decide_eq_false (fun z => z (by rw [l2]; rfl))) ?_
          exact ⟨_, go_end 1 (fun _ _ => rfl), rfl, rp_QT s4 fw⟩
        · rw [if_neg l2] at h2
          refine xs_cmp true rfl (br_ne_t (b := 2) rfl (by rw [nI_toInt (by omega)]; omega)) ?_
          refine xs_seg 2 (pc' := 21) (ls' := [(3, .int (nI (i + 1))), (4, .int y), (0, .ref 74), (1, .int (nI L)), (2, .int (nI o))]) (st' := []) (w' := w4) (cs' := 0) (ss' := 0) ?_ (fun _ _ => by rw [nI_succ]; rfl)
          obtain ⟨res, g, e1, e2⟩ := (hP L o q0 (i + 1) _ ok q1 a1 w4 hL5 ho h2 s4 b2 (by rw [List.length_append]; show a0.length + 1 ≤ _; omega) (by omega)).2 y
          exact ⟨res, g, e1, rp_Qt fw e2⟩
      · obtain ⟨b1, b2, _⟩ := rd_bd _ _ _ _ _ _ _ _ h1 (by omega)
        obtain ⟨w3, r3, s3⟩ := hL (L + 1) o (q + 1) a false q1 a1 w2 (by omega) ho h1 s2 (by omega) (by omega)
        obtain ⟨w4, r4, s4, f4⟩ := rp_ef (x := -100 - y) (rp_QG s3)
        have fw : sx_Fr rp_A w w4 := sx_Fr_trans fa (sx_Fr_trans s3.1 f4)
        refine xs_cl (as := [.ref 74, .int (nI (L + 1)), .int (nI o)]) (rv := none) (st' := []) (cs' := 0) (ss' := 0) (k1 := (20 + 8 * (5 - o) + (5 - (L + 1)))) rfl rfl rfl rfl rfl rfl (Nat.ble_eq_true_of_le (by omega)) r3 ?_
        refine xs_seg 4 (pc' := 75) (ls' := [(4, .int y), (3, .int (nI i)), (0, .ref 74), (1, .int (nI L)), (2, .int (nI o))]) (st' := [.int (-100 - y), .ref 74]) (w' := w3) (cs' := 0) (ss' := 0) ?_ (fun _ _ => rfl)
        refine xs_cl (as := [.ref 74, .int (-100 - y)]) (rv := none) (st' := []) (cs' := 0) (ss' := 0) (k1 := 6) rfl rfl rfl rfl rfl rfl (Nat.ble_eq_true_of_le (by omega)) r4 ?_
        refine xs_seg 2 (pc' := 80) (ls' := [(4, .int y), (3, .int (nI i)), (0, .ref 74), (1, .int (nI L)), (2, .int (nI o))]) (st' := [.int 2, .int (nI L)]) (w' := w4) (cs' := 0) (ss' := 0) ?_ (fun _ _ => rfl)
        by_cases l2 : L = 2
        · refine xs_cmp false rfl (decide_eq_false (fun z => z (by rw [l2]; rfl))) ?_
          exact ⟨_, go_end 1 (fun _ _ => rfl), rfl, rp_QF s4 fw⟩
        · refine xs_cmp true rfl (br_ne_t (b := 2) rfl (by rw [nI_toInt (by omega)]; omega)) ?_
          refine xs_seg 2 (pc' := 21) (ls' := [(3, .int (nI (i + 1))), (4, .int y), (0, .ref 74), (1, .int (nI L)), (2, .int (nI o))]) (st' := []) (w' := w4) (cs' := 0) (ss' := 0) ?_ (fun _ _ => by rw [nI_succ]; rfl)
          refine xs_seg 2 (pc' := 24) (ls' := [(3, .int (nI (i + 1))), (4, .int y), (0, .ref 74), (1, .int (nI L)), (2, .int (nI o))]) (st' := [.int 60, .int (nI (i + 1))]) (w' := w4) (cs' := 0) (ss' := 0) ?_ (fun _ _ => rfl)
          by_cases j60 : 60 ≤ i + 1
          · refine xs_cmp true rfl (br_ge_t (b := 60) rfl (by rw [nI_toInt (by omega)]; omega)) ?_
            exact ⟨_, go_end 1 (fun _ _ => rfl), rfl, rp_QF s4 fw⟩
          · refine xs_cmp false rfl (br_ge_f (b := 60) rfl (by rw [nI_toInt (by omega)]; omega)) ?_
            refine xs_seg 1 (pc' := 28) (ls' := [(3, .int (nI (i + 1))), (4, .int y), (0, .ref 74), (1, .int (nI L)), (2, .int (nI o))]) (st' := [.ref 74]) (w' := w4) (cs' := 0) (ss' := 0) ?_ (fun _ _ => rfl)
            refine xs_gf (z := .int (nI q1)) rfl s4.1.1 rfl rfl s4.2 ?_
            refine xs_if true rfl (br_ge_t (b := 0) rfl (by rw [nI_toInt (by omega)]; omega)) ?_
            exact ⟨_, go_end 1 (fun _ _ => rfl), rfl, rp_QF s4 fw⟩
    · rw [if_neg lv] at he
      cases he
      refine xs_cmp true rfl (decide_eq_true (fun z => lv (by rw [← eu, z, nI_toInt (by omega)]))) ?_
      exact ⟨_, go_end 1 (fun _ _ => rfl), rfl, rp_QT h (sx_Fr_refl _ _)⟩
  · intro y0
    refine xs_seg 2 (pc' := 24) (ls' := [(3, .int (nI i)), (4, .int y0), (0, .ref 74), (1, .int (nI L)), (2, .int (nI o))]) (st' := [.int 60, .int (nI i)]) (w' := w) (cs' := 0) (ss' := 0) ?_ (fun _ _ => rfl)
    by_cases i60 : 60 ≤ i
    · rw [if_neg (by rw [rd_lvn (by unfold rd_s; rw [if_neg (by omega)]; decide)]; omega)] at he
      cases he
      refine xs_cmp true rfl (br_ge_t (b := 60) rfl (by rw [nI_toInt (by omega)]; omega)) ?_
      exact ⟨_, go_end 1 (fun _ _ => rfl), rfl, rp_QT h (sx_Fr_refl _ _)⟩
    refine xs_cmp false rfl (br_ge_f (b := 60) rfl (by rw [nI_toInt (by omega)]; omega)) ?_
    refine xs_seg 1 (pc' := 28) (ls' := [(3, .int (nI i)), (4, .int y0), (0, .ref 74), (1, .int (nI L)), (2, .int (nI o))]) (st' := [.ref 74]) (w' := w) (cs' := 0) (ss' := 0) ?_ (fun _ _ => rfl)
    refine xs_gf (z := .int (-1)) rfl h.1.1 rfl rfl h.2.2.1 ?_
    refine xs_if false rfl rfl ?_
    refine xs_seg 1 (pc' := 35) (ls' := [(3, .int (nI i)), (4, .int y0), (0, .ref 74), (1, .int (nI L)), (2, .int (nI o))]) (st' := [.ref 74]) (w' := w) (cs' := 0) (ss' := 0) ?_ (fun _ _ => rfl)
    refine xs_cl (as := [.ref 74]) (rv := some (.int y)) (st' := [.int y]) (cs' := 0) (ss' := 0) (k1 := 2) rfl rfl rfl rfl rfl rfl (Nat.ble_eq_true_of_le (by omega)) ry ?_
    refine xs_cl (as := [.int y]) (rv := some (.int u)) (st' := [.int u]) (cs' := 0) (ss' := 0) (k1 := 1) rfl rfl rfl rfl rfl rfl (Nat.ble_eq_true_of_le (by omega)) ru ?_
    refine xs_seg 1 (pc' := 42) (ls' := [(3, .int (nI i)), (4, .int y0), (0, .ref 74), (1, .int (nI L)), (2, .int (nI o))]) (st' := [.int (nI L), .int u]) (w' := w) (cs' := 0) (ss' := 0) ?_ (fun _ _ => rfl)
    by_cases lv : rd_lv (rd_s B n q) = (L : Int)
    · rw [if_pos lv] at he
      have hqn : q < n := by
        by_cases z : q < n
        · exact z
        · rw [rd_lvn (by unfold rd_s; rw [if_neg z]; decide)] at lv
          omega
      refine xs_cmp false rfl (decide_eq_false (fun z => z (Int32.toInt_inj.mp (by rw [eu, lv, nI_toInt (by omega)])))) ?_
      refine xs_seg 1 (pc' := 46) (ls' := [(3, .int (nI i)), (4, .int y0), (0, .ref 74), (1, .int (nI L)), (2, .int (nI o))]) (st' := [.ref 74]) (w' := w) (cs' := 0) (ss' := 0) ?_ (fun _ _ => rfl)
      refine xs_cl (as := [.ref 74]) (rv := some (.int y)) (st' := [.int y]) (cs' := 0) (ss' := 0) (k1 := 2) rfl rfl rfl rfl rfl rfl (Nat.ble_eq_true_of_le (by omega)) ry ?_
      refine xs_seg 3 (pc' := 53) (ls' := [(4, .int y), (3, .int (nI i)), (0, .ref 74), (1, .int (nI L)), (2, .int (nI o))]) (st' := [.ref 74, .ref 74]) (w' := w) (cs' := 0) (ss' := 0) ?_ (fun _ _ => rfl)
      refine xs_gf (z := .int (nI q)) rfl h.1.1 rfl rfl h.2.1 ?_
      refine xs_seg 2 (pc' := 58) (ls' := [(4, .int y), (3, .int (nI i)), (0, .ref 74), (1, .int (nI L)), (2, .int (nI o))]) (st' := [.int ((nI q) + 1), .ref 74]) (w' := w) (cs' := 0) (ss' := 0) ?_ (fun _ _ => rfl)
      refine xs_pf rfl h.1.1 rfl rfl rfl rfl (sh_i32 _) (fun w2 t2 f2 e2 => ?_)
      obtain ⟨s2, fa⟩ := rp_pl h (by omega) t2 f2 e2
      refine xs_seg 5 (pc' := 66) (ls' := [(4, .int y), (3, .int (nI i)), (0, .ref 74), (1, .int (nI L)), (2, .int (nI o))]) (st' := [.int (nI o), .int (nI (L + 1)), .ref 74]) (w' := w2) (cs' := 0) (ss' := 0) ?_ (fun _ _ => by rw [nI_succ]; rfl)
      rcases rd_b_of he with ⟨q0, a0, h1, h2⟩ | ⟨rfl, h1⟩
      · obtain ⟨b1, b2, b3⟩ := rd_bd _ _ _ _ _ _ _ _ h1 (by omega)
        have b3 := b3 rfl
        have b4 := b3.2 (by omega)
        obtain ⟨w3, r3, s3⟩ := hL (L + 1) o (q + 1) a true q0 a0 w2 (by omega) ho h1 s2 (by omega) (by omega)
        obtain ⟨w4, r4, s4, f4⟩ := rp_em (x := -100 - y) (rp_QS s3) (by omega)
        rw [ey2] at s4
        have fw : sx_Fr rp_A w w4 := sx_Fr_trans fa (sx_Fr_trans s3.1 f4)
        refine xs_cl (as := [.ref 74, .int (nI (L + 1)), .int (nI o)]) (rv := none) (st' := []) (cs' := 0) (ss' := 0) (k1 := (20 + 8 * (5 - o) + (5 - (L + 1)))) rfl rfl rfl rfl rfl rfl (Nat.ble_eq_true_of_le (by omega)) r3 ?_
        refine xs_seg 4 (pc' := 75) (ls' := [(4, .int y), (3, .int (nI i)), (0, .ref 74), (1, .int (nI L)), (2, .int (nI o))]) (st' := [.int (-100 - y), .ref 74]) (w' := w3) (cs' := 0) (ss' := 0) ?_ (fun _ _ => rfl)
        refine xs_cl (as := [.ref 74, .int (-100 - y)]) (rv := none) (st' := []) (cs' := 0) (ss' := 0) (k1 := 6) rfl rfl rfl rfl rfl rfl (Nat.ble_eq_true_of_le (by omega)) r4 ?_
        refine xs_seg 2 (pc' := 80) (ls' := [(4, .int y), (3, .int (nI i)), (0, .ref 74), (1, .int (nI L)), (2, .int (nI o))]) (st' := [.int 2, .int (nI L)]) (w' := w4) (cs' := 0) (ss' := 0) ?_ (fun _ _ => rfl)
        by_cases l2 : L = 2
        · rw [if_pos l2] at h2
          cases h2
          refine xs_cmp false rfl (decide_eq_false (fun z => z (by rw [l2]; rfl))) ?_
          exact ⟨_, go_end 1 (fun _ _ => rfl), rfl, rp_QT s4 fw⟩
        · rw [if_neg l2] at h2
          refine xs_cmp true rfl (br_ne_t (b := 2) rfl (by rw [nI_toInt (by omega)]; omega)) ?_
          refine xs_seg 2 (pc' := 21) (ls' := [(3, .int (nI (i + 1))), (4, .int y), (0, .ref 74), (1, .int (nI L)), (2, .int (nI o))]) (st' := []) (w' := w4) (cs' := 0) (ss' := 0) ?_ (fun _ _ => by rw [nI_succ]; rfl)
          obtain ⟨res, g, e1, e2⟩ := (hP L o q0 (i + 1) _ ok q1 a1 w4 hL5 ho h2 s4 b2 (by rw [List.length_append]; show a0.length + 1 ≤ _; omega) (by omega)).2 y
          exact ⟨res, g, e1, rp_Qt fw e2⟩
      · obtain ⟨b1, b2, _⟩ := rd_bd _ _ _ _ _ _ _ _ h1 (by omega)
        obtain ⟨w3, r3, s3⟩ := hL (L + 1) o (q + 1) a false q1 a1 w2 (by omega) ho h1 s2 (by omega) (by omega)
        obtain ⟨w4, r4, s4, f4⟩ := rp_ef (x := -100 - y) (rp_QG s3)
        have fw : sx_Fr rp_A w w4 := sx_Fr_trans fa (sx_Fr_trans s3.1 f4)
        refine xs_cl (as := [.ref 74, .int (nI (L + 1)), .int (nI o)]) (rv := none) (st' := []) (cs' := 0) (ss' := 0) (k1 := (20 + 8 * (5 - o) + (5 - (L + 1)))) rfl rfl rfl rfl rfl rfl (Nat.ble_eq_true_of_le (by omega)) r3 ?_
        refine xs_seg 4 (pc' := 75) (ls' := [(4, .int y), (3, .int (nI i)), (0, .ref 74), (1, .int (nI L)), (2, .int (nI o))]) (st' := [.int (-100 - y), .ref 74]) (w' := w3) (cs' := 0) (ss' := 0) ?_ (fun _ _ => rfl)
        refine xs_cl (as := [.ref 74, .int (-100 - y)]) (rv := none) (st' := []) (cs' := 0) (ss' := 0) (k1 := 6) rfl rfl rfl rfl rfl rfl (Nat.ble_eq_true_of_le (by omega)) r4 ?_
        refine xs_seg 2 (pc' := 80) (ls' := [(4, .int y), (3, .int (nI i)), (0, .ref 74), (1, .int (nI L)), (2, .int (nI o))]) (st' := [.int 2, .int (nI L)]) (w' := w4) (cs' := 0) (ss' := 0) ?_ (fun _ _ => rfl)
        by_cases l2 : L = 2
        · refine xs_cmp false rfl (decide_eq_false (fun z => z (by rw [l2]; rfl))) ?_
          exact ⟨_, go_end 1 (fun _ _ => rfl), rfl, rp_QF s4 fw⟩
        · refine xs_cmp true rfl (br_ne_t (b := 2) rfl (by rw [nI_toInt (by omega)]; omega)) ?_
          refine xs_seg 2 (pc' := 21) (ls' := [(3, .int (nI (i + 1))), (4, .int y), (0, .ref 74), (1, .int (nI L)), (2, .int (nI o))]) (st' := []) (w' := w4) (cs' := 0) (ss' := 0) ?_ (fun _ _ => by rw [nI_succ]; rfl)
          refine xs_seg 2 (pc' := 24) (ls' := [(3, .int (nI (i + 1))), (4, .int y), (0, .ref 74), (1, .int (nI L)), (2, .int (nI o))]) (st' := [.int 60, .int (nI (i + 1))]) (w' := w4) (cs' := 0) (ss' := 0) ?_ (fun _ _ => rfl)
          by_cases j60 : 60 ≤ i + 1
          · refine xs_cmp true rfl (br_ge_t (b := 60) rfl (by rw [nI_toInt (by omega)]; omega)) ?_
            exact ⟨_, go_end 1 (fun _ _ => rfl), rfl, rp_QF s4 fw⟩
          · refine xs_cmp false rfl (br_ge_f (b := 60) rfl (by rw [nI_toInt (by omega)]; omega)) ?_
            refine xs_seg 1 (pc' := 28) (ls' := [(3, .int (nI (i + 1))), (4, .int y), (0, .ref 74), (1, .int (nI L)), (2, .int (nI o))]) (st' := [.ref 74]) (w' := w4) (cs' := 0) (ss' := 0) ?_ (fun _ _ => rfl)
            refine xs_gf (z := .int (nI q1)) rfl s4.1.1 rfl rfl s4.2 ?_
            refine xs_if true rfl (br_ge_t (b := 0) rfl (by rw [nI_toInt (by omega)]; omega)) ?_
            exact ⟨_, go_end 1 (fun _ _ => rfl), rfl, rp_QF s4 fw⟩
    · rw [if_neg lv] at he
      cases he
      refine xs_cmp true rfl (decide_eq_true (fun z => lv (by rw [← eu, z, nI_toInt (by omega)]))) ?_
      exact ⟨_, go_end 1 (fun _ _ => rfl), rfl, rp_QT h (sx_Fr_refl _ _)⟩
theorem rp_rl {B : Nat → Int} {n f : Nat} (hS : rp_RS B n (f + 1)) (hL : rp_RL B n f) (hP : rp_LP B n f) : rp_RL B n (f + 1) := by
  intro m o q a ok q1 a1 w hm ho he h hq hl
  have hn := h.1.2.2.2.1
  by_cases m5 : m = 5
  · subst m5
    obtain ⟨w2, r2, s2⟩ := hS o q a ok q1 a1 w ho he h hq hl
    have key : ∃ res, pq_Go (19 + 8 * (5 - o)) pm_69 0 (lv_args 0 [.ref 74, .int (nI 5), .int (nI o)]) [] w 0 0 res ∧ (res.1 = none ∧ rp_Q B n ok q1 a1 w res.2) := by
      refine xs_seg 2 (pc' := 2) (ls' := [(0, .ref 74), (1, .int (nI 5)), (2, .int (nI o))]) (st' := [.int 5, .int (nI 5)]) (w' := w) (cs' := 0) (ss' := 0) ?_ (fun _ _ => rfl)
      refine xs_cmp false rfl (by decide) ?_
      refine xs_seg 2 (pc' := 7) (ls' := [(0, .ref 74), (1, .int (nI 5)), (2, .int (nI o))]) (st' := [.int (nI o), .ref 74]) (w' := w) (cs' := 0) (ss' := 0) ?_ (fun _ _ => rfl)
      refine xs_cl (as := [.ref 74, .int (nI o)]) (rv := none) (st' := []) (cs' := 0) (ss' := 0) (k1 := (19 + 8 * (5 - o))) rfl rfl rfl rfl rfl rfl (Nat.ble_eq_true_of_le (by omega)) r2 ?_
      exact ⟨_, go_end 1 (fun _ _ => rfl), rfl, s2⟩
    obtain ⟨⟨r, w1⟩, g, e, h1⟩ := key
    have e : r = none := e
    subst e
    exact ⟨w1, ru_mono (ru_of (k := 19 + 8 * (5 - o)) (M := pm_69) rfl (by rw [Bool.and_eq_true]; exact ⟨rfl, sq_rcv h.1.1 rfl rfl rfl⟩) g) (by omega), h1⟩
  have m4 : m < 5 := by omega
  have he : rd_b (rd B n f (m + 1) o q a) (fun q1 a1 => rd B n f (6 + m) o q1 a1) = some (ok, q1, a1) := by
    have he : rd_S B n (rd B n f) m o q a = some (ok, q1, a1) := he
    unfold rd_S at he
    rw [if_pos m4] at he
    exact he
  have key : ∃ res, pq_Go (19 + 8 * (5 - o) + (5 - m)) pm_69 0 (lv_args 0 [.ref 74, .int (nI m), .int (nI o)]) [] w 0 0 res ∧ (res.1 = none ∧ rp_Q B n ok q1 a1 w res.2) := by
    refine xs_seg 2 (pc' := 2) (ls' := [(0, .ref 74), (1, .int (nI m)), (2, .int (nI o))]) (st' := [.int 5, .int (nI m)]) (w' := w) (cs' := 0) (ss' := 0) ?_ (fun _ _ => rfl)
    refine xs_cmp true rfl (br_lt_t (b := 5) rfl (by rw [nI_toInt (by omega)]; omega)) ?_
    refine xs_seg 5 (pc' := 16) (ls' := [(0, .ref 74), (1, .int (nI m)), (2, .int (nI o))]) (st' := [.int (nI o), .int (nI (m + 1)), .ref 74]) (w' := w) (cs' := 0) (ss' := 0) ?_ (fun _ _ => by rw [nI_succ]; rfl)
    rcases rd_b_of he with ⟨q0, a0, h1, h2⟩ | ⟨rfl, h1⟩
    · obtain ⟨b1, b2, b3⟩ := rd_bd _ _ _ _ _ _ _ _ h1 hq
      have b3 := b3 rfl
      obtain ⟨w3, r3, s3⟩ := hL (m + 1) o q a true q0 a0 w (by omega) ho h1 h hq hl
      refine xs_cl (as := [.ref 74, .int (nI (m + 1)), .int (nI o)]) (rv := none) (st' := []) (cs' := 0) (ss' := 0) (k1 := (20 + 8 * (5 - o) + (5 - (m + 1)))) rfl rfl rfl rfl rfl rfl (Nat.ble_eq_true_of_le (by omega)) r3 ?_
      refine xs_seg 2 (pc' := 21) (ls' := [(3, .int (nI 0)), (0, .ref 74), (1, .int (nI m)), (2, .int (nI o))]) (st' := []) (w' := w3) (cs' := 0) (ss' := 0) ?_ (fun _ _ => rfl)
      obtain ⟨res, g, e1, e2⟩ := (hP m o q0 0 a0 ok q1 a1 w3 m4 ho h2 (rp_QS s3) b2 (by omega) (Nat.zero_le _)).1
      exact ⟨res, g, e1, rp_Qt s3.1 e2⟩
    · obtain ⟨b1, b2, _⟩ := rd_bd _ _ _ _ _ _ _ _ h1 hq
      obtain ⟨w3, r3, s3⟩ := hL (m + 1) o q a false q1 a1 w (by omega) ho h1 h hq hl
      refine xs_cl (as := [.ref 74, .int (nI (m + 1)), .int (nI o)]) (rv := none) (st' := []) (cs' := 0) (ss' := 0) (k1 := (20 + 8 * (5 - o) + (5 - (m + 1)))) rfl rfl rfl rfl rfl rfl (Nat.ble_eq_true_of_le (by omega)) r3 ?_
      refine xs_seg 4 (pc' := 24) (ls' := [(3, .int 0), (0, .ref 74), (1, .int (nI m)), (2, .int (nI o))]) (st' := [.int 60, .int 0]) (w' := w3) (cs' := 0) (ss' := 0) ?_ (fun _ _ => rfl)
      refine xs_cmp false rfl (by decide) ?_
      refine xs_seg 1 (pc' := 28) (ls' := [(3, .int 0), (0, .ref 74), (1, .int (nI m)), (2, .int (nI o))]) (st' := [.ref 74]) (w' := w3) (cs' := 0) (ss' := 0) ?_ (fun _ _ => rfl)
      refine xs_gf (z := .int (nI q1)) rfl (rp_QG s3).1.1 rfl rfl (rp_QG s3).2 ?_
      refine xs_if true rfl (br_ge_t (b := 0) rfl (by rw [nI_toInt (by omega)]; omega)) ?_
      exact ⟨_, go_end 1 (fun _ _ => rfl), rfl, s3⟩
  obtain ⟨⟨r, w1⟩, g, e, h1⟩ := key
  have e : r = none := e
  subst e
  exact ⟨w1, ru_mono (ru_of (k := 19 + 8 * (5 - o) + (5 - m)) (M := pm_69) rfl (by rw [Bool.and_eq_true]; exact ⟨rfl, sq_rcv h.1.1 rfl rfl rfl⟩) g) (by omega), h1⟩
theorem rp_all {B : Nat → Int} {n : Nat} (hB : ∀ i, i < n → 0 ≤ B i ∧ B i ≤ 255) : ∀ f, rp_RS B n f ∧ rp_RL B n f ∧ rp_LP B n f
  | 0 => by
    refine ⟨?_, ?_, ?_⟩
    · intro o q a ok q1 a1 w _ he
      cases he
    · intro m o q a ok q1 a1 w _ _ he
      cases he
    · intro L o q i a ok q1 a1 w _ _ he
      cases he
  | f + 1 => by
    obtain ⟨hS, hL, hP⟩ := rp_all hB f
    have s := rp_rs hS hL
    exact ⟨s, rp_rl s hL hP, rp_lp hB hL hP⟩
