/-! calls of both sides, one after the other -/
def sx_MC : sx_A := [(6, 8, 8), (7, 0, 100000), (8, 0, 100000), (9, 0, 100000), (10, 0, 100000), (11, 0, 100000), (12, 0, 100000), (13, 0, 100000), (14, 0, 100000), (15, 0, 100000), (16, 0, 100000), (17, 0, 100000), (18, 0, 100000), (19, 0, 100000), (20, 0, 100000), (21, 0, 100000), (22, 0, 100000), (23, 0, 100000), (24, 0, 100000), (25, 0, 100000), (26, 0, 100000), (27, 0, 100000), (28, 0, 100000), (29, 0, 100000), (30, 0, 100000), (31, 0, 100000), (32, 0, 100000), (33, 0, 100000), (34, 0, 100000), (35, 0, 100000), (36, 0, 100000), (37, 0, 100000), (38, 0, 100000), (39, 0, 100000), (74, 0, 100000), (75, 0, 100000), (76, 0, 100000), (77, 0, 100000), (78, 0, 100000), (79, 0, 100000), (80, 0, 100000), (81, 0, 100000), (82, 0, 100000), (83, 0, 100000), (84, 0, 100000), (85, 0, 100000), (86, 0, 100000), (87, 0, 100000), (88, 0, 100000), (89, 0, 100000), (91, 0, 100000), (93, 0, 100000)]
def kz_L : sx_A := [(94, 3, 1000), (95, 0, 0), (95, 2, 1321), (95, 2798, 2857), (97, 0, 100000), (100, 0, 100000), (101, 0, 100000), (102, 0, 100000), (103, 0, 100000), (104, 0, 100000), (105, 0, 100000), (106, 0, 100000), (107, 0, 100000), (108, 0, 100000), (109, 0, 100000), (110, 0, 100000), (111, 0, 100000), (112, 0, 100000), (113, 0, 100000)]
/-- where ordinary calls of both sides may write: neither widths nor sizes of sheets -/
def sx_MK : sx_A := [(5, 15, 15), (6, 0, 100000), (7, 0, 100000), (8, 0, 100000), (9, 0, 100000), (10, 0, 100000), (11, 0, 100000), (12, 0, 100000), (13, 0, 100000), (14, 0, 100000), (15, 0, 100000), (16, 0, 100000), (17, 0, 100000), (18, 0, 100000), (19, 0, 100000), (20, 0, 100000), (21, 0, 100000), (22, 0, 100000), (23, 0, 100000), (24, 0, 100000), (25, 0, 100000), (26, 0, 100000), (27, 0, 100000), (28, 0, 100000), (29, 0, 100000), (30, 0, 100000), (31, 0, 100000), (32, 0, 100000), (33, 0, 100000), (34, 0, 100000), (35, 0, 100000), (36, 0, 100000), (37, 0, 100000), (38, 0, 100000), (39, 0, 100000), (40, 0, 100000), (41, 0, 100000), (42, 0, 100000), (43, 0, 100000), (44, 0, 100000), (45, 0, 100000), (46, 0, 100000), (47, 0, 100000), (48, 0, 100000), (49, 0, 100000), (50, 0, 100000), (51, 0, 100000), (52, 0, 100000), (53, 0, 100000), (54, 0, 100000), (55, 0, 100000), (56, 0, 100000), (57, 0, 100000), (58, 0, 100000), (59, 0, 100000), (60, 0, 100000), (61, 0, 100000), (62, 0, 100000), (63, 0, 100000), (64, 0, 100000), (65, 0, 100000), (66, 0, 100000), (67, 0, 100000), (68, 0, 100000), (69, 0, 100000), (70, 0, 100000), (71, 0, 100000), (72, 0, 100000), (73, 0, 100000), (74, 0, 100000), (75, 0, 100000), (76, 0, 100000), (77, 0, 100000), (78, 0, 100000), (79, 0, 100000), (80, 0, 100000), (81, 0, 100000), (82, 0, 100000), (83, 0, 100000), (84, 0, 100000), (85, 0, 100000), (86, 0, 100000), (87, 0, 100000), (88, 0, 100000), (89, 0, 100000), (91, 0, 100000), (93, 0, 100000), (94, 0, 100000), (95, 0, 100000), (96, 0, 100000), (97, 0, 100000), (100, 0, 100000), (101, 0, 100000), (102, 0, 100000), (103, 0, 100000), (104, 0, 100000), (105, 0, 100000), (106, 0, 100000), (107, 0, 100000), (108, 0, 100000), (109, 0, 100000), (110, 0, 100000), (111, 0, 100000), (112, 0, 100000), (113, 0, 100000)]
theorem kz_gen {j : Nat} {c : sx_K} (h : sx_Kok sx_T0 sy_J0 j c) (h1 : c.k = 300) (h2 : c.kn = []) (h3 : c.kg = []) (h4 : c.pt = []) (h5 : c.rt = some (.inl (-2147483648, 2147483647))) (hb : (sx_sub_A c.md kz_L && sy_ninb c.md 95 0 0 && sy_ninb c.md 95 3 3 && sy_ninb c.md 95 5 6 && sy_ninb c.md 95 186 1921) = true) {as : List Value} (ha : sx_argm c.as as) {w : pq_W} (ht : sx_Ty sx_T0 w) (hJ : JJ w) : ∃ res, pq_Ru 300 j as w res ∧ kz_P w res := by
  simp only [Bool.and_eq_true] at hb
  obtain ⟨⟨⟨⟨b1, b2⟩, b3⟩, b4⟩, b5⟩ := hb
  obtain ⟨r, w1, g1, t1, j1, rm, f⟩ := h as w ha (by rw [h2]; exact sy_O0) (by rw [h3]; exact fun q hq => by cases hq) ht hJ.1
  rw [h1] at g1
  have f1 : sx_Fr kz_L w w1 := sx_Fr_sub b1 f
  have fz : sx_Fr sx_MZ w w1 := sx_Fr_sub (by decide +kernel) f1
  have hM : Mo (sy_r w1 95) := Mo_fr hJ.2.1 (sy_r_fr f (sy_nin b2 (by decide) (by decide))) (mo_yT t1 (Or.inl rfl)).1 (sy_r_fr f (sy_nin b3 (by decide) (by decide))) (sy_r_fr f (sy_nin b4 (by decide) (by decide))) (sy_r_fr f (sy_nin b4 (by decide) (by decide))) (fun i i1 i2 => sy_r_fr f (sy_nin b5 (by omega) (by omega)))
  have e96 : sy_r w1 96 = sy_r w 96 := funext (fun i => kz_96 fz i)
  unfold sx_Rm at rm
  rw [h4] at rm
  have rm : sx_rtm c.rt r := rm
  rw [h5] at rm
  refine ⟨(r, w1), g1, t1, ⟨j1, hM, by show Mo (sy_r w1 96); rw [e96]; exact hJ.2.2⟩, fz, ?_⟩
  match r, rm with
  | some (.int x), _ => exact ⟨x, rfl⟩
def kc_P (w : pq_W) (res : pq_R) : Prop := sx_Ty sx_T0 res.2 ∧ sx_Fr sx_MC w res.2 ∧ ∃ x : Int32, res.1 = some (.int x)
theorem kc_gen {j : Nat} {c : sx_K} (h : sx_Kok sx_T0 sx_tt j c) (h1 : c.k = 300) (h2 : c.kn = []) (h3 : c.kg = []) (h4 : c.pt = []) (h5 : c.rt = some (.inl (-2147483648, 2147483647))) (hb : sx_sub_A c.md sx_MC = true) {as : List Value} (ha : sx_argm c.as as) {w : pq_W} (ht : sx_Ty sx_T0 w) : ∃ res, pq_Ru 300 j as w res ∧ kc_P w res := by
  obtain ⟨r, w1, g1, t1, j1, rm, f⟩ := h as w ha (by rw [h2]; exact sy_O0) (by rw [h3]; exact fun q hq => by cases hq) ht trivial
  rw [h1] at g1
  unfold sx_Rm at rm
  rw [h4] at rm
  have rm : sx_rtm c.rt r := rm
  rw [h5] at rm
  refine ⟨(r, w1), g1, t1, sx_Fr_sub hb f, ?_⟩
  match r, rm with
  | some (.int x), _ => exact ⟨x, rfl⟩
/-- fuel of both sides, as it is and as it is kept; how many images -/
def FI (n : Nat) (w : pq_W) : Prop := sy_r w 6 9 = sy_r w 95 1 ∧ sy_r w 5 15 = sy_r w 94 2 ∧ 0 ≤ sy_r w 94 2 ∧ sy_r w 94 2 ≤ n ∧ (sy_r w 94 2 ≠ 0 → sy_r w 40 9 = sy_r w 96 1 ∧ kg w)
def W0 (n : Nat) (w : pq_W) : Prop := sx_Ty sx_T0 w ∧ JJ w ∧ FI n w
theorem FI_mv {n : Nat} {w w1 : pq_W} (h : FI n w) (a1 : sy_r w1 6 9 = sy_r w 6 9) (a2 : sy_r w1 95 1 = sy_r w 95 1) (a3 : sy_r w1 5 15 = sy_r w 5 15) (a4 : sy_r w1 94 2 = sy_r w 94 2) (a5 : sy_r w1 40 9 = sy_r w 40 9) (a6 : ∀ i, i < 2858 → sy_r w1 96 i = sy_r w 96 i) : FI n w1 := by
  unfold FI
  rw [a1, a2, a3, a4, a5, a6 1 (by omega)]
  exact ⟨h.1, h.2.1, h.2.2.1, h.2.2.2.1, fun q => ⟨(h.2.2.2.2 q).1, kg_mv a6 (h.2.2.2.2 q).2⟩⟩
theorem FI_up {n : Nat} {w : pq_W} (h : FI n w) : FI (n + 1) w := ⟨h.1, h.2.1, h.2.2.1, by have := h.2.2.2.1; omega, h.2.2.2.2⟩
theorem mc_no {w w1 : pq_W} (f : sx_Fr sx_MC w w1) {r i : Nat} (h : sy_ninb sx_MC r i i = true) : sy_r w1 r i = sy_r w r i := sy_r_fr f (sy_nin h (Int.le_refl _) (Int.le_refl _))
theorem mz_no {w w1 : pq_W} (f : sx_Fr sx_MZ w w1) {r i : Nat} (h : sy_ninb sx_MZ r i i = true) : sy_r w1 r i = sy_r w r i := sy_r_fr f (sy_nin h (Int.le_refl _) (Int.le_refl _))
theorem W0_c {n : Nat} {w w1 : pq_W} (h : W0 n w) (ht : sx_Ty sx_T0 w1) (f : sx_Fr sx_MC w w1) : W0 n w1 := by
  have h95 : ∀ i, i < 2858 → sy_r w1 95 i = sy_r w 95 i := fun i hi => sy_r_fr f (sy_nin (lo := 0) (hi := 2857) (by decide +kernel) (by omega) (by omega))
  have h96 : ∀ i, i < 2858 → sy_r w1 96 i = sy_r w 96 i := fun i hi => sy_r_fr f (sy_nin (lo := 0) (hi := 2857) (by decide +kernel) (by omega) (by omega))
  exact ⟨ht, JJ_of (sy_z95 h.1) (sy_z96 h.1) (JJ_a h.2.1) (JJ_b h.2.1) ht h95 h96, FI_mv h.2.2 (mc_no f (by decide +kernel)) (mc_no f (by decide +kernel)) (mc_no f (by decide +kernel)) (mc_no f (by decide +kernel)) (mc_no f (by decide +kernel)) h96⟩
theorem W0_z {n : Nat} {w : pq_W} {res : pq_R} (h : W0 n w) (hz : kz_P w res) : W0 n res.2 :=
  ⟨hz.1, hz.2.1, FI_mv h.2.2 (mz_no hz.2.2.1 (by decide +kernel)) (mz_no hz.2.2.1 (by decide +kernel)) (mz_no hz.2.2.1 (by decide +kernel)) (mz_no hz.2.2.1 (by decide +kernel)) (mz_no hz.2.2.1 (by decide +kernel)) (fun i hi => sy_r_fr hz.2.2.1 (sy_nin (lo := 0) (hi := 2857) (by decide +kernel) (by omega) (by omega)))⟩
def p0_P (n jc jm : Nat) (as : List Value) : Prop := ∀ w, W0 n w → ∃ (x1 : Int32) (w1 : pq_W) (x2 : Int32) (w2 : pq_W), pq_Ru 300 jc (.ref 5 :: as) w (some (.int x1), w1) ∧ pq_Ru 300 jm (.ref 94 :: as) w1 (some (.int x2), w2) ∧ W0 (n + 1) w2 ∧ sx_Fr sx_MK w w2
theorem p0_gen {n jc jm : Nat} {as : List Value} (hc : ∀ w, sx_Ty sx_T0 w → ∃ res, pq_Ru 300 jc (.ref 5 :: as) w res ∧ kc_P w res) (hm : ∀ w, sx_Ty sx_T0 w → JJ w → ∃ res, pq_Ru 300 jm (.ref 94 :: as) w res ∧ kz_P w res) : p0_P n jc jm as := by
  intro w hw
  obtain ⟨⟨r1, w1⟩, g1, t1, f1, x1, rfl⟩ := hc w hw.1
  have h1 : W0 n w1 := W0_c hw t1 f1
  obtain ⟨⟨r2, w2⟩, g2, hz⟩ := hm w1 h1.1 h1.2.1
  have h2 : W0 n w2 := W0_z h1 hz
  obtain ⟨_, _, fz, x2, rfl⟩ := hz
  exact ⟨x1, w1, x2, w2, g1, g2, ⟨h2.1, h2.2.1, FI_up h2.2.2⟩, sx_Fr_trans (sx_Fr_sub (by decide +kernel) f1) (sx_Fr_sub (by decide +kernel) fz)⟩
theorem p0_i (a : Int32) : sx_fok (.inl (-2147483648, 2147483647)) (.int a) := ⟨a.minValue_le_toInt, a.toInt_le⟩
theorem p0_b {a : Int32} (h : a = 0 ∨ a = 1) : sx_fok (.inl (0, 1)) (.int a) := by
  rcases h with rfl | rfl
  · exact ⟨by decide, by decide⟩
  · exact ⟨by decide, by decide⟩
theorem p0_cell {n : Nat} {a b : Int32} : p0_P n 12 159 [.int a, .int b] := p0_gen (fun w ht => kc_gen (as := [.ref 5, .int a, .int b]) kt_c_cell rfl rfl rfl rfl rfl (by decide +kernel) ⟨rfl, p0_i a, p0_i b, trivial⟩ ht) (fun w ht hJ => kz_gen (as := [.ref 94, .int a, .int b]) (kt_m_cell sy_J0I kt_RH) rfl rfl rfl rfl rfl (by decide +kernel) ⟨rfl, p0_i a, p0_i b, trivial⟩ ht hJ)
theorem p0_block {n : Nat} {a b : Int32} : p0_P n 17 163 [.int a, .int b] := p0_gen (fun w ht => kc_gen (as := [.ref 5, .int a, .int b]) kt_c_block rfl rfl rfl rfl rfl (by decide +kernel) ⟨rfl, p0_i a, p0_i b, trivial⟩ ht) (fun w ht hJ => kz_gen (as := [.ref 94, .int a, .int b]) (kt_m_block sy_J0I kt_RH) rfl rfl rfl rfl rfl (by decide +kernel) ⟨rfl, p0_i a, p0_i b, trivial⟩ ht hJ)
theorem p0_shut {n : Nat} {a b : Int32} (hb : b = 0 ∨ b = 1) : p0_P n 22 165 [.int a, .int b] := p0_gen (fun w ht => kc_gen (as := [.ref 5, .int a, .int b]) kt_c_shut rfl rfl rfl rfl rfl (by decide +kernel) ⟨rfl, p0_i a, p0_b hb, trivial⟩ ht) (fun w ht hJ => kz_gen (as := [.ref 94, .int a, .int b]) (kt_m_shut sy_J0I kt_RH) rfl rfl rfl rfl rfl (by decide +kernel) ⟨rfl, p0_i a, p0_b hb, trivial⟩ ht hJ)
theorem p0_land {n : Nat} {a b c : Int32} : p0_P n 23 166 [.int a, .int b, .int c] := p0_gen (fun w ht => kc_gen (as := [.ref 5, .int a, .int b, .int c]) kt_c_land rfl rfl rfl rfl rfl (by decide +kernel) ⟨rfl, p0_i a, p0_i b, p0_i c, trivial⟩ ht) (fun w ht hJ => kz_gen (as := [.ref 94, .int a, .int b, .int c]) (kt_m_land sy_J0I kt_RH) rfl rfl rfl rfl rfl (by decide +kernel) ⟨rfl, p0_i a, p0_i b, p0_i c, trivial⟩ ht hJ)
theorem p0_landIs {n : Nat} {a b : Int32} : p0_P n 25 169 [.int a, .int b] := p0_gen (fun w ht => kc_gen (as := [.ref 5, .int a, .int b]) kt_c_landIs rfl rfl rfl rfl rfl (by decide +kernel) ⟨rfl, p0_i a, p0_i b, trivial⟩ ht) (fun w ht hJ => kz_gen (as := [.ref 94, .int a, .int b]) (kt_m_landIs sy_J0I kt_RH) rfl rfl rfl rfl rfl (by decide +kernel) ⟨rfl, p0_i a, p0_i b, trivial⟩ ht hJ)
theorem p0_rate {n : Nat} {a b : Int32} : p0_P n 28 172 [.int a, .int b] := p0_gen (fun w ht => kc_gen (as := [.ref 5, .int a, .int b]) kt_c_rate rfl rfl rfl rfl rfl (by decide +kernel) ⟨rfl, p0_i a, p0_i b, trivial⟩ ht) (fun w ht hJ => kz_gen (as := [.ref 94, .int a, .int b]) (kt_m_rate sy_J0I kt_RH) rfl rfl rfl rfl rfl (by decide +kernel) ⟨rfl, p0_i a, p0_i b, trivial⟩ ht hJ)
theorem p0_airline {n : Nat} {a : Int32} : p0_P n 29 173 [.int a] := p0_gen (fun w ht => kc_gen (as := [.ref 5, .int a]) kt_c_airline rfl rfl rfl rfl rfl (by decide +kernel) ⟨rfl, p0_i a, trivial⟩ ht) (fun w ht hJ => kz_airline ht hJ)
theorem p0_plane {n : Nat} {a b c : Int32} : p0_P n 31 174 [.int a, .int b, .int c] := p0_gen (fun w ht => kc_gen (as := [.ref 5, .int a, .int b, .int c]) kt_c_plane rfl rfl rfl rfl rfl (by decide +kernel) ⟨rfl, p0_i a, p0_i b, p0_i c, trivial⟩ ht) (fun w ht hJ => kz_plane ht hJ)
theorem p0_as {n : Nat} {a b : Int32} : p0_P n 35 176 [.int a, .int b] := p0_gen (fun w ht => kc_gen (as := [.ref 5, .int a, .int b]) kt_c_as rfl rfl rfl rfl rfl (by decide +kernel) ⟨rfl, p0_i a, p0_i b, trivial⟩ ht) (fun w ht hJ => kz_gen (as := [.ref 94, .int a, .int b]) (kt_m_as sy_J0I kt_RH) rfl rfl rfl rfl rfl (by decide +kernel) ⟨rfl, p0_i a, p0_i b, trivial⟩ ht hJ)
theorem p0_planeIs {n : Nat} {a b : Int32} : p0_P n 38 179 [.int a, .int b] := p0_gen (fun w ht => kc_gen (as := [.ref 5, .int a, .int b]) kt_c_planeIs rfl rfl rfl rfl rfl (by decide +kernel) ⟨rfl, p0_i a, p0_i b, trivial⟩ ht) (fun w ht hJ => kz_gen (as := [.ref 94, .int a, .int b]) (kt_m_planeIs sy_J0I kt_RH) rfl rfl rfl rfl rfl (by decide +kernel) ⟨rfl, p0_i a, p0_i b, trivial⟩ ht hJ)
theorem p0_earn {n : Nat} {a b : Int32} : p0_P n 51 189 [.int a, .int b] := p0_gen (fun w ht => kc_gen (as := [.ref 5, .int a, .int b]) kt_c_earn rfl rfl rfl rfl rfl (by decide +kernel) ⟨rfl, p0_i a, p0_i b, trivial⟩ ht) (fun w ht hJ => kz_earn ht hJ)
theorem p0_coin {n : Nat} {a : Int32} : p0_P n 52 190 [.int a] := p0_gen (fun w ht => kc_gen (as := [.ref 5, .int a]) kt_c_coin rfl rfl rfl rfl rfl (by decide +kernel) ⟨rfl, p0_i a, trivial⟩ ht) (fun w ht hJ => kz_gen (as := [.ref 94, .int a]) (kt_m_coin sy_J0I kt_RH) rfl rfl rfl rfl rfl (by decide +kernel) ⟨rfl, p0_i a, trivial⟩ ht hJ)
theorem p0_owes {n : Nat} {a b : Int32} : p0_P n 53 191 [.int a, .int b] := p0_gen (fun w ht => kc_gen (as := [.ref 5, .int a, .int b]) kt_c_owes rfl rfl rfl rfl rfl (by decide +kernel) ⟨rfl, p0_i a, p0_i b, trivial⟩ ht) (fun w ht hJ => kz_gen (as := [.ref 94, .int a, .int b]) (kt_m_owes sy_J0I kt_RH) rfl rfl rfl rfl rfl (by decide +kernel) ⟨rfl, p0_i a, p0_i b, trivial⟩ ht hJ)
theorem p0_pay {n : Nat} {a b c : Int32} : p0_P n 55 193 [.int a, .int b, .int c] := p0_gen (fun w ht => kc_gen (as := [.ref 5, .int a, .int b, .int c]) kt_c_pay rfl rfl rfl rfl rfl (by decide +kernel) ⟨rfl, p0_i a, p0_i b, p0_i c, trivial⟩ ht) (fun w ht hJ => kz_pay ht hJ)
theorem p0_end {n : Nat} {a : Int32} : p0_P n 56 194 [.int a] := p0_gen (fun w ht => kc_gen (as := [.ref 5, .int a]) kt_c_end rfl rfl rfl rfl rfl (by decide +kernel) ⟨rfl, p0_i a, trivial⟩ ht) (fun w ht hJ => kz_end ht hJ)
theorem p0_feed {n : Nat} {b : Int32} {a : Int64} : p0_P n 63 195 [.long a, .int b] := p0_gen (fun w ht => kc_gen (as := [.ref 5, .long a, .int b]) kt_c_feed rfl rfl rfl rfl rfl (by decide +kernel) ⟨rfl, trivial, p0_i b, trivial⟩ ht) (fun w ht hJ => kz_gen (as := [.ref 94, .long a, .int b]) (kt_m_feed sy_J0I kt_RH) rfl rfl rfl rfl rfl (by decide +kernel) ⟨rfl, trivial, p0_i b, trivial⟩ ht hJ)
theorem p0_law {n : Nat} {a b : Int32} : p0_P n 65 196 [.int a, .int b] := p0_gen (fun w ht => kc_gen (as := [.ref 5, .int a, .int b]) kt_c_law rfl rfl rfl rfl rfl (by decide +kernel) ⟨rfl, p0_i a, p0_i b, trivial⟩ ht) (fun w ht hJ => kz_law ht hJ)
theorem p0_force {n : Nat} {a b : Int32} : p0_P n 80 206 [.int a, .int b] := p0_gen (fun w ht => kc_gen (as := [.ref 5, .int a, .int b]) kt_c_force rfl rfl rfl rfl rfl (by decide +kernel) ⟨rfl, p0_i a, p0_i b, trivial⟩ ht) (fun w ht hJ => kz_gen (as := [.ref 94, .int a, .int b]) (kt_m_force sy_J0I kt_RH) rfl rfl rfl rfl rfl (by decide +kernel) ⟨rfl, p0_i a, p0_i b, trivial⟩ ht hJ)
theorem p0_says {n : Nat} {a b c d : Int32} : p0_P n 81 207 [.int a, .int b, .int c, .int d] := p0_gen (fun w ht => kc_gen (as := [.ref 5, .int a, .int b, .int c, .int d]) kt_c_says rfl rfl rfl rfl rfl (by decide +kernel) ⟨rfl, p0_i a, p0_i b, p0_i c, p0_i d, trivial⟩ ht) (fun w ht hJ => kz_gen (as := [.ref 94, .int a, .int b, .int c, .int d]) (kt_m_says sy_J0I kt_RH) rfl rfl rfl rfl rfl (by decide +kernel) ⟨rfl, p0_i a, p0_i b, p0_i c, p0_i d, trivial⟩ ht hJ)
theorem p0_file {n : Nat} {a b : Int32} : p0_P n 82 208 [.int a, .int b] := p0_gen (fun w ht => kc_gen (as := [.ref 5, .int a, .int b]) kt_c_file rfl rfl rfl rfl rfl (by decide +kernel) ⟨rfl, p0_i a, p0_i b, trivial⟩ ht) (fun w ht hJ => kz_file ht hJ)
theorem p0_fly {n : Nat} {a b : Int32} : p0_P n 89 212 [.int a, .int b] := p0_gen (fun w ht => kc_gen (as := [.ref 5, .int a, .int b]) kt_c_fly rfl rfl rfl rfl rfl (by decide +kernel) ⟨rfl, p0_i a, p0_i b, trivial⟩ ht) (fun w ht hJ => kz_fly ht hJ)
theorem p0_flightIs {n : Nat} {a b : Int32} : p0_P n 92 213 [.int a, .int b] := p0_gen (fun w ht => kc_gen (as := [.ref 5, .int a, .int b]) kt_c_flightIs rfl rfl rfl rfl rfl (by decide +kernel) ⟨rfl, p0_i a, p0_i b, trivial⟩ ht) (fun w ht hJ => kz_gen (as := [.ref 94, .int a, .int b]) (kt_m_flightIs sy_J0I kt_RH) rfl rfl rfl rfl rfl (by decide +kernel) ⟨rfl, p0_i a, p0_i b, trivial⟩ ht hJ)
theorem p0_row {n : Nat} {a b c : Int32} : p0_P n 94 216 [.int a, .int b, .int c] := p0_gen (fun w ht => kc_gen (as := [.ref 5, .int a, .int b, .int c]) kt_c_row rfl rfl rfl rfl rfl (by decide +kernel) ⟨rfl, p0_i a, p0_i b, p0_i c, trivial⟩ ht) (fun w ht hJ => kz_gen (as := [.ref 94, .int a, .int b, .int c]) (kt_m_row sy_J0I kt_RH) rfl rfl rfl rfl rfl (by decide +kernel) ⟨rfl, p0_i a, p0_i b, p0_i c, trivial⟩ ht hJ)
theorem p0_miles {n : Nat} {a b c d : Int32} : p0_P n 96 219 [.int a, .int b, .int c, .int d] := p0_gen (fun w ht => kc_gen (as := [.ref 5, .int a, .int b, .int c, .int d]) kt_c_miles rfl rfl rfl rfl rfl (by decide +kernel) ⟨rfl, p0_i a, p0_i b, p0_i c, p0_i d, trivial⟩ ht) (fun w ht hJ => kz_gen (as := [.ref 94, .int a, .int b, .int c, .int d]) (kt_m_miles sy_J0I kt_RH) rfl rfl rfl rfl rfl (by decide +kernel) ⟨rfl, p0_i a, p0_i b, p0_i c, p0_i d, trivial⟩ ht hJ)
theorem p0_bill {n : Nat} {a : Int32} : p0_P n 101 221 [.int a] := p0_gen (fun w ht => kc_gen (as := [.ref 5, .int a]) kt_c_bill rfl rfl rfl rfl rfl (by decide +kernel) ⟨rfl, p0_i a, trivial⟩ ht) (fun w ht hJ => kz_bill ht hJ)
theorem p0_right {n : Nat} {a : Int32} : p0_P n 113 225 [.int a] := p0_gen (fun w ht => kc_gen (as := [.ref 5, .int a]) kt_c_right rfl rfl rfl rfl rfl (by decide +kernel) ⟨rfl, p0_i a, trivial⟩ ht) (fun w ht hJ => kz_right ht hJ)
theorem p0_fee {n : Nat} {a b : Int32} : p0_P n 114 226 [.int a, .int b] := p0_gen (fun w ht => kc_gen (as := [.ref 5, .int a, .int b]) kt_c_fee rfl rfl rfl rfl rfl (by decide +kernel) ⟨rfl, p0_i a, p0_i b, trivial⟩ ht) (fun w ht hJ => kz_gen (as := [.ref 94, .int a, .int b]) (kt_m_fee sy_J0I kt_RH) rfl rfl rfl rfl rfl (by decide +kernel) ⟨rfl, p0_i a, p0_i b, trivial⟩ ht hJ)
theorem p0_beside {n : Nat} {a b : Int32} (hb : b = 0 ∨ b = 1) : p0_P n 115 227 [.int a, .int b] := p0_gen (fun w ht => kc_gen (as := [.ref 5, .int a, .int b]) kt_c_beside rfl rfl rfl rfl rfl (by decide +kernel) ⟨rfl, p0_i a, p0_b hb, trivial⟩ ht) (fun w ht hJ => kz_gen (as := [.ref 94, .int a, .int b]) (kt_m_beside sy_J0I kt_RH) rfl rfl rfl rfl rfl (by decide +kernel) ⟨rfl, p0_i a, p0_b hb, trivial⟩ ht hJ)
theorem p0_go {n : Nat} {a : Int32} : p0_P n 117 228 [.int a] := p0_gen (fun w ht => kc_gen (as := [.ref 5, .int a]) kt_c_go rfl rfl rfl rfl rfl (by decide +kernel) ⟨rfl, p0_i a, trivial⟩ ht) (fun w ht hJ => kz_go ht hJ)
theorem p0_cheapest {n : Nat} {a b c d : Int32} : p0_P n 122 231 [.int a, .int b, .int c, .int d] := p0_gen (fun w ht => kc_gen (as := [.ref 5, .int a, .int b, .int c, .int d]) kt_c_cheapest rfl rfl rfl rfl rfl (by decide +kernel) ⟨rfl, p0_i a, p0_i b, p0_i c, p0_i d, trivial⟩ ht) (fun w ht hJ => kz_gen (as := [.ref 94, .int a, .int b, .int c, .int d]) (kt_m_cheapest sy_J0I kt_RH) rfl rfl rfl rfl rfl (by decide +kernel) ⟨rfl, p0_i a, p0_i b, p0_i c, p0_i d, trivial⟩ ht hJ)
theorem p0_gain {n : Nat} {a b c d : Int32} : p0_P n 131 233 [.int a, .int b, .int c, .int d] := p0_gen (fun w ht => kc_gen (as := [.ref 5, .int a, .int b, .int c, .int d]) kt_c_gain rfl rfl rfl rfl rfl (by decide +kernel) ⟨rfl, p0_i a, p0_i b, p0_i c, p0_i d, trivial⟩ ht) (fun w ht hJ => kz_gen (as := [.ref 94, .int a, .int b, .int c, .int d]) (kt_m_gain sy_J0I kt_RH) rfl rfl rfl rfl rfl (by decide +kernel) ⟨rfl, p0_i a, p0_i b, p0_i c, p0_i d, trivial⟩ ht hJ)
theorem p0_voice {n : Nat} {a b c : Int32} : p0_P n 133 234 [.int a, .int b, .int c] := p0_gen (fun w ht => kc_gen (as := [.ref 5, .int a, .int b, .int c]) kt_c_voice rfl rfl rfl rfl rfl (by decide +kernel) ⟨rfl, p0_i a, p0_i b, p0_i c, trivial⟩ ht) (fun w ht hJ => kz_gen (as := [.ref 94, .int a, .int b, .int c]) (kt_m_voice sy_J0I kt_RH) rfl rfl rfl rfl rfl (by decide +kernel) ⟨rfl, p0_i a, p0_i b, p0_i c, trivial⟩ ht hJ)
theorem p0_trace {n : Nat} {a : Int32} : p0_P n 138 240 [.int a] := p0_gen (fun w ht => kc_gen (as := [.ref 5, .int a]) kt_c_trace rfl rfl rfl rfl rfl (by decide +kernel) ⟨rfl, p0_i a, trivial⟩ ht) (fun w ht hJ => kz_gen (as := [.ref 94, .int a]) (kt_m_trace sy_J0I kt_RH) rfl rfl rfl rfl rfl (by decide +kernel) ⟨rfl, p0_i a, trivial⟩ ht hJ)
theorem p0_put {n : Nat} {a b c : Int32} : p0_P n 142 243 [.int a, .int b, .int c] := p0_gen (fun w ht => kc_gen (as := [.ref 5, .int a, .int b, .int c]) kt_c_put rfl rfl rfl rfl rfl (by decide +kernel) ⟨rfl, p0_i a, p0_i b, p0_i c, trivial⟩ ht) (fun w ht hJ => kz_gen (as := [.ref 94, .int a, .int b, .int c]) (kt_m_put sy_J0I kt_RH) rfl rfl rfl rfl rfl (by decide +kernel) ⟨rfl, p0_i a, p0_i b, p0_i c, trivial⟩ ht hJ)
theorem p0_move {n : Nat} {a b c d e : Int32} : p0_P n 145 244 [.int a, .int b, .int c, .int d, .int e] := p0_gen (fun w ht => kc_gen (as := [.ref 5, .int a, .int b, .int c, .int d, .int e]) kt_c_move rfl rfl rfl rfl rfl (by decide +kernel) ⟨rfl, p0_i a, p0_i b, p0_i c, p0_i d, p0_i e, trivial⟩ ht) (fun w ht hJ => kz_gen (as := [.ref 94, .int a, .int b, .int c, .int d, .int e]) (kt_m_move sy_J0I kt_RH) rfl rfl rfl rfl rfl (by decide +kernel) ⟨rfl, p0_i a, p0_i b, p0_i c, p0_i d, p0_i e, trivial⟩ ht hJ)
theorem p0_told {n : Nat} {a : Int32} : p0_P n 153 247 [.int a] := p0_gen (fun w ht => kc_gen (as := [.ref 5, .int a]) kt_c_told rfl rfl rfl rfl rfl (by decide +kernel) ⟨rfl, p0_i a, trivial⟩ ht) (fun w ht hJ => kz_gen (as := [.ref 94, .int a]) (kt_m_told sy_J0I kt_RH) rfl rfl rfl rfl rfl (by decide +kernel) ⟨rfl, p0_i a, trivial⟩ ht hJ)
theorem p0_found {n : Nat} {a : Int32} : p0_P n 157 248 [.int a] := p0_gen (fun w ht => kc_gen (as := [.ref 5, .int a]) kt_c_found rfl rfl rfl rfl rfl (by decide +kernel) ⟨rfl, p0_i a, trivial⟩ ht) (fun w ht hJ => kz_gen (as := [.ref 94, .int a]) (kt_m_found sy_J0I kt_RH) rfl rfl rfl rfl rfl (by decide +kernel) ⟨rfl, p0_i a, trivial⟩ ht hJ)
/-- fuel: the answers are the same -/
theorem p0_fuel {n : Nat} {a : Int32} (w : pq_W) (hw : W0 n w) : ∃ (x : Int32) (w1 w2 : pq_W), pq_Ru 300 121 [.ref 5, .int a] w (some (.int x), w1) ∧ pq_Ru 300 230 [.ref 94, .int a] w1 (some (.int x), w2) ∧ W0 (n + 1) w2 ∧ sx_Fr sx_MK w w2 := by
  obtain ⟨ht, hJ, hF⟩ := hw
  obtain ⟨⟨r1, w1⟩, g1, t1, x1, rfl, hq⟩ := kx_c_fuel a w ht
  have t1 : sx_Ty sx_T0 w1 := t1
  obtain ⟨⟨r2, w2⟩, g2, t2, x2, rfl, hq2⟩ := kx_m_fuel a w1 t1
  have t2 : sx_Ty sx_T0 w2 := t2
  have key : x1 = x2 ∧ (∀ i, i < 2858 → i ≠ 1 → sy_r w2 95 i = sy_r w 95 i) ∧ (∀ i, i < 2858 → sy_r w2 96 i = sy_r w 96 i) ∧ FI (n + 1) w2 ∧ sx_Fr sx_MK w w2 := by
    rcases hq with ⟨k1, k2, k3, k4, k5⟩ | ⟨k1, k3, k5⟩
    · rcases hq2 with ⟨m1, m2, m3, m4, m5⟩ | ⟨m1, _⟩
      · have k5 : sx_Fr [(6, 9, 9)] w w1 := k5
        have m5 : sx_Fr [(95, 1, 1)] w1 w2 := m5
        have k4 : sy_r w1 6 9 = a.toInt := k4
        have m4 : sy_r w2 95 1 = a.toInt := m4
        have e1 : sy_r w1 95 1 = sy_r w 95 1 := fr_no k5 ⟨Or.inl (by decide), trivial⟩
        refine ⟨Int32.toInt_inj.mp (by rw [k3, m3, e1]; exact hF.1), fun i hi h1 => by rw [fr_no m5 ⟨Or.inr (by omega), trivial⟩, fr_no k5 ⟨Or.inl (by decide), trivial⟩], fun i hi => by rw [fr_no m5 ⟨Or.inl (by decide), trivial⟩, fr_no k5 ⟨Or.inl (by decide), trivial⟩], ?_, sx_Fr_trans (sx_Fr_sub (by decide +kernel) k5) (sx_Fr_sub (by decide +kernel) m5)⟩
        have c1 : sy_r w2 6 9 = a.toInt := by rw [fr_no m5 ⟨Or.inl (by decide), trivial⟩, k4]
        have c2 : sy_r w2 5 15 = sy_r w 5 15 := by rw [fr_no m5 ⟨Or.inl (by decide), trivial⟩, fr_no k5 ⟨Or.inl (by decide), trivial⟩]
        have c3 : sy_r w2 94 2 = sy_r w 94 2 := by rw [fr_no m5 ⟨Or.inl (by decide), trivial⟩, fr_no k5 ⟨Or.inl (by decide), trivial⟩]
        have c4 : sy_r w2 40 9 = sy_r w 40 9 := by rw [fr_no m5 ⟨Or.inl (by decide), trivial⟩, fr_no k5 ⟨Or.inl (by decide), trivial⟩]
        have c5 : sy_r w2 96 1 = sy_r w 96 1 := by rw [fr_no m5 ⟨Or.inl (by decide), trivial⟩, fr_no k5 ⟨Or.inl (by decide), trivial⟩]
        have hF1 := FI_up hF
        refine ⟨c1.trans m4.symm, by rw [c2, c3]; exact hF1.2.1, by rw [c3]; exact hF1.2.2.1, by rw [c3]; exact hF1.2.2.2.1, fun q => ?_⟩
        rw [c3] at q
        exact ⟨by rw [c4, c5]; exact (hF1.2.2.2.2 q).1, kg_mv (fun i _ => by rw [fr_no m5 ⟨Or.inl (by decide), trivial⟩, fr_no k5 ⟨Or.inl (by decide), trivial⟩]) (hF1.2.2.2.2 q).2⟩
      · exact absurd ⟨k1, k2⟩ m1
    · rcases hq2 with ⟨m1, m2, _⟩ | ⟨_, m3, m5⟩
      · exact absurd ⟨m1, m2⟩ k1
      · have k5 : sx_Fr [(93, 0, 100000)] w w1 := k5
        have m5 : sx_Fr [(97, 0, 5)] w1 w2 := m5
        have k3 : x1.toInt = -1000001 := k3
        have m3 : x2.toInt = -1000001 := m3
        have c : ∀ r i, r ≠ 93 → r ≠ 97 → sy_r w2 r i = sy_r w r i := fun r i h1 h2 => by rw [fr_no m5 ⟨Or.inl (fun q => h2 q.symm), trivial⟩, fr_no k5 ⟨Or.inl (fun q => h1 q.symm), trivial⟩]
        exact ⟨Int32.toInt_inj.mp (by rw [k3, m3]), fun i _ _ => c 95 i (by decide) (by decide), fun i _ => c 96 i (by decide) (by decide), FI_up (FI_mv hF (c _ _ (by decide) (by decide)) (c _ _ (by decide) (by decide)) (c _ _ (by decide) (by decide)) (c _ _ (by decide) (by decide)) (c _ _ (by decide) (by decide)) (fun i _ => c 96 i (by decide) (by decide))), sx_Fr_trans (sx_Fr_sub (by decide +kernel) k5) (sx_Fr_sub (by decide +kernel) m5)⟩
  obtain ⟨ex, h95, h96, hF2, hMK⟩ := key
  subst ex
  refine ⟨x1, w1, w2, ru_mono g1 (by decide), ru_mono g2 (by decide), ⟨t2, ?_, hF2⟩, hMK⟩
  obtain ⟨a1, a2, a3⟩ := JJ_a hJ
  obtain ⟨b1, b2, b3⟩ := JJ_b hJ
  refine ⟨⟨⟨sy_JT_congr (sy_z95 ht) (fun i h1 h2 => h95 i (by omega) (by omega)) a1, sy_JL_congr (sy_z95 ht) (fun i h1 h2 => h95 i (by omega) (by omega)) a2⟩, sy_JT_congr (sy_z96 ht) (fun i h1 h2 => h96 i (by omega)) b1, sy_JL_congr (sy_z96 ht) (fun i h1 h2 => h96 i (by omega)) b2⟩, ?_, ?_⟩
  · exact Mo_fr a3 (h95 0 (by omega) (by omega)) (mo_yT t2 (Or.inl rfl)).1 (h95 3 (by omega) (by omega)) (h95 5 (by omega) (by omega)) (h95 6 (by omega) (by omega)) (fun i h1 h2 => h95 i (by omega) (by omega))
  · exact Mo_fr b3 (h96 0 (by omega)) (mo_yT t2 (Or.inr rfl)).1 (h96 3 (by omega)) (h96 5 (by omega)) (h96 6 (by omega)) (fun i h1 h2 => h96 i (by omega))
theorem p0_fat {w : pq_W} (ht : sx_Ty sx_T0 w) : (0 ≤ sy_r w 6 9 ∧ sy_r w 6 9 ≤ 999) ∧ 0 ≤ sy_r w 40 9 ∧ sy_r w 40 9 ≤ 999 := by
  obtain ⟨_, _, _, h1, h2⟩ := sq_fat (r := 6) (i := 9) (lo := 0) (hi := 999) ht rfl rfl
  obtain ⟨_, _, _, h3, h4⟩ := sq_fat (r := 40) (i := 9) (lo := 0) (hi := 999) ht rfl rfl
  exact ⟨⟨h1, h2⟩, h3, h4⟩
theorem p0_image {n : Nat} (hn : n ≤ 90000) (w : pq_W) (hw : W0 n w) : ∃ (x : Int32) (w1 w2 : pq_W), pq_Ru 300 147 [.ref 5] w (some (.int x), w1) ∧ pq_Ru 300 245 [.ref 94] w1 (some (.int x), w2) ∧ W0 (n + 1) w2 ∧ sx_Fr sx_MK w w2 := by
  obtain ⟨ht, hJ, hF⟩ := hw
  obtain ⟨f1, f2, f3, f4, f5⟩ := id hF
  have hfa := p0_fat ht
  have main : ∃ res, pq_Go 299 pm_147 0 (lv_args 0 [.ref 5]) [] w 0 0 res ∧ ((∃ x : Int32, res.1 = some (.int x) ∧ x.toInt = sy_r w 5 15 + 1) ∧ sx_Ty sx_T0 res.2 ∧ sx_Fr ci_A w res.2 ∧ sy_r res.2 40 9 = sy_r w 6 9 ∧ sy_r res.2 5 15 = sy_r w 5 15 + 1) := by
    refine ng_go (J := sx_tt) (Post := fun res => (∃ x : Int32, res.1 = some (.int x) ∧ x.toInt = sy_r w 5 15 + 1) ∧ sx_Ty sx_T0 res.2 ∧ sx_Fr ci_A w res.2 ∧ sy_r res.2 40 9 = sy_r w 6 9 ∧ sy_r res.2 5 15 = sy_r w 5 15 + 1) (fx_p [sy_r w 6 9, sy_r w 5 15]) ci_1 rfl ⟨hfa.1.1, hfa.1.2, (show 0 ≤ sy_r w 5 15 by omega), (show sy_r w 5 15 ≤ 100000 by omega), trivial⟩ trivial ⟨rfl, trivial⟩ trivial ⟨?_, ?_, trivial⟩ ht sx_ctn (fun _ _ _ => trivial) ⟨fun x w2 t2 f2 q => ?_, trivial⟩ trivial
    · show sy_r w 6 (sx_ev _ (9, [])).toNat = sx_ev _ (sx_y 0)
      rw [ng_ek, sx_y_ev]
      rfl
    · show sy_r w 5 (sx_ev _ (15, [])).toNat = sx_ev _ (sx_y 1)
      rw [ng_ek, sx_y_ev]
      rfl
    · obtain ⟨q1, ⟨q2, q3, _⟩, _⟩ := q
      rw [ng_ek, sx_y_ev] at q2
      rw [ng_ek] at q3
      have q3 : sy_r w2 5 15 = 1 + (1 * sy_r w 5 15 + 0) := q3
      obtain ⟨y, y1, y2⟩ := q1
      have y2 : y.toInt = 1 + (1 * sy_r w 5 15 + 0) := y2
      exact ⟨⟨y, y1, by omega⟩, t2, f2, q2, by show sy_r w2 5 15 = _; omega⟩
  obtain ⟨⟨r1, w1⟩, g1, ⟨x1, rfl, v0⟩, t1, fr1, v1, v2⟩ := main
  have t1 : sx_Ty sx_T0 w1 := t1
  have fr1 : sx_Fr ci_A w w1 := fr1
  have v1 : sy_r w1 40 9 = sy_r w 6 9 := v1
  have v2 : sy_r w1 5 15 = sy_r w 5 15 + 1 := v2
  have no : ∀ r i, sy_ninb ci_A r 0 100000 = true → i ≤ 100000 → sy_r w1 r i = sy_r w r i := fun r i h hi => sy_r_fr fr1 (sy_nin h (by omega) (by omega))
  have hJ1 : JJ w1 := JJ_of (sy_z95 ht) (sy_z96 ht) (JJ_a hJ) (JJ_b hJ) t1 (fun i hi => no 95 i (by decide +kernel) (by omega)) (fun i hi => no 96 i (by decide +kernel) (by omega))
  obtain ⟨x2, w2, g2, t2, hJ2, ex, e2, e3, e4, fr2⟩ := kx_image t1 hJ1
  have m2 : sy_r w1 94 2 = sy_r w 94 2 := no 94 2 (by decide +kernel) (by omega)
  have hx : x2.toInt = sy_r w 94 2 + 1 := by
    rw [ex, m2]
    exact Int.bmod_eq_of_le (by omega) (by omega)
  have e12 : x1 = x2 := Int32.toInt_inj.mp (by rw [v0, hx]; omega)
  subst e12
  refine ⟨x1, w1, w2, ru_of (k := 299) (M := pm_147) rfl (by rw [Bool.and_eq_true]; exact ⟨rfl, sq_rcv ht rfl rfl rfl⟩) g1, ru_mono g2 (by decide), ⟨t2, hJ2, ?_⟩, sx_Fr_trans (sx_Fr_sub (by decide +kernel) fr1) (sx_Fr_sub (by decide +kernel) fr2)⟩
  have c1 : sy_r w2 6 9 = sy_r w 6 9 := by rw [fr_no fr2 ⟨Or.inl (by decide), Or.inl (by decide), trivial⟩, no 6 9 (by decide +kernel) (by omega)]
  have c2 : sy_r w2 95 1 = sy_r w 95 1 := by rw [fr_no fr2 ⟨Or.inl (by decide), Or.inl (by decide), trivial⟩, no 95 1 (by decide +kernel) (by omega)]
  have c3 : sy_r w2 5 15 = sy_r w 5 15 + 1 := by rw [fr_no fr2 ⟨Or.inl (by decide), Or.inl (by decide), trivial⟩, v2]
  have c4 : sy_r w2 40 9 = sy_r w 6 9 := by rw [fr_no fr2 ⟨Or.inl (by decide), Or.inl (by decide), trivial⟩, v1]
  have c5 : sy_r w2 96 1 = sy_r w 95 1 := by rw [e3, no 95 1 (by decide +kernel) (by omega)]
  exact ⟨by rw [c1, c2]; exact f1, by rw [c3, e2, hx, f2], by rw [e2, hx]; omega, by rw [e2, hx]; omega, fun _ => ⟨by rw [c4, c5]; exact f1, e4⟩⟩
theorem p0_restore {n : Nat} (hn : n ≤ 90000) : p0_P n 152 246 [] := by
  intro w hw
  obtain ⟨ht, hJ, hF⟩ := hw
  obtain ⟨f1, f2, f3, f4, f5⟩ := id hF
  have hfa := p0_fat ht
  by_cases e0 : sy_r w 94 2 = 0
  · have main : ∃ res, pq_Go 299 pm_152 0 (lv_args 0 [.ref 5]) [] w 0 0 res ∧ ((∃ x : Int32, res.1 = some (.int x)) ∧ sx_Ty sx_T0 res.2 ∧ sx_Fr [(93, 0, 100000)] w res.2) := by
      refine ng_go (J := sx_tt) (Post := fun res => (∃ x : Int32, res.1 = some (.int x)) ∧ sx_Ty sx_T0 res.2 ∧ sx_Fr [(93, 0, 100000)] w res.2) (fx_p []) ci_2 rfl trivial trivial ⟨rfl, trivial⟩ trivial ⟨?_, trivial⟩ ht sx_ctn (fun _ _ _ => trivial) ⟨fun x w2 t2 f2 q => ⟨mc_ans q.1, t2, f2⟩, trivial⟩ trivial
      show sy_r w 5 (sx_ev _ (15, [])).toNat = sx_ev _ (0, [])
      rw [ng_ek, ng_ek]
      exact f2.trans e0
    obtain ⟨⟨r1, w1⟩, g1, ⟨x1, rfl⟩, t1, fr1⟩ := main
    have t1 : sx_Ty sx_T0 w1 := t1
    have h1 : W0 n w1 := W0_c ⟨ht, hJ, hF⟩ t1 (sx_Fr_sub (by decide +kernel) fr1)
    have e1 : sy_r w1 94 2 = 0 := by rw [fr_no (A := [(93, 0, 100000)]) fr1 ⟨Or.inl (by decide), trivial⟩]; exact e0
    obtain ⟨x2, w2, g2, t2, hJ2, hor⟩ := kx_restore t1 h1.2.1 (fun q => absurd e1 q)
    rcases hor with ⟨_, fr2⟩ | ⟨q, _⟩
    · refine ⟨x1, w1, x2, w2, ru_of (k := 299) (M := pm_152) rfl (by rw [Bool.and_eq_true]; exact ⟨rfl, sq_rcv ht rfl rfl rfl⟩) g1, g2, ⟨t2, hJ2, ?_⟩, sx_Fr_trans (sx_Fr_sub (by decide +kernel) fr1) (sx_Fr_sub (by decide +kernel) fr2)⟩
      exact FI_up (FI_mv h1.2.2 (fr_no fr2 ⟨Or.inl (by decide), trivial⟩) (fr_no fr2 ⟨Or.inl (by decide), trivial⟩) (fr_no fr2 ⟨Or.inl (by decide), trivial⟩) (fr_no fr2 ⟨Or.inl (by decide), trivial⟩) (fr_no fr2 ⟨Or.inl (by decide), trivial⟩) (fun i _ => fr_no fr2 ⟨Or.inl (by decide), trivial⟩))
    · exact absurd e1 q
  · have main : ∃ res, pq_Go 299 pm_152 0 (lv_args 0 [.ref 5]) [] w 0 0 res ∧ ((∃ x : Int32, res.1 = some (.int x)) ∧ sx_Ty sx_T0 res.2 ∧ sx_Fr ci_N w res.2 ∧ sy_r res.2 6 9 = sy_r w 40 9) := by
      refine ng_go (J := sx_tt) (Post := fun res => (∃ x : Int32, res.1 = some (.int x)) ∧ sx_Ty sx_T0 res.2 ∧ sx_Fr ci_N w res.2 ∧ sy_r res.2 6 9 = sy_r w 40 9) (fx_p [sy_r w 40 9, sy_r w 5 15]) ci_3 rfl ⟨hfa.2.1, hfa.2.2, (show 1 ≤ sy_r w 5 15 by omega), (show sy_r w 5 15 ≤ 100000 by omega), trivial⟩ trivial ⟨rfl, trivial⟩ trivial ⟨?_, ?_, trivial⟩ ht sx_ctn (fun _ _ _ => trivial) ⟨fun x w2 t2 f2 q => ?_, trivial⟩ trivial
      · show sy_r w 40 (sx_ev _ (9, [])).toNat = sx_ev _ (sx_y 0)
        rw [ng_ek, sx_y_ev]
        rfl
      · show sy_r w 5 (sx_ev _ (15, [])).toNat = sx_ev _ (sx_y 1)
        rw [ng_ek, sx_y_ev]
        rfl
      · obtain ⟨q1, ⟨q2, _⟩, _⟩ := q
        rw [ng_ek, sx_y_ev] at q2
        exact ⟨mc_ans q1, t2, f2, q2⟩
    obtain ⟨⟨r1, w1⟩, g1, ⟨x1, rfl⟩, t1, fr1, v1⟩ := main
    have t1 : sx_Ty sx_T0 w1 := t1
    have fr1 : sx_Fr ci_N w w1 := fr1
    have v1 : sy_r w1 6 9 = sy_r w 40 9 := v1
    have no : ∀ r i, sy_ninb ci_N r 0 100000 = true → i ≤ 100000 → sy_r w1 r i = sy_r w r i := fun r i h hi => sy_r_fr fr1 (sy_nin h (by omega) (by omega))
    have hJ1 : JJ w1 := JJ_of (sy_z95 ht) (sy_z96 ht) (JJ_a hJ) (JJ_b hJ) t1 (fun i hi => no 95 i (by decide +kernel) (by omega)) (fun i hi => no 96 i (by decide +kernel) (by omega))
    obtain ⟨x2, w2, g2, t2, hJ2, hor⟩ := kx_restore t1 hJ1 (fun _ => kg_mv (fun i hi => no 96 i (by decide +kernel) (by omega)) (f5 e0).2)
    have m2 : sy_r w1 94 2 = sy_r w 94 2 := no 94 2 (by decide +kernel) (by omega)
    rcases hor with ⟨q, _⟩ | ⟨_, e3, fr2⟩
    · exact absurd (m2.symm.trans q) e0
    · refine ⟨x1, w1, x2, w2, ru_of (k := 299) (M := pm_152) rfl (by rw [Bool.and_eq_true]; exact ⟨rfl, sq_rcv ht rfl rfl rfl⟩) g1, g2, ⟨t2, hJ2, ?_⟩, sx_Fr_trans (sx_Fr_sub (by decide +kernel) fr1) (sx_Fr_sub (by decide +kernel) fr2)⟩
      have c1 : sy_r w2 6 9 = sy_r w 40 9 := by rw [fr_no fr2 ⟨Or.inl (by decide), trivial⟩, v1]
      have c2 : sy_r w2 95 1 = sy_r w 96 1 := by rw [e3, no 96 1 (by decide +kernel) (by omega)]
      have c3 : sy_r w2 5 15 = sy_r w 5 15 := by rw [fr_no fr2 ⟨Or.inl (by decide), trivial⟩, no 5 15 (by decide +kernel) (by omega)]
      have c4 : sy_r w2 94 2 = sy_r w 94 2 := by rw [fr_no fr2 ⟨Or.inl (by decide), trivial⟩, m2]
      have c5 : sy_r w2 40 9 = sy_r w 40 9 := by rw [fr_no fr2 ⟨Or.inl (by decide), trivial⟩, no 40 9 (by decide +kernel) (by omega)]
      have c6 : sy_r w2 96 1 = sy_r w 96 1 := by rw [fr_no fr2 ⟨Or.inl (by decide), trivial⟩, no 96 1 (by decide +kernel) (by omega)]
      exact ⟨by rw [c1, c2]; exact (f5 e0).1, by rw [c3, c4]; exact f2, by rw [c4]; exact f3, by rw [c4]; omega, fun _ => ⟨by rw [c5, c6]; exact (f5 e0).1, kg_mv (fun i hi => by rw [fr_no fr2 ⟨Or.inl (by decide), trivial⟩, no 96 i (by decide +kernel) (by omega)]) (f5 e0).2⟩⟩
