/-! calls of both sides, one after the other -/
noncomputable def nb_c (A : sx_A) (r : Nat) : Bool := A.all fun q => !(Nat.beq q.1 r)
theorem nb_c_ok {A : sx_A} {w w1 : pq_W} {r : Nat} (h : nb_c A r = true) (f : sx_Fr A w w1) : sy_r w1 r = sy_r w r := funext fun i => sy_r_fr f (fun ⟨q, hq, e1, _⟩ => by
  unfold nb_c at h
  rw [List.all_eq_true] at h
  have h3 := h q hq
  rw [e1, show Nat.beq r r = true from Nat.beq_refl r] at h3
  cases h3)
theorem nb_1 {A : sx_A} {w w1 : pq_W} {r i : Nat} (h : sy_ninb A r i i = true) (f : sx_Fr A w w1) : sy_r w1 r i = sy_r w r i := sy_r_fr f (sy_nin h (Int.le_refl _) (Int.le_refl _))
noncomputable def kz_PB (B : sx_A) (w : pq_W) (res : pq_R) : Prop := sx_Ty sx_T0 res.2 ∧ JJ res.2 ∧ sx_Fr B w res.2 ∧ ∃ x : Int32, res.1 = some (.int x)
theorem kz_gen {j : Nat} {c : sx_K} (h : sx_Kok sx_T0 sy_J0 j c) (h1 : c.k = 300) (h2 : c.kn = []) (h3 : c.kg = []) (h4 : c.pt = []) (h5 : c.rt = some (.inl (-2147483648, 2147483647))) (hb : (nb_c c.md 96 && sy_ninb c.md 95 0 0 && sy_ninb c.md 95 3 3 && sy_ninb c.md 95 5 6 && sy_ninb c.md 95 186 1921) = true) {as : List Value} (ha : sx_argm c.as as) {w : pq_W} (ht : sx_Ty sx_T0 w) (hJ : JJ w) : ∃ res, pq_Ru 300 j as w res ∧ kz_PB c.md w res := by
  simp only [Bool.and_eq_true] at hb
  obtain ⟨⟨⟨⟨b1, b2⟩, b3⟩, b4⟩, b5⟩ := hb
  obtain ⟨r, w1, g1, t1, j1, rm, f⟩ := h as w ha (by rw [h2]; exact sy_O0) (by rw [h3]; exact fun q hq => by cases hq) ht hJ.1
  rw [h1] at g1
  have hM : Mo (sy_r w1 95) := Mo_fr hJ.2.1 (sy_r_fr f (sy_nin b2 (by decide) (by decide))) (mo_yT t1 (Or.inl rfl)).1 (sy_r_fr f (sy_nin b3 (by decide) (by decide))) (sy_r_fr f (sy_nin b4 (by decide) (by decide))) (sy_r_fr f (sy_nin b4 (by decide) (by decide))) (fun i i1 i2 => sy_r_fr f (sy_nin b5 (by omega) (by omega)))
  have e96 : sy_r w1 96 = sy_r w 96 := nb_c_ok b1 f
  unfold sx_Rm at rm
  rw [h4] at rm
  have rm : sx_rtm c.rt r := rm
  rw [h5] at rm
  refine ⟨(r, w1), g1, t1, ⟨j1, hM, by show Mo (sy_r w1 96); rw [e96]; exact hJ.2.2⟩, f, ?_⟩
  match r, rm with
  | some (.int x), _ => exact ⟨x, rfl⟩
/-- what is told by hand, with the places that the check tells -/
theorem kz_ref {j : Nat} {c : sx_K} (h : sx_Kok sx_T0 sy_J0 j c) (h2 : c.kn = []) (h3 : c.kg = []) {B : sx_A} {as : List Value} (ha : sx_argm c.as as) {w : pq_W} (ht : sx_Ty sx_T0 w) (hJ : JJ w) (hz : ∃ res, pq_Ru 300 j as w res ∧ kz_PB B w res) : ∃ res, pq_Ru 300 j as w res ∧ kz_PB c.md w res := by
  obtain ⟨res, g, z1, z2, _, z4⟩ := hz
  obtain ⟨r, w1, g1, t1, j1, rm, f⟩ := h as w ha (by rw [h2]; exact sy_O0) (by rw [h3]; exact fun q hq => by cases hq) ht hJ.1
  have e := ru_det g g1
  subst e
  exact ⟨_, g, z1, z2, f, z4⟩
noncomputable def kc_P (C : sx_A) (w : pq_W) (res : pq_R) : Prop := sx_Ty sx_T0 res.2 ∧ sx_Fr C w res.2 ∧ ∃ x : Int32, res.1 = some (.int x)
theorem kc_gen {j : Nat} {c : sx_K} (h : sx_Kok sx_T0 sx_tt j c) (h1 : c.k = 300) (h2 : c.kn = []) (h3 : c.kg = []) (h4 : c.pt = []) (h5 : c.rt = some (.inl (-2147483648, 2147483647))) {as : List Value} (ha : sx_argm c.as as) {w : pq_W} (ht : sx_Ty sx_T0 w) : ∃ res, pq_Ru 300 j as w res ∧ kc_P c.md w res := by
  obtain ⟨r, w1, g1, t1, j1, rm, f⟩ := h as w ha (by rw [h2]; exact sy_O0) (by rw [h3]; exact fun q hq => by cases hq) ht trivial
  rw [h1] at g1
  unfold sx_Rm at rm
  rw [h4] at rm
  have rm : sx_rtm c.rt r := rm
  rw [h5] at rm
  refine ⟨(r, w1), g1, t1, f, ?_⟩
  match r, rm with
  | some (.int x), _ => exact ⟨x, rfl⟩
/-- fuel of both sides, as it is and as it is kept; how many images -/
noncomputable def FI (n : Nat) (w : pq_W) : Prop := sy_r w 6 9 = sy_r w 95 1 ∧ sy_r w 5 15 = sy_r w 94 2 ∧ 0 ≤ sy_r w 94 2 ∧ sy_r w 94 2 ≤ n ∧ (sy_r w 94 2 ≠ 0 → sy_r w 40 9 = sy_r w 96 1 ∧ kg w)
noncomputable def W0 (n : Nat) (w : pq_W) : Prop := sx_Ty sx_T0 w ∧ JJ w ∧ FI n w
theorem FI_mv {n : Nat} {w w1 : pq_W} (h : FI n w) (a1 : sy_r w1 6 9 = sy_r w 6 9) (a2 : sy_r w1 95 1 = sy_r w 95 1) (a3 : sy_r w1 5 15 = sy_r w 5 15) (a4 : sy_r w1 94 2 = sy_r w 94 2) (a5 : sy_r w1 40 9 = sy_r w 40 9) (a6 : ∀ i, i < 2858 → sy_r w1 96 i = sy_r w 96 i) : FI n w1 := by
  unfold FI
  rw [a1, a2, a3, a4, a5, a6 1 (by omega)]
  exact ⟨h.1, h.2.1, h.2.2.1, h.2.2.2.1, fun q => ⟨(h.2.2.2.2 q).1, kg_mv a6 (h.2.2.2.2 q).2⟩⟩
theorem FI_up {n : Nat} {w : pq_W} (h : FI n w) : FI (n + 1) w := ⟨h.1, h.2.1, h.2.2.1, by have := h.2.2.2.1; omega, h.2.2.2.2⟩
noncomputable def w0_c (C : sx_A) : Bool := nb_c C 95 && nb_c C 96 && sy_ninb C 6 9 9 && sy_ninb C 5 15 15 && sy_ninb C 94 2 2 && sy_ninb C 40 9 9
noncomputable def w0_z (B : sx_A) : Bool := nb_c B 96 && sy_ninb B 95 1 1 && sy_ninb B 6 9 9 && sy_ninb B 5 15 15 && sy_ninb B 94 2 2 && sy_ninb B 40 9 9
theorem W0_c {C : sx_A} (hC : w0_c C = true) {n : Nat} {w w1 : pq_W} (h : W0 n w) (ht : sx_Ty sx_T0 w1) (f : sx_Fr C w w1) : W0 n w1 := by
  unfold w0_c at hC
  simp only [Bool.and_eq_true] at hC
  obtain ⟨⟨⟨⟨⟨b1, b2⟩, b3⟩, b4⟩, b5⟩, b6⟩ := hC
  have h95 := nb_c_ok b1 f
  have h96 := nb_c_ok b2 f
  exact ⟨ht, JJ_of (sy_z95 h.1) (sy_z96 h.1) (JJ_a h.2.1) (JJ_b h.2.1) ht (fun i _ => congrFun h95 i) (fun i _ => congrFun h96 i), FI_mv h.2.2 (nb_1 (i := 9) b3 f) (congrFun h95 1) (nb_1 (i := 15) b4 f) (nb_1 (i := 2) b5 f) (nb_1 (i := 9) b6 f) (fun i _ => congrFun h96 i)⟩
theorem W0_z {B : sx_A} (hB : w0_z B = true) {n : Nat} {w : pq_W} {res : pq_R} (h : W0 n w) (hz : kz_PB B w res) : W0 n res.2 := by
  unfold w0_z at hB
  simp only [Bool.and_eq_true] at hB
  obtain ⟨⟨⟨⟨⟨b1, b2⟩, b3⟩, b4⟩, b5⟩, b6⟩ := hB
  obtain ⟨z1, z2, f, _⟩ := hz
  exact ⟨z1, z2, FI_mv h.2.2 (nb_1 (i := 9) b3 f) (nb_1 (i := 1) b2 f) (nb_1 (i := 15) b4 f) (nb_1 (i := 2) b5 f) (nb_1 (i := 9) b6 f) (fun i _ => congrFun (nb_c_ok b1 f) i)⟩
/-- both calls come to an end; C, B: where they write -/
noncomputable def p0_P (C B : sx_A) (n jc jm : Nat) (as : List Value) : Prop := ∀ w, W0 n w → ∃ (x1 : Int32) (w1 : pq_W) (x2 : Int32) (w2 : pq_W), pq_Ru 300 jc (.ref 5 :: as) w (some (.int x1), w1) ∧ pq_Ru 300 jm (.ref 94 :: as) w1 (some (.int x2), w2) ∧ W0 n w1 ∧ W0 (n + 1) w2 ∧ sx_Fr C w w1 ∧ sx_Fr B w1 w2
theorem p0_gen {C B : sx_A} {n jc jm : Nat} {as : List Value} (hc : ∀ w, sx_Ty sx_T0 w → ∃ res, pq_Ru 300 jc (.ref 5 :: as) w res ∧ kc_P C w res) (hm : ∀ w, sx_Ty sx_T0 w → JJ w → ∃ res, pq_Ru 300 jm (.ref 94 :: as) w res ∧ kz_PB B w res) (hC : w0_c C = true) (hB : w0_z B = true) : p0_P C B n jc jm as := by
  intro w hw
  obtain ⟨⟨r1, w1⟩, g1, t1, f1, x1, e1⟩ := hc w hw.1
  have e1 : r1 = some (.int x1) := e1
  subst e1
  have t1 : sx_Ty sx_T0 w1 := t1
  have f1 : sx_Fr C w w1 := f1
  have h1 : W0 n w1 := W0_c hC hw t1 f1
  obtain ⟨⟨r2, w2⟩, g2, hz⟩ := hm w1 h1.1 h1.2.1
  have h2 : W0 n w2 := W0_z hB h1 hz
  obtain ⟨_, _, f2, x2, e2⟩ := hz
  have e2 : r2 = some (.int x2) := e2
  subst e2
  exact ⟨x1, w1, x2, w2, g1, g2, h1, ⟨h2.1, h2.2.1, FI_up h2.2.2⟩, f1, f2⟩
theorem p0_i (a : Int32) : sx_fok (.inl (-2147483648, 2147483647)) (.int a) := ⟨a.minValue_le_toInt, a.toInt_le⟩
theorem p0_b {a : Int32} (h : a = 0 ∨ a = 1) : sx_fok (.inl (0, 1)) (.int a) := by
  rcases h with rfl | rfl
  · exact ⟨by decide, by decide⟩
  · exact ⟨by decide, by decide⟩
theorem p0_cell {n : Nat} {a b : Int32} : p0_P kk_c_cell.md kk_m_cell.md n 12 159 [.int a, .int b] := p0_gen (fun w ht => kc_gen (as := [.ref 5, .int a, .int b]) kt_c_cell rfl rfl rfl rfl rfl ⟨rfl, p0_i a, p0_i b, trivial⟩ ht) (fun w ht hJ => kz_gen (as := [.ref 94, .int a, .int b]) (kt_m_cell sy_J0I kt_RH) rfl rfl rfl rfl rfl (by decide +kernel) ⟨rfl, p0_i a, p0_i b, trivial⟩ ht hJ) (by decide +kernel) (by decide +kernel)
theorem p0_block {n : Nat} {a b : Int32} : p0_P kk_c_block.md kk_m_block.md n 17 163 [.int a, .int b] := p0_gen (fun w ht => kc_gen (as := [.ref 5, .int a, .int b]) kt_c_block rfl rfl rfl rfl rfl ⟨rfl, p0_i a, p0_i b, trivial⟩ ht) (fun w ht hJ => kz_gen (as := [.ref 94, .int a, .int b]) (kt_m_block sy_J0I kt_RH) rfl rfl rfl rfl rfl (by decide +kernel) ⟨rfl, p0_i a, p0_i b, trivial⟩ ht hJ) (by decide +kernel) (by decide +kernel)
theorem p0_shut {n : Nat} {a b : Int32} (hb : b = 0 ∨ b = 1) : p0_P kk_c_shut.md kk_m_shut.md n 22 165 [.int a, .int b] := p0_gen (fun w ht => kc_gen (as := [.ref 5, .int a, .int b]) kt_c_shut rfl rfl rfl rfl rfl ⟨rfl, p0_i a, p0_b hb, trivial⟩ ht) (fun w ht hJ => kz_gen (as := [.ref 94, .int a, .int b]) (kt_m_shut sy_J0I kt_RH) rfl rfl rfl rfl rfl (by decide +kernel) ⟨rfl, p0_i a, p0_b hb, trivial⟩ ht hJ) (by decide +kernel) (by decide +kernel)
theorem p0_land {n : Nat} {a b c : Int32} : p0_P kk_c_land.md kk_m_land.md n 23 166 [.int a, .int b, .int c] := p0_gen (fun w ht => kc_gen (as := [.ref 5, .int a, .int b, .int c]) kt_c_land rfl rfl rfl rfl rfl ⟨rfl, p0_i a, p0_i b, p0_i c, trivial⟩ ht) (fun w ht hJ => kz_gen (as := [.ref 94, .int a, .int b, .int c]) (kt_m_land sy_J0I kt_RH) rfl rfl rfl rfl rfl (by decide +kernel) ⟨rfl, p0_i a, p0_i b, p0_i c, trivial⟩ ht hJ) (by decide +kernel) (by decide +kernel)
theorem p0_landIs {n : Nat} {a b : Int32} : p0_P kk_c_landIs.md kk_m_landIs.md n 25 169 [.int a, .int b] := p0_gen (fun w ht => kc_gen (as := [.ref 5, .int a, .int b]) kt_c_landIs rfl rfl rfl rfl rfl ⟨rfl, p0_i a, p0_i b, trivial⟩ ht) (fun w ht hJ => kz_gen (as := [.ref 94, .int a, .int b]) (kt_m_landIs sy_J0I kt_RH) rfl rfl rfl rfl rfl (by decide +kernel) ⟨rfl, p0_i a, p0_i b, trivial⟩ ht hJ) (by decide +kernel) (by decide +kernel)
theorem p0_rate {n : Nat} {a b : Int32} : p0_P kk_c_rate.md kk_m_rate.md n 28 172 [.int a, .int b] := p0_gen (fun w ht => kc_gen (as := [.ref 5, .int a, .int b]) kt_c_rate rfl rfl rfl rfl rfl ⟨rfl, p0_i a, p0_i b, trivial⟩ ht) (fun w ht hJ => kz_gen (as := [.ref 94, .int a, .int b]) (kt_m_rate sy_J0I kt_RH) rfl rfl rfl rfl rfl (by decide +kernel) ⟨rfl, p0_i a, p0_i b, trivial⟩ ht hJ) (by decide +kernel) (by decide +kernel)
theorem p0_airline {n : Nat} {a : Int32} : p0_P kk_c_airline.md kk_m_airline.md n 29 173 [.int a] := p0_gen (fun w ht => kc_gen (as := [.ref 5, .int a]) kt_c_airline rfl rfl rfl rfl rfl ⟨rfl, p0_i a, trivial⟩ ht) (fun w ht hJ => kz_ref (B := sx_MGa) (as := [.ref 94, .int a]) (kt_m_airline sy_J0I kt_RH) rfl rfl ⟨rfl, p0_i a, trivial⟩ ht hJ (kz_airline ht hJ)) (by decide +kernel) (by decide +kernel)
theorem p0_plane {n : Nat} {a b c : Int32} : p0_P kk_c_plane.md kk_m_plane.md n 31 174 [.int a, .int b, .int c] := p0_gen (fun w ht => kc_gen (as := [.ref 5, .int a, .int b, .int c]) kt_c_plane rfl rfl rfl rfl rfl ⟨rfl, p0_i a, p0_i b, p0_i c, trivial⟩ ht) (fun w ht hJ => kz_ref (B := sx_MZ) (as := [.ref 94, .int a, .int b, .int c]) (kt_m_plane sy_J0I kt_RH) rfl rfl ⟨rfl, p0_i a, p0_i b, p0_i c, trivial⟩ ht hJ (kz_plane ht hJ)) (by decide +kernel) (by decide +kernel)
theorem p0_as {n : Nat} {a b : Int32} : p0_P kk_c_as.md kk_m_as.md n 35 176 [.int a, .int b] := p0_gen (fun w ht => kc_gen (as := [.ref 5, .int a, .int b]) kt_c_as rfl rfl rfl rfl rfl ⟨rfl, p0_i a, p0_i b, trivial⟩ ht) (fun w ht hJ => kz_gen (as := [.ref 94, .int a, .int b]) (kt_m_as sy_J0I kt_RH) rfl rfl rfl rfl rfl (by decide +kernel) ⟨rfl, p0_i a, p0_i b, trivial⟩ ht hJ) (by decide +kernel) (by decide +kernel)
theorem p0_planeIs {n : Nat} {a b : Int32} : p0_P kk_c_planeIs.md kk_m_planeIs.md n 38 179 [.int a, .int b] := p0_gen (fun w ht => kc_gen (as := [.ref 5, .int a, .int b]) kt_c_planeIs rfl rfl rfl rfl rfl ⟨rfl, p0_i a, p0_i b, trivial⟩ ht) (fun w ht hJ => kz_gen (as := [.ref 94, .int a, .int b]) (kt_m_planeIs sy_J0I kt_RH) rfl rfl rfl rfl rfl (by decide +kernel) ⟨rfl, p0_i a, p0_i b, trivial⟩ ht hJ) (by decide +kernel) (by decide +kernel)
theorem p0_earn {n : Nat} {a b : Int32} : p0_P kk_c_earn.md kk_m_earn.md n 51 189 [.int a, .int b] := p0_gen (fun w ht => kc_gen (as := [.ref 5, .int a, .int b]) kt_c_earn rfl rfl rfl rfl rfl ⟨rfl, p0_i a, p0_i b, trivial⟩ ht) (fun w ht hJ => kz_ref (B := sx_MZ) (as := [.ref 94, .int a, .int b]) (kt_m_earn sy_J0I kt_RH) rfl rfl ⟨rfl, p0_i a, p0_i b, trivial⟩ ht hJ (kz_earn ht hJ)) (by decide +kernel) (by decide +kernel)
theorem p0_coin {n : Nat} {a : Int32} : p0_P kk_c_coin.md kk_m_coin.md n 52 190 [.int a] := p0_gen (fun w ht => kc_gen (as := [.ref 5, .int a]) kt_c_coin rfl rfl rfl rfl rfl ⟨rfl, p0_i a, trivial⟩ ht) (fun w ht hJ => kz_gen (as := [.ref 94, .int a]) (kt_m_coin sy_J0I kt_RH) rfl rfl rfl rfl rfl (by decide +kernel) ⟨rfl, p0_i a, trivial⟩ ht hJ) (by decide +kernel) (by decide +kernel)
theorem p0_owes {n : Nat} {a b : Int32} : p0_P kk_c_owes.md kk_m_owes.md n 53 191 [.int a, .int b] := p0_gen (fun w ht => kc_gen (as := [.ref 5, .int a, .int b]) kt_c_owes rfl rfl rfl rfl rfl ⟨rfl, p0_i a, p0_i b, trivial⟩ ht) (fun w ht hJ => kz_gen (as := [.ref 94, .int a, .int b]) (kt_m_owes sy_J0I kt_RH) rfl rfl rfl rfl rfl (by decide +kernel) ⟨rfl, p0_i a, p0_i b, trivial⟩ ht hJ) (by decide +kernel) (by decide +kernel)
theorem p0_pay {n : Nat} {a b c : Int32} : p0_P kk_c_pay.md kk_m_pay.md n 55 193 [.int a, .int b, .int c] := p0_gen (fun w ht => kc_gen (as := [.ref 5, .int a, .int b, .int c]) kt_c_pay rfl rfl rfl rfl rfl ⟨rfl, p0_i a, p0_i b, p0_i c, trivial⟩ ht) (fun w ht hJ => kz_ref (B := sx_MZ) (as := [.ref 94, .int a, .int b, .int c]) (kt_m_pay sy_J0I kt_RH) rfl rfl ⟨rfl, p0_i a, p0_i b, p0_i c, trivial⟩ ht hJ (kz_pay ht hJ)) (by decide +kernel) (by decide +kernel)
theorem p0_end {n : Nat} {a : Int32} : p0_P kk_c_end.md sx_MGe n 56 194 [.int a] := p0_gen (fun w ht => kc_gen (as := [.ref 5, .int a]) kt_c_end rfl rfl rfl rfl rfl ⟨rfl, p0_i a, trivial⟩ ht) (fun w ht hJ => by obtain ⟨res, r1, r2⟩ := kz_end ht hJ; exact ⟨res, r1, r2.1⟩) (by decide +kernel) (by decide +kernel)
theorem p0_feed {n : Nat} {b : Int32} {a : Int64} : p0_P kk_c_feed.md kk_m_feed.md n 63 195 [.long a, .int b] := p0_gen (fun w ht => kc_gen (as := [.ref 5, .long a, .int b]) kt_c_feed rfl rfl rfl rfl rfl ⟨rfl, trivial, p0_i b, trivial⟩ ht) (fun w ht hJ => kz_gen (as := [.ref 94, .long a, .int b]) (kt_m_feed sy_J0I kt_RH) rfl rfl rfl rfl rfl (by decide +kernel) ⟨rfl, trivial, p0_i b, trivial⟩ ht hJ) (by decide +kernel) (by decide +kernel)
theorem p0_law {n : Nat} {a b : Int32} : p0_P kk_c_law.md sx_MGf n 65 196 [.int a, .int b] := p0_gen (fun w ht => kc_gen (as := [.ref 5, .int a, .int b]) kt_c_law rfl rfl rfl rfl rfl ⟨rfl, p0_i a, p0_i b, trivial⟩ ht) (fun w ht hJ => kz_law ht hJ) (by decide +kernel) (by decide +kernel)
theorem p0_force {n : Nat} {a b : Int32} : p0_P kk_c_force.md kk_m_force.md n 80 206 [.int a, .int b] := p0_gen (fun w ht => kc_gen (as := [.ref 5, .int a, .int b]) kt_c_force rfl rfl rfl rfl rfl ⟨rfl, p0_i a, p0_i b, trivial⟩ ht) (fun w ht hJ => kz_gen (as := [.ref 94, .int a, .int b]) (kt_m_force sy_J0I kt_RH) rfl rfl rfl rfl rfl (by decide +kernel) ⟨rfl, p0_i a, p0_i b, trivial⟩ ht hJ) (by decide +kernel) (by decide +kernel)
theorem p0_says {n : Nat} {a b c d : Int32} : p0_P kk_c_says.md kk_m_says.md n 81 207 [.int a, .int b, .int c, .int d] := p0_gen (fun w ht => kc_gen (as := [.ref 5, .int a, .int b, .int c, .int d]) kt_c_says rfl rfl rfl rfl rfl ⟨rfl, p0_i a, p0_i b, p0_i c, p0_i d, trivial⟩ ht) (fun w ht hJ => kz_gen (as := [.ref 94, .int a, .int b, .int c, .int d]) (kt_m_says sy_J0I kt_RH) rfl rfl rfl rfl rfl (by decide +kernel) ⟨rfl, p0_i a, p0_i b, p0_i c, p0_i d, trivial⟩ ht hJ) (by decide +kernel) (by decide +kernel)
theorem p0_file {n : Nat} {a b : Int32} : p0_P kk_c_file.md sx_MGf n 82 208 [.int a, .int b] := p0_gen (fun w ht => kc_gen (as := [.ref 5, .int a, .int b]) kt_c_file rfl rfl rfl rfl rfl ⟨rfl, p0_i a, p0_i b, trivial⟩ ht) (fun w ht hJ => kz_file ht hJ) (by decide +kernel) (by decide +kernel)
theorem p0_fly {n : Nat} {a b : Int32} : p0_P kk_c_fly.md sx_MGf n 89 212 [.int a, .int b] := p0_gen (fun w ht => kc_gen (as := [.ref 5, .int a, .int b]) kt_c_fly rfl rfl rfl rfl rfl ⟨rfl, p0_i a, p0_i b, trivial⟩ ht) (fun w ht hJ => kz_fly ht hJ) (by decide +kernel) (by decide +kernel)
theorem p0_flightIs {n : Nat} {a b : Int32} : p0_P kk_c_flightIs.md kk_m_flightIs.md n 92 213 [.int a, .int b] := p0_gen (fun w ht => kc_gen (as := [.ref 5, .int a, .int b]) kt_c_flightIs rfl rfl rfl rfl rfl ⟨rfl, p0_i a, p0_i b, trivial⟩ ht) (fun w ht hJ => kz_gen (as := [.ref 94, .int a, .int b]) (kt_m_flightIs sy_J0I kt_RH) rfl rfl rfl rfl rfl (by decide +kernel) ⟨rfl, p0_i a, p0_i b, trivial⟩ ht hJ) (by decide +kernel) (by decide +kernel)
theorem p0_row {n : Nat} {a b c : Int32} : p0_P kk_c_row.md kk_m_row.md n 94 216 [.int a, .int b, .int c] := p0_gen (fun w ht => kc_gen (as := [.ref 5, .int a, .int b, .int c]) kt_c_row rfl rfl rfl rfl rfl ⟨rfl, p0_i a, p0_i b, p0_i c, trivial⟩ ht) (fun w ht hJ => kz_gen (as := [.ref 94, .int a, .int b, .int c]) (kt_m_row sy_J0I kt_RH) rfl rfl rfl rfl rfl (by decide +kernel) ⟨rfl, p0_i a, p0_i b, p0_i c, trivial⟩ ht hJ) (by decide +kernel) (by decide +kernel)
theorem p0_miles {n : Nat} {a b c d : Int32} : p0_P kk_c_miles.md kk_m_miles.md n 96 219 [.int a, .int b, .int c, .int d] := p0_gen (fun w ht => kc_gen (as := [.ref 5, .int a, .int b, .int c, .int d]) kt_c_miles rfl rfl rfl rfl rfl ⟨rfl, p0_i a, p0_i b, p0_i c, p0_i d, trivial⟩ ht) (fun w ht hJ => kz_gen (as := [.ref 94, .int a, .int b, .int c, .int d]) (kt_m_miles sy_J0I kt_RH) rfl rfl rfl rfl rfl (by decide +kernel) ⟨rfl, p0_i a, p0_i b, p0_i c, p0_i d, trivial⟩ ht hJ) (by decide +kernel) (by decide +kernel)
theorem p0_bill {n : Nat} {a : Int32} : p0_P kk_c_bill.md kk_m_bill.md n 101 221 [.int a] := p0_gen (fun w ht => kc_gen (as := [.ref 5, .int a]) kt_c_bill rfl rfl rfl rfl rfl ⟨rfl, p0_i a, trivial⟩ ht) (fun w ht hJ => kz_ref (B := sx_MZ) (as := [.ref 94, .int a]) (kt_m_bill sy_J0I kt_RH) rfl rfl ⟨rfl, p0_i a, trivial⟩ ht hJ (kz_bill ht hJ)) (by decide +kernel) (by decide +kernel)
theorem p0_right {n : Nat} {a : Int32} : p0_P kk_c_right.md kk_m_right.md n 113 225 [.int a] := p0_gen (fun w ht => kc_gen (as := [.ref 5, .int a]) kt_c_right rfl rfl rfl rfl rfl ⟨rfl, p0_i a, trivial⟩ ht) (fun w ht hJ => kz_ref (B := sx_MZ) (as := [.ref 94, .int a]) (kt_m_right sy_J0I kt_RH) rfl rfl ⟨rfl, p0_i a, trivial⟩ ht hJ (kz_right ht hJ)) (by decide +kernel) (by decide +kernel)
theorem p0_fee {n : Nat} {a b : Int32} : p0_P kk_c_fee.md kk_m_fee.md n 114 226 [.int a, .int b] := p0_gen (fun w ht => kc_gen (as := [.ref 5, .int a, .int b]) kt_c_fee rfl rfl rfl rfl rfl ⟨rfl, p0_i a, p0_i b, trivial⟩ ht) (fun w ht hJ => kz_gen (as := [.ref 94, .int a, .int b]) (kt_m_fee sy_J0I kt_RH) rfl rfl rfl rfl rfl (by decide +kernel) ⟨rfl, p0_i a, p0_i b, trivial⟩ ht hJ) (by decide +kernel) (by decide +kernel)
theorem p0_beside {n : Nat} {a b : Int32} (hb : b = 0 ∨ b = 1) : p0_P kk_c_beside.md kk_m_beside.md n 115 227 [.int a, .int b] := p0_gen (fun w ht => kc_gen (as := [.ref 5, .int a, .int b]) kt_c_beside rfl rfl rfl rfl rfl ⟨rfl, p0_i a, p0_b hb, trivial⟩ ht) (fun w ht hJ => kz_gen (as := [.ref 94, .int a, .int b]) (kt_m_beside sy_J0I kt_RH) rfl rfl rfl rfl rfl (by decide +kernel) ⟨rfl, p0_i a, p0_b hb, trivial⟩ ht hJ) (by decide +kernel) (by decide +kernel)
theorem p0_go {n : Nat} {a : Int32} : p0_P kk_c_go.md kk_m_go.md n 117 228 [.int a] := p0_gen (fun w ht => kc_gen (as := [.ref 5, .int a]) kt_c_go rfl rfl rfl rfl rfl ⟨rfl, p0_i a, trivial⟩ ht) (fun w ht hJ => kz_ref (B := sx_MGd) (as := [.ref 94, .int a]) (kt_m_go sy_J0I kt_RH) rfl rfl ⟨rfl, p0_i a, trivial⟩ ht hJ (by obtain ⟨res, r1, r2⟩ := kz_go ht hJ; exact ⟨res, r1, r2.1⟩)) (by decide +kernel) (by decide +kernel)
theorem p0_cheapest {n : Nat} {a b c d : Int32} : p0_P kk_c_cheapest.md kk_m_cheapest.md n 122 231 [.int a, .int b, .int c, .int d] := p0_gen (fun w ht => kc_gen (as := [.ref 5, .int a, .int b, .int c, .int d]) kt_c_cheapest rfl rfl rfl rfl rfl ⟨rfl, p0_i a, p0_i b, p0_i c, p0_i d, trivial⟩ ht) (fun w ht hJ => kz_gen (as := [.ref 94, .int a, .int b, .int c, .int d]) (kt_m_cheapest sy_J0I kt_RH) rfl rfl rfl rfl rfl (by decide +kernel) ⟨rfl, p0_i a, p0_i b, p0_i c, p0_i d, trivial⟩ ht hJ) (by decide +kernel) (by decide +kernel)
theorem p0_gain {n : Nat} {a b c d : Int32} : p0_P kk_c_gain.md kk_m_gain.md n 131 233 [.int a, .int b, .int c, .int d] := p0_gen (fun w ht => kc_gen (as := [.ref 5, .int a, .int b, .int c, .int d]) kt_c_gain rfl rfl rfl rfl rfl ⟨rfl, p0_i a, p0_i b, p0_i c, p0_i d, trivial⟩ ht) (fun w ht hJ => kz_gen (as := [.ref 94, .int a, .int b, .int c, .int d]) (kt_m_gain sy_J0I kt_RH) rfl rfl rfl rfl rfl (by decide +kernel) ⟨rfl, p0_i a, p0_i b, p0_i c, p0_i d, trivial⟩ ht hJ) (by decide +kernel) (by decide +kernel)
theorem p0_voice {n : Nat} {a b c : Int32} : p0_P kk_c_voice.md kk_m_voice.md n 133 234 [.int a, .int b, .int c] := p0_gen (fun w ht => kc_gen (as := [.ref 5, .int a, .int b, .int c]) kt_c_voice rfl rfl rfl rfl rfl ⟨rfl, p0_i a, p0_i b, p0_i c, trivial⟩ ht) (fun w ht hJ => kz_gen (as := [.ref 94, .int a, .int b, .int c]) (kt_m_voice sy_J0I kt_RH) rfl rfl rfl rfl rfl (by decide +kernel) ⟨rfl, p0_i a, p0_i b, p0_i c, trivial⟩ ht hJ) (by decide +kernel) (by decide +kernel)
theorem p0_trace {n : Nat} {a : Int32} : p0_P kk_c_trace.md kk_m_trace.md n 138 240 [.int a] := p0_gen (fun w ht => kc_gen (as := [.ref 5, .int a]) kt_c_trace rfl rfl rfl rfl rfl ⟨rfl, p0_i a, trivial⟩ ht) (fun w ht hJ => kz_gen (as := [.ref 94, .int a]) (kt_m_trace sy_J0I kt_RH) rfl rfl rfl rfl rfl (by decide +kernel) ⟨rfl, p0_i a, trivial⟩ ht hJ) (by decide +kernel) (by decide +kernel)
theorem p0_put {n : Nat} {a b c : Int32} : p0_P kk_c_put.md kk_m_put.md n 142 243 [.int a, .int b, .int c] := p0_gen (fun w ht => kc_gen (as := [.ref 5, .int a, .int b, .int c]) kt_c_put rfl rfl rfl rfl rfl ⟨rfl, p0_i a, p0_i b, p0_i c, trivial⟩ ht) (fun w ht hJ => kz_gen (as := [.ref 94, .int a, .int b, .int c]) (kt_m_put sy_J0I kt_RH) rfl rfl rfl rfl rfl (by decide +kernel) ⟨rfl, p0_i a, p0_i b, p0_i c, trivial⟩ ht hJ) (by decide +kernel) (by decide +kernel)
theorem p0_move {n : Nat} {a b c d e : Int32} : p0_P kk_c_move.md kk_m_move.md n 145 244 [.int a, .int b, .int c, .int d, .int e] := p0_gen (fun w ht => kc_gen (as := [.ref 5, .int a, .int b, .int c, .int d, .int e]) kt_c_move rfl rfl rfl rfl rfl ⟨rfl, p0_i a, p0_i b, p0_i c, p0_i d, p0_i e, trivial⟩ ht) (fun w ht hJ => kz_gen (as := [.ref 94, .int a, .int b, .int c, .int d, .int e]) (kt_m_move sy_J0I kt_RH) rfl rfl rfl rfl rfl (by decide +kernel) ⟨rfl, p0_i a, p0_i b, p0_i c, p0_i d, p0_i e, trivial⟩ ht hJ) (by decide +kernel) (by decide +kernel)
theorem p0_told {n : Nat} {a : Int32} : p0_P kk_c_told.md kk_m_told.md n 153 247 [.int a] := p0_gen (fun w ht => kc_gen (as := [.ref 5, .int a]) kt_c_told rfl rfl rfl rfl rfl ⟨rfl, p0_i a, trivial⟩ ht) (fun w ht hJ => kz_gen (as := [.ref 94, .int a]) (kt_m_told sy_J0I kt_RH) rfl rfl rfl rfl rfl (by decide +kernel) ⟨rfl, p0_i a, trivial⟩ ht hJ) (by decide +kernel) (by decide +kernel)
theorem p0_found {n : Nat} {a : Int32} : p0_P kk_c_found.md kk_m_found.md n 157 248 [.int a] := p0_gen (fun w ht => kc_gen (as := [.ref 5, .int a]) kt_c_found rfl rfl rfl rfl rfl ⟨rfl, p0_i a, trivial⟩ ht) (fun w ht hJ => kz_gen (as := [.ref 94, .int a]) (kt_m_found sy_J0I kt_RH) rfl rfl rfl rfl rfl (by decide +kernel) ⟨rfl, p0_i a, trivial⟩ ht hJ) (by decide +kernel) (by decide +kernel)
theorem p0_sheet {n : Nat} {a b c : Int32} : p0_P kk_c_sheet.md kk_m_sheet.md n 139 241 [.int a, .int b, .int c] := p0_gen (fun w ht => kc_gen (as := [.ref 5, .int a, .int b, .int c]) kt_c_sheet rfl rfl rfl rfl rfl ⟨rfl, p0_i a, p0_i b, p0_i c, trivial⟩ ht) (fun w ht hJ => kz_gen (as := [.ref 94, .int a, .int b, .int c]) (kt_m_sheet sy_J0I kt_RH) rfl rfl rfl rfl rfl (by decide +kernel) ⟨rfl, p0_i a, p0_i b, p0_i c, trivial⟩ ht hJ) (by decide +kernel) (by decide +kernel)
noncomputable def sx_MK : sx_A := [(6, 9, 9), (93, 0, 100000), (95, 1, 1), (97, 0, 5)]
/-- fuel: the answers are the same -/
theorem p0_fuel {n : Nat} {a : Int32} (w : pq_W) (hw : W0 n w) : ∃ (x : Int32) (w1 w2 : pq_W), pq_Ru 300 121 [.ref 5, .int a] w (some (.int x), w1) ∧ pq_Ru 300 230 [.ref 94, .int a] w1 (some (.int x), w2) ∧ W0 (n + 1) w2 ∧ sx_Fr sx_MK w w2 := by
  obtain ⟨ht, hJ, hF⟩ := hw
  obtain ⟨⟨r1, w1⟩, g1, t1, x1, rfl, hq⟩ := kx_c_fuel a w ht
  have t1 : sx_Ty sx_T0 w1 := t1
  obtain ⟨⟨r2, w2⟩, g2, t2, x2, rfl, hq2⟩ := kx_m_fuel a w1 t1
  have t2 : sx_Ty sx_T0 w2 := t2
  have key : x1 = x2 ∧ (∀ i, i < 2858 → i ≠ 1 → sy_r w2 95 i = sy_r w 95 i) ∧ (∀ i, i < 2858 → sy_r w2 96 i = sy_r w 96 i) ∧ FI (n + 1) w2 ∧ sx_Fr sx_MK w w2 := by
    rcases hq with ⟨k1, k2, k3, k4, k5⟩ | ⟨k1, k3, k5⟩
    · rcases hq2 with ⟨m1, m2, m3, m4, m5⟩ | ⟨m1, _⟩
      · have k5 : sx_Fr [(6, 9, 9)] w w1 := k5
        have m5 : sx_Fr [(95, 1, 1)] w1 w2 := m5
        have k4 : sy_r w1 6 9 = a.toInt := k4
        have m4 : sy_r w2 95 1 = a.toInt := m4
        have e1 : sy_r w1 95 1 = sy_r w 95 1 := fr_no k5 ⟨Or.inl (by decide), trivial⟩
        refine ⟨Int32.toInt_inj.mp (by rw [k3, m3, e1]; exact hF.1), fun i hi h1 => by rw [fr_no m5 ⟨Or.inr (by omega), trivial⟩, fr_no k5 ⟨Or.inl (by decide), trivial⟩], fun i hi => by rw [fr_no m5 ⟨Or.inl (by decide), trivial⟩, fr_no k5 ⟨Or.inl (by decide), trivial⟩], ?_, sx_Fr_trans (sx_Fr_sub (by decide +kernel) k5) (sx_Fr_sub (by decide +kernel) m5)⟩
        have c1 : sy_r w2 6 9 = a.toInt := by rw [fr_no m5 ⟨Or.inl (by decide), trivial⟩, k4]
        have c2 : sy_r w2 5 15 = sy_r w 5 15 := by rw [fr_no m5 ⟨Or.inl (by decide), trivial⟩, fr_no k5 ⟨Or.inl (by decide), trivial⟩]
        have c3 : sy_r w2 94 2 = sy_r w 94 2 := by rw [fr_no m5 ⟨Or.inl (by decide), trivial⟩, fr_no k5 ⟨Or.inl (by decide), trivial⟩]
        have c4 : sy_r w2 40 9 = sy_r w 40 9 := by rw [fr_no m5 ⟨Or.inl (by decide), trivial⟩, fr_no k5 ⟨Or.inl (by decide), trivial⟩]
        have c5 : sy_r w2 96 1 = sy_r w 96 1 := by rw [fr_no m5 ⟨Or.inl (by decide), trivial⟩, fr_no k5 ⟨Or.inl (by decide), trivial⟩]
        have hF1 := FI_up hF
        refine ⟨c1.trans m4.symm, by rw [c2, c3]; exact hF1.2.1, by rw [c3]; exact hF1.2.2.1, by rw [c3]; exact hF1.2.2.2.1, fun q => ?_⟩
        rw [c3] at q
        exact ⟨by rw [c4, c5]; exact (hF1.2.2.2.2 q).1, kg_mv (fun i _ => by rw [fr_no m5 ⟨Or.inl (by decide), trivial⟩, fr_no k5 ⟨Or.inl (by decide), trivial⟩]) (hF1.2.2.2.2 q).2⟩
      · exact absurd ⟨k1, k2⟩ m1
    · rcases hq2 with ⟨m1, m2, _⟩ | ⟨_, m3, m5⟩
      · exact absurd ⟨m1, m2⟩ k1
      · have k5 : sx_Fr [(93, 0, 100000)] w w1 := k5
        have m5 : sx_Fr [(97, 0, 5)] w1 w2 := m5
        have k3 : x1.toInt = -1000001 := k3
        have m3 : x2.toInt = -1000001 := m3
        have c : ∀ r i, r ≠ 93 → r ≠ 97 → sy_r w2 r i = sy_r w r i := fun r i h1 h2 => by rw [fr_no m5 ⟨Or.inl (fun q => h2 q.symm), trivial⟩, fr_no k5 ⟨Or.inl (fun q => h1 q.symm), trivial⟩]
        exact ⟨Int32.toInt_inj.mp (by rw [k3, m3]), fun i _ _ => c 95 i (by decide) (by decide), fun i _ => c 96 i (by decide) (by decide), FI_up (FI_mv hF (c _ _ (by decide) (by decide)) (c _ _ (by decide) (by decide)) (c _ _ (by decide) (by decide)) (c _ _ (by decide) (by decide)) (c _ _ (by decide) (by decide)) (fun i _ => c 96 i (by decide) (by decide))), sx_Fr_trans (sx_Fr_sub (by decide +kernel) k5) (sx_Fr_sub (by decide +kernel) m5)⟩
  obtain ⟨ex, h95, h96, hF2, hMK⟩ := key
  subst ex
  refine ⟨x1, w1, w2, ru_mono g1 (by decide), ru_mono g2 (by decide), ⟨t2, ?_, hF2⟩, hMK⟩
  obtain ⟨a1, a2, a3⟩ := JJ_a hJ
  obtain ⟨b1, b2, b3⟩ := JJ_b hJ
  refine ⟨⟨⟨sy_JT_congr (sy_z95 ht) (fun i h1 h2 => h95 i (by omega) (by omega)) a1, sy_JL_congr (sy_z95 ht) (fun i h1 h2 => h95 i (by omega) (by omega)) a2⟩, sy_JT_congr (sy_z96 ht) (fun i h1 h2 => h96 i (by omega)) b1, sy_JL_congr (sy_z96 ht) (fun i h1 h2 => h96 i (by omega)) b2⟩, ?_, ?_⟩
  · exact Mo_fr a3 (h95 0 (by omega) (by omega)) (mo_yT t2 (Or.inl rfl)).1 (h95 3 (by omega) (by omega)) (h95 5 (by omega) (by omega)) (h95 6 (by omega) (by omega)) (fun i h1 h2 => h95 i (by omega) (by omega))
  · exact Mo_fr b3 (h96 0 (by omega)) (mo_yT t2 (Or.inr rfl)).1 (h96 3 (by omega)) (h96 5 (by omega)) (h96 6 (by omega)) (fun i h1 h2 => h96 i (by omega))
theorem p0_fat {w : pq_W} (ht : sx_Ty sx_T0 w) : (0 ≤ sy_r w 6 9 ∧ sy_r w 6 9 ≤ 999) ∧ 0 ≤ sy_r w 40 9 ∧ sy_r w 40 9 ≤ 999 := by
  obtain ⟨_, _, _, h1, h2⟩ := sq_fat (r := 6) (i := 9) (lo := 0) (hi := 999) ht rfl rfl
  obtain ⟨_, _, _, h3, h4⟩ := sq_fat (r := 40) (i := 9) (lo := 0) (hi := 999) ht rfl rfl
  exact ⟨⟨h1, h2⟩, h3, h4⟩
theorem p0_image {n : Nat} (hn : n ≤ 90000) (w : pq_W) (hw : W0 n w) : ∃ (x : Int32) (w1 w2 : pq_W), pq_Ru 300 147 [.ref 5] w (some (.int x), w1) ∧ pq_Ru 300 245 [.ref 94] w1 (some (.int x), w2) ∧ W0 (n + 1) w2 ∧ sx_Fr ci_A w w1 ∧ sx_Fr [(94, 2, 2), (96, 0, 2857)] w1 w2 ∧ (∀ q ∈ nq_M, sy_r w1 (q.1 + 34) q.2.1 = sy_r w q.1 q.2.1) ∧ (∀ i, i < 2858 → sy_r w2 96 i = sy_r w1 95 i) ∧ sy_r w2 94 2 = sy_r w 94 2 + 1 := by
  obtain ⟨ht, hJ, hF⟩ := hw
  obtain ⟨f1, f2, f3, f4, f5⟩ := id hF
  have hfa := p0_fat ht
  have main : ∃ res, pq_Go 299 pm_147 0 (lv_args 0 [.ref 5]) [] w 0 0 res ∧ ((∃ x : Int32, res.1 = some (.int x) ∧ x.toInt = sy_r w 5 15 + 1) ∧ sx_Ty sx_T0 res.2 ∧ sx_Fr ci_A w res.2 ∧ sy_r res.2 40 9 = sy_r w 6 9 ∧ sy_r res.2 5 15 = sy_r w 5 15 + 1) := by
    refine ng_go (J := sx_tt) (Post := fun res => (∃ x : Int32, res.1 = some (.int x) ∧ x.toInt = sy_r w 5 15 + 1) ∧ sx_Ty sx_T0 res.2 ∧ sx_Fr ci_A w res.2 ∧ sy_r res.2 40 9 = sy_r w 6 9 ∧ sy_r res.2 5 15 = sy_r w 5 15 + 1) (fx_p [sy_r w 6 9, sy_r w 5 15]) ci_1 rfl ⟨hfa.1.1, hfa.1.2, (show 0 ≤ sy_r w 5 15 by omega), (show sy_r w 5 15 ≤ 100000 by omega), trivial⟩ trivial ⟨rfl, trivial⟩ trivial ⟨?_, ?_, trivial⟩ ht sx_ctn (fun _ _ _ => trivial) ⟨fun x w2 t2 f2 q => ?_, trivial⟩ trivial
    · show sy_r w 6 (sx_ev _ (9, [])).toNat = sx_ev _ (sx_y 0)
      rw [ng_ek, sx_y_ev]
      rfl
    · show sy_r w 5 (sx_ev _ (15, [])).toNat = sx_ev _ (sx_y 1)
      rw [ng_ek, sx_y_ev]
      rfl
    · obtain ⟨q1, ⟨q2, q3, _⟩, _⟩ := q
      rw [ng_ek, sx_y_ev] at q2
      rw [ng_ek] at q3
      have q3 : sy_r w2 5 15 = 1 + (1 * sy_r w 5 15 + 0) := q3
      obtain ⟨y, y1, y2⟩ := q1
      have y2 : y.toInt = 1 + (1 * sy_r w 5 15 + 0) := y2
      exact ⟨⟨y, y1, by omega⟩, t2, f2, q2, by show sy_r w2 5 15 = _; omega⟩
  obtain ⟨⟨r1, w1⟩, g1, ⟨x1, rfl, v0⟩, t1, fr1, v1, v2⟩ := main
  have t1 : sx_Ty sx_T0 w1 := t1
  have fr1 : sx_Fr ci_A w w1 := fr1
  have v1 : sy_r w1 40 9 = sy_r w 6 9 := v1
  have v2 : sy_r w1 5 15 = sy_r w 5 15 + 1 := v2
  have no : ∀ r i, sy_ninb ci_A r 0 100000 = true → i ≤ 100000 → sy_r w1 r i = sy_r w r i := fun r i h hi => sy_r_fr fr1 (sy_nin h (by omega) (by omega))
  have hJ1 : JJ w1 := JJ_of (sy_z95 ht) (sy_z96 ht) (JJ_a hJ) (JJ_b hJ) t1 (fun i hi => no 95 i (by decide +kernel) (by omega)) (fun i hi => no 96 i (by decide +kernel) (by omega))
  obtain ⟨x2, w2, g2, t2, hJ2, ex, e2, e3, e4, fr2⟩ := kx_image t1 hJ1
  have m2 : sy_r w1 94 2 = sy_r w 94 2 := no 94 2 (by decide +kernel) (by omega)
  have hx : x2.toInt = sy_r w 94 2 + 1 := by
    rw [ex, m2]
    exact Int.bmod_eq_of_le (by omega) (by omega)
  have e12 : x1 = x2 := Int32.toInt_inj.mp (by rw [v0, hx]; omega)
  subst e12
  refine ⟨x1, w1, w2, ru_of (k := 299) (M := pm_147) rfl (by rw [Bool.and_eq_true]; exact ⟨rfl, sq_rcv ht rfl rfl rfl⟩) g1, ru_mono g2 (by decide), ⟨t2, hJ2, ?_⟩, fr1, fr2, nq_ci ht (by omega) (by omega) g1, e3, by rw [e2, hx]⟩
  have c1 : sy_r w2 6 9 = sy_r w 6 9 := by rw [fr_no fr2 ⟨Or.inl (by decide), Or.inl (by decide), trivial⟩, no 6 9 (by decide +kernel) (by omega)]
  have c2 : sy_r w2 95 1 = sy_r w 95 1 := by rw [fr_no fr2 ⟨Or.inl (by decide), Or.inl (by decide), trivial⟩, no 95 1 (by decide +kernel) (by omega)]
  have c3 : sy_r w2 5 15 = sy_r w 5 15 + 1 := by rw [fr_no fr2 ⟨Or.inl (by decide), Or.inl (by decide), trivial⟩, v2]
  have c4 : sy_r w2 40 9 = sy_r w 6 9 := by rw [fr_no fr2 ⟨Or.inl (by decide), Or.inl (by decide), trivial⟩, v1]
  have c5 : sy_r w2 96 1 = sy_r w 95 1 := by rw [e3 1 (by omega), no 95 1 (by decide +kernel) (by omega)]
  exact ⟨by rw [c1, c2]; exact f1, by rw [c3, e2, hx, f2], by rw [e2, hx]; omega, by rw [e2, hx]; omega, fun _ => ⟨by rw [c4, c5]; exact f1, e4⟩⟩
theorem p0_restore {n : Nat} (hn : n ≤ 90000) (w : pq_W) (hw : W0 n w) : ∃ (x1 : Int32) (w1 : pq_W) (x2 : Int32) (w2 : pq_W), pq_Ru 300 152 [.ref 5] w (some (.int x1), w1) ∧ pq_Ru 300 246 [.ref 94] w1 (some (.int x2), w2) ∧ W0 (n + 1) w2 ∧ ((sy_r w 94 2 = 0 ∧ x1.toInt = -1000002 ∧ x2.toInt = -1000002 ∧ sx_Fr [(93, 0, 100000)] w w1 ∧ sx_Fr [(97, 0, 5)] w1 w2) ∨ (sy_r w 94 2 ≠ 0 ∧ x1.toInt = sy_r w 40 8 ∧ x2.toInt = sy_r w 96 0 ∧ sx_Fr ci_N w w1 ∧ sx_Fr [(95, 0, 2857)] w1 w2 ∧ (∀ q ∈ nq_M, sy_r w1 q.1 q.2.1 = sy_r w (q.1 + 34) q.2.1) ∧ ∀ i, i < 2858 → sy_r w2 95 i = sy_r w 96 i)) := by
  obtain ⟨ht, hJ, hF⟩ := hw
  obtain ⟨f1, f2, f3, f4, f5⟩ := id hF
  have hfa := p0_fat ht
  by_cases e0 : sy_r w 94 2 = 0
  · have main : ∃ res, pq_Go 299 pm_152 0 (lv_args 0 [.ref 5]) [] w 0 0 res ∧ ((∃ x : Int32, res.1 = some (.int x) ∧ x.toInt = -1000002) ∧ sx_Ty sx_T0 res.2 ∧ sx_Fr [(93, 0, 100000)] w res.2) := by
      refine ng_go (J := sx_tt) (Post := fun res => (∃ x : Int32, res.1 = some (.int x) ∧ x.toInt = -1000002) ∧ sx_Ty sx_T0 res.2 ∧ sx_Fr [(93, 0, 100000)] w res.2) (fx_p []) ci_2 rfl trivial trivial ⟨rfl, trivial⟩ trivial ⟨?_, trivial⟩ ht sx_ctn (fun _ _ _ => trivial) ⟨fun x w2 t2 f2 q => ⟨by obtain ⟨y, y1, y2⟩ := q.1; exact ⟨y, y1, by rw [y2]; exact ng_ek _ _⟩, t2, f2⟩, trivial⟩ trivial
      show sy_r w 5 (sx_ev _ (15, [])).toNat = sx_ev _ (0, [])
      rw [ng_ek, ng_ek]
      exact f2.trans e0
    obtain ⟨⟨r1, w1⟩, g1, ⟨x1, rfl, xv1⟩, t1, fr1⟩ := main
    have t1 : sx_Ty sx_T0 w1 := t1
    have h1 : W0 n w1 := W0_c (C := [(93, 0, 100000)]) (by decide +kernel) ⟨ht, hJ, hF⟩ t1 fr1
    have e1 : sy_r w1 94 2 = 0 := by rw [fr_no (A := [(93, 0, 100000)]) fr1 ⟨Or.inl (by decide), trivial⟩]; exact e0
    obtain ⟨x2, w2, g2, t2, hJ2, hor⟩ := kx_restore t1 h1.2.1 (fun q => absurd e1 q)
    rcases hor with ⟨_, xv2, fr2⟩ | ⟨q, _⟩
    · refine ⟨x1, w1, x2, w2, ru_of (k := 299) (M := pm_152) rfl (by rw [Bool.and_eq_true]; exact ⟨rfl, sq_rcv ht rfl rfl rfl⟩) g1, g2, ⟨t2, hJ2, ?_⟩, Or.inl ⟨e0, xv1, xv2, fr1, fr2⟩⟩
      exact FI_up (FI_mv h1.2.2 (fr_no fr2 ⟨Or.inl (by decide), trivial⟩) (fr_no fr2 ⟨Or.inl (by decide), trivial⟩) (fr_no fr2 ⟨Or.inl (by decide), trivial⟩) (fr_no fr2 ⟨Or.inl (by decide), trivial⟩) (fr_no fr2 ⟨Or.inl (by decide), trivial⟩) (fun i _ => fr_no fr2 ⟨Or.inl (by decide), trivial⟩))
    · exact absurd e1 q
  · have main : ∃ res, pq_Go 299 pm_152 0 (lv_args 0 [.ref 5]) [] w 0 0 res ∧ ((∃ x : Int32, res.1 = some (.int x) ∧ x.toInt = sy_r w 40 8) ∧ sx_Ty sx_T0 res.2 ∧ sx_Fr ci_N w res.2 ∧ sy_r res.2 6 9 = sy_r w 40 9) := by
      refine ng_go (J := sx_tt) (Post := fun res => (∃ x : Int32, res.1 = some (.int x) ∧ x.toInt = sy_r w 40 8) ∧ sx_Ty sx_T0 res.2 ∧ sx_Fr ci_N w res.2 ∧ sy_r res.2 6 9 = sy_r w 40 9) (fx_p [sy_r w 40 9, sy_r w 5 15, sy_r w 40 8]) ci_3 rfl ⟨hfa.2.1, hfa.2.2, (show 1 ≤ sy_r w 5 15 by omega), (show sy_r w 5 15 ≤ 100000 by omega), (sy_bd w 40 8).1, (sy_bd w 40 8).2, trivial⟩ trivial ⟨rfl, trivial⟩ trivial ⟨?_, ?_, ?_, trivial⟩ ht sx_ctn (fun _ _ _ => trivial) ⟨fun x w2 t2 f2 q => ?_, trivial⟩ trivial
      · show sy_r w 40 (sx_ev _ (9, [])).toNat = sx_ev _ (sx_y 0)
        rw [ng_ek, sx_y_ev]
        rfl
      · show sy_r w 5 (sx_ev _ (15, [])).toNat = sx_ev _ (sx_y 1)
        rw [ng_ek, sx_y_ev]
        rfl
      · show sy_r w 40 (sx_ev _ (8, [])).toNat = sx_ev _ (sx_y 2)
        rw [ng_ek, sx_y_ev]
        rfl
      · obtain ⟨q1, ⟨q2, _⟩, _⟩ := q
        rw [ng_ek, sx_y_ev] at q2
        obtain ⟨y, y1, y2⟩ := q1
        rw [sx_y_ev] at y2
        exact ⟨⟨y, y1, y2⟩, t2, f2, q2⟩
    obtain ⟨⟨r1, w1⟩, g1, ⟨x1, rfl, xv1⟩, t1, fr1, v1⟩ := main
    have t1 : sx_Ty sx_T0 w1 := t1
    have fr1 : sx_Fr ci_N w w1 := fr1
    have v1 : sy_r w1 6 9 = sy_r w 40 9 := v1
    have no : ∀ r i, sy_ninb ci_N r 0 100000 = true → i ≤ 100000 → sy_r w1 r i = sy_r w r i := fun r i h hi => sy_r_fr fr1 (sy_nin h (by omega) (by omega))
    have hJ1 : JJ w1 := JJ_of (sy_z95 ht) (sy_z96 ht) (JJ_a hJ) (JJ_b hJ) t1 (fun i hi => no 95 i (by decide +kernel) (by omega)) (fun i hi => no 96 i (by decide +kernel) (by omega))
    obtain ⟨x2, w2, g2, t2, hJ2, hor⟩ := kx_restore t1 hJ1 (fun _ => kg_mv (fun i hi => no 96 i (by decide +kernel) (by omega)) (f5 e0).2)
    have m2 : sy_r w1 94 2 = sy_r w 94 2 := no 94 2 (by decide +kernel) (by omega)
    rcases hor with ⟨q, _⟩ | ⟨_, xv2, e3, fr2⟩
    · exact absurd (m2.symm.trans q) e0
    · refine ⟨x1, w1, x2, w2, ru_of (k := 299) (M := pm_152) rfl (by rw [Bool.and_eq_true]; exact ⟨rfl, sq_rcv ht rfl rfl rfl⟩) g1, g2, ⟨t2, hJ2, ?_⟩, Or.inr ⟨e0, xv1, by rw [xv2, no 96 0 (by decide +kernel) (by omega)], fr1, fr2, nq_cr ht (by omega) (by omega) g1, fun i hi => by rw [e3 i hi, no 96 i (by decide +kernel) (by omega)]⟩⟩
      have c1 : sy_r w2 6 9 = sy_r w 40 9 := by rw [fr_no fr2 ⟨Or.inl (by decide), trivial⟩, v1]
      have c2 : sy_r w2 95 1 = sy_r w 96 1 := by rw [e3 1 (by omega), no 96 1 (by decide +kernel) (by omega)]
      have c3 : sy_r w2 5 15 = sy_r w 5 15 := by rw [fr_no fr2 ⟨Or.inl (by decide), trivial⟩, no 5 15 (by decide +kernel) (by omega)]
      have c4 : sy_r w2 94 2 = sy_r w 94 2 := by rw [fr_no fr2 ⟨Or.inl (by decide), trivial⟩, m2]
      have c5 : sy_r w2 40 9 = sy_r w 40 9 := by rw [fr_no fr2 ⟨Or.inl (by decide), trivial⟩, no 40 9 (by decide +kernel) (by omega)]
      have c6 : sy_r w2 96 1 = sy_r w 96 1 := by rw [fr_no fr2 ⟨Or.inl (by decide), trivial⟩, no 96 1 (by decide +kernel) (by omega)]
      exact ⟨by rw [c1, c2]; exact (f5 e0).1, by rw [c3, c4]; exact f2, by rw [c4]; exact f3, by rw [c4]; omega, fun _ => ⟨by rw [c5, c6]; exact (f5 e0).1, kg_mv (fun i hi => by rw [fr_no fr2 ⟨Or.inl (by decide), trivial⟩, no 96 i (by decide +kernel) (by omega)]) (f5 e0).2⟩⟩
