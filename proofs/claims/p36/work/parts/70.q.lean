/-! the sheets of both sides are alike; calls of both sides, one after the other, told for the law -/
def SH (w : pq_W) : Prop := ∀ s, s < 4 → sy_r w 90 s = sy_r w 98 s ∧ sy_r w 92 s = sy_r w 99 s ∧ sh_wd (sy_r w 98 s)
def WI (n : Nat) (w : pq_W) : Prop := W0 n w ∧ SH w
theorem WI_up {n : Nat} {w : pq_W} (h : WI n w) : WI (n + 1) w := ⟨⟨h.1.1, h.1.2.1, FI_up h.1.2.2⟩, h.2⟩
theorem SH_mv {A : sx_A} {w w1 : pq_W} (hA : (sy_ninb A 90 0 3 && sy_ninb A 92 0 3 && sy_ninb A 98 0 3 && sy_ninb A 99 0 3) = true) (f : sx_Fr A w w1) (h : SH w) : SH w1 := by
  simp only [Bool.and_eq_true] at hA
  obtain ⟨⟨⟨b1, b2⟩, b3⟩, b4⟩ := hA
  intro s hs
  rw [sy_r_fr f (sy_nin b1 (by omega) (by omega)), sy_r_fr f (sy_nin b2 (by omega) (by omega)), sy_r_fr f (sy_nin b3 (by omega) (by omega)), sy_r_fr f (sy_nin b4 (by omega) (by omega))]
  exact h s hs
theorem W0_fr {A : sx_A} {n : Nat} {w w1 : pq_W} (hA : (sy_ninb A 95 0 2857 && sy_ninb A 96 0 2857 && sy_ninb A 6 9 9 && sy_ninb A 5 15 15 && sy_ninb A 94 2 2 && sy_ninb A 40 9 9) = true) (h : W0 n w) (ht : sx_Ty sx_T0 w1) (f : sx_Fr A w w1) : W0 n w1 := by
  simp only [Bool.and_eq_true] at hA
  obtain ⟨⟨⟨⟨⟨b1, b2⟩, b3⟩, b4⟩, b5⟩, b6⟩ := hA
  have h95 : ∀ i, i < 2858 → sy_r w1 95 i = sy_r w 95 i := fun i hi => sy_r_fr f (sy_nin b1 (by omega) (by omega))
  have h96 : ∀ i, i < 2858 → sy_r w1 96 i = sy_r w 96 i := fun i hi => sy_r_fr f (sy_nin b2 (by omega) (by omega))
  exact ⟨ht, JJ_of (sy_z95 h.1) (sy_z96 h.1) (JJ_a h.2.1) (JJ_b h.2.1) ht h95 h96, FI_mv h.2.2 (sy_r_fr f (sy_nin b3 (by omega) (by omega))) (h95 1 (by omega)) (sy_r_fr f (sy_nin b4 (by omega) (by omega))) (sy_r_fr f (sy_nin b5 (by omega) (by omega))) (sy_r_fr f (sy_nin b6 (by omega) (by omega))) h96⟩
def pr_P (n jc jm : Nat) (as : List Value) : Prop := ∀ w, WI n w → ∃ (x1 : Int32) (w1 : pq_W) (x2 : Int32) (w2 : pq_W), pq_Ru 300 jc (.ref 5 :: as) w (some (.int x1), w1) ∧ pq_Ru 300 jm (.ref 94 :: as) w1 (some (.int x2), w2) ∧ WI (n + 1) w2
/-- the answers are the same -/
def pr_E (n jc jm : Nat) (as : List Value) : Prop := ∀ w, WI n w → ∃ (x : Int32) (w1 w2 : pq_W), pq_Ru 300 jc (.ref 5 :: as) w (some (.int x), w1) ∧ pq_Ru 300 jm (.ref 94 :: as) w1 (some (.int x), w2) ∧ WI (n + 1) w2
theorem pr_eP {n jc jm : Nat} {as : List Value} (h : pr_E n jc jm as) : pr_P n jc jm as := fun w hw => by
  obtain ⟨x, w1, w2, h⟩ := h w hw
  exact ⟨x, w1, x, w2, h⟩
theorem pr_up {n jc jm : Nat} {as : List Value} (h : p0_P n jc jm as) : pr_P n jc jm as := fun w hw => by
  obtain ⟨x1, w1, x2, w2, g1, g2, h0, f⟩ := h w hw.1
  exact ⟨x1, w1, x2, w2, g1, g2, h0, SH_mv (by decide +kernel) f hw.2⟩
theorem pe_fuel {n : Nat} {a : Int32} : pr_E n 121 230 [.int a] := fun w hw => by
  obtain ⟨x, w1, w2, g1, g2, h0, f⟩ := p0_fuel (n := n) (a := a) w hw.1
  exact ⟨x, w1, w2, g1, g2, h0, SH_mv (by decide +kernel) f hw.2⟩
theorem pe_image {n : Nat} (hn : n ≤ 90000) : pr_E n 147 245 [] := fun w hw => by
  obtain ⟨x, w1, w2, g1, g2, h0, f⟩ := p0_image hn w hw.1
  exact ⟨x, w1, w2, g1, g2, h0, SH_mv (by decide +kernel) f hw.2⟩
theorem pe_sheet {n : Nat} {a b c : Int32} : pr_E n 139 241 [.int a, .int b, .int c] := by
  intro w hw
  obtain ⟨⟨r1, w1⟩, g1, t1, ⟨x1, e1, v1⟩, q1⟩ := sh_gen shc_1 shc_2 shc_3 shc_4 shc_5 shc_6 (M := pm_139) rfl a b c hw.1.1
  have t1 : sx_Ty sx_T0 w1 := t1
  have e1 : r1 = some (.int x1) := e1
  subst e1
  obtain ⟨⟨r2, w2⟩, g2, t2, ⟨x2, e2, v2⟩, q2⟩ := sh_gen shm_1 shm_2 shm_3 shm_4 shm_5 shm_6 (M := pm_241) rfl a b c t1
  have t2 : sx_Ty sx_T0 w2 := t2
  have e2 : r2 = some (.int x2) := e2
  subst e2
  have e12 : x1 = x2 := Int32.toInt_inj.mp (by rw [v1, v2])
  subst e12
  refine ⟨x1, w1, w2, ru_of (k := 299) (M := pm_139) rfl (by rw [Bool.and_eq_true]; exact ⟨rfl, sq_rcv hw.1.1 rfl rfl rfl⟩) g1, ru_of (k := 299) (M := pm_241) rfl (by rw [Bool.and_eq_true]; exact ⟨rfl, sq_rcv t1 rfl rfl rfl⟩) g2, ?_⟩
  rcases q1 with ⟨n1, f1⟩ | ⟨y1, k, hk, ek, f1, a1, a2, a3⟩
  · rcases q2 with ⟨_, f2⟩ | ⟨y2, _⟩
    · have f1 : sx_Fr [(93, 0, 100000)] w w1 := f1
      have f2 : sx_Fr [(97, 0, 100000)] w1 w2 := f2
      exact WI_up ⟨W0_fr (by decide +kernel) (W0_fr (by decide +kernel) hw.1 t1 f1) t2 f2, SH_mv (by decide +kernel) f2 (SH_mv (by decide +kernel) f1 hw.2)⟩
    · exact absurd y2 n1
  · rcases q2 with ⟨n2, _⟩ | ⟨y2, k2, hk2, ek2, f2, b1, b2, b3⟩
    · exact absurd y1 n2
    · have ekk : k2 = k := by omega
      subst ekk
      have f1 : sx_Fr (sh_A2 90 92 91 k2) w w1 := f1
      have f2 : sx_Fr (sh_A2 98 99 100 k2) w1 w2 := f2
      have a1 : sy_r w1 90 k2 = b.toInt := a1
      have a3 : sy_r w1 92 k2 = if b.toInt = 0 then 0 else c.toInt := a3
      have b1 : sy_r w2 98 k2 = b.toInt := b1
      have b3 : sy_r w2 99 k2 = if b.toInt = 0 then 0 else c.toInt := b3
      have F1 : sx_Fr [(90, 0, 100000), (92, 0, 100000), (91, 0, 100000)] w w1 := fr_wk (A := sh_A2 90 92 91 k2) ⟨⟨0, 100000, by decide, by omega, by omega⟩, ⟨0, 100000, by decide, by omega, by omega⟩, ⟨0, 100000, by decide, by omega, by omega⟩, trivial⟩ f1
      have F2 : sx_Fr [(98, 0, 100000), (99, 0, 100000), (100, 0, 100000)] w1 w2 := fr_wk (A := sh_A2 98 99 100 k2) ⟨⟨0, 100000, by decide, by omega, by omega⟩, ⟨0, 100000, by decide, by omega, by omega⟩, ⟨0, 100000, by decide, by omega, by omega⟩, trivial⟩ f2
      refine WI_up ⟨W0_fr (by decide +kernel) (W0_fr (by decide +kernel) hw.1 t1 F1) t2 F2, fun s hs => ?_⟩
      have u1 : sy_r w2 90 s = sy_r w1 90 s := fr_no F2 ⟨Or.inl (by decide), Or.inl (by decide), Or.inl (by decide), trivial⟩
      have u2 : sy_r w2 92 s = sy_r w1 92 s := fr_no F2 ⟨Or.inl (by decide), Or.inl (by decide), Or.inl (by decide), trivial⟩
      rw [u1, u2]
      by_cases e : s = k2
      · subst e
        rw [a1, a3, b1, b3]
        exact ⟨rfl, rfl, a2⟩
      · have z1 : sy_r w1 90 s = sy_r w 90 s := fr_no f1 ⟨Or.inr (by omega), Or.inl (by decide), Or.inl (by decide), trivial⟩
        have z2 : sy_r w1 92 s = sy_r w 92 s := fr_no f1 ⟨Or.inl (by decide), Or.inr (by omega), Or.inl (by decide), trivial⟩
        have z3 : sy_r w2 98 s = sy_r w1 98 s := fr_no f2 ⟨Or.inr (by omega), Or.inl (by decide), Or.inl (by decide), trivial⟩
        have z4 : sy_r w2 99 s = sy_r w1 99 s := fr_no f2 ⟨Or.inl (by decide), Or.inr (by omega), Or.inl (by decide), trivial⟩
        have z5 : sy_r w1 98 s = sy_r w 98 s := fr_no F1 ⟨Or.inl (by decide), Or.inl (by decide), Or.inl (by decide), trivial⟩
        have z6 : sy_r w1 99 s = sy_r w 99 s := fr_no F1 ⟨Or.inl (by decide), Or.inl (by decide), Or.inl (by decide), trivial⟩
        rw [z1, z2, z3, z4, z5, z6]
        exact hw.2 s hs
theorem pe_put {n : Nat} {a b c : Int32} : pr_E n 142 243 [.int a, .int b, .int c] := by
  intro w hw
  obtain ⟨⟨r1, w1⟩, g1, t1, ⟨x1, e1, v1⟩, f1⟩ := pu_gen puc_1 puc_2 puc_3 (M := pm_142) rfl (Or.inl rfl) a b c hw.1.1 (fun s hs => by rw [(hw.2 s hs).1]; exact (hw.2 s hs).2.2)
  have t1 : sx_Ty sx_T0 w1 := t1
  have e1 : r1 = some (.int x1) := e1
  subst e1
  have f1 : sx_Fr [(93, 0, 100000), (91, 0, 100000)] w w1 := f1
  have h1 : WI n w1 := ⟨W0_fr (by decide +kernel) hw.1 t1 f1, SH_mv (by decide +kernel) f1 hw.2⟩
  obtain ⟨⟨r2, w2⟩, g2, t2, ⟨x2, e2, v2⟩, f2⟩ := pu_gen pum_1 pum_2 pum_3 (M := pm_243) rfl (Or.inr rfl) a b c t1 (fun s hs => (h1.2 s hs).2.2)
  have t2 : sx_Ty sx_T0 w2 := t2
  have e2 : r2 = some (.int x2) := e2
  subst e2
  have f2 : sx_Fr [(97, 0, 100000), (100, 0, 100000)] w1 w2 := f2
  have c90 : ∀ i, sy_r w1 90 i = sy_r w 90 i := fun i => fr_no f1 ⟨Or.inl (by decide), Or.inl (by decide), trivial⟩
  have c92 : ∀ i, sy_r w1 92 i = sy_r w 92 i := fun i => fr_no f1 ⟨Or.inl (by decide), Or.inl (by decide), trivial⟩
  have e12 : x1 = x2 := Int32.toInt_inj.mp (by
    rw [v1, v2]
    by_cases hA : a.toInt < 0 ∨ 3 < a.toInt
    · unfold pu_X
      rw [if_pos hA, if_pos hA]
    · have hk : a.toInt.toNat < 4 := by omega
      rw [← c90, ← c92, (h1.2 _ hk).1, (h1.2 _ hk).2.1])
  subst e12
  exact ⟨x1, w1, w2, ru_of (k := 299) (M := pm_142) rfl (by rw [Bool.and_eq_true]; exact ⟨rfl, sq_rcv hw.1.1 rfl rfl rfl⟩) g1, ru_of (k := 299) (M := pm_243) rfl (by rw [Bool.and_eq_true]; exact ⟨rfl, sq_rcv t1 rfl rfl rfl⟩) g2, WI_up ⟨W0_fr (by decide +kernel) h1.1 t2 f2, SH_mv (by decide +kernel) f2 h1.2⟩⟩
theorem pe_move {n : Nat} {a b c d e : Int32} : pr_E n 145 244 [.int a, .int b, .int c, .int d, .int e] := by
  intro w hw
  obtain ⟨⟨r1, w1⟩, g1, t1, ⟨x1, e1, v1⟩, f1⟩ := mv_gen mvc_1 mvc_2 mvc_3 mvc_4 mvc_5 mvc_6 mvc_7 (M := pm_145) rfl (Or.inl rfl) a b c d e hw.1.1 (fun s hs => by rw [(hw.2 s hs).1]; exact (hw.2 s hs).2.2)
  have t1 : sx_Ty sx_T0 w1 := t1
  have e1 : r1 = some (.int x1) := e1
  subst e1
  have f1 : sx_Fr [(93, 0, 100000), (91, 0, 100000), (93, 0, 100000)] w w1 := f1
  have h1 : WI n w1 := ⟨W0_fr (by decide +kernel) hw.1 t1 f1, SH_mv (by decide +kernel) f1 hw.2⟩
  obtain ⟨⟨r2, w2⟩, g2, t2, ⟨x2, e2, v2⟩, f2⟩ := mv_gen mvm_1 mvm_2 mvm_3 mvm_4 mvm_5 mvm_6 mvm_7 (M := pm_244) rfl (Or.inr rfl) a b c d e t1 (fun s hs => (h1.2 s hs).2.2)
  have t2 : sx_Ty sx_T0 w2 := t2
  have e2 : r2 = some (.int x2) := e2
  subst e2
  have f2 : sx_Fr [(97, 0, 100000), (100, 0, 100000), (113, 0, 100000)] w1 w2 := f2
  have c90 : ∀ i, sy_r w1 90 i = sy_r w 90 i := fun i => fr_no f1 ⟨Or.inl (by decide), Or.inl (by decide), Or.inl (by decide), trivial⟩
  have c92 : ∀ i, sy_r w1 92 i = sy_r w 92 i := fun i => fr_no f1 ⟨Or.inl (by decide), Or.inl (by decide), Or.inl (by decide), trivial⟩
  have e12 : x1 = x2 := Int32.toInt_inj.mp (by
    rw [v1, v2]
    by_cases hA : (a.toInt < 0 ∨ 3 < a.toInt) ∨ (c.toInt < 0 ∨ 3 < c.toInt)
    · unfold mv_X
      rw [if_pos hA, if_pos hA]
    · have hk : a.toInt.toNat < 4 := by omega
      have hk2 : c.toInt.toNat < 4 := by omega
      rw [← c90 a.toInt.toNat, ← c92 a.toInt.toNat, ← c90 c.toInt.toNat, ← c92 c.toInt.toNat, (h1.2 _ hk).1, (h1.2 _ hk).2.1, (h1.2 _ hk2).1, (h1.2 _ hk2).2.1])
  subst e12
  exact ⟨x1, w1, w2, ru_of (k := 299) (M := pm_145) rfl (by rw [Bool.and_eq_true]; exact ⟨rfl, sq_rcv hw.1.1 rfl rfl rfl⟩) g1, ru_of (k := 299) (M := pm_244) rfl (by rw [Bool.and_eq_true]; exact ⟨rfl, sq_rcv t1 rfl rfl rfl⟩) g2, WI_up ⟨W0_fr (by decide +kernel) h1.1 t2 f2, SH_mv (by decide +kernel) f2 h1.2⟩⟩
theorem pr_cell {n : Nat} {a b : Int32} : pr_P n 12 159 [.int a, .int b] := pr_up (p0_cell)
theorem pr_block {n : Nat} {a b : Int32} : pr_P n 17 163 [.int a, .int b] := pr_up (p0_block)
theorem pr_shut {n : Nat} {a b : Int32} (hb : b = 0 ∨ b = 1) : pr_P n 22 165 [.int a, .int b] := pr_up (p0_shut hb)
theorem pr_land {n : Nat} {a b c : Int32} : pr_P n 23 166 [.int a, .int b, .int c] := pr_up (p0_land)
theorem pr_landIs {n : Nat} {a b : Int32} : pr_P n 25 169 [.int a, .int b] := pr_up (p0_landIs)
theorem pr_rate {n : Nat} {a b : Int32} : pr_P n 28 172 [.int a, .int b] := pr_up (p0_rate)
theorem pr_airline {n : Nat} {a : Int32} : pr_P n 29 173 [.int a] := pr_up (p0_airline)
theorem pr_plane {n : Nat} {a b c : Int32} : pr_P n 31 174 [.int a, .int b, .int c] := pr_up (p0_plane)
theorem pr_as {n : Nat} {a b : Int32} : pr_P n 35 176 [.int a, .int b] := pr_up (p0_as)
theorem pr_planeIs {n : Nat} {a b : Int32} : pr_P n 38 179 [.int a, .int b] := pr_up (p0_planeIs)
theorem pr_earn {n : Nat} {a b : Int32} : pr_P n 51 189 [.int a, .int b] := pr_up (p0_earn)
theorem pr_coin {n : Nat} {a : Int32} : pr_P n 52 190 [.int a] := pr_up (p0_coin)
theorem pr_owes {n : Nat} {a b : Int32} : pr_P n 53 191 [.int a, .int b] := pr_up (p0_owes)
theorem pr_pay {n : Nat} {a b c : Int32} : pr_P n 55 193 [.int a, .int b, .int c] := pr_up (p0_pay)
theorem pr_end {n : Nat} {a : Int32} : pr_P n 56 194 [.int a] := pr_up (p0_end)
theorem pr_feed {n : Nat} {b : Int32} {a : Int64} : pr_P n 63 195 [.long a, .int b] := pr_up (p0_feed)
theorem pr_law {n : Nat} {a b : Int32} : pr_P n 65 196 [.int a, .int b] := pr_up (p0_law)
theorem pr_force {n : Nat} {a b : Int32} : pr_P n 80 206 [.int a, .int b] := pr_up (p0_force)
theorem pr_says {n : Nat} {a b c d : Int32} : pr_P n 81 207 [.int a, .int b, .int c, .int d] := pr_up (p0_says)
theorem pr_file {n : Nat} {a b : Int32} : pr_P n 82 208 [.int a, .int b] := pr_up (p0_file)
theorem pr_fly {n : Nat} {a b : Int32} : pr_P n 89 212 [.int a, .int b] := pr_up (p0_fly)
theorem pr_flightIs {n : Nat} {a b : Int32} : pr_P n 92 213 [.int a, .int b] := pr_up (p0_flightIs)
theorem pr_row {n : Nat} {a b c : Int32} : pr_P n 94 216 [.int a, .int b, .int c] := pr_up (p0_row)
theorem pr_miles {n : Nat} {a b c d : Int32} : pr_P n 96 219 [.int a, .int b, .int c, .int d] := pr_up (p0_miles)
theorem pr_bill {n : Nat} {a : Int32} : pr_P n 101 221 [.int a] := pr_up (p0_bill)
theorem pr_right {n : Nat} {a : Int32} : pr_P n 113 225 [.int a] := pr_up (p0_right)
theorem pr_fee {n : Nat} {a b : Int32} : pr_P n 114 226 [.int a, .int b] := pr_up (p0_fee)
theorem pr_beside {n : Nat} {a b : Int32} (hb : b = 0 ∨ b = 1) : pr_P n 115 227 [.int a, .int b] := pr_up (p0_beside hb)
theorem pr_go {n : Nat} {a : Int32} : pr_P n 117 228 [.int a] := pr_up (p0_go)
theorem pr_cheapest {n : Nat} {a b c d : Int32} : pr_P n 122 231 [.int a, .int b, .int c, .int d] := pr_up (p0_cheapest)
theorem pr_gain {n : Nat} {a b c d : Int32} : pr_P n 131 233 [.int a, .int b, .int c, .int d] := pr_up (p0_gain)
theorem pr_voice {n : Nat} {a b c : Int32} : pr_P n 133 234 [.int a, .int b, .int c] := pr_up (p0_voice)
theorem pr_trace {n : Nat} {a : Int32} : pr_P n 138 240 [.int a] := pr_up (p0_trace)
theorem pr_told {n : Nat} {a : Int32} : pr_P n 153 247 [.int a] := pr_up (p0_told)
theorem pr_found {n : Nat} {a : Int32} : pr_P n 157 248 [.int a] := pr_up (p0_found)
theorem pr_restore {n : Nat} (hn : n ≤ 90000) : pr_P n 152 246 [] := pr_up (p0_restore hn)
theorem pr_fuel {n : Nat} {a : Int32} : pr_P n 121 230 [.int a] := pr_eP pe_fuel
theorem pr_image {n : Nat} (hn : n ≤ 90000) : pr_P n 147 245 [] := pr_eP (pe_image hn)
theorem pr_sheet {n : Nat} {a b c : Int32} : pr_P n 139 241 [.int a, .int b, .int c] := pr_eP pe_sheet
theorem pr_put {n : Nat} {a b c : Int32} : pr_P n 142 243 [.int a, .int b, .int c] := pr_eP pe_put
theorem pr_move {n : Nat} {a b c d e : Int32} : pr_P n 145 244 [.int a, .int b, .int c, .int d, .int e] := pr_eP pe_move
