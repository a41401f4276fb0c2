/-! sheets and places of both sides are alike; calls of both sides, one after the other, told for the law -/
noncomputable def SH (w : pq_W) : Prop := ∀ s, s < 4 → sy_r w 90 s = sy_r w 98 s ∧ sy_r w 92 s = sy_r w 99 s ∧ sh_wd (sy_r w 98 s)
noncomputable def sh_ok (A : sx_A) : Bool := sy_ninb A 90 0 3 && sy_ninb A 92 0 3 && sy_ninb A 98 0 3 && sy_ninb A 99 0 3
theorem SH_mv {A : sx_A} {w w1 : pq_W} (hA : sh_ok A = true) (f : sx_Fr A w w1) (h : SH w) : SH w1 := by
  unfold sh_ok at hA
  simp only [Bool.and_eq_true] at hA
  obtain ⟨⟨⟨b1, b2⟩, b3⟩, b4⟩ := hA
  intro s hs
  rw [sy_r_fr f (sy_nin b1 (by omega) (by omega)), sy_r_fr f (sy_nin b2 (by omega) (by omega)), sy_r_fr f (sy_nin b3 (by omega) (by omega)), sy_r_fr f (sy_nin b4 (by omega) (by omega))]
  exact h s hs
noncomputable def nq_a (w : pq_W) (q : Nat × Nat × Nat) : Prop := sy_r w q.1 q.2.1 = sy_r w 95 q.2.2
noncomputable def nq_k (w : pq_W) (q : Nat × Nat × Nat) : Prop := sy_r w (q.1 + 34) q.2.1 = sy_r w 96 q.2.2
/-- places are alike now, and as they are kept -/
noncomputable def AN (w : pq_W) : Prop := ∀ q ∈ nq_M, nq_a w q
noncomputable def AK (w : pq_W) : Prop := sy_r w 94 2 ≠ 0 → ∀ q ∈ nq_M, nq_k w q
noncomputable def nb_a (A : sx_A) (q : Nat × Nat × Nat) : Bool := sy_ninb A q.1 q.2.1 q.2.1 && sy_ninb A 95 q.2.2 q.2.2
noncomputable def nb_k (A : sx_A) : Bool := sy_ninb A 94 2 2 && sy_ninb A 96 0 2857 && nq_M.all fun q => sy_ninb A (q.1 + 34) q.2.1 q.2.1 && Nat.blt q.2.2 2858
noncomputable def nb_n (sp : Nat × Nat × Nat → Bool) (A : sx_A) : Bool := nq_M.all fun q => sp q || nb_a A q
theorem AK_mv {A : sx_A} {w w1 : pq_W} (hA : nb_k A = true) (f : sx_Fr A w w1) (h : AK w) : AK w1 := by
  unfold nb_k at hA
  rw [Bool.and_eq_true, Bool.and_eq_true] at hA
  obtain ⟨⟨b1, b2⟩, b3⟩ := hA
  rw [List.all_eq_true] at b3
  intro e q hq
  rw [nb_1 (i := 2) b1 f] at e
  have h3 := b3 q hq
  rw [Bool.and_eq_true] at h3
  have hlt : q.2.2 < 2858 := Nat.le_of_ble_eq_true h3.2
  show sy_r w1 (q.1 + 34) q.2.1 = sy_r w1 96 q.2.2
  rw [nb_1 (i := q.2.1) h3.1 f, sy_r_fr f (sy_nin b2 (by omega) (by omega))]
  exact h e q hq
theorem AN_mv (sp : Nat × Nat × Nat → Bool) {A : sx_A} {w w1 : pq_W} (hA : nb_n sp A = true) (f : sx_Fr A w w1) (h : AN w) (hs : ∀ q ∈ nq_M, sp q = true → nq_a w1 q) : AN w1 := by
  unfold nb_n at hA
  rw [List.all_eq_true] at hA
  intro q hq
  have h1 := hA q hq
  rw [Bool.or_eq_true] at h1
  rcases h1 with h1 | h1
  · exact hs q hq h1
  · unfold nb_a at h1
    rw [Bool.and_eq_true] at h1
    show sy_r w1 q.1 q.2.1 = sy_r w1 95 q.2.2
    rw [nb_1 (i := q.2.1) h1.1 f, nb_1 (i := q.2.2) h1.2 f]
    exact h q hq
noncomputable def no_sp : Nat × Nat × Nat → Bool := fun _ => false
noncomputable def al_ok (A : sx_A) : Bool := nb_n no_sp A && nb_k A
noncomputable def AL (w : pq_W) : Prop := AN w ∧ AK w
theorem AL_mv {A : sx_A} {w w1 : pq_W} (hA : al_ok A = true) (f : sx_Fr A w w1) (h : AL w) : AL w1 := by
  unfold al_ok at hA
  rw [Bool.and_eq_true] at hA
  exact ⟨AN_mv no_sp hA.1 f h.1 (fun q _ hs => by cases hs), AK_mv hA.2 f h.2⟩
theorem sx_Fr_app {C B : sx_A} {w w1 w2 : pq_W} (f1 : sx_Fr C w w1) (f2 : sx_Fr B w1 w2) : sx_Fr (C ++ B) w w2 := fun r i h => (f2 r i (fun ⟨q, hq, e⟩ => h ⟨q, List.mem_append_right _ hq, e⟩)).trans (f1 r i (fun ⟨q, hq, e⟩ => h ⟨q, List.mem_append_left _ hq, e⟩))
/-- the one place of the reference with this number -/
theorem nq_one {r i j : Nat} (hb : (nq_M.all fun q => !(Nat.beq q.2.2 j) || (Nat.beq q.1 r && Nat.beq q.2.1 i)) = true) {q : Nat × Nat × Nat} (hq : q ∈ nq_M) (hs : Nat.beq q.2.2 j = true) : q = (r, i, j) := by
  rw [List.all_eq_true] at hb
  have h := hb q hq
  rw [hs] at h
  obtain ⟨a, b, c⟩ := q
  simp only [Bool.not_true, Bool.false_or, Bool.and_eq_true] at h
  have h1 : a = r := Nat.eq_of_beq_eq_true h.1
  have h2 : b = i := Nat.eq_of_beq_eq_true h.2
  have h3 : c = j := Nat.eq_of_beq_eq_true hs
  rw [h1, h2, h3]
theorem nq_in1 {q : Nat × Nat × Nat} (h : q ∈ nq_M1) : q ∈ nq_M := List.mem_append_left _ h
theorem nq_in2 {q : Nat × Nat × Nat} (h : q ∈ nq_M2) : q ∈ nq_M := List.mem_append_right _ h
/-- an airline that isn't there hasn't ended -/
noncomputable def EZ (w : pq_W) : Prop := ∀ a : Nat, a < 8 → sy_r w 95 2 ≤ a → sy_r w 95 (187 + 10 * a) = 0
noncomputable def EK (w : pq_W) : Prop := sy_r w 94 2 ≠ 0 → ∀ a : Nat, a < 8 → sy_r w 96 2 ≤ a → sy_r w 96 (187 + 10 * a) = 0
noncomputable def ez_ok (A : sx_A) : Bool := sy_ninb A 95 2 2 && (List.range 8).all fun a => sy_ninb A 95 (187 + 10 * a : Nat) (187 + 10 * a : Nat)
theorem ez_e {A : sx_A} {w w1 : pq_W} (hA : ez_ok A = true) (f : sx_Fr A w w1) : sy_r w1 95 2 = sy_r w 95 2 ∧ ∀ a, a < 8 → sy_r w1 95 (187 + 10 * a) = sy_r w 95 (187 + 10 * a) := by
  unfold ez_ok at hA
  rw [Bool.and_eq_true] at hA
  exact ⟨nb_1 (i := 2) hA.1 f, fun a ha => nb_1 (i := 187 + 10 * a) (List.all_eq_true.mp hA.2 a (List.mem_range.mpr ha)) f⟩
theorem EZ_mv {A : sx_A} {w w1 : pq_W} (hA : ez_ok A = true) (f : sx_Fr A w w1) (h : EZ w) : EZ w1 := fun a ha hn => by
  obtain ⟨e1, e2⟩ := ez_e hA f
  rw [e1] at hn
  rw [e2 a ha]
  exact h a ha hn
theorem EK_mv {A : sx_A} {w w1 : pq_W} (hA : nb_k A = true) (f : sx_Fr A w w1) (h : EK w) : EK w1 := by
  unfold nb_k at hA
  rw [Bool.and_eq_true, Bool.and_eq_true] at hA
  obtain ⟨⟨b1, b2⟩, _⟩ := hA
  intro e a ha hn
  rw [nb_1 (i := 2) b1 f] at e
  rw [sy_r_fr f (sy_nin b2 (by omega) (by omega))] at hn ⊢
  exact h e a ha hn
noncomputable def AE (w : pq_W) : Prop := EZ w ∧ EK w
noncomputable def WI (n : Nat) (w : pq_W) : Prop := W0 n w ∧ SH w ∧ AL w ∧ AE w
noncomputable def ae_ok (A : sx_A) : Bool := al_ok A && ez_ok A
/-- all that is alike, where none of it is written -/
theorem AA_mv {A : sx_A} {w w1 : pq_W} (hA : ae_ok A = true) (f : sx_Fr A w w1) (h : AL w ∧ AE w) : AL w1 ∧ AE w1 := by
  unfold ae_ok at hA
  rw [Bool.and_eq_true] at hA
  have hk : nb_k A = true := by
    have := hA.1
    unfold al_ok at this
    rw [Bool.and_eq_true] at this
    exact this.2
  exact ⟨AL_mv hA.1 f h.1, EZ_mv hA.2 f h.2.1, EK_mv hk f h.2.2⟩
theorem WI_up {n : Nat} {w : pq_W} (h : WI n w) : WI (n + 1) w := ⟨⟨h.1.1, h.1.2.1, FI_up h.1.2.2⟩, h.2⟩
noncomputable def pr_P (n jc jm : Nat) (as : List Value) : Prop := ∀ w, WI n w → ∃ (x1 : Int32) (w1 : pq_W) (x2 : Int32) (w2 : pq_W), pq_Ru 300 jc (.ref 5 :: as) w (some (.int x1), w1) ∧ pq_Ru 300 jm (.ref 94 :: as) w1 (some (.int x2), w2) ∧ WI (n + 1) w2
/-- the answers are the same -/
noncomputable def pr_E (n jc jm : Nat) (as : List Value) : Prop := ∀ w, WI n w → ∃ (x : Int32) (w1 w2 : pq_W), pq_Ru 300 jc (.ref 5 :: as) w (some (.int x), w1) ∧ pq_Ru 300 jm (.ref 94 :: as) w1 (some (.int x), w2) ∧ WI (n + 1) w2
theorem pr_eP {n jc jm : Nat} {as : List Value} (h : pr_E n jc jm as) : pr_P n jc jm as := fun w hw => by
  obtain ⟨x, w1, w2, h⟩ := h w hw
  exact ⟨x, w1, x, w2, h⟩
theorem pr_up {C B : sx_A} {n jc jm : Nat} {as : List Value} (h : p0_P C B n jc jm as) (hC : (sh_ok C && ae_ok C) = true) (hB : (sh_ok B && ae_ok B) = true) : pr_P n jc jm as := fun w hw => by
  obtain ⟨x1, w1, x2, w2, g1, g2, _, h0, f1, f2⟩ := h w hw.1
  rw [Bool.and_eq_true] at hC hB
  exact ⟨x1, w1, x2, w2, g1, g2, h0, SH_mv hB.1 f2 (SH_mv hC.1 f1 hw.2.1), AA_mv hB.2 f2 (AA_mv hC.2 f1 hw.2.2)⟩
theorem pe_fuel {n : Nat} {a : Int32} : pr_E n 121 230 [.int a] := fun w hw => by
  obtain ⟨x, w1, w2, g1, g2, h0, f⟩ := p0_fuel (n := n) (a := a) w hw.1
  exact ⟨x, w1, w2, g1, g2, h0, SH_mv (by decide +kernel) f hw.2.1, AA_mv (by decide +kernel) f hw.2.2⟩
theorem nq_ik : (nq_M.all fun q => sy_ninb [(94, 2, 2), (96, 0, 2857)] (q.1 + 34) q.2.1 q.2.1 && Nat.blt q.2.2 2858) = true := by decide +kernel
theorem pe_image {n : Nat} (hn : n ≤ 90000) : pr_E n 147 245 [] := fun w hw => by
  obtain ⟨x, w1, w2, g1, g2, h0, f1, f2, q1, q2, q3⟩ := p0_image hn w hw.1
  refine ⟨x, w1, w2, g1, g2, h0, SH_mv (by decide +kernel) f2 (SH_mv (by decide +kernel) f1 hw.2.1), ⟨AN_mv no_sp (by decide +kernel) f2 (AN_mv no_sp (by decide +kernel) f1 hw.2.2.1.1 (fun q _ hs => by cases hs)) (fun q _ hs => by cases hs), fun _ q hq => ?_⟩, EZ_mv (by decide +kernel) f2 (EZ_mv (by decide +kernel) f1 hw.2.2.2.1), fun _ a ha hn => ?_⟩
  · have h3 := List.all_eq_true.mp nq_ik q hq
    rw [Bool.and_eq_true] at h3
    have hlt : q.2.2 < 2858 := Nat.le_of_ble_eq_true h3.2
    have h95 := nb_c_ok (r := 95) (A := ci_A) (by decide +kernel) f1
    show sy_r w2 (q.1 + 34) q.2.1 = sy_r w2 96 q.2.2
    rw [nb_1 (i := q.2.1) h3.1 f2, q1 q hq, q2 _ hlt, h95]
    exact hw.2.2.1.1 q hq
  · have h95 := nb_c_ok (r := 95) (A := ci_A) (by decide +kernel) f1
    rw [q2 _ (by omega), h95] at hn ⊢
    exact hw.2.2.2.1 a ha hn
theorem nq_rn : (nq_M.all fun q => sy_ninb [(95, 0, 2857)] q.1 q.2.1 q.2.1 && Nat.blt q.2.2 2858) = true := by decide +kernel
theorem pe_restore {n : Nat} (hn : n ≤ 90000) : pr_E n 152 246 [] := fun w hw => by
  obtain ⟨x1, w1, x2, w2, g1, g2, h0, hor⟩ := p0_restore hn w hw.1
  rcases hor with ⟨_, v1, v2, f1, f2⟩ | ⟨e0, v1, v2, f1, f2, q1, q2⟩
  · have e12 : x1 = x2 := Int32.toInt_inj.mp (v1.trans v2.symm)
    subst e12
    exact ⟨x1, w1, w2, g1, g2, h0, SH_mv (A := [(97, 0, 5)]) (by decide +kernel) f2 (SH_mv (A := [(93, 0, 100000)]) (by decide +kernel) f1 hw.2.1), AA_mv (A := [(97, 0, 5)]) (by decide +kernel) f2 (AA_mv (A := [(93, 0, 100000)]) (by decide +kernel) f1 hw.2.2)⟩
  · have k := hw.2.2.1.2 e0
    have k0 : sy_r w 40 8 = sy_r w 96 0 := k (6, 8, 0) (nq_in1 List.mem_cons_self)
    have e12 : x1 = x2 := Int32.toInt_inj.mp (by rw [v1, v2, k0])
    subst e12
    refine ⟨x1, w1, w2, g1, g2, h0, SH_mv (A := [(95, 0, 2857)]) (by decide +kernel) f2 (SH_mv (by decide +kernel) f1 hw.2.1), ⟨fun q hq => ?_, AK_mv (A := [(95, 0, 2857)]) (by decide +kernel) f2 (AK_mv (by decide +kernel) f1 hw.2.2.1.2)⟩, fun a ha hn => ?_, EK_mv (A := [(95, 0, 2857)]) (by decide +kernel) f2 (EK_mv (by decide +kernel) f1 hw.2.2.2.2)⟩
    · have h3 := List.all_eq_true.mp nq_rn q hq
      rw [Bool.and_eq_true] at h3
      have hlt : q.2.2 < 2858 := Nat.le_of_ble_eq_true h3.2
      show sy_r w2 q.1 q.2.1 = sy_r w2 95 q.2.2
      rw [nb_1 (i := q.2.1) h3.1 f2, q1 q hq, q2 _ hlt]
      exact k q hq
    · rw [q2 _ (by omega)] at hn ⊢
      exact hw.2.2.2.2 e0 a ha hn
theorem pe_go {n : Nat} {a : Int32} : pr_E n 117 228 [.int a] := fun w hw => by
  obtain ⟨x1, w1, x2, w2, g1, g2, h1, h0, f1, f2⟩ := p0_go (n := n) (a := a) w hw.1
  have day : sy_r w 6 8 = sy_r w 95 0 := hw.2.2.1.1 (6, 8, 0) (nq_in1 List.mem_cons_self)
  have d0 := hw.1.2.1.2.1.1
  obtain ⟨rc, e1, c1, c2, ⟨y1, c3, c4⟩, c5⟩ := gc_go (xn := a) hw.1.1 (by rw [day]; exact d0)
  have q1 := ru_det g1 e1
  subst q1
  obtain ⟨rm, e2, _, ⟨y2, m3, m4⟩, m5⟩ := kz_go (xn := a) h1.1 h1.2.1
  have q2 := ru_det g2 e2
  subst q2
  have c3 : some (Value.int x1) = some (Value.int y1) := c3
  have m3 : some (Value.int x2) = some (Value.int y2) := m3
  cases c3
  cases m3
  have c5 : sy_r w1 6 8 = gd_Y (sy_r w 6 8) a.toInt := c5
  have m5 : sy_r w2 95 0 = gd_Y (sy_r w1 95 0) a.toInt := m5
  have day1 : sy_r w1 95 0 = sy_r w 95 0 := nb_1 (A := kk_c_go.md) (i := 0) (by decide +kernel) f1
  have day2 : sy_r w2 6 8 = sy_r w1 6 8 := nb_1 (A := kk_m_go.md) (i := 8) (by decide +kernel) f2
  have e12 : x1 = x2 := Int32.toInt_inj.mp (by rw [c4, m4, day1, day])
  subst e12
  refine ⟨x1, w1, w2, g1, g2, h0, SH_mv (by decide +kernel) f2 (SH_mv (by decide +kernel) f1 hw.2.1), ⟨AN_mv (fun q => Nat.beq q.2.2 0) (by decide +kernel) (sx_Fr_app f1 f2) hw.2.2.1.1 (fun q hq hs => ?_), AK_mv (by decide +kernel) f2 (AK_mv (by decide +kernel) f1 hw.2.2.1.2)⟩, EZ_mv (by decide +kernel) f2 (EZ_mv (by decide +kernel) f1 hw.2.2.2.1), EK_mv (by decide +kernel) f2 (EK_mv (by decide +kernel) f1 hw.2.2.2.2)⟩
  rw [nq_one (r := 6) (i := 8) (j := 0) (by decide +kernel) hq hs]
  show sy_r w2 6 8 = sy_r w2 95 0
  rw [day2, c5, m5, day1, day]
theorem nq_fam {r k n b s : Nat} (hb : (nq_M.all fun q => !(Nat.beq q.1 r) || (Nat.blt q.2.1 n && Nat.beq q.2.2 (b + s * q.2.1))) = true) {q : Nat × Nat × Nat} (hq : q ∈ nq_M) (hs : Nat.beq q.1 r = true) : ∃ i, i < n ∧ q = (r, i, b + s * i) := by
  rw [List.all_eq_true] at hb
  have h := hb q hq
  rw [hs] at h
  obtain ⟨a, i, c⟩ := q
  simp only [Bool.not_true, Bool.false_or, Bool.and_eq_true] at h
  have h1 : a = r := Nat.eq_of_beq_eq_true hs
  have h2 : i < n := Nat.le_of_ble_eq_true h.1
  have h3 : c = b + s * i := Nat.eq_of_beq_eq_true h.2
  exact ⟨i, h2, by rw [h1, h3]⟩
theorem nq_17 {q : Nat × Nat × Nat} (hq : q ∈ nq_M) (hs : Nat.beq q.1 17 = true) : ∃ i, i < 8 ∧ q = (17, i, 187 + 10 * i) := nq_fam (k := 0) (by decide +kernel) hq hs
theorem nq_9 {q : Nat × Nat × Nat} (hq : q ∈ nq_M) (hs : Nat.beq q.1 9 = true) : ∃ i, i < 8 ∧ q = (9, i, 138 + 6 * i) := nq_fam (k := 0) (by decide +kernel) hq hs
theorem nq_19 {q : Nat × Nat × Nat} (hq : q ∈ nq_M) (hs : Nat.beq q.1 19 = true) : ∃ i, i < 12 ∧ q = (19, i, 266 + 3 * i) := nq_fam (k := 0) (by decide +kernel) hq hs
theorem nq_20 {q : Nat × Nat × Nat} (hq : q ∈ nq_M) (hs : Nat.beq q.1 20 = true) : ∃ i, i < 12 ∧ q = (20, i, 267 + 3 * i) := nq_fam (k := 0) (by decide +kernel) hq hs
theorem nq_21 {q : Nat × Nat × Nat} (hq : q ∈ nq_M) (hs : Nat.beq q.1 21 = true) : ∃ i, i < 12 ∧ q = (21, i, 268 + 3 * i) := nq_fam (k := 0) (by decide +kernel) hq hs
theorem nq_9m : ∀ i, i < 8 → ((9, i, 138 + 6 * i) : Nat × Nat × Nat) ∈ nq_M := fun i hi => nq_in2 (List.mem_cons_of_mem _ (List.mem_append_left _ (List.mem_map.mpr ⟨i, List.mem_range.mpr hi, rfl⟩)))
theorem nq_17m : ∀ i, i < 8 → ((17, i, 187 + 10 * i) : Nat × Nat × Nat) ∈ nq_M := fun i hi => nq_in2 (List.mem_cons_of_mem _ (List.mem_append_right _ (List.mem_append_left _ (List.mem_map.mpr ⟨i, List.mem_range.mpr hi, rfl⟩))))
theorem nq_19m : ∀ i, i < 12 → ((19, i, 266 + 3 * i) : Nat × Nat × Nat) ∈ nq_M := fun i hi => nq_in2 (List.mem_cons_of_mem _ (List.mem_append_right _ (List.mem_append_right _ (List.mem_append_left _ (List.mem_map.mpr ⟨i, List.mem_range.mpr hi, rfl⟩)))))
theorem nq_20m : ∀ i, i < 12 → ((20, i, 267 + 3 * i) : Nat × Nat × Nat) ∈ nq_M := fun i hi => nq_in2 (List.mem_cons_of_mem _ (List.mem_append_right _ (List.mem_append_right _ (List.mem_append_right _ (List.mem_append_left _ (List.mem_map.mpr ⟨i, List.mem_range.mpr hi, rfl⟩))))))
theorem nq_21m : ∀ i, i < 12 → ((21, i, 268 + 3 * i) : Nat × Nat × Nat) ∈ nq_M := fun i hi => nq_in2 (List.mem_cons_of_mem _ (List.mem_append_right _ (List.mem_append_right _ (List.mem_append_right _ (List.mem_append_right _ (List.mem_map.mpr ⟨i, List.mem_range.mpr hi, rfl⟩))))))
theorem nq_em {w : pq_W} (ht : sx_Ty sx_T0 w) {a : Nat} (ha : a < 8) : sy_r w 17 a = 0 ∨ sy_r w 17 a = 1 := by
  have h := sy_rg (r := 17) ht rfl (g := (0, 1, 8, 0, 0, 0, 1)) (by decide) (k := a) (j := 0) ha (Nat.le_refl _) (Nat.le_refl _) (by show 0 + 1 * a + 0 < 8; omega)
  have h : 0 ≤ sy_r w 17 (0 + 1 * a + 0) ∧ sy_r w 17 (0 + 1 * a + 0) ≤ 1 := h
  rw [show 0 + 1 * a + 0 = a by omega] at h
  omega
theorem nq_em2 {w : pq_W} (ht : sx_Ty sx_T0 w) {a : Nat} (ha : a < 8) : sy_r w 95 (187 + 10 * a) = 0 ∨ sy_r w 95 (187 + 10 * a) = 1 := by
  have h := sy_rg (r := 95) ht rfl (g := (186, 10, 8, 1, 1, 0, 1)) (by decide) (k := a) (j := 1) ha (Nat.le_refl _) (Nat.le_refl _) (by show 186 + 10 * a + 1 < 2858; omega)
  have h : 0 ≤ sy_r w 95 (186 + 10 * a + 1) ∧ sy_r w 95 (186 + 10 * a + 1) ≤ 1 := h
  rw [show 187 + 10 * a = 186 + 10 * a + 1 by omega]
  omega
theorem nq_pm {w : pq_W} (ht : sx_Ty sx_T0 w) {p : Nat} (hp : p < 12) : (0 ≤ sy_r w 95 (266 + 3 * p) ∧ sy_r w 95 (266 + 3 * p) ≤ 5) ∧ 0 ≤ sy_r w 95 (268 + 3 * p) ∧ sy_r w 95 (268 + 3 * p) ≤ 600 := by
  have h := sy_rg (r := 95) ht rfl (g := (266, 3, 12, 0, 0, 0, 5)) (by decide) (k := p) (j := 0) hp (Nat.le_refl _) (Nat.le_refl _) (by show 266 + 3 * p + 0 < 2858; omega)
  have h2 := sy_rg (r := 95) ht rfl (g := (266, 3, 12, 2, 2, 0, 600)) (by decide) (k := p) (j := 2) hp (Nat.le_refl _) (Nat.le_refl _) (by show 266 + 3 * p + 2 < 2858; omega)
  have h2 : 0 ≤ sy_r w 95 (266 + 3 * p + 2) ∧ sy_r w 95 (266 + 3 * p + 2) ≤ 600 := h2
  rw [show 268 + 3 * p = 266 + 3 * p + 2 by omega]
  exact ⟨h, h2⟩
theorem pe_airline {n : Nat} {a : Int32} : pr_E n 29 173 [.int a] := fun w hw => by
  obtain ⟨x1, w1, x2, w2, g1, g2, h1, h0, f1, f2⟩ := p0_airline (n := n) (a := a) w hw.1
  have an : sy_r w 15 0 = sy_r w 95 2 := hw.2.2.1.1 (15, 0, 2) (nq_in1 (List.mem_cons_of_mem _ List.mem_cons_self))
  have hy := (mo_yT hw.1.1 (Or.inl rfl)).1
  have hy1 := (mo_yT h1.1 (Or.inl rfl)).1
  obtain ⟨rc, e1, _, _, ⟨y1, c3, c4⟩, c5⟩ := ai_gen (M := pm_29) aic rfl a hw.1.1 (by rw [an]; exact hy)
  have q1 := ru_det g1 (ru_of (k := 299) (M := pm_29) rfl (by rw [Bool.and_eq_true]; exact ⟨rfl, sq_rcv hw.1.1 rfl rfl rfl⟩) e1)
  subst q1
  obtain ⟨rm, e2, _, _, ⟨y2, m3, m4⟩, m5⟩ := ai_gen (M := pm_173) aim rfl a h1.1 hy1
  have q2 := ru_det g2 (ru_of (k := 299) (M := pm_173) rfl (by rw [Bool.and_eq_true]; exact ⟨rfl, sq_rcv h1.1 rfl rfl rfl⟩) e2)
  subst q2
  have n1 : sy_r w1 95 2 = sy_r w 95 2 := nb_1 (A := kk_c_airline.md) (i := 2) (by decide +kernel) f1
  have ez1 : EZ w1 := EZ_mv (A := kk_c_airline.md) (by decide +kernel) f1 hw.2.2.2.1
  obtain ⟨rz, e3, z3⟩ := ea_gen a h1.1 hy1 ez1
  have q3 := ru_det g2 (ru_of (k := 299) (M := pm_173) rfl (by rw [Bool.and_eq_true]; exact ⟨rfl, sq_rcv h1.1 rfl rfl rfl⟩) e3)
  subst q3
  have z3 : ∀ b : Nat, b < 8 → sy_r w2 95 (187 + 10 * b) = sy_r w1 95 (187 + 10 * b) := z3
  have c3 : some (Value.int x1) = some (Value.int y1) := c3
  have m3 : some (Value.int x2) = some (Value.int y2) := m3
  cases c3
  cases m3
  have c5 : sy_r w1 15 0 = ai_Y (sy_r w 15 0) a.toInt := c5
  have m5 : sy_r w2 95 2 = ai_Y (sy_r w1 95 2) a.toInt := m5
  have n2 : sy_r w2 15 0 = sy_r w1 15 0 := nb_1 (A := kk_m_airline.md) (i := 0) (by decide +kernel) f2
  have e12 : x1 = x2 := Int32.toInt_inj.mp (by rw [c4, m4, n1, an])
  subst e12
  refine ⟨x1, w1, w2, g1, g2, h0, SH_mv (by decide +kernel) f2 (SH_mv (by decide +kernel) f1 hw.2.1), ⟨AN_mv (fun q => Nat.beq q.2.2 2 || Nat.beq q.1 17) (by decide +kernel) (sx_Fr_app f1 f2) hw.2.2.1.1 (fun q hq hs => ?_), AK_mv (by decide +kernel) f2 (AK_mv (by decide +kernel) f1 hw.2.2.1.2)⟩, fun b hb hn => ?_, EK_mv (by decide +kernel) f2 (EK_mv (by decide +kernel) f1 hw.2.2.2.2)⟩
  · rw [Bool.or_eq_true] at hs
    rcases hs with hs | hs
    · rw [nq_one (r := 15) (i := 0) (j := 2) (by decide +kernel) hq hs]
      show sy_r w2 15 0 = sy_r w2 95 2
      rw [n2, c5, m5, n1, an]
    · obtain ⟨i, hi, rfl⟩ := nq_17 hq hs
      show sy_r w2 17 i = sy_r w2 95 (187 + 10 * i)
      have a1 : sy_r w2 17 i = sy_r w1 17 i := congrFun (nb_c_ok (r := 17) (A := kk_m_airline.md) (by decide +kernel) f2) i
      have a2 : sy_r w1 17 i = sy_r w 17 i := congrFun (nb_c_ok (r := 17) (A := kk_c_airline.md) (by decide +kernel) f1) i
      have a3 : sy_r w1 95 (187 + 10 * i) = sy_r w 95 (187 + 10 * i) := congrFun (nb_c_ok (r := 95) (A := kk_c_airline.md) (by decide +kernel) f1) _
      rw [a1, a2, z3 i hi, a3]
      exact hw.2.2.1.1 _ (nq_17m i hi)
  · rw [z3 b hb]
    refine ez1 b hb ?_
    have hge : sy_r w1 95 2 ≤ sy_r w2 95 2 := by
      rw [m5]
      unfold ai_Y
      split
      · exact Int.le_refl _
      · split <;> omega
    omega
theorem nq_sh {q : Nat × Nat × Nat} (hq : q ∈ nq_M) (hs : Nat.beq q.1 8 = true) : ∃ i, i < 64 ∧ q = (8, i, 74 + i) := by
  have hb : (nq_M.all fun q => !(Nat.beq q.1 8) || (Nat.blt q.2.1 64 && Nat.beq q.2.2 (74 + q.2.1))) = true := by decide +kernel
  rw [List.all_eq_true] at hb
  have h := hb q hq
  rw [hs] at h
  obtain ⟨a, b, c⟩ := q
  simp only [Bool.not_true, Bool.false_or, Bool.and_eq_true] at h
  have h1 : a = 8 := Nat.eq_of_beq_eq_true hs
  have h2 : b < 64 := Nat.le_of_ble_eq_true h.1
  have h3 : c = 74 + b := Nat.eq_of_beq_eq_true h.2
  exact ⟨b, h2, by rw [h1, h3]⟩
theorem nq_shm : ∀ i, i < 64 → ((8, i, 74 + i) : Nat × Nat × Nat) ∈ nq_M := fun i hi => nq_in1 (List.mem_cons_of_mem _ (List.mem_cons_of_mem _ (List.mem_map.mpr ⟨i, List.mem_range.mpr hi, rfl⟩)))
theorem su_b8 {w : pq_W} (ht : sx_Ty sx_T0 w) {c : Nat} (hc : c < 64) : sy_r w 8 (0 + c) = 0 ∨ sy_r w 8 (0 + c) = 1 := by
  have h := sy_rg (r := 8) ht rfl (g := (0, 1, 64, 0, 0, 0, 1)) (by decide) (k := c) (j := 0) hc (Nat.le_refl _) (Nat.le_refl _) (by show 0 + 1 * c + 0 < 64; omega)
  have h : 0 ≤ sy_r w 8 (0 + 1 * c + 0) ∧ sy_r w 8 (0 + 1 * c + 0) ≤ 1 := h
  rw [show 0 + 1 * c + 0 = 0 + c by omega] at h
  omega
theorem su_b95 {w : pq_W} (ht : sx_Ty sx_T0 w) {c : Nat} (hc : c < 64) : sy_r w 95 (74 + c) = 0 ∨ sy_r w 95 (74 + c) = 1 := by
  have h := sy_rg (r := 95) ht rfl (g := (74, 1, 64, 0, 0, 0, 1)) (by decide) (k := c) (j := 0) hc (Nat.le_refl _) (Nat.le_refl _) (by show 74 + 1 * c + 0 < 2858; omega)
  have h : 0 ≤ sy_r w 95 (74 + 1 * c + 0) ∧ sy_r w 95 (74 + 1 * c + 0) ≤ 1 := h
  rw [show 74 + 1 * c + 0 = 74 + c by omega] at h
  omega
theorem pe_shut {n : Nat} {a b : Int32} (hb : b = 0 ∨ b = 1) : pr_E n 22 165 [.int a, .int b] := fun w hw => by
  obtain ⟨x1, w1, x2, w2, g1, g2, h1, h0, f1, f2⟩ := p0_shut (n := n) (a := a) hb w hw.1
  have hv : b.toInt = 0 ∨ b.toInt = 1 := by rcases hb with rfl | rfl <;> decide
  obtain ⟨rc, e1, _, p1⟩ := su_gen (M := pm_22) (b := 0) suc_o (fun hv hy => suc_a hv hy) rfl a b hv hw.1.1 (fun c hc => su_b8 hw.1.1 hc)
  have q1 := ru_det g1 (ru_of (k := 299) (M := pm_22) rfl (by rw [Bool.and_eq_true]; exact ⟨rfl, sq_rcv hw.1.1 rfl rfl rfl⟩) e1)
  subst q1
  obtain ⟨rm, e2, _, p2⟩ := su_gen (M := pm_165) (b := 74) sum_o (fun hv hy => sum_a hv hy) rfl a b hv h1.1 (fun c hc => su_b95 h1.1 hc)
  have q2 := ru_det g2 (ru_of (k := 299) (M := pm_165) rfl (by rw [Bool.and_eq_true]; exact ⟨rfl, sq_rcv h1.1 rfl rfl rfl⟩) e2)
  subst q2
  rcases p1 with ⟨n1, ⟨y1, c3, c4⟩, k1⟩ | ⟨i1, l1, z1, ⟨y1, c3, c4⟩, k1, v1⟩
  · rcases p2 with ⟨_, ⟨y2, m3, m4⟩, k2⟩ | ⟨i2, l2, z2, _⟩
    · have c3 : some (Value.int x1) = some (Value.int y1) := c3
      have m3 : some (Value.int x2) = some (Value.int y2) := m3
      cases c3
      cases m3
      have e12 : x1 = x2 := Int32.toInt_inj.mp (c4.trans m4.symm)
      subst e12
      have k1 : sx_Fr [(93, 0, 100000)] w w1 := k1
      have k2 : sx_Fr [(97, 0, 100000)] w1 w2 := k2
      exact ⟨x1, w1, w2, g1, g2, h0, SH_mv (by decide +kernel) k2 (SH_mv (by decide +kernel) k1 hw.2.1), AA_mv (by decide +kernel) k2 (AA_mv (by decide +kernel) k1 hw.2.2)⟩
    · exact absurd (by omega) n1
  · rcases p2 with ⟨n2, _⟩ | ⟨i2, l2, z2, ⟨y2, m3, m4⟩, k2, v2⟩
    · exact absurd (by omega) n2
    · have ei : i2 = i1 := by omega
      subst ei
      have c3 : some (Value.int x1) = some (Value.int y1) := c3
      have m3 : some (Value.int x2) = some (Value.int y2) := m3
      cases c3
      cases m3
      have k1 : sx_Fr [(8, ((0 + i2 : Nat) : Int), ((0 + i2 : Nat) : Int))] w w1 := k1
      have k2 : sx_Fr [(95, ((74 + i2 : Nat) : Int), ((74 + i2 : Nat) : Int))] w1 w2 := k2
      have v1 : sy_r w1 8 (0 + i2) = b.toInt := v1
      have v2 : sy_r w2 95 (74 + i2) = b.toInt := v2
      have a0 : sy_r w 8 i2 = sy_r w 95 (74 + i2) := hw.2.2.1.1 _ (nq_shm i2 l1)
      have a1 : sy_r w1 95 (74 + i2) = sy_r w 95 (74 + i2) := fr_no k1 ⟨Or.inl (by decide), trivial⟩
      rw [Nat.zero_add] at c4 v1
      have e12 : x1 = x2 := Int32.toInt_inj.mp (by rw [c4, m4, a1, a0])
      subst e12
      refine ⟨x1, w1, w2, g1, g2, h0, SH_mv (by decide +kernel) f2 (SH_mv (by decide +kernel) f1 hw.2.1), ⟨AN_mv (fun q => Nat.beq q.1 8) (by decide +kernel) (sx_Fr_app f1 f2) hw.2.2.1.1 (fun q hq hs => ?_), AK_mv (by decide +kernel) f2 (AK_mv (by decide +kernel) f1 hw.2.2.1.2)⟩, EZ_mv (by decide +kernel) f2 (EZ_mv (by decide +kernel) f1 hw.2.2.2.1), EK_mv (by decide +kernel) f2 (EK_mv (by decide +kernel) f1 hw.2.2.2.2)⟩
      obtain ⟨i, hi, rfl⟩ := nq_sh hq hs
      have b1 : sy_r w2 8 i = sy_r w1 8 i := fr_no k2 ⟨Or.inl (by decide), trivial⟩
      show sy_r w2 8 i = sy_r w2 95 (74 + i)
      by_cases e : i = i2
      · subst e
        rw [b1, v1, v2]
      · have b2 : sy_r w1 8 i = sy_r w 8 i := fr_no k1 ⟨Or.inr (by omega), trivial⟩
        have b3 : sy_r w2 95 (74 + i) = sy_r w1 95 (74 + i) := fr_no k2 ⟨Or.inr (by omega), trivial⟩
        have b4 : sy_r w1 95 (74 + i) = sy_r w 95 (74 + i) := fr_no k1 ⟨Or.inl (by decide), trivial⟩
        rw [b1, b2, b3, b4]
        exact hw.2.2.1.1 _ (nq_shm i hi)
theorem pe_land {n : Nat} {a b c : Int32} : pr_E n 23 166 [.int a, .int b, .int c] := fun w hw => by
  obtain ⟨x1, w1, x2, w2, g1, g2, h1, h0, f1, f2⟩ := p0_land (n := n) (a := a) (b := b) (c := c) w hw.1
  obtain ⟨rc, e1, p1⟩ := ld_gen (M := pm_23) (r0 := 5) ldc_1 ldc_2 rfl a b c hw.1.1
  have q1 := ru_det g1 (ru_of (k := 299) (M := pm_23) rfl (by rw [Bool.and_eq_true]; exact ⟨rfl, sq_rcv hw.1.1 rfl rfl rfl⟩) e1)
  subst q1
  obtain ⟨rm, e2, p2⟩ := ld_gen (M := pm_166) (r0 := 94) ldm_1 ldm_2 rfl a b c h1.1
  have q2 := ru_det g2 (ru_of (k := 299) (M := pm_166) rfl (by rw [Bool.and_eq_true]; exact ⟨rfl, sq_rcv h1.1 rfl rfl rfl⟩) e2)
  subst q2
  rcases p1 with ⟨n1, ⟨y1, c3, c4⟩, k1⟩ | ⟨i1, l1, z1, ⟨y1, c3, c4⟩, k1, v1⟩
  · rcases p2 with ⟨_, ⟨y2, m3, m4⟩, k2⟩ | ⟨i2, l2, z2, _⟩
    · have c3 : some (Value.int x1) = some (Value.int y1) := c3
      have m3 : some (Value.int x2) = some (Value.int y2) := m3
      cases c3
      cases m3
      have e12 : x1 = x2 := Int32.toInt_inj.mp (c4.trans m4.symm)
      subst e12
      have k1 : sx_Fr [(93, 0, 100000)] w w1 := k1
      have k2 : sx_Fr [(97, 0, 5)] w1 w2 := k2
      exact ⟨x1, w1, w2, g1, g2, h0, SH_mv (by decide +kernel) k2 (SH_mv (by decide +kernel) k1 hw.2.1), AA_mv (by decide +kernel) k2 (AA_mv (by decide +kernel) k1 hw.2.2)⟩
    · exact absurd (by omega) n1
  · rcases p2 with ⟨n2, _⟩ | ⟨i2, l2, z2, ⟨y2, m3, m4⟩, k2, v2⟩
    · exact absurd (by omega) n2
    · have ei : i2 = i1 := by omega
      subst ei
      have c3 : some (Value.int x1) = some (Value.int y1) := c3
      have m3 : some (Value.int x2) = some (Value.int y2) := m3
      cases c3
      cases m3
      have k1 : sx_Fr [(93, 0, 100000), (9, (i2 : Int), (i2 : Int)), (10, (i2 : Int), (i2 : Int))] w w1 := k1
      have k2 : sx_Fr [(97, 0, 5), (95, 138 + 6 * (i2 : Int), 139 + 6 * (i2 : Int))] w1 w2 := k2
      have v1 : sy_r w1 9 i2 = ld_Y b.toInt c.toInt (sy_r w 9 i2) := v1
      have v2 : sy_r w2 95 (138 + 6 * i2) = ld_Y b.toInt c.toInt (sy_r w1 95 (138 + 6 * i2)) := v2
      have a0 : sy_r w 9 i2 = sy_r w 95 (138 + 6 * i2) := hw.2.2.1.1 _ (nq_9m i2 l1)
      have a1 : sy_r w1 95 (138 + 6 * i2) = sy_r w 95 (138 + 6 * i2) := fr_no k1 ⟨Or.inl (by decide), Or.inl (by decide), Or.inl (by decide), trivial⟩
      have e12 : x1 = x2 := Int32.toInt_inj.mp (by rw [c4, m4, a1, a0])
      subst e12
      refine ⟨x1, w1, w2, g1, g2, h0, SH_mv (by decide +kernel) f2 (SH_mv (by decide +kernel) f1 hw.2.1), ⟨AN_mv (fun q => Nat.beq q.1 9) (by decide +kernel) (sx_Fr_app f1 f2) hw.2.2.1.1 (fun q hq hs => ?_), AK_mv (by decide +kernel) f2 (AK_mv (by decide +kernel) f1 hw.2.2.1.2)⟩, EZ_mv (by decide +kernel) f2 (EZ_mv (by decide +kernel) f1 hw.2.2.2.1), EK_mv (by decide +kernel) f2 (EK_mv (by decide +kernel) f1 hw.2.2.2.2)⟩
      obtain ⟨i, hi, rfl⟩ := nq_9 hq hs
      have b1 : sy_r w2 9 i = sy_r w1 9 i := fr_no k2 ⟨Or.inl (by decide), Or.inl (by decide), trivial⟩
      show sy_r w2 9 i = sy_r w2 95 (138 + 6 * i)
      by_cases e : i = i2
      · subst e
        rw [b1, v1, v2, a1, a0]
      · have b2 : sy_r w1 9 i = sy_r w 9 i := fr_no k1 ⟨Or.inl (by decide), Or.inr (by omega), Or.inl (by decide), trivial⟩
        have b3 : sy_r w2 95 (138 + 6 * i) = sy_r w1 95 (138 + 6 * i) := fr_no k2 ⟨Or.inl (by decide), Or.inr (by omega), trivial⟩
        have b4 : sy_r w1 95 (138 + 6 * i) = sy_r w 95 (138 + 6 * i) := fr_no k1 ⟨Or.inl (by decide), Or.inl (by decide), Or.inl (by decide), trivial⟩
        rw [b1, b2, b3, b4]
        exact hw.2.2.1.1 _ (nq_9m i hi)
theorem pe_as {n : Nat} {a b : Int32} : pr_E n 35 176 [.int a, .int b] := fun w hw => by
  obtain ⟨x1, w1, x2, w2, g1, g2, h1, h0, f1, f2⟩ := p0_as (n := n) (a := a) (b := b) w hw.1
  have pn : sy_r w 15 4 = sy_r w 95 3 := hw.2.2.1.1 (15, 4, 3) (nq_in2 List.mem_cons_self)
  have hy := (mo_yT hw.1.1 (Or.inl rfl)).2.1
  have hy1 := (mo_yT h1.1 (Or.inl rfl)).2.1
  have ak : ∀ p, p < 12 → sy_r w 19 p = sy_r w 95 (266 + 3 * p) := fun p hp => hw.2.2.1.1 _ (nq_19m p hp)
  have aw : ∀ p, p < 12 → sy_r w 21 p = sy_r w 95 (268 + 3 * p) := fun p hp => hw.2.2.1.1 _ (nq_21m p hp)
  obtain ⟨rc, e1, _, y1, c3, c4⟩ := as_gen (M := pm_35) (r0 := 5) asc_f asc_k rfl (fun p => p) (fun p => p) (fun v p h => by show 0 + (1 * v 0 + 0) = _; omega) (fun v p h => by show 0 + (1 * v 0 + 0) = _; omega) a b hw.1.1 (by show 0 ≤ sy_r w 15 4 ∧ sy_r w 15 4 ≤ 12; rw [pn]; exact hy) (fun p hp => by show 0 ≤ sy_r w 19 p ∧ sy_r w 19 p ≤ 5; rw [ak p hp]; exact (nq_pm hw.1.1 hp).1) (fun p hp => by show 0 ≤ sy_r w 21 p ∧ sy_r w 21 p ≤ 600; rw [aw p hp]; exact (nq_pm hw.1.1 hp).2)
  have q1 := ru_det g1 (ru_of (k := 299) (M := pm_35) rfl (by rw [Bool.and_eq_true]; exact ⟨rfl, sq_rcv hw.1.1 rfl rfl rfl⟩) e1)
  subst q1
  obtain ⟨rm, e2, _, y2, m3, m4⟩ := as_gen (M := pm_176) (r0 := 94) asm_f asm_k rfl (fun p => 266 + 3 * p) (fun p => 268 + 3 * p) (fun v p h => by show 266 + (3 * v 0 + 0) = _; omega) (fun v p h => by show 268 + (3 * v 0 + 0) = _; omega) a b h1.1 hy1 (fun p hp => (nq_pm h1.1 hp).1) (fun p hp => (nq_pm h1.1 hp).2)
  have q2 := ru_det g2 (ru_of (k := 299) (M := pm_176) rfl (by rw [Bool.and_eq_true]; exact ⟨rfl, sq_rcv h1.1 rfl rfl rfl⟩) e2)
  subst q2
  have c3 : some (Value.int x1) = some (Value.int y1) := c3
  have m3 : some (Value.int x2) = some (Value.int y2) := m3
  cases c3
  cases m3
  have e95 := nb_c_ok (r := 95) (A := kk_c_as.md) (by decide +kernel) f1
  have c4 : x1.toInt = as_X a.toInt b.toInt (sy_r w 15 4) (sy_r w 19 a.toInt.toNat) (sy_r w 21 a.toInt.toNat) := c4
  have m4 : x2.toInt = as_X a.toInt b.toInt (sy_r w1 95 3) (sy_r w1 95 (266 + 3 * a.toInt.toNat)) (sy_r w1 95 (268 + 3 * a.toInt.toNat)) := m4
  have e12 : x1 = x2 := Int32.toInt_inj.mp (by
    rw [c4, m4, e95, pn]
    by_cases hA : a.toInt < 0 ∨ sy_r w 95 3 ≤ a.toInt ∨ b.toInt < 0 ∨ 5 < b.toInt
    · unfold as_X
      rw [if_pos hA, if_pos hA]
    · rw [ak _ (by omega), aw _ (by omega)])
  subst e12
  exact ⟨x1, w1, w2, g1, g2, h0, SH_mv (by decide +kernel) f2 (SH_mv (by decide +kernel) f1 hw.2.1), AA_mv (by decide +kernel) f2 (AA_mv (by decide +kernel) f1 hw.2.2)⟩
theorem pe_plane {n : Nat} {a b c : Int32} : pr_E n 31 174 [.int a, .int b, .int c] := fun w hw => by
  obtain ⟨x1, w1, x2, w2, g1, g2, h1, h0, f1, f2⟩ := p0_plane (n := n) (a := a) (b := b) (c := c) w hw.1
  have an : sy_r w 15 0 = sy_r w 95 2 := hw.2.2.1.1 (15, 0, 2) (nq_in1 (List.mem_cons_of_mem _ List.mem_cons_self))
  have pn : sy_r w 15 4 = sy_r w 95 3 := hw.2.2.1.1 (15, 4, 3) (nq_in2 List.mem_cons_self)
  have ae : ∀ i, i < 8 → sy_r w 17 i = sy_r w 95 (187 + 10 * i) := fun i hi => hw.2.2.1.1 _ (nq_17m i hi)
  have hy := mo_yT hw.1.1 (Or.inl rfl)
  have hy1 := mo_yT h1.1 (Or.inl rfl)
  have e95 := nb_c_ok (r := 95) (A := kk_c_plane.md) (by decide +kernel) f1
  obtain ⟨rc, e1, ⟨y1, c3, c4⟩, p1⟩ := tp_gen (P := tp_c) (M := pm_31) (r0 := 5) tpc_f1 tpc_f2 tpc_f3 tpc_f4 tpc_k rfl (fun i => i) (fun v i h => by show 0 + (1 * v 1 + 0) = _; omega) a b c hw.1.1 (by show 0 ≤ sy_r w 15 0 ∧ sy_r w 15 0 ≤ 8; rw [an]; exact hy.1) (by show 0 ≤ sy_r w 15 4 ∧ sy_r w 15 4 ≤ 12; rw [pn]; exact hy.2.1) (fun i hi => nq_em hw.1.1 hi)
  have q1 := ru_det g1 (ru_of (k := 299) (M := pm_31) rfl (by rw [Bool.and_eq_true]; exact ⟨rfl, sq_rcv hw.1.1 rfl rfl rfl⟩) e1)
  subst q1
  obtain ⟨rm, e2, ⟨y2, m3, m4⟩, p2⟩ := tp_gen (P := tp_m) (M := pm_174) (r0 := 94) tpm_f1 tpm_f2 tpm_f3 tpm_f4 tpm_k rfl (fun i => 187 + 10 * i) (fun v i h => by show 187 + (10 * v 1 + 0) = _; omega) a b c h1.1 hy1.1 hy1.2.1 (fun i hi => nq_em2 h1.1 hi)
  have q2 := ru_det g2 (ru_of (k := 299) (M := pm_174) rfl (by rw [Bool.and_eq_true]; exact ⟨rfl, sq_rcv h1.1 rfl rfl rfl⟩) e2)
  subst q2
  have c3 : some (Value.int x1) = some (Value.int y1) := c3
  have m3 : some (Value.int x2) = some (Value.int y2) := m3
  cases c3
  cases m3
  have c4 : x1.toInt = tp_X a.toInt b.toInt c.toInt (sy_r w 15 0) (sy_r w 17 b.toInt.toNat) (sy_r w 15 4) := c4
  have m4 : x2.toInt = tp_X a.toInt b.toInt c.toInt (sy_r w1 95 2) (sy_r w1 95 (187 + 10 * b.toInt.toNat)) (sy_r w1 95 3) := m4
  have e12 : x1 = x2 := Int32.toInt_inj.mp (by
    rw [c4, m4, e95, an, pn]
    by_cases hA : a.toInt < 0 ∨ 5 < a.toInt ∨ b.toInt < 0 ∨ sy_r w 95 2 ≤ b.toInt ∨ c.toInt < 1 ∨ 600 < c.toInt
    · unfold tp_X
      rw [if_pos hA, if_pos hA]
    · rw [ae _ (by have := hy.1; omega)])
  subst e12
  refine ⟨x1, w1, w2, g1, g2, h0, SH_mv (by decide +kernel) f2 (SH_mv (by decide +kernel) f1 hw.2.1), ?_⟩
  have okk : tp_ok a.toInt b.toInt c.toInt (sy_r w 15 0) (sy_r w 17 b.toInt.toNat) (sy_r w 15 4) ↔ tp_ok a.toInt b.toInt c.toInt (sy_r w1 95 2) (sy_r w1 95 (187 + 10 * b.toInt.toNat)) (sy_r w1 95 3) := by
    rw [e95, an, pn]
    by_cases hb : b.toInt.toNat < 8
    · rw [ae _ hb]
    · have := hy.1
      exact ⟨fun h => absurd h.2.1.2 (by omega), fun h => absurd h.2.1.2 (by omega)⟩
  rcases p1 with ⟨n1, k1⟩ | ⟨p, hp, ep, k1, u1, u2, u3, u4, ok1⟩
  · rcases p2 with ⟨_, k2⟩ | ⟨q, _, _, _, _, _, _, _, ok2⟩
    · have k1 : sx_Fr [(93, 0, 100000)] w w1 := k1
      have k2 : sx_Fr [(97, 0, 5)] w1 w2 := k2
      exact AA_mv (by decide +kernel) k2 (AA_mv (by decide +kernel) k1 hw.2.2)
    · exact absurd (okk.mpr ok2) n1
  · rcases p2 with ⟨n2, _⟩ | ⟨q, hq, eq, k2, v1, v2, v3, v4, ok2⟩
    · exact absurd (okk.mp ok1) n2
    · have eq : sy_r w1 95 3 = (q : Int) := eq
      have ep : sy_r w 15 4 = (p : Int) := ep
      have epq : q = p := by
        rw [e95] at eq
        rw [pn] at ep
        omega
      subst epq
      have k1 : sx_Fr [(15, 4, 4), (19, (q : Int), (q : Int)), (20, (q : Int), (q : Int)), (21, (q : Int), (q : Int))] w w1 := k1
      have k2 : sx_Fr [(95, 3, 3), (95, 266 + 3 * (q : Int), 268 + 3 * (q : Int))] w1 w2 := k2
      have u1 : sy_r w1 15 4 = (q : Int) + 1 := u1
      have u2 : sy_r w1 19 q = a.toInt := u2
      have u3 : sy_r w1 20 q = b.toInt := u3
      have u4 : sy_r w1 21 q = c.toInt := u4
      have v1 : sy_r w2 95 3 = (q : Int) + 1 := v1
      have v2 : sy_r w2 95 (266 + 3 * q) = a.toInt := v2
      have v3 : sy_r w2 95 (267 + 3 * q) = b.toInt := v3
      have v4 : sy_r w2 95 (268 + 3 * q) = c.toInt := v4
      have w2c : ∀ r i, r ≠ 95 → sy_r w2 r i = sy_r w1 r i := fun r i hr => fr_no k2 ⟨Or.inl (fun h => hr h.symm), Or.inl (fun h => hr h.symm), trivial⟩
      refine ⟨⟨AN_mv (fun q => Nat.beq q.2.2 3 || Nat.beq q.1 19 || Nat.beq q.1 20 || Nat.beq q.1 21) (by decide +kernel) (sx_Fr_app f1 f2) hw.2.2.1.1 (fun z hz hs => ?_), AK_mv (by decide +kernel) f2 (AK_mv (by decide +kernel) f1 hw.2.2.1.2)⟩, EZ_mv (by decide +kernel) f2 (EZ_mv (by decide +kernel) f1 hw.2.2.2.1), EK_mv (by decide +kernel) f2 (EK_mv (by decide +kernel) f1 hw.2.2.2.2)⟩
      rw [Bool.or_eq_true, Bool.or_eq_true, Bool.or_eq_true] at hs
      rcases hs with ((hs | hs) | hs) | hs
      · rw [nq_one (r := 15) (i := 4) (j := 3) (by decide +kernel) hz hs]
        show sy_r w2 15 4 = sy_r w2 95 3
        rw [w2c 15 4 (by decide), u1, v1]
      · obtain ⟨i, hi, rfl⟩ := nq_19 hz hs
        show sy_r w2 19 i = sy_r w2 95 (266 + 3 * i)
        rw [w2c 19 i (by decide)]
        by_cases e : i = q
        · subst e
          rw [u2, v2]
        · have b2 : sy_r w1 19 i = sy_r w 19 i := fr_no k1 ⟨Or.inl (by decide), Or.inr (by omega), Or.inl (by decide), Or.inl (by decide), trivial⟩
          have b3 : sy_r w2 95 (266 + 3 * i) = sy_r w1 95 (266 + 3 * i) := fr_no k2 ⟨Or.inr (by omega), Or.inr (by omega), trivial⟩
          rw [b2, b3, e95]
          exact hw.2.2.1.1 _ (nq_19m i hi)
      · obtain ⟨i, hi, rfl⟩ := nq_20 hz hs
        show sy_r w2 20 i = sy_r w2 95 (267 + 3 * i)
        rw [w2c 20 i (by decide)]
        by_cases e : i = q
        · subst e
          rw [u3, v3]
        · have b2 : sy_r w1 20 i = sy_r w 20 i := fr_no k1 ⟨Or.inl (by decide), Or.inl (by decide), Or.inr (by omega), Or.inl (by decide), trivial⟩
          have b3 : sy_r w2 95 (267 + 3 * i) = sy_r w1 95 (267 + 3 * i) := fr_no k2 ⟨Or.inr (by omega), Or.inr (by omega), trivial⟩
          rw [b2, b3, e95]
          exact hw.2.2.1.1 _ (nq_20m i hi)
      · obtain ⟨i, hi, rfl⟩ := nq_21 hz hs
        show sy_r w2 21 i = sy_r w2 95 (268 + 3 * i)
        rw [w2c 21 i (by decide)]
        by_cases e : i = q
        · subst e
          rw [u4, v4]
        · have b2 : sy_r w1 21 i = sy_r w 21 i := fr_no k1 ⟨Or.inl (by decide), Or.inl (by decide), Or.inl (by decide), Or.inr (by omega), trivial⟩
          have b3 : sy_r w2 95 (268 + 3 * i) = sy_r w1 95 (268 + 3 * i) := fr_no k2 ⟨Or.inr (by omega), Or.inr (by omega), trivial⟩
          rw [b2, b3, e95]
          exact hw.2.2.1.1 _ (nq_21m i hi)
theorem pr_endx {n : Nat} {a : Int32} : pr_P n 56 194 [.int a] := fun w hw => by
  obtain ⟨x1, w1, x2, w2, g1, g2, h1, h0, f1, f2⟩ := p0_end (n := n) (a := a) w hw.1
  have an : sy_r w 15 0 = sy_r w 95 2 := hw.2.2.1.1 (15, 0, 2) (nq_in1 (List.mem_cons_of_mem _ List.mem_cons_self))
  have ae : ∀ i, i < 8 → sy_r w 17 i = sy_r w 95 (187 + 10 * i) := fun i hi => hw.2.2.1.1 _ (nq_17m i hi)
  have hy := mo_yT hw.1.1 (Or.inl rfl)
  have e95 := nb_c_ok (r := 95) (A := kk_c_end.md) (by decide +kernel) f1
  obtain ⟨rc, e1, z1⟩ := ec_gen a hw.1.1 (by rw [an]; exact hy.1) (fun i hi => nq_em hw.1.1 hi)
  have q1 := ru_det g1 (ru_of (k := 299) (M := pm_56) rfl (by rw [Bool.and_eq_true]; exact ⟨rfl, sq_rcv hw.1.1 rfl rfl rfl⟩) e1)
  subst q1
  obtain ⟨rm, e2, _, z2⟩ := kz_end (xa := a) h1.1 h1.2.1
  have q2 := ru_det g2 e2
  subst q2
  have z1 : ec_Z a.toInt w w1 := z1
  have z2 : en_Z a.toInt w1 w2 := z2
  have n2 : sy_r w2 95 2 = sy_r w1 95 2 := nb_1 (A := sx_MGe) (i := 2) (by decide +kernel) f2
  refine ⟨x1, w1, x2, w2, g1, g2, h0, SH_mv (by decide +kernel) f2 (SH_mv (by decide +kernel) f1 hw.2.1), ⟨AN_mv (fun q => Nat.beq q.1 17) (by decide +kernel) (sx_Fr_app f1 f2) hw.2.2.1.1 (fun q hq hs => ?_), AK_mv (by decide +kernel) f2 (AK_mv (by decide +kernel) f1 hw.2.2.1.2)⟩, fun b hb hn => ?_, EK_mv (by decide +kernel) f2 (EK_mv (by decide +kernel) f1 hw.2.2.2.2)⟩
  · obtain ⟨i, hi, rfl⟩ := nq_17 hq hs
    show sy_r w2 17 i = sy_r w2 95 (187 + 10 * i)
    have b1 : sy_r w2 17 i = sy_r w1 17 i := congrFun (nb_c_ok (r := 17) (A := sx_MGe) (by decide +kernel) f2) i
    rw [b1, z1 i hi, z2 i hi, e95, an, ae i hi]
  · rw [z2 b hb, e95]
    rw [n2, e95] at hn
    rw [if_neg (by omega)]
    exact hw.2.2.2.1 b hb hn
theorem pe_sheet {n : Nat} {a b c : Int32} : pr_E n 139 241 [.int a, .int b, .int c] := by
  intro w hw
  obtain ⟨⟨r1, w1⟩, g1, t1, ⟨x1, e1, v1⟩, q1⟩ := sh_gen shc_1 shc_2 shc_3 shc_4 shc_5 shc_6 (M := pm_139) rfl a b c hw.1.1
  have t1 : sx_Ty sx_T0 w1 := t1
  have e1 : r1 = some (.int x1) := e1
  subst e1
  obtain ⟨⟨r2, w2⟩, g2, t2, ⟨x2, e2, v2⟩, q2⟩ := sh_gen shm_1 shm_2 shm_3 shm_4 shm_5 shm_6 (M := pm_241) rfl a b c t1
  have t2 : sx_Ty sx_T0 w2 := t2
  have e2 : r2 = some (.int x2) := e2
  subst e2
  have e12 : x1 = x2 := Int32.toInt_inj.mp (by rw [v1, v2])
  subst e12
  refine ⟨x1, w1, w2, ru_of (k := 299) (M := pm_139) rfl (by rw [Bool.and_eq_true]; exact ⟨rfl, sq_rcv hw.1.1 rfl rfl rfl⟩) g1, ru_of (k := 299) (M := pm_241) rfl (by rw [Bool.and_eq_true]; exact ⟨rfl, sq_rcv t1 rfl rfl rfl⟩) g2, ?_⟩
  rcases q1 with ⟨n1, f1⟩ | ⟨y1, k, hk, ek, f1, a1, a2, a3⟩
  · rcases q2 with ⟨_, f2⟩ | ⟨y2, _⟩
    · have f1 : sx_Fr [(93, 0, 100000)] w w1 := f1
      have f2 : sx_Fr [(97, 0, 100000)] w1 w2 := f2
      exact WI_up ⟨W0_c (by decide +kernel) (W0_c (by decide +kernel) hw.1 t1 f1) t2 f2, SH_mv (by decide +kernel) f2 (SH_mv (by decide +kernel) f1 hw.2.1), AA_mv (by decide +kernel) f2 (AA_mv (by decide +kernel) f1 hw.2.2)⟩
    · exact absurd y2 n1
  · rcases q2 with ⟨n2, _⟩ | ⟨y2, k2, hk2, ek2, f2, b1, b2, b3⟩
    · exact absurd y1 n2
    · have ekk : k2 = k := by omega
      subst ekk
      have f1 : sx_Fr (sh_A2 90 92 91 k2) w w1 := f1
      have f2 : sx_Fr (sh_A2 98 99 100 k2) w1 w2 := f2
      have a1 : sy_r w1 90 k2 = b.toInt := a1
      have a3 : sy_r w1 92 k2 = if b.toInt = 0 then 0 else c.toInt := a3
      have b1 : sy_r w2 98 k2 = b.toInt := b1
      have b3 : sy_r w2 99 k2 = if b.toInt = 0 then 0 else c.toInt := b3
      have F1 : sx_Fr [(90, 0, 100000), (92, 0, 100000), (91, 0, 100000)] w w1 := fr_wk (A := sh_A2 90 92 91 k2) ⟨⟨0, 100000, by decide, by omega, by omega⟩, ⟨0, 100000, by decide, by omega, by omega⟩, ⟨0, 100000, by decide, by omega, by omega⟩, trivial⟩ f1
      have F2 : sx_Fr [(98, 0, 100000), (99, 0, 100000), (100, 0, 100000)] w1 w2 := fr_wk (A := sh_A2 98 99 100 k2) ⟨⟨0, 100000, by decide, by omega, by omega⟩, ⟨0, 100000, by decide, by omega, by omega⟩, ⟨0, 100000, by decide, by omega, by omega⟩, trivial⟩ f2
      refine WI_up ⟨W0_c (by decide +kernel) (W0_c (by decide +kernel) hw.1 t1 F1) t2 F2, fun s hs => ?_, AA_mv (by decide +kernel) F2 (AA_mv (by decide +kernel) F1 hw.2.2)⟩
      have u1 : sy_r w2 90 s = sy_r w1 90 s := fr_no F2 ⟨Or.inl (by decide), Or.inl (by decide), Or.inl (by decide), trivial⟩
      have u2 : sy_r w2 92 s = sy_r w1 92 s := fr_no F2 ⟨Or.inl (by decide), Or.inl (by decide), Or.inl (by decide), trivial⟩
      rw [u1, u2]
      by_cases e : s = k2
      · subst e
        rw [a1, a3, b1, b3]
        exact ⟨rfl, rfl, a2⟩
      · have z1 : sy_r w1 90 s = sy_r w 90 s := fr_no f1 ⟨Or.inr (by omega), Or.inl (by decide), Or.inl (by decide), trivial⟩
        have z2 : sy_r w1 92 s = sy_r w 92 s := fr_no f1 ⟨Or.inl (by decide), Or.inr (by omega), Or.inl (by decide), trivial⟩
        have z3 : sy_r w2 98 s = sy_r w1 98 s := fr_no f2 ⟨Or.inr (by omega), Or.inl (by decide), Or.inl (by decide), trivial⟩
        have z4 : sy_r w2 99 s = sy_r w1 99 s := fr_no f2 ⟨Or.inl (by decide), Or.inr (by omega), Or.inl (by decide), trivial⟩
        have z5 : sy_r w1 98 s = sy_r w 98 s := fr_no F1 ⟨Or.inl (by decide), Or.inl (by decide), Or.inl (by decide), trivial⟩
        have z6 : sy_r w1 99 s = sy_r w 99 s := fr_no F1 ⟨Or.inl (by decide), Or.inl (by decide), Or.inl (by decide), trivial⟩
        rw [z1, z2, z3, z4, z5, z6]
        exact hw.2.1 s hs
theorem pe_put {n : Nat} {a b c : Int32} : pr_E n 142 243 [.int a, .int b, .int c] := by
  intro w hw
  obtain ⟨⟨r1, w1⟩, g1, t1, ⟨x1, e1, v1⟩, f1⟩ := pu_gen puc_1 puc_2 puc_3 (M := pm_142) rfl (Or.inl rfl) a b c hw.1.1 (fun s hs => by rw [(hw.2.1 s hs).1]; exact (hw.2.1 s hs).2.2)
  have t1 : sx_Ty sx_T0 w1 := t1
  have e1 : r1 = some (.int x1) := e1
  subst e1
  have f1 : sx_Fr [(93, 0, 100000), (91, 0, 100000)] w w1 := f1
  have h1 : WI n w1 := ⟨W0_c (by decide +kernel) hw.1 t1 f1, SH_mv (by decide +kernel) f1 hw.2.1, AA_mv (by decide +kernel) f1 hw.2.2⟩
  obtain ⟨⟨r2, w2⟩, g2, t2, ⟨x2, e2, v2⟩, f2⟩ := pu_gen pum_1 pum_2 pum_3 (M := pm_243) rfl (Or.inr rfl) a b c t1 (fun s hs => (h1.2.1 s hs).2.2)
  have t2 : sx_Ty sx_T0 w2 := t2
  have e2 : r2 = some (.int x2) := e2
  subst e2
  have f2 : sx_Fr [(97, 0, 100000), (100, 0, 100000)] w1 w2 := f2
  have c90 : ∀ i, sy_r w1 90 i = sy_r w 90 i := fun i => fr_no f1 ⟨Or.inl (by decide), Or.inl (by decide), trivial⟩
  have c92 : ∀ i, sy_r w1 92 i = sy_r w 92 i := fun i => fr_no f1 ⟨Or.inl (by decide), Or.inl (by decide), trivial⟩
  have e12 : x1 = x2 := Int32.toInt_inj.mp (by
    rw [v1, v2]
    by_cases hA : a.toInt < 0 ∨ 3 < a.toInt
    · unfold pu_X
      rw [if_pos hA, if_pos hA]
    · have hk : a.toInt.toNat < 4 := by omega
      rw [← c90, ← c92, (h1.2.1 _ hk).1, (h1.2.1 _ hk).2.1])
  subst e12
  exact ⟨x1, w1, w2, ru_of (k := 299) (M := pm_142) rfl (by rw [Bool.and_eq_true]; exact ⟨rfl, sq_rcv hw.1.1 rfl rfl rfl⟩) g1, ru_of (k := 299) (M := pm_243) rfl (by rw [Bool.and_eq_true]; exact ⟨rfl, sq_rcv t1 rfl rfl rfl⟩) g2, WI_up ⟨W0_c (by decide +kernel) h1.1 t2 f2, SH_mv (by decide +kernel) f2 h1.2.1, AA_mv (by decide +kernel) f2 h1.2.2⟩⟩
theorem pe_move {n : Nat} {a b c d e : Int32} : pr_E n 145 244 [.int a, .int b, .int c, .int d, .int e] := by
  intro w hw
  obtain ⟨⟨r1, w1⟩, g1, t1, ⟨x1, e1, v1⟩, f1⟩ := mv_gen mvc_1 mvc_2 mvc_3 mvc_4 mvc_5 mvc_6 mvc_7 (M := pm_145) rfl (Or.inl rfl) a b c d e hw.1.1 (fun s hs => by rw [(hw.2.1 s hs).1]; exact (hw.2.1 s hs).2.2)
  have t1 : sx_Ty sx_T0 w1 := t1
  have e1 : r1 = some (.int x1) := e1
  subst e1
  have f1 : sx_Fr [(93, 0, 100000), (91, 0, 100000), (93, 0, 100000)] w w1 := f1
  have h1 : WI n w1 := ⟨W0_c (by decide +kernel) hw.1 t1 f1, SH_mv (by decide +kernel) f1 hw.2.1, AA_mv (by decide +kernel) f1 hw.2.2⟩
  obtain ⟨⟨r2, w2⟩, g2, t2, ⟨x2, e2, v2⟩, f2⟩ := mv_gen mvm_1 mvm_2 mvm_3 mvm_4 mvm_5 mvm_6 mvm_7 (M := pm_244) rfl (Or.inr rfl) a b c d e t1 (fun s hs => (h1.2.1 s hs).2.2)
  have t2 : sx_Ty sx_T0 w2 := t2
  have e2 : r2 = some (.int x2) := e2
  subst e2
  have f2 : sx_Fr [(97, 0, 100000), (100, 0, 100000), (113, 0, 100000)] w1 w2 := f2
  have c90 : ∀ i, sy_r w1 90 i = sy_r w 90 i := fun i => fr_no f1 ⟨Or.inl (by decide), Or.inl (by decide), Or.inl (by decide), trivial⟩
  have c92 : ∀ i, sy_r w1 92 i = sy_r w 92 i := fun i => fr_no f1 ⟨Or.inl (by decide), Or.inl (by decide), Or.inl (by decide), trivial⟩
  have e12 : x1 = x2 := Int32.toInt_inj.mp (by
    rw [v1, v2]
    by_cases hA : (a.toInt < 0 ∨ 3 < a.toInt) ∨ (c.toInt < 0 ∨ 3 < c.toInt)
    · unfold mv_X
      rw [if_pos hA, if_pos hA]
    · have hk : a.toInt.toNat < 4 := by omega
      have hk2 : c.toInt.toNat < 4 := by omega
      rw [← c90 a.toInt.toNat, ← c92 a.toInt.toNat, ← c90 c.toInt.toNat, ← c92 c.toInt.toNat, (h1.2.1 _ hk).1, (h1.2.1 _ hk).2.1, (h1.2.1 _ hk2).1, (h1.2.1 _ hk2).2.1])
  subst e12
  exact ⟨x1, w1, w2, ru_of (k := 299) (M := pm_145) rfl (by rw [Bool.and_eq_true]; exact ⟨rfl, sq_rcv hw.1.1 rfl rfl rfl⟩) g1, ru_of (k := 299) (M := pm_244) rfl (by rw [Bool.and_eq_true]; exact ⟨rfl, sq_rcv t1 rfl rfl rfl⟩) g2, WI_up ⟨W0_c (by decide +kernel) h1.1 t2 f2, SH_mv (by decide +kernel) f2 h1.2.1, AA_mv (by decide +kernel) f2 h1.2.2⟩⟩
theorem pr_cell {n : Nat} {a b : Int32} : pr_P n 12 159 [.int a, .int b] := pr_up (p0_cell) (by decide +kernel) (by decide +kernel)
theorem pr_block {n : Nat} {a b : Int32} : pr_P n 17 163 [.int a, .int b] := pr_up (p0_block) (by decide +kernel) (by decide +kernel)
theorem pr_shut {n : Nat} {a b : Int32} (hb : b = 0 ∨ b = 1) : pr_P n 22 165 [.int a, .int b] := pr_eP (pe_shut hb)
theorem pr_land {n : Nat} {a b c : Int32} : pr_P n 23 166 [.int a, .int b, .int c] := pr_eP pe_land
theorem pr_landIs {n : Nat} {a b : Int32} : pr_P n 25 169 [.int a, .int b] := pr_up (p0_landIs) (by decide +kernel) (by decide +kernel)
theorem pr_rate {n : Nat} {a b : Int32} : pr_P n 28 172 [.int a, .int b] := pr_up (p0_rate) (by decide +kernel) (by decide +kernel)
theorem pr_airline {n : Nat} {a : Int32} : pr_P n 29 173 [.int a] := pr_eP (pe_airline)
theorem pr_plane {n : Nat} {a b c : Int32} : pr_P n 31 174 [.int a, .int b, .int c] := pr_eP pe_plane
theorem pr_as {n : Nat} {a b : Int32} : pr_P n 35 176 [.int a, .int b] := pr_eP pe_as
theorem pr_planeIs {n : Nat} {a b : Int32} : pr_P n 38 179 [.int a, .int b] := pr_up (p0_planeIs) (by decide +kernel) (by decide +kernel)
theorem pr_earn {n : Nat} {a b : Int32} : pr_P n 51 189 [.int a, .int b] := pr_up (p0_earn) (by decide +kernel) (by decide +kernel)
theorem pr_coin {n : Nat} {a : Int32} : pr_P n 52 190 [.int a] := pr_up (p0_coin) (by decide +kernel) (by decide +kernel)
theorem pr_owes {n : Nat} {a b : Int32} : pr_P n 53 191 [.int a, .int b] := pr_up (p0_owes) (by decide +kernel) (by decide +kernel)
theorem pr_pay {n : Nat} {a b c : Int32} : pr_P n 55 193 [.int a, .int b, .int c] := pr_up (p0_pay) (by decide +kernel) (by decide +kernel)
theorem pr_end {n : Nat} {a : Int32} : pr_P n 56 194 [.int a] := pr_endx
theorem pr_feed {n : Nat} {b : Int32} {a : Int64} : pr_P n 63 195 [.long a, .int b] := pr_up (p0_feed) (by decide +kernel) (by decide +kernel)
theorem pr_law {n : Nat} {a b : Int32} : pr_P n 65 196 [.int a, .int b] := pr_up (p0_law) (by decide +kernel) (by decide +kernel)
theorem pr_force {n : Nat} {a b : Int32} : pr_P n 80 206 [.int a, .int b] := pr_up (p0_force) (by decide +kernel) (by decide +kernel)
theorem pr_says {n : Nat} {a b c d : Int32} : pr_P n 81 207 [.int a, .int b, .int c, .int d] := pr_up (p0_says) (by decide +kernel) (by decide +kernel)
theorem pr_file {n : Nat} {a b : Int32} : pr_P n 82 208 [.int a, .int b] := pr_up (p0_file) (by decide +kernel) (by decide +kernel)
theorem pr_fly {n : Nat} {a b : Int32} : pr_P n 89 212 [.int a, .int b] := pr_up (p0_fly) (by decide +kernel) (by decide +kernel)
theorem pr_flightIs {n : Nat} {a b : Int32} : pr_P n 92 213 [.int a, .int b] := pr_up (p0_flightIs) (by decide +kernel) (by decide +kernel)
theorem pr_row {n : Nat} {a b c : Int32} : pr_P n 94 216 [.int a, .int b, .int c] := pr_up (p0_row) (by decide +kernel) (by decide +kernel)
theorem pr_miles {n : Nat} {a b c d : Int32} : pr_P n 96 219 [.int a, .int b, .int c, .int d] := pr_up (p0_miles) (by decide +kernel) (by decide +kernel)
theorem pr_bill {n : Nat} {a : Int32} : pr_P n 101 221 [.int a] := pr_up (p0_bill) (by decide +kernel) (by decide +kernel)
theorem pr_right {n : Nat} {a : Int32} : pr_P n 113 225 [.int a] := pr_up (p0_right) (by decide +kernel) (by decide +kernel)
theorem pr_fee {n : Nat} {a b : Int32} : pr_P n 114 226 [.int a, .int b] := pr_up (p0_fee) (by decide +kernel) (by decide +kernel)
theorem pr_beside {n : Nat} {a b : Int32} (hb : b = 0 ∨ b = 1) : pr_P n 115 227 [.int a, .int b] := pr_up (p0_beside hb) (by decide +kernel) (by decide +kernel)
theorem pr_go {n : Nat} {a : Int32} : pr_P n 117 228 [.int a] := pr_eP (pe_go)
theorem pr_cheapest {n : Nat} {a b c d : Int32} : pr_P n 122 231 [.int a, .int b, .int c, .int d] := pr_up (p0_cheapest) (by decide +kernel) (by decide +kernel)
theorem pr_gain {n : Nat} {a b c d : Int32} : pr_P n 131 233 [.int a, .int b, .int c, .int d] := pr_up (p0_gain) (by decide +kernel) (by decide +kernel)
theorem pr_voice {n : Nat} {a b c : Int32} : pr_P n 133 234 [.int a, .int b, .int c] := pr_up (p0_voice) (by decide +kernel) (by decide +kernel)
theorem pr_trace {n : Nat} {a : Int32} : pr_P n 138 240 [.int a] := pr_up (p0_trace) (by decide +kernel) (by decide +kernel)
theorem pr_put {n : Nat} {a b c : Int32} : pr_P n 142 243 [.int a, .int b, .int c] := pr_eP (pe_put)
theorem pr_move {n : Nat} {a b c d e : Int32} : pr_P n 145 244 [.int a, .int b, .int c, .int d, .int e] := pr_eP (pe_move)
theorem pr_told {n : Nat} {a : Int32} : pr_P n 153 247 [.int a] := pr_up (p0_told) (by decide +kernel) (by decide +kernel)
theorem pr_found {n : Nat} {a : Int32} : pr_P n 157 248 [.int a] := pr_up (p0_found) (by decide +kernel) (by decide +kernel)
theorem pr_sheet {n : Nat} {a b c : Int32} : pr_P n 139 241 [.int a, .int b, .int c] := pr_eP (pe_sheet)
theorem pr_fuel {n : Nat} {a : Int32} : pr_P n 121 230 [.int a] := pr_eP (pe_fuel)
theorem pr_image {n : Nat} (hn : n ≤ 90000) : pr_P n 147 245 [] := pr_eP (pe_image hn)
theorem pr_restore {n : Nat} (hn : n ≤ 90000) : pr_P n 152 246 [] := pr_eP (pe_restore hn)
