/-! sheets and places of both sides are alike; calls of both sides, one after the other, told for the law -/
noncomputable def SH (w : pq_W) : Prop := ∀ s, s < 4 → sy_r w 90 s = sy_r w 98 s ∧ sy_r w 92 s = sy_r w 99 s ∧ sh_wd (sy_r w 98 s)
noncomputable def sh_ok (A : sx_A) : Bool := sy_ninb A 90 0 3 && sy_ninb A 92 0 3 && sy_ninb A 98 0 3 && sy_ninb A 99 0 3
theorem SH_mv {A : sx_A} {w w1 : pq_W} (hA : sh_ok A = true) (f : sx_Fr A w w1) (h : SH w) : SH w1 := by
  unfold sh_ok at hA
  simp only [Bool.and_eq_true] at hA
  obtain ⟨⟨⟨b1, b2⟩, b3⟩, b4⟩ := hA
  intro s hs
  rw [sy_r_fr f (sy_nin b1 (by omega) (by omega)), sy_r_fr f (sy_nin b2 (by omega) (by omega)), sy_r_fr f (sy_nin b3 (by omega) (by omega)), sy_r_fr f (sy_nin b4 (by omega) (by omega))]
  exact h s hs
noncomputable def nq_a (w : pq_W) (q : Nat × Nat × Nat) : Prop := sy_r w q.1 q.2.1 = sy_r w 95 q.2.2
noncomputable def nq_k (w : pq_W) (q : Nat × Nat × Nat) : Prop := sy_r w (q.1 + 34) q.2.1 = sy_r w 96 q.2.2
/-- places are alike now, and as they are kept -/
noncomputable def AN (w : pq_W) : Prop := ∀ q ∈ nq_M, nq_a w q
noncomputable def AK (w : pq_W) : Prop := sy_r w 94 2 ≠ 0 → ∀ q ∈ nq_M, nq_k w q
noncomputable def nb_a (A : sx_A) (q : Nat × Nat × Nat) : Bool := sy_ninb A q.1 q.2.1 q.2.1 && sy_ninb A 95 q.2.2 q.2.2
noncomputable def nb_k (A : sx_A) : Bool := sy_ninb A 94 2 2 && sy_ninb A 96 0 2857 && nq_M.all fun q => sy_ninb A (q.1 + 34) q.2.1 q.2.1 && Nat.blt q.2.2 2858
noncomputable def nb_n (sp : Nat × Nat × Nat → Bool) (A : sx_A) : Bool := nq_M.all fun q => sp q || nb_a A q
theorem AK_mv {A : sx_A} {w w1 : pq_W} (hA : nb_k A = true) (f : sx_Fr A w w1) (h : AK w) : AK w1 := by
  unfold nb_k at hA
  rw [Bool.and_eq_true, Bool.and_eq_true] at hA
  obtain ⟨⟨b1, b2⟩, b3⟩ := hA
  rw [List.all_eq_true] at b3
  intro e q hq
  rw [nb_1 (i := 2) b1 f] at e
  have h3 := b3 q hq
  rw [Bool.and_eq_true] at h3
  have hlt : q.2.2 < 2858 := Nat.le_of_ble_eq_true h3.2
  show sy_r w1 (q.1 + 34) q.2.1 = sy_r w1 96 q.2.2
  rw [nb_1 (i := q.2.1) h3.1 f, sy_r_fr f (sy_nin b2 (by omega) (by omega))]
  exact h e q hq
theorem AN_mv (sp : Nat × Nat × Nat → Bool) {A : sx_A} {w w1 : pq_W} (hA : nb_n sp A = true) (f : sx_Fr A w w1) (h : AN w) (hs : ∀ q ∈ nq_M, sp q = true → nq_a w1 q) : AN w1 := by
  unfold nb_n at hA
  rw [List.all_eq_true] at hA
  intro q hq
  have h1 := hA q hq
  rw [Bool.or_eq_true] at h1
  rcases h1 with h1 | h1
  · exact hs q hq h1
  · unfold nb_a at h1
    rw [Bool.and_eq_true] at h1
    show sy_r w1 q.1 q.2.1 = sy_r w1 95 q.2.2
    rw [nb_1 (i := q.2.1) h1.1 f, nb_1 (i := q.2.2) h1.2 f]
    exact h q hq
noncomputable def no_sp : Nat × Nat × Nat → Bool := fun _ => false
noncomputable def al_ok (A : sx_A) : Bool := nb_n no_sp A && nb_k A
noncomputable def AL (w : pq_W) : Prop := AN w ∧ AK w
theorem AL_mv {A : sx_A} {w w1 : pq_W} (hA : al_ok A = true) (f : sx_Fr A w w1) (h : AL w) : AL w1 := by
  unfold al_ok at hA
  rw [Bool.and_eq_true] at hA
  exact ⟨AN_mv no_sp hA.1 f h.1 (fun q _ hs => by cases hs), AK_mv hA.2 f h.2⟩
theorem sx_Fr_app {C B : sx_A} {w w1 w2 : pq_W} (f1 : sx_Fr C w w1) (f2 : sx_Fr B w1 w2) : sx_Fr (C ++ B) w w2 := fun r i h => (f2 r i (fun ⟨q, hq, e⟩ => h ⟨q, List.mem_append_right _ hq, e⟩)).trans (f1 r i (fun ⟨q, hq, e⟩ => h ⟨q, List.mem_append_left _ hq, e⟩))
/-- the one place of the reference with this number -/
theorem nq_one {r i j : Nat} (hb : (nq_M.all fun q => !(Nat.beq q.2.2 j) || (Nat.beq q.1 r && Nat.beq q.2.1 i)) = true) {q : Nat × Nat × Nat} (hq : q ∈ nq_M) (hs : Nat.beq q.2.2 j = true) : q = (r, i, j) := by
  rw [List.all_eq_true] at hb
  have h := hb q hq
  rw [hs] at h
  obtain ⟨a, b, c⟩ := q
  simp only [Bool.not_true, Bool.false_or, Bool.and_eq_true] at h
  have h1 : a = r := Nat.eq_of_beq_eq_true h.1
  have h2 : b = i := Nat.eq_of_beq_eq_true h.2
  have h3 : c = j := Nat.eq_of_beq_eq_true hs
  rw [h1, h2, h3]
theorem nq_in1 {q : Nat × Nat × Nat} (h : q ∈ nq_M1) : q ∈ nq_M := List.mem_append_left _ h
theorem nq_in2 {q : Nat × Nat × Nat} (h : q ∈ nq_M2) : q ∈ nq_M := List.mem_append_right _ (List.mem_append_left _ h)
theorem nq_in3 {q : Nat × Nat × Nat} (h : q ∈ nq_M3) : q ∈ nq_M := List.mem_append_right _ (List.mem_append_right _ (List.mem_append_left _ h))
theorem nq_in4 {q : Nat × Nat × Nat} (h : q ∈ nq_M4) : q ∈ nq_M := List.mem_append_right _ (List.mem_append_right _ (List.mem_append_right _ h))
/-- an airline that isn't there hasn't ended -/
noncomputable def EZ (w : pq_W) : Prop := ∀ a : Nat, a < 8 → sy_r w 95 2 ≤ a → sy_r w 95 (187 + 10 * a) = 0
noncomputable def EK (w : pq_W) : Prop := sy_r w 94 2 ≠ 0 → ∀ a : Nat, a < 8 → sy_r w 96 2 ≤ a → sy_r w 96 (187 + 10 * a) = 0
noncomputable def ez_ok (A : sx_A) : Bool := sy_ninb A 95 2 2 && (List.range 8).all fun a => sy_ninb A 95 (187 + 10 * a : Nat) (187 + 10 * a : Nat)
theorem ez_e {A : sx_A} {w w1 : pq_W} (hA : ez_ok A = true) (f : sx_Fr A w w1) : sy_r w1 95 2 = sy_r w 95 2 ∧ ∀ a, a < 8 → sy_r w1 95 (187 + 10 * a) = sy_r w 95 (187 + 10 * a) := by
  unfold ez_ok at hA
  rw [Bool.and_eq_true] at hA
  exact ⟨nb_1 (i := 2) hA.1 f, fun a ha => nb_1 (i := 187 + 10 * a) (List.all_eq_true.mp hA.2 a (List.mem_range.mpr ha)) f⟩
theorem EZ_mv {A : sx_A} {w w1 : pq_W} (hA : ez_ok A = true) (f : sx_Fr A w w1) (h : EZ w) : EZ w1 := fun a ha hn => by
  obtain ⟨e1, e2⟩ := ez_e hA f
  rw [e1] at hn
  rw [e2 a ha]
  exact h a ha hn
theorem EK_mv {A : sx_A} {w w1 : pq_W} (hA : nb_k A = true) (f : sx_Fr A w w1) (h : EK w) : EK w1 := by
  unfold nb_k at hA
  rw [Bool.and_eq_true, Bool.and_eq_true] at hA
  obtain ⟨⟨b1, b2⟩, _⟩ := hA
  intro e a ha hn
  rw [nb_1 (i := 2) b1 f] at e
  rw [sy_r_fr f (sy_nin b2 (by omega) (by omega))] at hn ⊢
  exact h e a ha hn
/-- numbers of sheets are alike -/
noncomputable def SN (w : pq_W) : Prop := ∀ k, k < 96 → sy_r w 91 k = sy_r w 100 k
noncomputable def sn_ok (A : sx_A) : Bool := sy_ninb A 91 0 95 && sy_ninb A 100 0 95
theorem SN_mv {A : sx_A} {w w1 : pq_W} (hA : sn_ok A = true) (f : sx_Fr A w w1) (h : SN w) : SN w1 := by
  unfold sn_ok at hA
  rw [Bool.and_eq_true] at hA
  intro k hk
  rw [sy_r_fr f (sy_nin hA.1 (by omega) (by omega)), sy_r_fr f (sy_nin hA.2 (by omega) (by omega))]
  exact h k hk
noncomputable def TR (w : pq_W) : Prop := sy_r w 87 1 = sy_r w 94 8 ∧ ∀ i : Nat, i < 40 → (i : Int) < sy_r w 94 8 → sy_r w 88 i = sy_r w 101 i
noncomputable def tr_ok (A : sx_A) : Bool := sy_ninb A 87 1 1 && sy_ninb A 94 8 8 && sy_ninb A 88 0 39 && sy_ninb A 101 0 39
theorem TR_mv {A : sx_A} {w w1 : pq_W} (hA : tr_ok A = true) (f : sx_Fr A w w1) (h : TR w) : TR w1 := by
  unfold tr_ok at hA
  rw [Bool.and_eq_true, Bool.and_eq_true, Bool.and_eq_true] at hA
  have e1 : sy_r w1 87 1 = sy_r w 87 1 := nb_1 (i := 1) hA.1.1.1 f
  have e2 : sy_r w1 94 8 = sy_r w 94 8 := nb_1 (i := 8) hA.1.1.2 f
  refine ⟨by rw [e1, e2]; exact h.1, fun i hi hc => ?_⟩
  rw [e2] at hc
  rw [sy_r_fr f (sy_nin hA.1.2 (by omega) (by omega)), sy_r_fr f (sy_nin hA.2 (by omega) (by omega))]
  exact h.2 i hi hc
theorem bt2 {a b : Bool} (h : (a && b) = true) : a = true ∧ b = true := by
  rw [Bool.and_eq_true] at h
  exact h
noncomputable def rt_ok (A : sx_A) : Bool := nb_k A && sn_ok A && tr_ok A
theorem RT_mv {A : sx_A} {w w1 : pq_W} (hA : rt_ok A = true) (f : sx_Fr A w w1) (h : EK w ∧ SN w ∧ TR w) : EK w1 ∧ SN w1 ∧ TR w1 := by
  unfold rt_ok at hA
  rw [Bool.and_eq_true, Bool.and_eq_true] at hA
  exact ⟨EK_mv hA.1.1 f h.1, SN_mv hA.1.2 f h.2.1, TR_mv hA.2 f h.2.2⟩
noncomputable def rs_ok (A : sx_A) : Bool := rt_ok A && (fl_ok A && te_ok A)
theorem RS_mv {A : sx_A} {w w1 : pq_W} (hA : rs_ok A = true) (f : sx_Fr A w w1) (h : EK w ∧ SN w ∧ TR w ∧ FL w ∧ TE w) : EK w1 ∧ SN w1 ∧ TR w1 ∧ FL w1 ∧ TE w1 := by
  unfold rs_ok at hA
  rw [Bool.and_eq_true] at hA
  obtain ⟨a, b, c⟩ := RT_mv hA.1 f ⟨h.1, h.2.1, h.2.2.1⟩
  exact ⟨a, b, c, FL_mv (bt2 hA.2).1 f h.2.2.2.1, TE_mv (bt2 hA.2).2 f h.2.2.2.2⟩
noncomputable def AE (w : pq_W) : Prop := EZ w ∧ EK w ∧ SN w ∧ TR w ∧ FL w ∧ TE w
noncomputable def WI (n : Nat) (w : pq_W) : Prop := W0 n w ∧ SH w ∧ AL w ∧ AE w
noncomputable def ae_ok (A : sx_A) : Bool := al_ok A && ez_ok A && sn_ok A && (tr_ok A && (fl_ok A && te_ok A))
/-- all that is alike, where none of it is written -/
theorem AA_mv {A : sx_A} {w w1 : pq_W} (hA : ae_ok A = true) (f : sx_Fr A w w1) (h : AL w ∧ AE w) : AL w1 ∧ AE w1 := by
  unfold ae_ok at hA
  rw [Bool.and_eq_true, Bool.and_eq_true, Bool.and_eq_true] at hA
  have hk : nb_k A = true := by
    have := hA.1.1.1
    unfold al_ok at this
    rw [Bool.and_eq_true] at this
    exact this.2
  exact ⟨AL_mv hA.1.1.1 f h.1, EZ_mv hA.1.1.2 f h.2.1, EK_mv hk f h.2.2.1, SN_mv hA.1.2 f h.2.2.2.1, TR_mv (bt2 hA.2).1 f h.2.2.2.2.1, FL_mv (bt2 (bt2 hA.2).2).1 f h.2.2.2.2.2.1, TE_mv (bt2 (bt2 hA.2).2).2 f h.2.2.2.2.2.2⟩
theorem WI_up {n : Nat} {w : pq_W} (h : WI n w) : WI (n + 1) w := ⟨⟨h.1.1, h.1.2.1, FI_up h.1.2.2⟩, h.2⟩
noncomputable def pr_P (n jc jm : Nat) (as : List Value) : Prop := ∀ w, WI n w → ∃ (x1 : Int32) (w1 : pq_W) (x2 : Int32) (w2 : pq_W), pq_Ru 300 jc (.ref 5 :: as) w (some (.int x1), w1) ∧ pq_Ru 300 jm (.ref 94 :: as) w1 (some (.int x2), w2) ∧ WI (n + 1) w2
/-- the answers are the same -/
noncomputable def pr_E (n jc jm : Nat) (as : List Value) : Prop := ∀ w, WI n w → ∃ (x : Int32) (w1 w2 : pq_W), pq_Ru 300 jc (.ref 5 :: as) w (some (.int x), w1) ∧ pq_Ru 300 jm (.ref 94 :: as) w1 (some (.int x), w2) ∧ WI (n + 1) w2
theorem pr_eP {n jc jm : Nat} {as : List Value} (h : pr_E n jc jm as) : pr_P n jc jm as := fun w hw => by
  obtain ⟨x, w1, w2, h⟩ := h w hw
  exact ⟨x, w1, x, w2, h⟩
theorem pr_up {C B : sx_A} {n jc jm : Nat} {as : List Value} (h : p0_P C B n jc jm as) (hC : (sh_ok C && ae_ok C) = true) (hB : (sh_ok B && ae_ok B) = true) : pr_P n jc jm as := fun w hw => by
  obtain ⟨x1, w1, x2, w2, g1, g2, _, h0, f1, f2⟩ := h w hw.1
  rw [Bool.and_eq_true] at hC hB
  exact ⟨x1, w1, x2, w2, g1, g2, h0, SH_mv hB.1 f2 (SH_mv hC.1 f1 hw.2.1), AA_mv hB.2 f2 (AA_mv hC.2 f1 hw.2.2)⟩
/-- all that is alike but the numbers of sheets -/
noncomputable def ab_ok (A : sx_A) : Bool := al_ok A && ez_ok A && (tr_ok A && (fl_ok A && te_ok A))
theorem AB_mv {A : sx_A} {w w1 : pq_W} (hA : ab_ok A = true) (f : sx_Fr A w w1) (h : AL w ∧ AE w) (hn : SN w1) : AL w1 ∧ AE w1 := by
  unfold ab_ok at hA
  rw [Bool.and_eq_true, Bool.and_eq_true] at hA
  have hk : nb_k A = true := by
    have := hA.1.1
    unfold al_ok at this
    rw [Bool.and_eq_true] at this
    exact this.2
  exact ⟨AL_mv hA.1.1 f h.1, EZ_mv hA.1.2 f h.2.1, EK_mv hk f h.2.2.1, hn, TR_mv (bt2 hA.2).1 f h.2.2.2.2.1, FL_mv (bt2 (bt2 hA.2).2).1 f h.2.2.2.2.2.1, TE_mv (bt2 (bt2 hA.2).2).2 f h.2.2.2.2.2.2⟩
/-- all that is alike but the voices -/
noncomputable def at_ok (A : sx_A) : Bool := al_ok A && ez_ok A && (sn_ok A && (fl_ok A && te_ok A))
theorem AT_mv {A : sx_A} {w w1 : pq_W} (hA : at_ok A = true) (f : sx_Fr A w w1) (h : AL w ∧ AE w) (hn : TR w1) : AL w1 ∧ AE w1 := by
  unfold at_ok at hA
  rw [Bool.and_eq_true, Bool.and_eq_true] at hA
  have hk : nb_k A = true := by
    have := hA.1.1
    unfold al_ok at this
    rw [Bool.and_eq_true] at this
    exact this.2
  exact ⟨AL_mv hA.1.1 f h.1, EZ_mv hA.1.2 f h.2.1, EK_mv hk f h.2.2.1, SN_mv (bt2 hA.2).1 f h.2.2.2.1, hn, FL_mv (bt2 (bt2 hA.2).2).1 f h.2.2.2.2.2.1, TE_mv (bt2 (bt2 hA.2).2).2 f h.2.2.2.2.2.2⟩
/-- all that is alike but texts and laws -/
noncomputable def ax_ok (A : sx_A) : Bool := al_ok A && ez_ok A && (sn_ok A && (tr_ok A && fl_ok A))
theorem AX_mv {A : sx_A} {w w1 : pq_W} (hA : ax_ok A = true) (f : sx_Fr A w w1) (h : AL w ∧ AE w) (hn : TE w1) : AL w1 ∧ AE w1 := by
  unfold ax_ok at hA
  rw [Bool.and_eq_true, Bool.and_eq_true] at hA
  have hk : nb_k A = true := by
    have := hA.1.1
    unfold al_ok at this
    rw [Bool.and_eq_true] at this
    exact this.2
  exact ⟨AL_mv hA.1.1 f h.1, EZ_mv hA.1.2 f h.2.1, EK_mv hk f h.2.2.1, SN_mv (bt2 hA.2).1 f h.2.2.2.1, TR_mv (bt2 (bt2 hA.2).2).1 f h.2.2.2.2.1, FL_mv (bt2 (bt2 hA.2).2).2 f h.2.2.2.2.2.1, hn⟩
theorem pe_fuel {n : Nat} {a : Int32} : pr_E n 121 230 [.int a] := fun w hw => by
  obtain ⟨x, w1, w2, g1, g2, h0, f⟩ := p0_fuel (n := n) (a := a) w hw.1
  exact ⟨x, w1, w2, g1, g2, h0, SH_mv (by decide +kernel) f hw.2.1, AA_mv (by decide +kernel) f hw.2.2⟩
theorem nq_ik : (nq_M.all fun q => sy_ninb [(94, 2, 2), (96, 0, 2857)] (q.1 + 34) q.2.1 q.2.1 && Nat.blt q.2.2 2858) = true := by decide +kernel
theorem pe_image {n : Nat} (hn : n ≤ 90000) : pr_E n 147 245 [] := fun w hw => by
  obtain ⟨x, w1, w2, g1, g2, h0, f1, f2, q1, q2, q3⟩ := p0_image hn w hw.1
  refine ⟨x, w1, w2, g1, g2, h0, SH_mv (by decide +kernel) f2 (SH_mv (by decide +kernel) f1 hw.2.1), ⟨AN_mv no_sp (by decide +kernel) f2 (AN_mv no_sp (by decide +kernel) f1 hw.2.2.1.1 (fun q _ hs => by cases hs)) (fun q _ hs => by cases hs), fun _ q hq => ?_⟩, EZ_mv (by decide +kernel) f2 (EZ_mv (by decide +kernel) f1 hw.2.2.2.1), fun _ a ha hn => ?_, SN_mv (by decide +kernel) f2 (SN_mv (by decide +kernel) f1 hw.2.2.2.2.2.1), TR_mv (by decide +kernel) f2 (TR_mv (by decide +kernel) f1 hw.2.2.2.2.2.2.1), ⟨FLn_mv (by decide +kernel) f2 (FLn_mv (by decide +kernel) f1 hw.2.2.2.2.2.2.2.1.1), fun _ => ?_⟩, ⟨TEn_mv (by decide +kernel) f2 (TEn_mv (by decide +kernel) f1 hw.2.2.2.2.2.2.2.2.1.1), fun _ => ?_⟩, NB_mv (by decide +kernel) f2 (NB_mv (by decide +kernel) f1 hw.2.2.2.2.2.2.2.2.2)⟩
  · have h3 := List.all_eq_true.mp nq_ik q hq
    rw [Bool.and_eq_true] at h3
    have hlt : q.2.2 < 2858 := Nat.le_of_ble_eq_true h3.2
    have h95 := nb_c_ok (r := 95) (A := ci_A) (by decide +kernel) f1
    show sy_r w2 (q.1 + 34) q.2.1 = sy_r w2 96 q.2.2
    rw [nb_1 (i := q.2.1) h3.1 f2, q1 q hq, q2 _ hlt, h95]
    exact hw.2.2.1.1 q hq
  · have h95 := nb_c_ok (r := 95) (A := ci_A) (by decide +kernel) f1
    rw [q2 _ (by omega), h95] at hn ⊢
    exact hw.2.2.2.1 a ha hn
  · have hi := hw.1.2.2.2.1
    have hi0 := hw.1.2.2.2.2.1
    have hi1 := hw.1.2.2.2.2.2.1
    have h95 := nb_c_ok (r := 95) (A := ci_A) (by decide +kernel) f1
    refine fl_cong (fun c i hz => ?_) (fun i hz => ?_) hw.2.2.2.2.2.2.2.1.1
    · have e1 : sy_r w1 (c + 34) i = sy_r w c i := zf_ci hw.1.1 (by omega) (by omega) g1 hz
      show sy_r w2 (c + 34) i = sy_r w c i
      rw [← e1]
      exact fl_nc_ok (d := 34) (A := [(94, 2, 2), (96, 0, 2857)]) (by decide +kernel) f2 hz
    · rw [q2 i (fl_d_lt hz), h95]
  · have hi := hw.1.2.2.2.1
    have hi0 := hw.1.2.2.2.2.1
    have hi1 := hw.1.2.2.2.2.2.1
    have h95 := nb_c_ok (r := 95) (A := ci_A) (by decide +kernel) f1
    refine te_cong (fun c i hz => ?_) (fun i hz => ?_) hw.2.2.2.2.2.2.2.2.1.1
    · have e1 : sy_r w1 (c + 34) i = sy_r w c i := zi_ci hw.1.1 (by omega) (by omega) g1 hz
      show sy_r w2 (c + 34) i = sy_r w c i
      rw [← e1]
      exact te_nc_ok (d := 34) (A := [(94, 2, 2), (96, 0, 2857)]) (by decide +kernel) f2 hz
    · rw [q2 i (te_d_lt hz), h95]
theorem nq_rn : (nq_M.all fun q => sy_ninb [(95, 0, 2857)] q.1 q.2.1 q.2.1 && Nat.blt q.2.2 2858) = true := by decide +kernel
theorem pe_restore {n : Nat} (hn : n ≤ 90000) : pr_E n 152 246 [] := fun w hw => by
  obtain ⟨x1, w1, x2, w2, g1, g2, h0, hor⟩ := p0_restore hn w hw.1
  rcases hor with ⟨_, v1, v2, f1, f2⟩ | ⟨e0, v1, v2, f1, f2, q1, q2⟩
  · have e12 : x1 = x2 := Int32.toInt_inj.mp (v1.trans v2.symm)
    subst e12
    exact ⟨x1, w1, w2, g1, g2, h0, SH_mv (A := [(97, 0, 5)]) (by decide +kernel) f2 (SH_mv (A := [(93, 0, 100000)]) (by decide +kernel) f1 hw.2.1), AA_mv (A := [(97, 0, 5)]) (by decide +kernel) f2 (AA_mv (A := [(93, 0, 100000)]) (by decide +kernel) f1 hw.2.2)⟩
  · have k := hw.2.2.1.2 e0
    have k0 : sy_r w 40 8 = sy_r w 96 0 := k (6, 8, 0) (nq_in1 List.mem_cons_self)
    have e12 : x1 = x2 := Int32.toInt_inj.mp (by rw [v1, v2, k0])
    subst e12
    refine ⟨x1, w1, w2, g1, g2, h0, SH_mv (A := [(95, 0, 2857)]) (by decide +kernel) f2 (SH_mv (by decide +kernel) f1 hw.2.1), ⟨fun q hq => ?_, AK_mv (A := [(95, 0, 2857)]) (by decide +kernel) f2 (AK_mv (by decide +kernel) f1 hw.2.2.1.2)⟩, fun a ha hn => ?_, ?_⟩
    · have h3 := List.all_eq_true.mp nq_rn q hq
      rw [Bool.and_eq_true] at h3
      have hlt : q.2.2 < 2858 := Nat.le_of_ble_eq_true h3.2
      show sy_r w2 q.1 q.2.1 = sy_r w2 95 q.2.2
      rw [nb_1 (i := q.2.1) h3.1 f2, q1 q hq, q2 _ hlt]
      exact k q hq
    · rw [q2 _ (by omega)] at hn ⊢
      exact hw.2.2.2.2.1 e0 a ha hn
    · obtain ⟨k1, k2, k3⟩ := RT_mv (A := [(95, 0, 2857)]) (by decide +kernel) f2 (RT_mv (by decide +kernel) f1 ⟨hw.2.2.2.2.1, hw.2.2.2.2.2.1, hw.2.2.2.2.2.2.1⟩)
      have hi := hw.1.2.2.2.1
      have hi0 := hw.1.2.2.2.2.1
      have hi1 := hw.1.2.2.2.2.2.1
      refine ⟨k1, k2, k3, ⟨?_, FLk_mv (A := [(95, 0, 2857)]) (by decide +kernel) f2 (FLk_mv (by decide +kernel) f1 hw.2.2.2.2.2.2.2.1.2)⟩, ⟨?_, TEk_mv (A := [(95, 0, 2857)]) (by decide +kernel) f2 (TEk_mv (by decide +kernel) f1 hw.2.2.2.2.2.2.2.2.1.2)⟩, NB_mv (A := [(95, 0, 2857)]) (by decide +kernel) f2 (NB_mv (by decide +kernel) f1 hw.2.2.2.2.2.2.2.2.2)⟩
      · refine fl_cong (fun c i hz => ?_) (fun i hz => q2 i (fl_d_lt hz)) (hw.2.2.2.2.2.2.2.1.2 e0)
        have e1 : sy_r w1 c i = sy_r w (c + 34) i := zf_cr hw.1.1 (by omega) (by omega) g1 hz
        show sy_r w2 c i = sy_r w (c + 34) i
        rw [← e1]
        exact fl_nc_ok (d := 0) (A := [(95, 0, 2857)]) (by decide +kernel) f2 hz
      · refine te_cong (fun c i hz => ?_) (fun i hz => q2 i (te_d_lt hz)) (hw.2.2.2.2.2.2.2.2.1.2 e0)
        have e1 : sy_r w1 c i = sy_r w (c + 34) i := zi_cr hw.1.1 (by omega) (by omega) g1 hz
        show sy_r w2 c i = sy_r w (c + 34) i
        rw [← e1]
        exact te_nc_ok (d := 0) (A := [(95, 0, 2857)]) (by decide +kernel) f2 hz
theorem pe_go {n : Nat} {a : Int32} : pr_E n 117 228 [.int a] := fun w hw => by
  obtain ⟨x1, w1, x2, w2, g1, g2, h1, h0, f1, f2⟩ := p0_go (n := n) (a := a) w hw.1
  have day : sy_r w 6 8 = sy_r w 95 0 := hw.2.2.1.1 (6, 8, 0) (nq_in1 List.mem_cons_self)
  have d0 := hw.1.2.1.2.1.1
  obtain ⟨rc, e1, c1, c2, ⟨y1, c3, c4⟩, c5⟩ := gc_go (xn := a) hw.1.1 (by rw [day]; exact d0)
  have q1 := ru_det g1 e1
  subst q1
  obtain ⟨rm, e2, _, ⟨y2, m3, m4⟩, m5⟩ := kz_go (xn := a) h1.1 h1.2.1
  have q2 := ru_det g2 e2
  subst q2
  have c3 : some (Value.int x1) = some (Value.int y1) := c3
  have m3 : some (Value.int x2) = some (Value.int y2) := m3
  cases c3
  cases m3
  have c5 : sy_r w1 6 8 = gd_Y (sy_r w 6 8) a.toInt := c5
  have m5 : sy_r w2 95 0 = gd_Y (sy_r w1 95 0) a.toInt := m5
  have day1 : sy_r w1 95 0 = sy_r w 95 0 := nb_1 (A := kk_c_go.md) (i := 0) (by decide +kernel) f1
  have day2 : sy_r w2 6 8 = sy_r w1 6 8 := nb_1 (A := kk_m_go.md) (i := 8) (by decide +kernel) f2
  have e12 : x1 = x2 := Int32.toInt_inj.mp (by rw [c4, m4, day1, day])
  subst e12
  refine ⟨x1, w1, w2, g1, g2, h0, SH_mv (by decide +kernel) f2 (SH_mv (by decide +kernel) f1 hw.2.1), ⟨AN_mv (fun q => Nat.beq q.2.2 0) (by decide +kernel) (sx_Fr_app f1 f2) hw.2.2.1.1 (fun q hq hs => ?_), AK_mv (by decide +kernel) f2 (AK_mv (by decide +kernel) f1 hw.2.2.1.2)⟩, EZ_mv (by decide +kernel) f2 (EZ_mv (by decide +kernel) f1 hw.2.2.2.1), RS_mv (by decide +kernel) f2 (RS_mv (by decide +kernel) f1 hw.2.2.2.2)⟩
  rw [nq_one (r := 6) (i := 8) (j := 0) (by decide +kernel) hq hs]
  show sy_r w2 6 8 = sy_r w2 95 0
  rw [day2, c5, m5, day1, day]
theorem nq_fam {r k n b s : Nat} (hb : (nq_M.all fun q => !(Nat.beq q.1 r) || (Nat.blt q.2.1 n && Nat.beq q.2.2 (b + s * q.2.1))) = true) {q : Nat × Nat × Nat} (hq : q ∈ nq_M) (hs : Nat.beq q.1 r = true) : ∃ i, i < n ∧ q = (r, i, b + s * i) := by
  rw [List.all_eq_true] at hb
  have h := hb q hq
  rw [hs] at h
  obtain ⟨a, i, c⟩ := q
  simp only [Bool.not_true, Bool.false_or, Bool.and_eq_true] at h
  have h1 : a = r := Nat.eq_of_beq_eq_true hs
  have h2 : i < n := Nat.le_of_ble_eq_true h.1
  have h3 : c = b + s * i := Nat.eq_of_beq_eq_true h.2
  exact ⟨i, h2, by rw [h1, h3]⟩
theorem nq_17 {q : Nat × Nat × Nat} (hq : q ∈ nq_M) (hs : Nat.beq q.1 17 = true) : ∃ i, i < 8 ∧ q = (17, i, 187 + 10 * i) := nq_fam (k := 0) (by decide +kernel) hq hs
theorem nq_9 {q : Nat × Nat × Nat} (hq : q ∈ nq_M) (hs : Nat.beq q.1 9 = true) : ∃ i, i < 8 ∧ q = (9, i, 138 + 6 * i) := nq_fam (k := 0) (by decide +kernel) hq hs
theorem nq_19 {q : Nat × Nat × Nat} (hq : q ∈ nq_M) (hs : Nat.beq q.1 19 = true) : ∃ i, i < 12 ∧ q = (19, i, 266 + 3 * i) := nq_fam (k := 0) (by decide +kernel) hq hs
theorem nq_20 {q : Nat × Nat × Nat} (hq : q ∈ nq_M) (hs : Nat.beq q.1 20 = true) : ∃ i, i < 12 ∧ q = (20, i, 267 + 3 * i) := nq_fam (k := 0) (by decide +kernel) hq hs
theorem nq_21 {q : Nat × Nat × Nat} (hq : q ∈ nq_M) (hs : Nat.beq q.1 21 = true) : ∃ i, i < 12 ∧ q = (21, i, 268 + 3 * i) := nq_fam (k := 0) (by decide +kernel) hq hs
theorem nq_9m : ∀ i, i < 8 → ((9, i, 138 + 6 * i) : Nat × Nat × Nat) ∈ nq_M := fun i hi => nq_in2 (List.mem_cons_of_mem _ (List.mem_append_left _ (List.mem_map.mpr ⟨i, List.mem_range.mpr hi, rfl⟩)))
theorem nq_17m : ∀ i, i < 8 → ((17, i, 187 + 10 * i) : Nat × Nat × Nat) ∈ nq_M := fun i hi => nq_in2 (List.mem_cons_of_mem _ (List.mem_append_right _ (List.mem_append_left _ (List.mem_map.mpr ⟨i, List.mem_range.mpr hi, rfl⟩))))
theorem nq_19m : ∀ i, i < 12 → ((19, i, 266 + 3 * i) : Nat × Nat × Nat) ∈ nq_M := fun i hi => nq_in2 (List.mem_cons_of_mem _ (List.mem_append_right _ (List.mem_append_right _ (List.mem_append_left _ (List.mem_map.mpr ⟨i, List.mem_range.mpr hi, rfl⟩)))))
theorem nq_20m : ∀ i, i < 12 → ((20, i, 267 + 3 * i) : Nat × Nat × Nat) ∈ nq_M := fun i hi => nq_in2 (List.mem_cons_of_mem _ (List.mem_append_right _ (List.mem_append_right _ (List.mem_append_right _ (List.mem_append_left _ (List.mem_map.mpr ⟨i, List.mem_range.mpr hi, rfl⟩))))))
theorem nq_21m : ∀ i, i < 12 → ((21, i, 268 + 3 * i) : Nat × Nat × Nat) ∈ nq_M := fun i hi => nq_in2 (List.mem_cons_of_mem _ (List.mem_append_right _ (List.mem_append_right _ (List.mem_append_right _ (List.mem_append_right _ (List.mem_map.mpr ⟨i, List.mem_range.mpr hi, rfl⟩))))))
theorem nq_em {w : pq_W} (ht : sx_Ty sx_T0 w) {a : Nat} (ha : a < 8) : sy_r w 17 a = 0 ∨ sy_r w 17 a = 1 := by
  have h := sy_rg (r := 17) ht rfl (g := (0, 1, 8, 0, 0, 0, 1)) (by decide) (k := a) (j := 0) ha (Nat.le_refl _) (Nat.le_refl _) (by show 0 + 1 * a + 0 < 8; omega)
  have h : 0 ≤ sy_r w 17 (0 + 1 * a + 0) ∧ sy_r w 17 (0 + 1 * a + 0) ≤ 1 := h
  rw [show 0 + 1 * a + 0 = a by omega] at h
  omega
theorem nq_em2 {w : pq_W} (ht : sx_Ty sx_T0 w) {a : Nat} (ha : a < 8) : sy_r w 95 (187 + 10 * a) = 0 ∨ sy_r w 95 (187 + 10 * a) = 1 := by
  have h := sy_rg (r := 95) ht rfl (g := (186, 10, 8, 1, 1, 0, 1)) (by decide) (k := a) (j := 1) ha (Nat.le_refl _) (Nat.le_refl _) (by show 186 + 10 * a + 1 < 2858; omega)
  have h : 0 ≤ sy_r w 95 (186 + 10 * a + 1) ∧ sy_r w 95 (186 + 10 * a + 1) ≤ 1 := h
  rw [show 187 + 10 * a = 186 + 10 * a + 1 by omega]
  omega
theorem nq_pm {w : pq_W} (ht : sx_Ty sx_T0 w) {p : Nat} (hp : p < 12) : (0 ≤ sy_r w 95 (266 + 3 * p) ∧ sy_r w 95 (266 + 3 * p) ≤ 5) ∧ 0 ≤ sy_r w 95 (268 + 3 * p) ∧ sy_r w 95 (268 + 3 * p) ≤ 600 := by
  have h := sy_rg (r := 95) ht rfl (g := (266, 3, 12, 0, 0, 0, 5)) (by decide) (k := p) (j := 0) hp (Nat.le_refl _) (Nat.le_refl _) (by show 266 + 3 * p + 0 < 2858; omega)
  have h2 := sy_rg (r := 95) ht rfl (g := (266, 3, 12, 2, 2, 0, 600)) (by decide) (k := p) (j := 2) hp (Nat.le_refl _) (Nat.le_refl _) (by show 266 + 3 * p + 2 < 2858; omega)
  have h2 : 0 ≤ sy_r w 95 (266 + 3 * p + 2) ∧ sy_r w 95 (266 + 3 * p + 2) ≤ 600 := h2
  rw [show 268 + 3 * p = 266 + 3 * p + 2 by omega]
  exact ⟨h, h2⟩
theorem pe_airline {n : Nat} {a : Int32} : pr_E n 29 173 [.int a] := fun w hw => by
  obtain ⟨x1, w1, x2, w2, g1, g2, h1, h0, f1, f2⟩ := p0_airline (n := n) (a := a) w hw.1
  have an : sy_r w 15 0 = sy_r w 95 2 := hw.2.2.1.1 (15, 0, 2) (nq_in1 (List.mem_cons_of_mem _ List.mem_cons_self))
  have hy := (mo_yT hw.1.1 (Or.inl rfl)).1
  have hy1 := (mo_yT h1.1 (Or.inl rfl)).1
  obtain ⟨rc, e1, _, _, ⟨y1, c3, c4⟩, c5⟩ := ai_gen (M := pm_29) aic rfl a hw.1.1 (by rw [an]; exact hy)
  have q1 := ru_det g1 (ru_of (k := 299) (M := pm_29) rfl (by rw [Bool.and_eq_true]; exact ⟨rfl, sq_rcv hw.1.1 rfl rfl rfl⟩) e1)
  subst q1
  obtain ⟨rm, e2, _, _, ⟨y2, m3, m4⟩, m5⟩ := ai_gen (M := pm_173) aim rfl a h1.1 hy1
  have q2 := ru_det g2 (ru_of (k := 299) (M := pm_173) rfl (by rw [Bool.and_eq_true]; exact ⟨rfl, sq_rcv h1.1 rfl rfl rfl⟩) e2)
  subst q2
  have n1 : sy_r w1 95 2 = sy_r w 95 2 := nb_1 (A := kk_c_airline.md) (i := 2) (by decide +kernel) f1
  have ez1 : EZ w1 := EZ_mv (A := kk_c_airline.md) (by decide +kernel) f1 hw.2.2.2.1
  obtain ⟨rz, e3, z3⟩ := ea_gen a h1.1 hy1 ez1
  have q3 := ru_det g2 (ru_of (k := 299) (M := pm_173) rfl (by rw [Bool.and_eq_true]; exact ⟨rfl, sq_rcv h1.1 rfl rfl rfl⟩) e3)
  subst q3
  have z3 : ∀ b : Nat, b < 8 → sy_r w2 95 (187 + 10 * b) = sy_r w1 95 (187 + 10 * b) := z3
  have c3 : some (Value.int x1) = some (Value.int y1) := c3
  have m3 : some (Value.int x2) = some (Value.int y2) := m3
  cases c3
  cases m3
  have c5 : sy_r w1 15 0 = ai_Y (sy_r w 15 0) a.toInt := c5
  have m5 : sy_r w2 95 2 = ai_Y (sy_r w1 95 2) a.toInt := m5
  have n2 : sy_r w2 15 0 = sy_r w1 15 0 := nb_1 (A := kk_m_airline.md) (i := 0) (by decide +kernel) f2
  have e12 : x1 = x2 := Int32.toInt_inj.mp (by rw [c4, m4, n1, an])
  subst e12
  refine ⟨x1, w1, w2, g1, g2, h0, SH_mv (by decide +kernel) f2 (SH_mv (by decide +kernel) f1 hw.2.1), ⟨AN_mv (fun q => Nat.beq q.2.2 2 || Nat.beq q.1 17) (by decide +kernel) (sx_Fr_app f1 f2) hw.2.2.1.1 (fun q hq hs => ?_), AK_mv (by decide +kernel) f2 (AK_mv (by decide +kernel) f1 hw.2.2.1.2)⟩, fun b hb hn => ?_, RS_mv (by decide +kernel) f2 (RS_mv (by decide +kernel) f1 hw.2.2.2.2)⟩
  · rw [Bool.or_eq_true] at hs
    rcases hs with hs | hs
    · rw [nq_one (r := 15) (i := 0) (j := 2) (by decide +kernel) hq hs]
      show sy_r w2 15 0 = sy_r w2 95 2
      rw [n2, c5, m5, n1, an]
    · obtain ⟨i, hi, rfl⟩ := nq_17 hq hs
      show sy_r w2 17 i = sy_r w2 95 (187 + 10 * i)
      have a1 : sy_r w2 17 i = sy_r w1 17 i := congrFun (nb_c_ok (r := 17) (A := kk_m_airline.md) (by decide +kernel) f2) i
      have a2 : sy_r w1 17 i = sy_r w 17 i := congrFun (nb_c_ok (r := 17) (A := kk_c_airline.md) (by decide +kernel) f1) i
      have a3 : sy_r w1 95 (187 + 10 * i) = sy_r w 95 (187 + 10 * i) := congrFun (nb_c_ok (r := 95) (A := kk_c_airline.md) (by decide +kernel) f1) _
      rw [a1, a2, z3 i hi, a3]
      exact hw.2.2.1.1 _ (nq_17m i hi)
  · rw [z3 b hb]
    refine ez1 b hb ?_
    have hge : sy_r w1 95 2 ≤ sy_r w2 95 2 := by
      rw [m5]
      unfold ai_Y
      split
      · exact Int.le_refl _
      · split <;> omega
    omega
theorem nq_sh {q : Nat × Nat × Nat} (hq : q ∈ nq_M) (hs : Nat.beq q.1 8 = true) : ∃ i, i < 64 ∧ q = (8, i, 74 + i) := by
  have hb : (nq_M.all fun q => !(Nat.beq q.1 8) || (Nat.blt q.2.1 64 && Nat.beq q.2.2 (74 + q.2.1))) = true := by decide +kernel
  rw [List.all_eq_true] at hb
  have h := hb q hq
  rw [hs] at h
  obtain ⟨a, b, c⟩ := q
  simp only [Bool.not_true, Bool.false_or, Bool.and_eq_true] at h
  have h1 : a = 8 := Nat.eq_of_beq_eq_true hs
  have h2 : b < 64 := Nat.le_of_ble_eq_true h.1
  have h3 : c = 74 + b := Nat.eq_of_beq_eq_true h.2
  exact ⟨b, h2, by rw [h1, h3]⟩
theorem nq_shm : ∀ i, i < 64 → ((8, i, 74 + i) : Nat × Nat × Nat) ∈ nq_M := fun i hi => nq_in1 (List.mem_cons_of_mem _ (List.mem_cons_of_mem _ (List.mem_map.mpr ⟨i, List.mem_range.mpr hi, rfl⟩)))
theorem su_b8 {w : pq_W} (ht : sx_Ty sx_T0 w) {c : Nat} (hc : c < 64) : sy_r w 8 (0 + c) = 0 ∨ sy_r w 8 (0 + c) = 1 := by
  have h := sy_rg (r := 8) ht rfl (g := (0, 1, 64, 0, 0, 0, 1)) (by decide) (k := c) (j := 0) hc (Nat.le_refl _) (Nat.le_refl _) (by show 0 + 1 * c + 0 < 64; omega)
  have h : 0 ≤ sy_r w 8 (0 + 1 * c + 0) ∧ sy_r w 8 (0 + 1 * c + 0) ≤ 1 := h
  rw [show 0 + 1 * c + 0 = 0 + c by omega] at h
  omega
theorem su_b95 {w : pq_W} (ht : sx_Ty sx_T0 w) {c : Nat} (hc : c < 64) : sy_r w 95 (74 + c) = 0 ∨ sy_r w 95 (74 + c) = 1 := by
  have h := sy_rg (r := 95) ht rfl (g := (74, 1, 64, 0, 0, 0, 1)) (by decide) (k := c) (j := 0) hc (Nat.le_refl _) (Nat.le_refl _) (by show 74 + 1 * c + 0 < 2858; omega)
  have h : 0 ≤ sy_r w 95 (74 + 1 * c + 0) ∧ sy_r w 95 (74 + 1 * c + 0) ≤ 1 := h
  rw [show 74 + 1 * c + 0 = 74 + c by omega] at h
  omega
theorem pe_shut {n : Nat} {a b : Int32} (hb : b = 0 ∨ b = 1) : pr_E n 22 165 [.int a, .int b] := fun w hw => by
  obtain ⟨x1, w1, x2, w2, g1, g2, h1, h0, f1, f2⟩ := p0_shut (n := n) (a := a) hb w hw.1
  have hv : b.toInt = 0 ∨ b.toInt = 1 := by rcases hb with rfl | rfl <;> decide
  obtain ⟨rc, e1, _, p1⟩ := su_gen (M := pm_22) (b := 0) suc_o (fun hv hy => suc_a hv hy) rfl a b hv hw.1.1 (fun c hc => su_b8 hw.1.1 hc)
  have q1 := ru_det g1 (ru_of (k := 299) (M := pm_22) rfl (by rw [Bool.and_eq_true]; exact ⟨rfl, sq_rcv hw.1.1 rfl rfl rfl⟩) e1)
  subst q1
  obtain ⟨rm, e2, _, p2⟩ := su_gen (M := pm_165) (b := 74) sum_o (fun hv hy => sum_a hv hy) rfl a b hv h1.1 (fun c hc => su_b95 h1.1 hc)
  have q2 := ru_det g2 (ru_of (k := 299) (M := pm_165) rfl (by rw [Bool.and_eq_true]; exact ⟨rfl, sq_rcv h1.1 rfl rfl rfl⟩) e2)
  subst q2
  rcases p1 with ⟨n1, ⟨y1, c3, c4⟩, k1⟩ | ⟨i1, l1, z1, ⟨y1, c3, c4⟩, k1, v1⟩
  · rcases p2 with ⟨_, ⟨y2, m3, m4⟩, k2⟩ | ⟨i2, l2, z2, _⟩
    · have c3 : some (Value.int x1) = some (Value.int y1) := c3
      have m3 : some (Value.int x2) = some (Value.int y2) := m3
      cases c3
      cases m3
      have e12 : x1 = x2 := Int32.toInt_inj.mp (c4.trans m4.symm)
      subst e12
      have k1 : sx_Fr [(93, 0, 100000)] w w1 := k1
      have k2 : sx_Fr [(97, 0, 100000)] w1 w2 := k2
      exact ⟨x1, w1, w2, g1, g2, h0, SH_mv (by decide +kernel) k2 (SH_mv (by decide +kernel) k1 hw.2.1), AA_mv (by decide +kernel) k2 (AA_mv (by decide +kernel) k1 hw.2.2)⟩
    · exact absurd (by omega) n1
  · rcases p2 with ⟨n2, _⟩ | ⟨i2, l2, z2, ⟨y2, m3, m4⟩, k2, v2⟩
    · exact absurd (by omega) n2
    · have ei : i2 = i1 := by omega
      subst ei
      have c3 : some (Value.int x1) = some (Value.int y1) := c3
      have m3 : some (Value.int x2) = some (Value.int y2) := m3
      cases c3
      cases m3
      have k1 : sx_Fr [(8, ((0 + i2 : Nat) : Int), ((0 + i2 : Nat) : Int))] w w1 := k1
      have k2 : sx_Fr [(95, ((74 + i2 : Nat) : Int), ((74 + i2 : Nat) : Int))] w1 w2 := k2
      have v1 : sy_r w1 8 (0 + i2) = b.toInt := v1
      have v2 : sy_r w2 95 (74 + i2) = b.toInt := v2
      have a0 : sy_r w 8 i2 = sy_r w 95 (74 + i2) := hw.2.2.1.1 _ (nq_shm i2 l1)
      have a1 : sy_r w1 95 (74 + i2) = sy_r w 95 (74 + i2) := fr_no k1 ⟨Or.inl (by decide), trivial⟩
      rw [Nat.zero_add] at c4 v1
      have e12 : x1 = x2 := Int32.toInt_inj.mp (by rw [c4, m4, a1, a0])
      subst e12
      refine ⟨x1, w1, w2, g1, g2, h0, SH_mv (by decide +kernel) f2 (SH_mv (by decide +kernel) f1 hw.2.1), ⟨AN_mv (fun q => Nat.beq q.1 8) (by decide +kernel) (sx_Fr_app f1 f2) hw.2.2.1.1 (fun q hq hs => ?_), AK_mv (by decide +kernel) f2 (AK_mv (by decide +kernel) f1 hw.2.2.1.2)⟩, EZ_mv (by decide +kernel) f2 (EZ_mv (by decide +kernel) f1 hw.2.2.2.1), RS_mv (by decide +kernel) f2 (RS_mv (by decide +kernel) f1 hw.2.2.2.2)⟩
      obtain ⟨i, hi, rfl⟩ := nq_sh hq hs
      have b1 : sy_r w2 8 i = sy_r w1 8 i := fr_no k2 ⟨Or.inl (by decide), trivial⟩
      show sy_r w2 8 i = sy_r w2 95 (74 + i)
      by_cases e : i = i2
      · subst e
        rw [b1, v1, v2]
      · have b2 : sy_r w1 8 i = sy_r w 8 i := fr_no k1 ⟨Or.inr (by omega), trivial⟩
        have b3 : sy_r w2 95 (74 + i) = sy_r w1 95 (74 + i) := fr_no k2 ⟨Or.inr (by omega), trivial⟩
        have b4 : sy_r w1 95 (74 + i) = sy_r w 95 (74 + i) := fr_no k1 ⟨Or.inl (by decide), trivial⟩
        rw [b1, b2, b3, b4]
        exact hw.2.2.1.1 _ (nq_shm i hi)
theorem pe_land {n : Nat} {a b c : Int32} : pr_E n 23 166 [.int a, .int b, .int c] := fun w hw => by
  obtain ⟨x1, w1, x2, w2, g1, g2, h1, h0, f1, f2⟩ := p0_land (n := n) (a := a) (b := b) (c := c) w hw.1
  obtain ⟨rc, e1, p1⟩ := ld_gen (M := pm_23) (r0 := 5) ldc_1 ldc_2 rfl a b c hw.1.1
  have q1 := ru_det g1 (ru_of (k := 299) (M := pm_23) rfl (by rw [Bool.and_eq_true]; exact ⟨rfl, sq_rcv hw.1.1 rfl rfl rfl⟩) e1)
  subst q1
  obtain ⟨rm, e2, p2⟩ := ld_gen (M := pm_166) (r0 := 94) ldm_1 ldm_2 rfl a b c h1.1
  have q2 := ru_det g2 (ru_of (k := 299) (M := pm_166) rfl (by rw [Bool.and_eq_true]; exact ⟨rfl, sq_rcv h1.1 rfl rfl rfl⟩) e2)
  subst q2
  rcases p1 with ⟨n1, ⟨y1, c3, c4⟩, k1⟩ | ⟨i1, l1, z1, ⟨y1, c3, c4⟩, k1, v1⟩
  · rcases p2 with ⟨_, ⟨y2, m3, m4⟩, k2⟩ | ⟨i2, l2, z2, _⟩
    · have c3 : some (Value.int x1) = some (Value.int y1) := c3
      have m3 : some (Value.int x2) = some (Value.int y2) := m3
      cases c3
      cases m3
      have e12 : x1 = x2 := Int32.toInt_inj.mp (c4.trans m4.symm)
      subst e12
      have k1 : sx_Fr [(93, 0, 100000)] w w1 := k1
      have k2 : sx_Fr [(97, 0, 5)] w1 w2 := k2
      exact ⟨x1, w1, w2, g1, g2, h0, SH_mv (by decide +kernel) k2 (SH_mv (by decide +kernel) k1 hw.2.1), AA_mv (by decide +kernel) k2 (AA_mv (by decide +kernel) k1 hw.2.2)⟩
    · exact absurd (by omega) n1
  · rcases p2 with ⟨n2, _⟩ | ⟨i2, l2, z2, ⟨y2, m3, m4⟩, k2, v2⟩
    · exact absurd (by omega) n2
    · have ei : i2 = i1 := by omega
      subst ei
      have c3 : some (Value.int x1) = some (Value.int y1) := c3
      have m3 : some (Value.int x2) = some (Value.int y2) := m3
      cases c3
      cases m3
      have k1 : sx_Fr [(93, 0, 100000), (9, (i2 : Int), (i2 : Int)), (10, (i2 : Int), (i2 : Int))] w w1 := k1
      have k2 : sx_Fr [(97, 0, 5), (95, 138 + 6 * (i2 : Int), 139 + 6 * (i2 : Int))] w1 w2 := k2
      have v1 : sy_r w1 9 i2 = ld_Y b.toInt c.toInt (sy_r w 9 i2) := v1
      have v2 : sy_r w2 95 (138 + 6 * i2) = ld_Y b.toInt c.toInt (sy_r w1 95 (138 + 6 * i2)) := v2
      have a0 : sy_r w 9 i2 = sy_r w 95 (138 + 6 * i2) := hw.2.2.1.1 _ (nq_9m i2 l1)
      have a1 : sy_r w1 95 (138 + 6 * i2) = sy_r w 95 (138 + 6 * i2) := fr_no k1 ⟨Or.inl (by decide), Or.inl (by decide), Or.inl (by decide), trivial⟩
      have e12 : x1 = x2 := Int32.toInt_inj.mp (by rw [c4, m4, a1, a0])
      subst e12
      refine ⟨x1, w1, w2, g1, g2, h0, SH_mv (by decide +kernel) f2 (SH_mv (by decide +kernel) f1 hw.2.1), ⟨AN_mv (fun q => Nat.beq q.1 9) (by decide +kernel) (sx_Fr_app f1 f2) hw.2.2.1.1 (fun q hq hs => ?_), AK_mv (by decide +kernel) f2 (AK_mv (by decide +kernel) f1 hw.2.2.1.2)⟩, EZ_mv (by decide +kernel) f2 (EZ_mv (by decide +kernel) f1 hw.2.2.2.1), RS_mv (by decide +kernel) f2 (RS_mv (by decide +kernel) f1 hw.2.2.2.2)⟩
      obtain ⟨i, hi, rfl⟩ := nq_9 hq hs
      have b1 : sy_r w2 9 i = sy_r w1 9 i := fr_no k2 ⟨Or.inl (by decide), Or.inl (by decide), trivial⟩
      show sy_r w2 9 i = sy_r w2 95 (138 + 6 * i)
      by_cases e : i = i2
      · subst e
        rw [b1, v1, v2, a1, a0]
      · have b2 : sy_r w1 9 i = sy_r w 9 i := fr_no k1 ⟨Or.inl (by decide), Or.inr (by omega), Or.inl (by decide), trivial⟩
        have b3 : sy_r w2 95 (138 + 6 * i) = sy_r w1 95 (138 + 6 * i) := fr_no k2 ⟨Or.inl (by decide), Or.inr (by omega), trivial⟩
        have b4 : sy_r w1 95 (138 + 6 * i) = sy_r w 95 (138 + 6 * i) := fr_no k1 ⟨Or.inl (by decide), Or.inl (by decide), Or.inl (by decide), trivial⟩
        rw [b1, b2, b3, b4]
        exact hw.2.2.1.1 _ (nq_9m i hi)
theorem pe_as {n : Nat} {a b : Int32} : pr_E n 35 176 [.int a, .int b] := fun w hw => by
  obtain ⟨x1, w1, x2, w2, g1, g2, h1, h0, f1, f2⟩ := p0_as (n := n) (a := a) (b := b) w hw.1
  have pn : sy_r w 15 4 = sy_r w 95 3 := hw.2.2.1.1 (15, 4, 3) (nq_in2 List.mem_cons_self)
  have hy := (mo_yT hw.1.1 (Or.inl rfl)).2.1
  have hy1 := (mo_yT h1.1 (Or.inl rfl)).2.1
  have ak : ∀ p, p < 12 → sy_r w 19 p = sy_r w 95 (266 + 3 * p) := fun p hp => hw.2.2.1.1 _ (nq_19m p hp)
  have aw : ∀ p, p < 12 → sy_r w 21 p = sy_r w 95 (268 + 3 * p) := fun p hp => hw.2.2.1.1 _ (nq_21m p hp)
  obtain ⟨rc, e1, _, y1, c3, c4⟩ := as_gen (M := pm_35) (r0 := 5) asc_f asc_k rfl (fun p => p) (fun p => p) (fun v p h => by show 0 + (1 * v 0 + 0) = _; omega) (fun v p h => by show 0 + (1 * v 0 + 0) = _; omega) a b hw.1.1 (by show 0 ≤ sy_r w 15 4 ∧ sy_r w 15 4 ≤ 12; rw [pn]; exact hy) (fun p hp => by show 0 ≤ sy_r w 19 p ∧ sy_r w 19 p ≤ 5; rw [ak p hp]; exact (nq_pm hw.1.1 hp).1) (fun p hp => by show 0 ≤ sy_r w 21 p ∧ sy_r w 21 p ≤ 600; rw [aw p hp]; exact (nq_pm hw.1.1 hp).2)
  have q1 := ru_det g1 (ru_of (k := 299) (M := pm_35) rfl (by rw [Bool.and_eq_true]; exact ⟨rfl, sq_rcv hw.1.1 rfl rfl rfl⟩) e1)
  subst q1
  obtain ⟨rm, e2, _, y2, m3, m4⟩ := as_gen (M := pm_176) (r0 := 94) asm_f asm_k rfl (fun p => 266 + 3 * p) (fun p => 268 + 3 * p) (fun v p h => by show 266 + (3 * v 0 + 0) = _; omega) (fun v p h => by show 268 + (3 * v 0 + 0) = _; omega) a b h1.1 hy1 (fun p hp => (nq_pm h1.1 hp).1) (fun p hp => (nq_pm h1.1 hp).2)
  have q2 := ru_det g2 (ru_of (k := 299) (M := pm_176) rfl (by rw [Bool.and_eq_true]; exact ⟨rfl, sq_rcv h1.1 rfl rfl rfl⟩) e2)
  subst q2
  have c3 : some (Value.int x1) = some (Value.int y1) := c3
  have m3 : some (Value.int x2) = some (Value.int y2) := m3
  cases c3
  cases m3
  have e95 := nb_c_ok (r := 95) (A := kk_c_as.md) (by decide +kernel) f1
  have c4 : x1.toInt = as_X a.toInt b.toInt (sy_r w 15 4) (sy_r w 19 a.toInt.toNat) (sy_r w 21 a.toInt.toNat) := c4
  have m4 : x2.toInt = as_X a.toInt b.toInt (sy_r w1 95 3) (sy_r w1 95 (266 + 3 * a.toInt.toNat)) (sy_r w1 95 (268 + 3 * a.toInt.toNat)) := m4
  have e12 : x1 = x2 := Int32.toInt_inj.mp (by
    rw [c4, m4, e95, pn]
    by_cases hA : a.toInt < 0 ∨ sy_r w 95 3 ≤ a.toInt ∨ b.toInt < 0 ∨ 5 < b.toInt
    · unfold as_X
      rw [if_pos hA, if_pos hA]
    · rw [ak _ (by omega), aw _ (by omega)])
  subst e12
  exact ⟨x1, w1, w2, g1, g2, h0, SH_mv (by decide +kernel) f2 (SH_mv (by decide +kernel) f1 hw.2.1), AA_mv (by decide +kernel) f2 (AA_mv (by decide +kernel) f1 hw.2.2)⟩
theorem pe_plane {n : Nat} {a b c : Int32} : pr_E n 31 174 [.int a, .int b, .int c] := fun w hw => by
  obtain ⟨x1, w1, x2, w2, g1, g2, h1, h0, f1, f2⟩ := p0_plane (n := n) (a := a) (b := b) (c := c) w hw.1
  have an : sy_r w 15 0 = sy_r w 95 2 := hw.2.2.1.1 (15, 0, 2) (nq_in1 (List.mem_cons_of_mem _ List.mem_cons_self))
  have pn : sy_r w 15 4 = sy_r w 95 3 := hw.2.2.1.1 (15, 4, 3) (nq_in2 List.mem_cons_self)
  have ae : ∀ i, i < 8 → sy_r w 17 i = sy_r w 95 (187 + 10 * i) := fun i hi => hw.2.2.1.1 _ (nq_17m i hi)
  have hy := mo_yT hw.1.1 (Or.inl rfl)
  have hy1 := mo_yT h1.1 (Or.inl rfl)
  have e95 := nb_c_ok (r := 95) (A := kk_c_plane.md) (by decide +kernel) f1
  obtain ⟨rc, e1, ⟨y1, c3, c4⟩, p1⟩ := tp_gen (P := tp_c) (M := pm_31) (r0 := 5) tpc_f1 tpc_f2 tpc_f3 tpc_f4 tpc_k rfl (fun i => i) (fun v i h => by show 0 + (1 * v 1 + 0) = _; omega) a b c hw.1.1 (by show 0 ≤ sy_r w 15 0 ∧ sy_r w 15 0 ≤ 8; rw [an]; exact hy.1) (by show 0 ≤ sy_r w 15 4 ∧ sy_r w 15 4 ≤ 12; rw [pn]; exact hy.2.1) (fun i hi => nq_em hw.1.1 hi)
  have q1 := ru_det g1 (ru_of (k := 299) (M := pm_31) rfl (by rw [Bool.and_eq_true]; exact ⟨rfl, sq_rcv hw.1.1 rfl rfl rfl⟩) e1)
  subst q1
  obtain ⟨rm, e2, ⟨y2, m3, m4⟩, p2⟩ := tp_gen (P := tp_m) (M := pm_174) (r0 := 94) tpm_f1 tpm_f2 tpm_f3 tpm_f4 tpm_k rfl (fun i => 187 + 10 * i) (fun v i h => by show 187 + (10 * v 1 + 0) = _; omega) a b c h1.1 hy1.1 hy1.2.1 (fun i hi => nq_em2 h1.1 hi)
  have q2 := ru_det g2 (ru_of (k := 299) (M := pm_174) rfl (by rw [Bool.and_eq_true]; exact ⟨rfl, sq_rcv h1.1 rfl rfl rfl⟩) e2)
  subst q2
  have c3 : some (Value.int x1) = some (Value.int y1) := c3
  have m3 : some (Value.int x2) = some (Value.int y2) := m3
  cases c3
  cases m3
  have c4 : x1.toInt = tp_X a.toInt b.toInt c.toInt (sy_r w 15 0) (sy_r w 17 b.toInt.toNat) (sy_r w 15 4) := c4
  have m4 : x2.toInt = tp_X a.toInt b.toInt c.toInt (sy_r w1 95 2) (sy_r w1 95 (187 + 10 * b.toInt.toNat)) (sy_r w1 95 3) := m4
  have e12 : x1 = x2 := Int32.toInt_inj.mp (by
    rw [c4, m4, e95, an, pn]
    by_cases hA : a.toInt < 0 ∨ 5 < a.toInt ∨ b.toInt < 0 ∨ sy_r w 95 2 ≤ b.toInt ∨ c.toInt < 1 ∨ 600 < c.toInt
    · unfold tp_X
      rw [if_pos hA, if_pos hA]
    · rw [ae _ (by have := hy.1; omega)])
  subst e12
  refine ⟨x1, w1, w2, g1, g2, h0, SH_mv (by decide +kernel) f2 (SH_mv (by decide +kernel) f1 hw.2.1), ?_⟩
  have okk : tp_ok a.toInt b.toInt c.toInt (sy_r w 15 0) (sy_r w 17 b.toInt.toNat) (sy_r w 15 4) ↔ tp_ok a.toInt b.toInt c.toInt (sy_r w1 95 2) (sy_r w1 95 (187 + 10 * b.toInt.toNat)) (sy_r w1 95 3) := by
    rw [e95, an, pn]
    by_cases hb : b.toInt.toNat < 8
    · rw [ae _ hb]
    · have := hy.1
      exact ⟨fun h => absurd h.2.1.2 (by omega), fun h => absurd h.2.1.2 (by omega)⟩
  rcases p1 with ⟨n1, k1⟩ | ⟨p, hp, ep, k1, u1, u2, u3, u4, ok1⟩
  · rcases p2 with ⟨_, k2⟩ | ⟨q, _, _, _, _, _, _, _, ok2⟩
    · have k1 : sx_Fr [(93, 0, 100000)] w w1 := k1
      have k2 : sx_Fr [(97, 0, 5)] w1 w2 := k2
      exact AA_mv (by decide +kernel) k2 (AA_mv (by decide +kernel) k1 hw.2.2)
    · exact absurd (okk.mpr ok2) n1
  · rcases p2 with ⟨n2, _⟩ | ⟨q, hq, eq, k2, v1, v2, v3, v4, ok2⟩
    · exact absurd (okk.mp ok1) n2
    · have eq : sy_r w1 95 3 = (q : Int) := eq
      have ep : sy_r w 15 4 = (p : Int) := ep
      have epq : q = p := by
        rw [e95] at eq
        rw [pn] at ep
        omega
      subst epq
      have k1 : sx_Fr [(15, 4, 4), (19, (q : Int), (q : Int)), (20, (q : Int), (q : Int)), (21, (q : Int), (q : Int))] w w1 := k1
      have k2 : sx_Fr [(95, 3, 3), (95, 266 + 3 * (q : Int), 268 + 3 * (q : Int))] w1 w2 := k2
      have u1 : sy_r w1 15 4 = (q : Int) + 1 := u1
      have u2 : sy_r w1 19 q = a.toInt := u2
      have u3 : sy_r w1 20 q = b.toInt := u3
      have u4 : sy_r w1 21 q = c.toInt := u4
      have v1 : sy_r w2 95 3 = (q : Int) + 1 := v1
      have v2 : sy_r w2 95 (266 + 3 * q) = a.toInt := v2
      have v3 : sy_r w2 95 (267 + 3 * q) = b.toInt := v3
      have v4 : sy_r w2 95 (268 + 3 * q) = c.toInt := v4
      have w2c : ∀ r i, r ≠ 95 → sy_r w2 r i = sy_r w1 r i := fun r i hr => fr_no k2 ⟨Or.inl (fun h => hr h.symm), Or.inl (fun h => hr h.symm), trivial⟩
      refine ⟨⟨AN_mv (fun q => Nat.beq q.2.2 3 || Nat.beq q.1 19 || Nat.beq q.1 20 || Nat.beq q.1 21) (by decide +kernel) (sx_Fr_app f1 f2) hw.2.2.1.1 (fun z hz hs => ?_), AK_mv (by decide +kernel) f2 (AK_mv (by decide +kernel) f1 hw.2.2.1.2)⟩, EZ_mv (by decide +kernel) f2 (EZ_mv (by decide +kernel) f1 hw.2.2.2.1), RS_mv (by decide +kernel) f2 (RS_mv (by decide +kernel) f1 hw.2.2.2.2)⟩
      rw [Bool.or_eq_true, Bool.or_eq_true, Bool.or_eq_true] at hs
      rcases hs with ((hs | hs) | hs) | hs
      · rw [nq_one (r := 15) (i := 4) (j := 3) (by decide +kernel) hz hs]
        show sy_r w2 15 4 = sy_r w2 95 3
        rw [w2c 15 4 (by decide), u1, v1]
      · obtain ⟨i, hi, rfl⟩ := nq_19 hz hs
        show sy_r w2 19 i = sy_r w2 95 (266 + 3 * i)
        rw [w2c 19 i (by decide)]
        by_cases e : i = q
        · subst e
          rw [u2, v2]
        · have b2 : sy_r w1 19 i = sy_r w 19 i := fr_no k1 ⟨Or.inl (by decide), Or.inr (by omega), Or.inl (by decide), Or.inl (by decide), trivial⟩
          have b3 : sy_r w2 95 (266 + 3 * i) = sy_r w1 95 (266 + 3 * i) := fr_no k2 ⟨Or.inr (by omega), Or.inr (by omega), trivial⟩
          rw [b2, b3, e95]
          exact hw.2.2.1.1 _ (nq_19m i hi)
      · obtain ⟨i, hi, rfl⟩ := nq_20 hz hs
        show sy_r w2 20 i = sy_r w2 95 (267 + 3 * i)
        rw [w2c 20 i (by decide)]
        by_cases e : i = q
        · subst e
          rw [u3, v3]
        · have b2 : sy_r w1 20 i = sy_r w 20 i := fr_no k1 ⟨Or.inl (by decide), Or.inl (by decide), Or.inr (by omega), Or.inl (by decide), trivial⟩
          have b3 : sy_r w2 95 (267 + 3 * i) = sy_r w1 95 (267 + 3 * i) := fr_no k2 ⟨Or.inr (by omega), Or.inr (by omega), trivial⟩
          rw [b2, b3, e95]
          exact hw.2.2.1.1 _ (nq_20m i hi)
      · obtain ⟨i, hi, rfl⟩ := nq_21 hz hs
        show sy_r w2 21 i = sy_r w2 95 (268 + 3 * i)
        rw [w2c 21 i (by decide)]
        by_cases e : i = q
        · subst e
          rw [u4, v4]
        · have b2 : sy_r w1 21 i = sy_r w 21 i := fr_no k1 ⟨Or.inl (by decide), Or.inl (by decide), Or.inl (by decide), Or.inr (by omega), trivial⟩
          have b3 : sy_r w2 95 (268 + 3 * i) = sy_r w1 95 (268 + 3 * i) := fr_no k2 ⟨Or.inr (by omega), Or.inr (by omega), trivial⟩
          rw [b2, b3, e95]
          exact hw.2.2.1.1 _ (nq_21m i hi)
theorem pr_endx {n : Nat} {a : Int32} : pr_P n 56 194 [.int a] := fun w hw => by
  obtain ⟨x1, w1, x2, w2, g1, g2, h1, h0, f1, f2⟩ := p0_end (n := n) (a := a) w hw.1
  have an : sy_r w 15 0 = sy_r w 95 2 := hw.2.2.1.1 (15, 0, 2) (nq_in1 (List.mem_cons_of_mem _ List.mem_cons_self))
  have ae : ∀ i, i < 8 → sy_r w 17 i = sy_r w 95 (187 + 10 * i) := fun i hi => hw.2.2.1.1 _ (nq_17m i hi)
  have hy := mo_yT hw.1.1 (Or.inl rfl)
  have e95 := nb_c_ok (r := 95) (A := kk_c_end.md) (by decide +kernel) f1
  obtain ⟨rc, e1, z1⟩ := ec_gen a hw.1.1 (by rw [an]; exact hy.1) (fun i hi => nq_em hw.1.1 hi)
  have q1 := ru_det g1 (ru_of (k := 299) (M := pm_56) rfl (by rw [Bool.and_eq_true]; exact ⟨rfl, sq_rcv hw.1.1 rfl rfl rfl⟩) e1)
  subst q1
  obtain ⟨rm, e2, _, z2⟩ := kz_end (xa := a) h1.1 h1.2.1
  have q2 := ru_det g2 e2
  subst q2
  have z1 : ec_Z a.toInt w w1 := z1
  have z2 : en_Z a.toInt w1 w2 := z2
  have n2 : sy_r w2 95 2 = sy_r w1 95 2 := nb_1 (A := sx_MGe) (i := 2) (by decide +kernel) f2
  refine ⟨x1, w1, x2, w2, g1, g2, h0, SH_mv (by decide +kernel) f2 (SH_mv (by decide +kernel) f1 hw.2.1), ⟨AN_mv (fun q => Nat.beq q.1 17) (by decide +kernel) (sx_Fr_app f1 f2) hw.2.2.1.1 (fun q hq hs => ?_), AK_mv (by decide +kernel) f2 (AK_mv (by decide +kernel) f1 hw.2.2.1.2)⟩, fun b hb hn => ?_, RS_mv (by decide +kernel) f2 (RS_mv (by decide +kernel) f1 hw.2.2.2.2)⟩
  · obtain ⟨i, hi, rfl⟩ := nq_17 hq hs
    show sy_r w2 17 i = sy_r w2 95 (187 + 10 * i)
    have b1 : sy_r w2 17 i = sy_r w1 17 i := congrFun (nb_c_ok (r := 17) (A := sx_MGe) (by decide +kernel) f2) i
    rw [b1, z1 i hi, z2 i hi, e95, an, ae i hi]
  · rw [z2 b hb, e95]
    rw [n2, e95] at hn
    rw [if_neg (by omega)]
    exact hw.2.2.2.1 b hb hn
theorem pe_sheet {n : Nat} {a b c : Int32} : pr_E n 139 241 [.int a, .int b, .int c] := by
  intro w hw
  obtain ⟨⟨r1, w1⟩, g1, t1, ⟨x1, e1, v1⟩, q1⟩ := sh_gen shc_1 shc_2 shc_3 shc_4 shc_5 shc_6 (M := pm_139) rfl a b c hw.1.1
  have t1 : sx_Ty sx_T0 w1 := t1
  have e1 : r1 = some (.int x1) := e1
  subst e1
  obtain ⟨⟨r2, w2⟩, g2, t2, ⟨x2, e2, v2⟩, q2⟩ := sh_gen shm_1 shm_2 shm_3 shm_4 shm_5 shm_6 (M := pm_241) rfl a b c t1
  have t2 : sx_Ty sx_T0 w2 := t2
  have e2 : r2 = some (.int x2) := e2
  subst e2
  have e12 : x1 = x2 := Int32.toInt_inj.mp (by rw [v1, v2])
  subst e12
  refine ⟨x1, w1, w2, ru_of (k := 299) (M := pm_139) rfl (by rw [Bool.and_eq_true]; exact ⟨rfl, sq_rcv hw.1.1 rfl rfl rfl⟩) g1, ru_of (k := 299) (M := pm_241) rfl (by rw [Bool.and_eq_true]; exact ⟨rfl, sq_rcv t1 rfl rfl rfl⟩) g2, ?_⟩
  rcases q1 with ⟨n1, f1⟩ | ⟨y1, k, hk, ek, f1, a1, a2, a3⟩
  · rcases q2 with ⟨_, f2⟩ | ⟨y2, _⟩
    · have f1 : sx_Fr [(93, 0, 100000)] w w1 := f1
      have f2 : sx_Fr [(97, 0, 100000)] w1 w2 := f2
      exact WI_up ⟨W0_c (by decide +kernel) (W0_c (by decide +kernel) hw.1 t1 f1) t2 f2, SH_mv (by decide +kernel) f2 (SH_mv (by decide +kernel) f1 hw.2.1), AA_mv (by decide +kernel) f2 (AA_mv (by decide +kernel) f1 hw.2.2)⟩
    · exact absurd y2 n1
  · rcases q2 with ⟨n2, _⟩ | ⟨y2, k2, hk2, ek2, f2, b1, b2, b3⟩
    · exact absurd y1 n2
    · have ekk : k2 = k := by omega
      subst ekk
      have f1 : sx_Fr (sh_A2 90 92 91 k2) w w1 := f1
      have f2 : sx_Fr (sh_A2 98 99 100 k2) w1 w2 := f2
      have a1 : sy_r w1 90 k2 = b.toInt := a1
      have a3 : sy_r w1 92 k2 = if b.toInt = 0 then 0 else c.toInt := a3
      have b1 : sy_r w2 98 k2 = b.toInt := b1
      have b3 : sy_r w2 99 k2 = if b.toInt = 0 then 0 else c.toInt := b3
      have F1 : sx_Fr [(90, 0, 100000), (92, 0, 100000), (91, 0, 100000)] w w1 := fr_wk (A := sh_A2 90 92 91 k2) ⟨⟨0, 100000, by decide, by omega, by omega⟩, ⟨0, 100000, by decide, by omega, by omega⟩, ⟨0, 100000, by decide, by omega, by omega⟩, trivial⟩ f1
      have F2 : sx_Fr [(98, 0, 100000), (99, 0, 100000), (100, 0, 100000)] w1 w2 := fr_wk (A := sh_A2 98 99 100 k2) ⟨⟨0, 100000, by decide, by omega, by omega⟩, ⟨0, 100000, by decide, by omega, by omega⟩, ⟨0, 100000, by decide, by omega, by omega⟩, trivial⟩ f2
      have hX : sh_X a.toInt b.toInt c.toInt = 1 := y1
      have hbn : b.toInt ≠ 0 → 0 ≤ c.toInt ∧ c.toInt ≤ 24 := fun hb => by
        unfold sh_X at hX
        split at hX
        · exact absurd hX (by decide)
        · split at hX
          · exact absurd hX (by decide)
          · rename_i n3
            split at hX
            · exact absurd hX (by decide)
            · rename_i n4
              exact ⟨Int.not_lt.mp (fun q => n3 ⟨hb, q⟩), Int.not_lt.mp (fun q => n4 ⟨hb, q⟩)⟩
      obtain ⟨rz1, gz1, fz1, z1⟩ := sz_gen (M := pm_139) (r0 := 5) szc_0 szc_8 szc_16 szc_32 rfl a b c hk ek a2 hbn hw.1.1
      have d1 := go_det g1 gz1
      subst d1
      obtain ⟨rz2, gz2, fz2, z2⟩ := sz_gen (M := pm_241) (r0 := 94) szm_0 szm_8 szm_16 szm_32 rfl a b c hk ek a2 hbn t1
      have d2 := go_det g2 gz2
      subst d2
      have fz1 : sx_Fr [(90, (k2 : Int), (k2 : Int)), (92, (k2 : Int), (k2 : Int)), (91, ((24 * k2 : Nat) : Int), ((24 * k2 + 23 : Nat) : Int))] w w1 := fz1
      have fz2 : sx_Fr [(98, (k2 : Int), (k2 : Int)), (99, (k2 : Int), (k2 : Int)), (100, ((24 * k2 : Nat) : Int), ((24 * k2 + 23 : Nat) : Int))] w1 w2 := fz2
      have z1 : ∀ t, t < 24 → sy_r w1 91 (24 * k2 + t) = 0 := z1
      have z2 : ∀ t, t < 24 → sy_r w2 100 (24 * k2 + t) = 0 := z2
      have hsn : SN w2 := fun t ht => by
        have e1 : sy_r w2 91 t = sy_r w1 91 t := fr_no F2 ⟨Or.inl (by decide), Or.inl (by decide), Or.inl (by decide), trivial⟩
        have e2 : sy_r w1 100 t = sy_r w 100 t := fr_no F1 ⟨Or.inl (by decide), Or.inl (by decide), Or.inl (by decide), trivial⟩
        rw [e1]
        by_cases c : 24 * k2 ≤ t ∧ t < 24 * k2 + 24
        · have h1 := z1 (t - 24 * k2) (by omega)
          have h2 := z2 (t - 24 * k2) (by omega)
          rw [show 24 * k2 + (t - 24 * k2) = t by omega] at h1 h2
          rw [h1, h2]
        · rw [fr_no fz1 ⟨Or.inl (by decide), Or.inl (by decide), Or.inr (by omega), trivial⟩, fr_no fz2 ⟨Or.inl (by decide), Or.inl (by decide), Or.inr (by omega), trivial⟩, e2]
          exact hw.2.2.2.2.2.1 t ht
      refine WI_up ⟨W0_c (by decide +kernel) (W0_c (by decide +kernel) hw.1 t1 F1) t2 F2, fun s hs => ?_, AB_mv (by decide +kernel) (sx_Fr_app F1 F2) hw.2.2 hsn⟩
      have u1 : sy_r w2 90 s = sy_r w1 90 s := fr_no F2 ⟨Or.inl (by decide), Or.inl (by decide), Or.inl (by decide), trivial⟩
      have u2 : sy_r w2 92 s = sy_r w1 92 s := fr_no F2 ⟨Or.inl (by decide), Or.inl (by decide), Or.inl (by decide), trivial⟩
      rw [u1, u2]
      by_cases e : s = k2
      · subst e
        rw [a1, a3, b1, b3]
        exact ⟨rfl, rfl, a2⟩
      · have z1 : sy_r w1 90 s = sy_r w 90 s := fr_no f1 ⟨Or.inr (by omega), Or.inl (by decide), Or.inl (by decide), trivial⟩
        have z2 : sy_r w1 92 s = sy_r w 92 s := fr_no f1 ⟨Or.inl (by decide), Or.inr (by omega), Or.inl (by decide), trivial⟩
        have z3 : sy_r w2 98 s = sy_r w1 98 s := fr_no f2 ⟨Or.inr (by omega), Or.inl (by decide), Or.inl (by decide), trivial⟩
        have z4 : sy_r w2 99 s = sy_r w1 99 s := fr_no f2 ⟨Or.inl (by decide), Or.inr (by omega), Or.inl (by decide), trivial⟩
        have z5 : sy_r w1 98 s = sy_r w 98 s := fr_no F1 ⟨Or.inl (by decide), Or.inl (by decide), Or.inl (by decide), trivial⟩
        have z6 : sy_r w1 99 s = sy_r w 99 s := fr_no F1 ⟨Or.inl (by decide), Or.inl (by decide), Or.inl (by decide), trivial⟩
        rw [z1, z2, z3, z4, z5, z6]
        exact hw.2.1 s hs
theorem pe_put {n : Nat} {a b c : Int32} : pr_E n 142 243 [.int a, .int b, .int c] := by
  intro w hw
  obtain ⟨⟨r1, w1⟩, g1, t1, ⟨x1, e1, v1⟩, f1⟩ := pu_gen puc_1 puc_2 puc_3 (M := pm_142) rfl (Or.inl rfl) a b c hw.1.1 (fun s hs => by rw [(hw.2.1 s hs).1]; exact (hw.2.1 s hs).2.2)
  have t1 : sx_Ty sx_T0 w1 := t1
  have e1 : r1 = some (.int x1) := e1
  subst e1
  have f1 : sx_Fr [(93, 0, 100000), (91, 0, 100000)] w w1 := f1
  have h1 : W0 n w1 ∧ SH w1 := ⟨W0_c (by decide +kernel) hw.1 t1 f1, SH_mv (by decide +kernel) f1 hw.2.1⟩
  obtain ⟨⟨r2, w2⟩, g2, t2, ⟨x2, e2, v2⟩, f2⟩ := pu_gen pum_1 pum_2 pum_3 (M := pm_243) rfl (Or.inr rfl) a b c t1 (fun s hs => (h1.2 s hs).2.2)
  have t2 : sx_Ty sx_T0 w2 := t2
  have e2 : r2 = some (.int x2) := e2
  subst e2
  have f2 : sx_Fr [(97, 0, 100000), (100, 0, 100000)] w1 w2 := f2
  have c90 : ∀ i, sy_r w1 90 i = sy_r w 90 i := fun i => fr_no f1 ⟨Or.inl (by decide), Or.inl (by decide), trivial⟩
  have c92 : ∀ i, sy_r w1 92 i = sy_r w 92 i := fun i => fr_no f1 ⟨Or.inl (by decide), Or.inl (by decide), trivial⟩
  have e12 : x1 = x2 := Int32.toInt_inj.mp (by
    rw [v1, v2]
    by_cases hA : a.toInt < 0 ∨ 3 < a.toInt
    · unfold pu_X
      rw [if_pos hA, if_pos hA]
    · have hk : a.toInt.toNat < 4 := by omega
      rw [← c90, ← c92, (h1.2 _ hk).1, (h1.2 _ hk).2.1])
  subst e12
  obtain ⟨rz1, gz1, p1⟩ := pn_gen (M := pm_142) (r0 := 5) pnc_f1 pnc_f2 pnc_f3 pnc_8 pnc_16 pnc_32 rfl a b c hw.1.1 (fun s hs => by rw [(hw.2.1 s hs).1]; exact (hw.2.1 s hs).2.2) (fun s hs => sh_sz hw.1.1 (Or.inl rfl) hs)
  have d1 := go_det g1 gz1
  subst d1
  obtain ⟨rz2, gz2, p2⟩ := pn_gen (M := pm_243) (r0 := 94) pnm_f1 pnm_f2 pnm_f3 pnm_8 pnm_16 pnm_32 rfl a b c t1 (fun s hs => (h1.2 s hs).2.2) (fun s hs => sh_sz t1 (Or.inr rfl) hs)
  have d2 := go_det g2 gz2
  subst d2
  have hsn : SN w2 := fun t ht => by
    have e1 : ∀ t, sy_r w2 91 t = sy_r w1 91 t := fun t => fr_no f2 ⟨Or.inl (by decide), Or.inl (by decide), trivial⟩
    have e2 : ∀ t, sy_r w1 100 t = sy_r w 100 t := fun t => fr_no f1 ⟨Or.inl (by decide), Or.inl (by decide), trivial⟩
    have c98 : ∀ t, sy_r w1 98 t = sy_r w 98 t := fun t => fr_no f1 ⟨Or.inl (by decide), Or.inl (by decide), trivial⟩
    have c99 : ∀ t, sy_r w1 99 t = sy_r w 99 t := fun t => fr_no f1 ⟨Or.inl (by decide), Or.inl (by decide), trivial⟩
    have same : pn_G a.toInt b.toInt (sy_r w 90 a.toInt.toNat) (sy_r w 92 a.toInt.toNat) ↔ pn_G a.toInt b.toInt (sy_r w1 98 a.toInt.toNat) (sy_r w1 99 a.toInt.toNat) := by
      rw [c98, c99]
      by_cases hA : a.toInt < 0 ∨ 3 < a.toInt
      · exact ⟨fun h => absurd hA h.1, fun h => absurd hA h.1⟩
      · have hk : a.toInt.toNat < 4 := by omega
        rw [(hw.2.1 _ hk).1, (hw.2.1 _ hk).2.1]
    rcases p1 with ⟨n1, k1⟩ | ⟨y1, k1, v1⟩
    · rcases p2 with ⟨_, k2⟩ | ⟨y2, _⟩
      · have k1 : sx_Fr [(93, 0, 100000)] w w1 := k1
        have k2 : sx_Fr [(97, 0, 5)] w1 w2 := k2
        rw [e1, fr_no k1 ⟨Or.inl (by decide), trivial⟩, fr_no k2 ⟨Or.inl (by decide), trivial⟩, e2]
        exact hw.2.2.2.2.2.1 t ht
      · exact absurd (same.mpr y2) n1
    · rcases p2 with ⟨n2, _⟩ | ⟨y2, k2, v2⟩
      · exact absurd (same.mp y1) n2
      · have k1 : sx_Fr [(91, ((24 * a.toInt.toNat + b.toInt.toNat : Nat) : Int), ((24 * a.toInt.toNat + b.toInt.toNat : Nat) : Int))] w w1 := k1
        have k2 : sx_Fr [(100, ((24 * a.toInt.toNat + b.toInt.toNat : Nat) : Int), ((24 * a.toInt.toNat + b.toInt.toNat : Nat) : Int))] w1 w2 := k2
        have v1 : sy_r w1 91 (24 * a.toInt.toNat + b.toInt.toNat) = pn_V (sy_r w 90 a.toInt.toNat) c.toInt := v1
        have v2 : sy_r w2 100 (24 * a.toInt.toNat + b.toInt.toNat) = pn_V (sy_r w1 98 a.toInt.toNat) c.toInt := v2
        have hk : a.toInt.toNat < 4 := by have := y1.1; omega
        rw [e1]
        by_cases e : t = 24 * a.toInt.toNat + b.toInt.toNat
        · rw [e, v1, v2, c98, (hw.2.1 _ hk).1]
        · rw [fr_no k1 ⟨Or.inr (by omega), trivial⟩, fr_no k2 ⟨Or.inr (by omega), trivial⟩, e2]
          exact hw.2.2.2.2.2.1 t ht
  exact ⟨x1, w1, w2, ru_of (k := 299) (M := pm_142) rfl (by rw [Bool.and_eq_true]; exact ⟨rfl, sq_rcv hw.1.1 rfl rfl rfl⟩) g1, ru_of (k := 299) (M := pm_243) rfl (by rw [Bool.and_eq_true]; exact ⟨rfl, sq_rcv t1 rfl rfl rfl⟩) g2, WI_up ⟨W0_c (by decide +kernel) h1.1 t2 f2, SH_mv (by decide +kernel) f2 h1.2, AB_mv (by decide +kernel) (sx_Fr_app f1 f2) hw.2.2 hsn⟩⟩
theorem pe_move {n : Nat} {a b c d e : Int32} : pr_E n 145 244 [.int a, .int b, .int c, .int d, .int e] := by
  intro w hw
  obtain ⟨⟨r1, w1⟩, g1, t1, ⟨x1, e1, v1⟩, f1⟩ := mv_gen mvc_1 mvc_2 mvc_3 mvc_4 mvc_5 mvc_6 mvc_7 (M := pm_145) rfl (Or.inl rfl) a b c d e hw.1.1 (fun s hs => by rw [(hw.2.1 s hs).1]; exact (hw.2.1 s hs).2.2)
  have t1 : sx_Ty sx_T0 w1 := t1
  have e1 : r1 = some (.int x1) := e1
  subst e1
  have f1 : sx_Fr [(93, 0, 100000), (91, 0, 100000), (93, 0, 100000)] w w1 := f1
  have h1 : W0 n w1 ∧ SH w1 := ⟨W0_c (by decide +kernel) hw.1 t1 f1, SH_mv (by decide +kernel) f1 hw.2.1⟩
  obtain ⟨⟨r2, w2⟩, g2, t2, ⟨x2, e2, v2⟩, f2⟩ := mv_gen mvm_1 mvm_2 mvm_3 mvm_4 mvm_5 mvm_6 mvm_7 (M := pm_244) rfl (Or.inr rfl) a b c d e t1 (fun s hs => (h1.2 s hs).2.2)
  have t2 : sx_Ty sx_T0 w2 := t2
  have e2 : r2 = some (.int x2) := e2
  subst e2
  have f2 : sx_Fr [(97, 0, 100000), (100, 0, 100000), (113, 0, 100000)] w1 w2 := f2
  have c90 : ∀ i, sy_r w1 90 i = sy_r w 90 i := fun i => fr_no f1 ⟨Or.inl (by decide), Or.inl (by decide), Or.inl (by decide), trivial⟩
  have c92 : ∀ i, sy_r w1 92 i = sy_r w 92 i := fun i => fr_no f1 ⟨Or.inl (by decide), Or.inl (by decide), Or.inl (by decide), trivial⟩
  have e12 : x1 = x2 := Int32.toInt_inj.mp (by
    rw [v1, v2]
    by_cases hA : (a.toInt < 0 ∨ 3 < a.toInt) ∨ (c.toInt < 0 ∨ 3 < c.toInt)
    · unfold mv_X
      rw [if_pos hA, if_pos hA]
    · have hk : a.toInt.toNat < 4 := by omega
      have hk2 : c.toInt.toNat < 4 := by omega
      rw [← c90 a.toInt.toNat, ← c92 a.toInt.toNat, ← c90 c.toInt.toNat, ← c92 c.toInt.toNat, (h1.2 _ hk).1, (h1.2 _ hk).2.1, (h1.2 _ hk2).1, (h1.2 _ hk2).2.1])
  subst e12
  have hs92 : ∀ s, s < 4 → 0 ≤ sy_r w 92 s ∧ sy_r w 92 s ≤ 24 := fun s hs => sh_sz hw.1.1 (Or.inl rfl) hs
  have hs99 : ∀ s, s < 4 → 0 ≤ sy_r w1 99 s ∧ sy_r w1 99 s ≤ 24 := fun s hs => sh_sz t1 (Or.inr rfl) hs
  have c98 : ∀ t, sy_r w1 98 t = sy_r w 98 t := fun t => fr_no f1 ⟨Or.inl (by decide), Or.inl (by decide), Or.inl (by decide), trivial⟩
  have c99 : ∀ t, sy_r w1 99 t = sy_r w 99 t := fun t => fr_no f1 ⟨Or.inl (by decide), Or.inl (by decide), Or.inl (by decide), trivial⟩
  have same : mv_OK a.toInt c.toInt b.toInt d.toInt e.toInt (sy_r w 90 a.toInt.toNat) (sy_r w 90 c.toInt.toNat) (sy_r w 92 a.toInt.toNat) (sy_r w 92 c.toInt.toNat) ↔ mv_OK a.toInt c.toInt b.toInt d.toInt e.toInt (sy_r w1 98 a.toInt.toNat) (sy_r w1 98 c.toInt.toNat) (sy_r w1 99 a.toInt.toNat) (sy_r w1 99 c.toInt.toNat) := by
    rw [c98, c98, c99, c99]
    by_cases hA : (a.toInt < 0 ∨ 3 < a.toInt) ∨ (c.toInt < 0 ∨ 3 < c.toInt)
    · exact ⟨fun h => absurd hA h.1, fun h => absurd hA h.1⟩
    · have hk : a.toInt.toNat < 4 := by omega
      have hk2 : c.toInt.toNat < 4 := by omega
      rw [(hw.2.1 _ hk).1, (hw.2.1 _ hk).2.1, (hw.2.1 _ hk2).1, (hw.2.1 _ hk2).2.1]
  have hsn : SN w2 := by
    by_cases ok : mv_OK a.toInt c.toInt b.toInt d.toInt e.toInt (sy_r w 90 a.toInt.toNat) (sy_r w 90 c.toInt.toNat) (sy_r w 92 a.toInt.toNat) (sy_r w 92 c.toInt.toNat)
    · have ok2 := same.mp ok
      have o1 := ok.1
      have o3 := ok.2.2.2
      have hk : a.toInt.toNat < 4 := by omega
      have hk2 : c.toInt.toNat < 4 := by omega
      have wd1 := (hw.2.1 _ hk).2.2
      rw [← (hw.2.1 _ hk).1] at wd1
      have w1b : 1 ≤ sy_r w 90 a.toInt.toNat ∧ sy_r w 90 a.toInt.toNat ≤ 32 := by
        rcases wd1 with h | h | h | h
        · exact absurd (Or.inl h) ok.2.1
        · omega
        · omega
        · omega
      obtain ⟨rz1, gz1, z1⟩ := mnc_gen (xa := a) (xi := b) (xo := c) (xj := d) (xn := e) (a := a.toInt.toNat) (i := b.toInt.toNat) (o := c.toInt.toNat) (j := d.toInt.toNat) (n := e.toInt.toNat) (by omega) (by omega) (by omega) (by omega) (by omega) hw.1.1 ⟨hk, hk2, ok.2.2.1, w1b, ⟨by omega, (hs92 _ hk).2⟩, by omega, (hs92 _ hk2).2⟩
      have d1 := go_det g1 gz1
      subst d1
      have o4 := ok2.2.2.2
      obtain ⟨rz2, gz2, z2⟩ := mnm_gen (xa := a) (xi := b) (xo := c) (xj := d) (xn := e) (a := a.toInt.toNat) (i := b.toInt.toNat) (o := c.toInt.toNat) (j := d.toInt.toNat) (n := e.toInt.toNat) (by omega) (by omega) (by omega) (by omega) (by omega) t1 ⟨hk, hk2, ok2.2.2.1, by rw [c98, ← (hw.2.1 _ hk).1]; exact w1b, ⟨(show ((b.toInt.toNat : Nat) : Int) + (e.toInt.toNat : Nat) ≤ sy_r w1 99 a.toInt.toNat by omega), (hs99 _ hk).2⟩, (show ((d.toInt.toNat : Nat) : Int) + (e.toInt.toNat : Nat) ≤ sy_r w1 99 c.toInt.toNat by omega), (hs99 _ hk2).2⟩
      have d2 := go_det g2 gz2
      subst d2
      have z1 : ∀ t, t < 96 → sy_r w1 91 t = mn_N (sy_r w 91) a.toInt.toNat b.toInt.toNat c.toInt.toNat d.toInt.toNat e.toInt.toNat t := z1
      have z2 : ∀ t, t < 96 → sy_r w2 100 t = mn_N (sy_r w1 100) a.toInt.toNat b.toInt.toNat c.toInt.toNat d.toInt.toNat e.toInt.toNat t := z2
      intro t ht
      have e1 : sy_r w2 91 t = sy_r w1 91 t := fr_no f2 ⟨Or.inl (by decide), Or.inl (by decide), Or.inl (by decide), trivial⟩
      have e2 : ∀ t, sy_r w1 100 t = sy_r w 100 t := fun t => fr_no f1 ⟨Or.inl (by decide), Or.inl (by decide), Or.inl (by decide), trivial⟩
      have s1 := (hs92 _ hk).2
      rw [e1, z1 t ht, z2 t ht]
      unfold mn_N
      by_cases cc : 24 * c.toInt.toNat + d.toInt.toNat ≤ t ∧ t < 24 * c.toInt.toNat + d.toInt.toNat + e.toInt.toNat
      · rw [if_pos cc, if_pos cc, e2]
        exact hw.2.2.2.2.2.1 _ (by omega)
      · rw [if_neg cc, if_neg cc, e2]
        exact hw.2.2.2.2.2.1 t ht
    · obtain ⟨rz1, gz1, z1⟩ := mvf_gen (M := pm_145) (r0 := 5) mfc_1 mfc_2 mfc_3 mfc_4 mfc_5 mfc_f rfl a b c d e hw.1.1 (fun s hs => by rw [(hw.2.1 s hs).1]; exact (hw.2.1 s hs).2.2) hs92 ok
      have d1 := go_det g1 gz1
      subst d1
      obtain ⟨rz2, gz2, z2⟩ := mvf_gen (M := pm_244) (r0 := 94) mfm_1 mfm_2 mfm_3 mfm_4 mfm_5 mfm_f rfl a b c d e t1 (fun s hs => (h1.2 s hs).2.2) hs99 (fun h => ok (same.mpr h))
      have d2 := go_det g2 gz2
      subst d2
      have z1 : sx_Fr [(93, 0, 100000), (93, 0, 100000), (93, 0, 100000)] w w1 := z1
      have z2 : sx_Fr [(97, 0, 100000), (97, 0, 100000), (97, 0, 100000)] w1 w2 := z2
      exact SN_mv (by decide +kernel) z2 (SN_mv (by decide +kernel) z1 hw.2.2.2.2.2.1)
  exact ⟨x1, w1, w2, ru_of (k := 299) (M := pm_145) rfl (by rw [Bool.and_eq_true]; exact ⟨rfl, sq_rcv hw.1.1 rfl rfl rfl⟩) g1, ru_of (k := 299) (M := pm_244) rfl (by rw [Bool.and_eq_true]; exact ⟨rfl, sq_rcv t1 rfl rfl rfl⟩) g2, WI_up ⟨W0_c (by decide +kernel) h1.1 t2 f2, SH_mv (by decide +kernel) f2 h1.2, AB_mv (by decide +kernel) (sx_Fr_app f1 f2) hw.2.2 hsn⟩⟩
theorem nq_7 {q : Nat × Nat × Nat} (hq : q ∈ nq_M) (hs : Nat.beq q.1 7 = true) : ∃ i, i < 64 ∧ q = (7, i, 10 + 1 * i) := nq_fam (k := 0) (by decide +kernel) hq hs
theorem nq_7m : ∀ i, i < 64 → ((7, i, 10 + i) : Nat × Nat × Nat) ∈ nq_M := fun i hi => nq_in3 (List.mem_map.mpr ⟨i, List.mem_range.mpr hi, rfl⟩)
theorem pe_cell {n : Nat} {a b : Int32} : pr_E n 12 159 [.int a, .int b] := fun w hw => by
  obtain ⟨x1, w1, x2, w2, g1, g2, h1, h0, f1, f2⟩ := p0_cell (n := n) (a := a) (b := b) w hw.1
  obtain ⟨rc, e1, p1⟩ := cl_gen (M := pm_12) (r0 := 5) (b := 0) clc_1 clc_2 rfl a b hw.1.1
  have q1 := ru_det g1 (ru_of (k := 299) (M := pm_12) rfl (by rw [Bool.and_eq_true]; exact ⟨rfl, sq_rcv hw.1.1 rfl rfl rfl⟩) e1)
  subst q1
  obtain ⟨rm, e2, p2⟩ := cl_gen (M := pm_159) (r0 := 94) (b := 10) clm_1 clm_2 rfl a b h1.1
  have q2 := ru_det g2 (ru_of (k := 299) (M := pm_159) rfl (by rw [Bool.and_eq_true]; exact ⟨rfl, sq_rcv h1.1 rfl rfl rfl⟩) e2)
  subst q2
  rcases p1 with ⟨n1, ⟨y1, c3, c4⟩, k1⟩ | ⟨i1, l1, z1, ⟨y1, c3, c4⟩, k1, v1⟩
  · rcases p2 with ⟨_, ⟨y2, m3, m4⟩, k2⟩ | ⟨i2, l2, z2, _⟩
    · have c3 : some (Value.int x1) = some (Value.int y1) := c3
      have m3 : some (Value.int x2) = some (Value.int y2) := m3
      cases c3
      cases m3
      have e12 : x1 = x2 := Int32.toInt_inj.mp (c4.trans m4.symm)
      subst e12
      have k1 : sx_Fr [(93, 0, 100000)] w w1 := k1
      have k2 : sx_Fr [(97, 0, 100000)] w1 w2 := k2
      exact ⟨x1, w1, w2, g1, g2, h0, SH_mv (by decide +kernel) k2 (SH_mv (by decide +kernel) k1 hw.2.1), AA_mv (by decide +kernel) k2 (AA_mv (by decide +kernel) k1 hw.2.2)⟩
    · exact absurd (by omega) n1
  · rcases p2 with ⟨n2, _⟩ | ⟨i2, l2, z2, ⟨y2, m3, m4⟩, k2, v2⟩
    · exact absurd (by omega) n2
    · have ei : i2 = i1 := by omega
      subst ei
      have c3 : some (Value.int x1) = some (Value.int y1) := c3
      have m3 : some (Value.int x2) = some (Value.int y2) := m3
      cases c3
      cases m3
      rw [Nat.zero_add] at c4 v1
      have k1 : sx_Fr [(93, 0, 100000), (7, ((0 + i2 : Nat) : Int), ((0 + i2 : Nat) : Int))] w w1 := k1
      have k2 : sx_Fr [(97, 0, 100000), (95, ((10 + i2 : Nat) : Int), ((10 + i2 : Nat) : Int))] w1 w2 := k2
      have v1 : sy_r w1 7 i2 = cl_Y b.toInt (sy_r w 7 i2) := v1
      have v2 : sy_r w2 95 (10 + i2) = cl_Y b.toInt (sy_r w1 95 (10 + i2)) := v2
      have a0 : sy_r w 7 i2 = sy_r w 95 (10 + i2) := hw.2.2.1.1 _ (nq_7m i2 l1)
      have a1 : sy_r w1 95 (10 + i2) = sy_r w 95 (10 + i2) := fr_no k1 ⟨Or.inl (by decide), Or.inl (by decide), trivial⟩
      have e12 : x1 = x2 := Int32.toInt_inj.mp (by rw [c4, m4, a1, a0])
      subst e12
      refine ⟨x1, w1, w2, g1, g2, h0, SH_mv (by decide +kernel) f2 (SH_mv (by decide +kernel) f1 hw.2.1), ⟨AN_mv (fun q => Nat.beq q.1 7) (by decide +kernel) (sx_Fr_app f1 f2) hw.2.2.1.1 (fun q hq hs => ?_), AK_mv (by decide +kernel) f2 (AK_mv (by decide +kernel) f1 hw.2.2.1.2)⟩, EZ_mv (by decide +kernel) f2 (EZ_mv (by decide +kernel) f1 hw.2.2.2.1), RS_mv (by decide +kernel) f2 (RS_mv (by decide +kernel) f1 hw.2.2.2.2)⟩
      obtain ⟨i, hi, rfl⟩ := nq_7 hq hs
      have b1 : sy_r w2 7 i = sy_r w1 7 i := fr_no k2 ⟨Or.inl (by decide), Or.inl (by decide), trivial⟩
      show sy_r w2 7 i = sy_r w2 95 (10 + 1 * i)
      rw [Nat.one_mul]
      by_cases e : i = i2
      · subst e
        rw [b1, v1, v2, a1, a0]
      · have b2 : sy_r w1 7 i = sy_r w 7 i := fr_no k1 ⟨Or.inl (by decide), Or.inr (by omega), trivial⟩
        have b3 : sy_r w2 95 (10 + i) = sy_r w1 95 (10 + i) := fr_no k2 ⟨Or.inl (by decide), Or.inr (by omega), trivial⟩
        have b4 : sy_r w1 95 (10 + i) = sy_r w 95 (10 + i) := fr_no k1 ⟨Or.inl (by decide), Or.inl (by decide), trivial⟩
        rw [b1, b2, b3, b4]
        exact hw.2.2.1.1 _ (nq_7m i hi)
theorem bk_ok_c {N N2 : Nat → Int} {a n : Nat} (ha : a < 4) (hn : n ≤ 24) (h : ∀ k, k < 96 → N k = N2 k) : bk_ok N a n = bk_ok N2 a n := by
  cases h1 : bk_ok N a n with
  | true => exact (bk_ok_of (fun i hi => by rw [← h _ (by omega)]; exact bk_ok_at h1 hi)).symm
  | false =>
    cases h2 : bk_ok N2 a n with
    | false => rfl
    | true =>
      rw [bk_ok_of (N := N) (fun i hi => by rw [h _ (by omega)]; exact bk_ok_at h2 hi)] at h1
      cases h1
theorem pe_block {n : Nat} {a b : Int32} : pr_E n 17 163 [.int a, .int b] := fun w hw => by
  obtain ⟨x1, w1, x2, w2, g1, g2, h1, h0, f1, f2⟩ := p0_block (n := n) (a := a) (b := b) w hw.1
  obtain ⟨rc, e1, _, ⟨y1, c3, c4⟩, p1⟩ := bk_gen (M := pm_17) (r0 := 5) (cw := 90) (cs := 92) (cn := 91) (co := 7) (bo := 0) bkc_a bkc_c bkc_d bkc_e bkc_1 bkc_k bkc_2 bkc_3 bkc_4 rfl (by decide) a b hw.1.1 (fun s hs => by rw [(hw.2.1 s hs).1]; exact (hw.2.1 s hs).2.2) (fun s hs => sh_sz hw.1.1 (Or.inl rfl) hs)
  have q1 := ru_det g1 (ru_of (k := 299) (M := pm_17) rfl (by rw [Bool.and_eq_true]; exact ⟨rfl, sq_rcv hw.1.1 rfl rfl rfl⟩) e1)
  subst q1
  obtain ⟨rm, e2, _, ⟨y2, m3, m4⟩, p2⟩ := bk_gen (M := pm_163) (r0 := 94) (cw := 98) (cs := 99) (cn := 100) (co := 95) (bo := 10) bkm_a bkm_c bkm_d bkm_e bkm_1 bkm_k bkm_2 bkm_3 bkm_4 rfl (by decide) a b h1.1 (fun s hs => by
    rw [congrFun (nb_c_ok (r := 98) (A := kk_c_block.md) (by decide +kernel) f1) s]
    exact (hw.2.1 s hs).2.2) (fun s hs => sh_sz h1.1 (Or.inr rfl) hs)
  have q2 := ru_det g2 (ru_of (k := 299) (M := pm_163) rfl (by rw [Bool.and_eq_true]; exact ⟨rfl, sq_rcv h1.1 rfl rfl rfl⟩) e2)
  subst q2
  have c3 : some (Value.int x1) = some (Value.int y1) := c3
  have m3 : some (Value.int x2) = some (Value.int y2) := m3
  cases c3
  cases m3
  have c98 := nb_c_ok (r := 98) (A := kk_c_block.md) (by decide +kernel) f1
  have c99 := nb_c_ok (r := 99) (A := kk_c_block.md) (by decide +kernel) f1
  have c100 := nb_c_ok (r := 100) (A := kk_c_block.md) (by decide +kernel) f1
  have c95 := nb_c_ok (r := 95) (A := kk_c_block.md) (by decide +kernel) f1
  have hsz : ∀ s, s < 4 → 0 ≤ sy_r w 99 s ∧ sy_r w 99 s ≤ 24 := fun s hs => by rw [← c99]; exact sh_sz h1.1 (Or.inr rfl) hs
  rw [c98, c99, c100] at m4 p2
  have okk : ∀ s, s < 4 → bk_ok (sy_r w 91) s (sy_r w 99 s).toNat = bk_ok (sy_r w 100) s (sy_r w 99 s).toNat := fun s hs => bk_ok_c hs (by have := hsz s hs; omega) hw.2.2.2.2.2.1
  have e12 : x1 = x2 := Int32.toInt_inj.mp (by
    rw [c4, m4]
    by_cases hA : a.toInt < 0 ∨ 3 < a.toInt ∨ b.toInt < 0 ∨ 63 < b.toInt
    · unfold bk_X
      rw [if_pos hA, if_pos hA]
    · have hk : a.toInt.toNat < 4 := by omega
      unfold bk_X
      rw [(hw.2.1 _ hk).1, (hw.2.1 _ hk).2.1, okk _ hk])
  subst e12
  have same : bk_G a.toInt b.toInt (sy_r w 90 a.toInt.toNat) (sy_r w 92 a.toInt.toNat) (sy_r w 91) ↔ bk_G a.toInt b.toInt (sy_r w 98 a.toInt.toNat) (sy_r w 99 a.toInt.toNat) (sy_r w 100) := by
    by_cases hA : a.toInt < 0 ∨ 3 < a.toInt ∨ b.toInt < 0 ∨ 63 < b.toInt
    · exact ⟨fun h => absurd hA h.1, fun h => absurd hA h.1⟩
    · have hk : a.toInt.toNat < 4 := by omega
      unfold bk_G
      rw [(hw.2.1 _ hk).1, (hw.2.1 _ hk).2.1, okk _ hk]
  rcases p1 with ⟨n1, k1⟩ | ⟨y1, k1, v1⟩
  · rcases p2 with ⟨_, k2⟩ | ⟨y2, _⟩
    · have k1 : sx_Fr [(93, 0, 100000)] w w1 := k1
      have k2 : sx_Fr [(97, 0, 5)] w1 w2 := k2
      exact ⟨x1, w1, w2, g1, g2, h0, SH_mv (by decide +kernel) k2 (SH_mv (by decide +kernel) k1 hw.2.1), AA_mv (by decide +kernel) k2 (AA_mv (by decide +kernel) k1 hw.2.2)⟩
    · exact absurd (same.mpr y2) n1
  · rcases p2 with ⟨n2, _⟩ | ⟨y2, k2, v2⟩
    · exact absurd (same.mp y1) n2
    · have v1 : bk_O 91 7 0 a.toInt.toNat b.toInt.toNat (sy_r w 92 a.toInt.toNat).toNat w w1 := v1
      have v2 : bk_O 100 95 10 a.toInt.toNat b.toInt.toNat (sy_r w 99 a.toInt.toNat).toNat w1 w2 := v2
      have k2 : sx_Fr [(95, (10 : Int), (10 : Int) + 63)] w1 w2 := k2
      refine ⟨x1, w1, w2, g1, g2, h0, SH_mv (by decide +kernel) f2 (SH_mv (by decide +kernel) f1 hw.2.1), ⟨AN_mv (fun q => Nat.beq q.1 7) (by decide +kernel) (sx_Fr_app f1 f2) hw.2.2.1.1 (fun q hq hs => ?_), AK_mv (by decide +kernel) f2 (AK_mv (by decide +kernel) f1 hw.2.2.1.2)⟩, EZ_mv (by decide +kernel) f2 (EZ_mv (by decide +kernel) f1 hw.2.2.2.1), RS_mv (by decide +kernel) f2 (RS_mv (by decide +kernel) f1 hw.2.2.2.2)⟩
      obtain ⟨i, hi, rfl⟩ := nq_7 hq hs
      have hk : a.toInt.toNat < 4 := by have := y1.1; omega
      have hz := hsz _ hk
      have b1 : sy_r w2 7 i = sy_r w1 7 i := fr_no k2 ⟨Or.inl (by decide), trivial⟩
      show sy_r w2 7 i = sy_r w2 95 (10 + 1 * i)
      have u1 := v1 i hi
      rw [Nat.zero_add] at u1
      rw [Nat.one_mul, b1, u1, v2 i hi, (hw.2.1 _ hk).2.1, c100, c95]
      split
      · exact hw.2.2.2.2.2.1 _ (by omega)
      · exact hw.2.2.1.1 _ (nq_7m i hi)
theorem pe_voice {n : Nat} {a b c : Int32} : pr_E n 133 234 [.int a, .int b, .int c] := fun w hw => by
  obtain ⟨x1, w1, x2, w2, g1, g2, h1, h0, f1, f2⟩ := p0_voice (n := n) (a := a) (b := b) (c := c) w hw.1
  have pn : sy_r w 15 4 = sy_r w 95 3 := hw.2.2.1.1 (15, 4, 3) (nq_in2 List.mem_cons_self)
  have ak : ∀ p, p < 12 → sy_r w 19 p = sy_r w 95 (266 + 3 * p) := fun p hp => hw.2.2.1.1 _ (nq_19m p hp)
  have aw : ∀ p, p < 12 → sy_r w 21 p = sy_r w 95 (268 + 3 * p) := fun p hp => hw.2.2.1.1 _ (nq_21m p hp)
  have hy := (mo_yT hw.1.1 (Or.inl rfl)).2.1
  have e95 := nb_c_ok (r := 95) (A := kk_c_voice.md) (by decide +kernel) f1
  by_cases ok : vt_ok a.toInt b.toInt (sy_r w 15 4)
  · obtain ⟨o1, o2, o3, o4⟩ := ok
    obtain ⟨p, ep⟩ : ∃ p : Nat, a.toInt = (p : Int) := ⟨a.toInt.toNat, by omega⟩
    obtain ⟨q, eq⟩ : ∃ q : Nat, b.toInt = (q : Int) := ⟨b.toInt.toNat, by omega⟩
    have hp : p < 12 := by omega
    have rk := sy_rg (r := 19) hw.1.1 rfl (g := (0, 1, 12, 0, 0, 0, 5)) (by decide) (k := p) (j := 0) hp (Nat.le_refl _) (Nat.le_refl _) (by show 0 + 1 * p + 0 < 12; omega)
    have rw' := sy_rg (r := 21) hw.1.1 rfl (g := (0, 1, 12, 0, 0, 0, 600)) (by decide) (k := p) (j := 0) hp (Nat.le_refl _) (Nat.le_refl _) (by show 0 + 1 * p + 0 < 12; omega)
    have pp : 0 + 1 * p + 0 = p := by omega
    have rk : 0 ≤ sy_r w 19 (0 + 1 * p + 0) ∧ sy_r w 19 (0 + 1 * p + 0) ≤ 5 := rk
    have rw' : 0 ≤ sy_r w 21 (0 + 1 * p + 0) ∧ sy_r w 21 (0 + 1 * p + 0) ≤ 600 := rw'
    rw [pp] at rk rw'
    obtain ⟨k, ek⟩ : ∃ k : Nat, sy_r w 19 p = (k : Int) := ⟨(sy_r w 19 p).toNat, by omega⟩
    obtain ⟨W, _, eW⟩ := sy_at (r := 21) hw.1.1 rfl hp
    obtain ⟨v, l, he, hl⟩ := vo_fin (N := a) (W := W) (K := k) (k := k) (a := q) (by omega) (by omega) rfl c
    obtain ⟨⟨y1, v1⟩, e1, q1, q2, q3⟩ := vct_ok hp ep (by omega) (by omega) eq (by omega) ek (by omega) eW.symm (by omega) he hl hw.1.1
    have z1 := ru_det g1 (ru_of (k := 299) (M := pm_133) rfl (by rw [Bool.and_eq_true]; exact ⟨rfl, sq_rcv hw.1.1 rfl rfl rfl⟩) e1)
    obtain ⟨⟨y2, v2⟩, e2, m1, m2, m3⟩ := vmt_ok (w := w1) hp ep (by rw [e95, ← pn]; omega) (by rw [e95, ← pn]; omega) eq (by omega) (by rw [e95, ← ak p hp]; exact ek) (by omega) (by rw [e95, ← aw p hp]; exact eW.symm) he hl h1.1
    have z2 := ru_det g2 (ru_of (k := 299) (M := pm_234) rfl (by rw [Bool.and_eq_true]; exact ⟨rfl, sq_rcv h1.1 rfl rfl rfl⟩) e2)
    have q1 : y1 = some (.int v) := q1
    have m1 : y2 = some (.int v) := m1
    subst q1
    subst m1
    cases z1
    cases z2
    have n87 : sy_r w2 87 1 = sy_r w1 87 1 := fr_no f2 ⟨Or.inl (by decide), Or.inl (by decide), Or.inl (by decide), Or.inl (by decide), trivial⟩
    have n88 : ∀ i, sy_r w2 88 i = sy_r w1 88 i := fun i => fr_no f2 ⟨Or.inl (by decide), Or.inl (by decide), Or.inl (by decide), Or.inl (by decide), trivial⟩
    have q2 : sy_r w1 87 1 = (l.length : Int) := q2
    have m2 : sy_r w2 94 8 = (l.length : Int) := m2
    have tr : TR w2 := ⟨by rw [n87, q2, m2], fun i _ hi => by
      rw [m2] at hi
      have hi : i < l.length := by omega
      have z1 : sy_r w1 88 i = ((l.getD i 0 : Nat) : Int) := q3 i hi
      have z2 : sy_r w2 101 i = ((l.getD i 0 : Nat) : Int) := m3 i hi
      rw [n88, z1, z2]⟩
    exact ⟨_, w1, w2, g1, g2, h0, SH_mv (by decide +kernel) f2 (SH_mv (by decide +kernel) f1 hw.2.1), AT_mv (by decide +kernel) (sx_Fr_app f1 f2) hw.2.2 tr⟩
  · obtain ⟨⟨y1, v1⟩, e1, ⟨u1, q1, q2⟩, k1⟩ := vt_no vtc_f1 vtc_f2 vtc_f3 rfl a b c hw.1.1 (by omega) ok
    have z1 := ru_det g1 (ru_of (k := 299) (M := pm_133) rfl (by rw [Bool.and_eq_true]; exact ⟨rfl, sq_rcv hw.1.1 rfl rfl rfl⟩) e1)
    have ok2 : ¬ vt_ok a.toInt b.toInt (sy_r w1 95 3) := by rw [e95, ← pn]; exact ok
    obtain ⟨⟨y2, v2⟩, e2, ⟨u2, m1, m2⟩, k2⟩ := vt_no vtm_f1 vtm_f2 vtm_f3 rfl a b c h1.1 (by rw [e95]; exact hy) ok2
    have z2 := ru_det g2 (ru_of (k := 299) (M := pm_234) rfl (by rw [Bool.and_eq_true]; exact ⟨rfl, sq_rcv h1.1 rfl rfl rfl⟩) e2)
    have q1 : y1 = some (.int u1) := q1
    have m1 : y2 = some (.int u2) := m1
    subst q1
    subst m1
    cases z1
    cases z2
    have e12 : x1 = x2 := Int32.toInt_inj.mp (by rw [q2, m2])
    subst e12
    have k1 : sx_Fr [(93, 0, 100000)] w w1 := k1
    have k2 : sx_Fr [(97, 0, 100000)] w1 w2 := k2
    exact ⟨x1, w1, w2, g1, g2, h0, SH_mv (by decide +kernel) k2 (SH_mv (by decide +kernel) k1 hw.2.1), AA_mv (by decide +kernel) k2 (AA_mv (by decide +kernel) k1 hw.2.2)⟩
theorem pe_trace {n : Nat} {a : Int32} : pr_E n 138 240 [.int a] := fun w hw => by
  obtain ⟨x1, w1, x2, w2, g1, g2, h1, h0, f1, f2⟩ := p0_trace (n := n) (a := a) w hw.1
  obtain ⟨tc, te⟩ := hw.2.2.2.2.2.2.1
  obtain ⟨_, _, _, n1, n2⟩ := sq_fat (r := 87) (i := 1) (lo := 0) (hi := 40) hw.1.1 rfl rfl
  obtain ⟨⟨y1, v1⟩, e1, ⟨u1, q1, q2⟩, k1⟩ := tr_gen trc_f1 trc_f2 trc_f3 rfl a hw.1.1 ⟨n1, n2⟩
  have z1 := ru_det g1 (ru_of (k := 299) (M := pm_138) rfl (by rw [Bool.and_eq_true]; exact ⟨rfl, sq_rcv hw.1.1 rfl rfl rfl⟩) e1)
  have c8 : sy_r w1 94 8 = sy_r w 94 8 := fr_no f1 ⟨Or.inl (by decide), trivial⟩
  have c1 : ∀ i, sy_r w1 101 i = sy_r w 101 i := fun i => fr_no f1 ⟨Or.inl (by decide), trivial⟩
  obtain ⟨⟨y2, v2⟩, e2, ⟨u2, m1, m2⟩, k2⟩ := tr_gen trm_f1 trm_f2 trm_f3 rfl a h1.1 (by rw [c8, ← tc]; exact ⟨n1, n2⟩)
  have z2 := ru_det g2 (ru_of (k := 299) (M := pm_240) rfl (by rw [Bool.and_eq_true]; exact ⟨rfl, sq_rcv h1.1 rfl rfl rfl⟩) e2)
  have q1 : y1 = some (.int u1) := q1
  have m1 : y2 = some (.int u2) := m1
  subst q1
  subst m1
  cases z1
  cases z2
  have e12 : x1 = x2 := Int32.toInt_inj.mp (by
    rw [q2, m2, c8, c1, tc]
    unfold tr_X
    by_cases h : a.toInt < 0 ∨ sy_r w 94 8 ≤ a.toInt
    · rw [if_pos h, if_pos h]
    · rw [if_neg h, if_neg h]
      exact te _ (by omega) (by omega))
  subst e12
  exact ⟨x1, w1, w2, g1, g2, h0, SH_mv (by decide +kernel) f2 (SH_mv (by decide +kernel) f1 hw.2.1), AA_mv (by decide +kernel) f2 (AA_mv (by decide +kernel) f1 hw.2.2)⟩
theorem rk_congr {f g : Nat → Int} {sz lo : Int} (h : ∀ k, k < 12 → f k = g k) (hk : rk_ok f sz lo) : rk_ok g sz lo := by
  obtain ⟨h1, h2, h3, h4, h5⟩ := hk
  have e := h (sz.toNat - 1) (by omega)
  refine ⟨h1, h2, fun k hk => ?_, ?_, ?_⟩
  · rw [← h k (by omega)]
    exact h3 k hk
  · rw [← e]
    exact h4
  · rw [← e]
    exact gR_congr (fun i hi => h i (by omega)) h5
theorem pe_file {n : Nat} {a b : Int32} : pr_E n 82 208 [.int a, .int b] := fun w hw => by
  obtain ⟨x1, w1, x2, w2, g1, g2, h1, h0, f1, f2⟩ := p0_file (n := n) (a := a) (b := b) w hw.1
  have an : sy_r w 15 0 = sy_r w 95 2 := hw.2.2.1.1 (15, 0, 2) (nq_in1 (List.mem_cons_of_mem _ List.mem_cons_self))
  have pn : sy_r w 15 4 = sy_r w 95 3 := hw.2.2.1.1 (15, 4, 3) (nq_in2 List.mem_cons_self)
  have fn : sy_r w 29 0 = sy_r w 95 5 := hw.2.2.1.1 (29, 0, 5) (nq_in4 List.mem_cons_self)
  have ae : ∀ i, i < 8 → sy_r w 17 i = sy_r w 95 (187 + 10 * i) := fun i hi => hw.2.2.1.1 _ (nq_17m i hi)
  have al : ∀ p, p < 12 → sy_r w 20 p = sy_r w 95 (267 + 3 * p) := fun p hp => hw.2.2.1.1 _ (nq_20m p hp)
  have hy := mo_yT hw.1.1 (Or.inl rfl)
  have hy1 := mo_yT h1.1 (Or.inl rfl)
  have e95 := nb_c_ok (r := 95) (A := kk_c_file.md) (by decide +kernel) f1
  have e98 := nb_c_ok (r := 98) (A := kk_c_file.md) (by decide +kernel) f1
  have e99 := nb_c_ok (r := 99) (A := kk_c_file.md) (by decide +kernel) f1
  have e100 := nb_c_ok (r := 100) (A := kk_c_file.md) (by decide +kernel) f1
  have w90 : ∀ s, s < 4 → 0 ≤ sy_r w 90 s ∧ sy_r w 90 s ≤ 32 := fun s hs => by
    rw [(hw.2.1 s hs).1]
    rcases (hw.2.1 s hs).2.2 with h | h | h | h <;> omega
  have w98 : ∀ s, s < 4 → 0 ≤ sy_r w1 98 s ∧ sy_r w1 98 s ≤ 32 := fun s hs => by
    rw [e98, ← (hw.2.1 s hs).1]
    exact w90 s hs
  obtain ⟨row, hr⟩ : ∃ row : Bool, (row = true ↔ rk_ok (rc_row w b.toInt.toNat) (sy_r w 92 b.toInt.toNat) 0) := by
    by_cases h : rk_ok (rc_row w b.toInt.toNat) (sy_r w 92 b.toInt.toNat) 0
    · exact ⟨true, fun _ => h, fun _ => rfl⟩
    · exact ⟨false, fun h2 => absurd h2 (by decide), fun h2 => absurd h2 h⟩
  obtain ⟨row2, hr2⟩ : ∃ row : Bool, (row = true ↔ ir_ok w1 b.toInt.toNat 0) := by
    by_cases h : ir_ok w1 b.toInt.toNat 0
    · exact ⟨true, fun _ => h, fun _ => rfl⟩
    · exact ⟨false, fun h2 => absurd h2 (by decide), fun h2 => absurd h2 h⟩
  obtain ⟨⟨r1, v1⟩, e1, ⟨y1, c3, c4, c5⟩⟩ := fic_ok (xp := a) (xs := b) hw.1.1 (fun i hi h => by rw [ae i hi]; exact hw.2.2.2.1 i hi (by rw [← an]; exact h)) w90 (fun s hs => sh_sz hw.1.1 (Or.inl rfl) hs) rfl hr
  have z1 := ru_det g1 (ru_of (k := 299) (M := pm_82) rfl (by rw [Bool.and_eq_true]; exact ⟨rfl, sq_rcv hw.1.1 rfl rfl rfl⟩) e1)
  obtain ⟨⟨r2, v2⟩, e2, ⟨y2, m3, m4, m5⟩⟩ := fim_ok (w := w1) (xp := a) (xs := b) h1.1 (fun i hi h => by rw [e95] at h ⊢; exact hw.2.2.2.1 i hi h) w98 rfl hr2
  have z2 := ru_det g2 (ru_of (k := 299) (M := pm_208) rfl (by rw [Bool.and_eq_true]; exact ⟨rfl, sq_rcv h1.1 rfl rfl rfl⟩) e2)
  have c3 : r1 = some (.int y1) := c3
  have m3 : r2 = some (.int y2) := m3
  subst c3
  subst m3
  cases z1
  cases z2
  have c6 : sy_r w1 29 0 = _ := c5
  have m6 : sy_r w2 95 5 = _ := m5
  rw [e95, e98] at m4 m6
  -- what is asked ahead is the same
  have eE : fi_E a.toInt b.toInt (sy_r w 15 4) (sy_r w 90 b.toInt.toNat) (sy_r w 17 (sy_r w 20 a.toInt.toNat).toNat) = fi_E a.toInt b.toInt (sy_r w 95 3) (sy_r w 98 b.toInt.toNat) (sy_r w 95 (187 + 10 * (sy_r w 95 (267 + 3 * a.toInt.toNat)).toNat)) := by
    rw [pn]
    by_cases b0 : a.toInt < 0 ∨ sy_r w 95 3 ≤ a.toInt ∨ b.toInt < 0 ∨ 3 < b.toInt
    · unfold fi_E
      rw [if_pos b0, if_pos b0]
    · have hy3 := hy.2.1
      have hp : a.toInt.toNat < 12 := by omega
      have hs : b.toInt.toNat < 4 := by omega
      have hl := sy_rg (r := 95) hw.1.1 rfl (g := (266, 3, 12, 1, 1, 0, 7)) (by decide) (k := a.toInt.toNat) (j := 1) hp (Nat.le_refl _) (Nat.le_refl _) (by show 266 + 3 * a.toInt.toNat + 1 < 2858; omega)
      have hl : 0 ≤ sy_r w 95 (266 + 3 * a.toInt.toNat + 1) ∧ sy_r w 95 (266 + 3 * a.toInt.toNat + 1) ≤ 7 := hl
      rw [show 266 + 3 * a.toInt.toNat + 1 = 267 + 3 * a.toInt.toNat by omega] at hl
      rw [(hw.2.1 _ hs).1, al _ hp, ae _ (by omega)]
  rw [← eE] at m4 m6
  have eR : fi_E a.toInt b.toInt (sy_r w 15 4) (sy_r w 90 b.toInt.toNat) (sy_r w 17 (sy_r w 20 a.toInt.toNat).toNat) = 0 → row2 = row := fun h0 => by
    have hs : b.toInt.toNat < 4 := by
      unfold fi_E at h0
      split at h0
      · exact absurd h0 (by decide)
      · omega
    have ec : ∀ k, k < 12 → rc_row w b.toInt.toNat k = irR w1 b.toInt.toNat k := fun k hk => by
      show sy_r w 91 _ = sy_r w1 100 _
      rw [e100]
      exact hw.2.2.2.2.2.1 _ (by omega)
    have es : sy_r w 92 b.toInt.toNat = sy_r w1 99 b.toInt.toNat := by rw [e99]; exact (hw.2.1 _ hs).2.1
    have iff : row2 = true ↔ row = true := by
      rw [hr, hr2]
      constructor
      · intro h
        rw [es]
        exact rk_congr (fun k hk => (ec k hk).symm) h
      · intro h
        rw [es] at h
        exact rk_congr ec h
    cases row with
    | true => exact iff.mpr rfl
    | false =>
      cases row2 with
      | false => rfl
      | true => exact absurd (iff.mp rfl) (by decide)
  have e12 : x1 = x2 := Int32.toInt_inj.mp (by
    rw [c4, m4, fn]
    unfold fi_X
    split
    · rename_i h0
      rw [eR h0]
    · rfl)
  subst e12
  have rt := RT_mv (by decide +kernel) f2 (RT_mv (by decide +kernel) f1 ⟨hw.2.2.2.2.1, hw.2.2.2.2.2.1, hw.2.2.2.2.2.2.1⟩)
  have QC : ∀ q, q < 840 → fcQ w a.toInt b.toInt (fi_E a.toInt b.toInt (sy_r w 15 4) (sy_r w 90 b.toInt.toNat) (sy_r w 17 (sy_r w 20 a.toInt.toNat).toNat)) row q (some (.int x1), w1) := fun q hq => by
    obtain ⟨res, g, h⟩ := fcx_ok (xp := a) (xs := b) hq hw.1.1 (fun i hi h => by rw [ae i hi]; exact hw.2.2.2.1 i hi (by rw [← an]; exact h)) w90 (fun s hs => sh_sz hw.1.1 (Or.inl rfl) hs) rfl hr
    rw [go_det e1 g]
    exact h
  have QM : ∀ q, q < 2858 → fmQ w1 a.toInt b.toInt (fi_E a.toInt b.toInt (sy_r w1 95 3) (sy_r w1 98 b.toInt.toNat) (sy_r w1 95 (187 + 10 * (sy_r w1 95 (267 + 3 * a.toInt.toNat)).toNat))) row2 q (some (.int x1), w2) := fun q hq => by
    obtain ⟨res, g, h⟩ := fmx_ok (xp := a) (xs := b) hq h1.1 (fun i hi h => by rw [e95] at h ⊢; exact hw.2.2.2.1 i hi h) w98 rfl hr2
    rw [go_det e2 g]
    exact h
  rw [e95, e98, ← eE] at QM
  have FN : FLn w2 := by
    have hfn := hw.2.2.2.2.2.2.2.1.1
    by_cases good : fi_g (fi_E a.toInt b.toInt (sy_r w 15 4) (sy_r w 90 b.toInt.toNat) (sy_r w 17 (sy_r w 20 a.toInt.toNat).toNat)) row (sy_r w 29 0)
    · have er := eR good.1
      have good2 : fi_g (fi_E a.toInt b.toInt (sy_r w 15 4) (sy_r w 90 b.toInt.toNat) (sy_r w 17 (sy_r w 20 a.toInt.toNat).toNat)) row2 (sy_r w1 95 5) := by
        rw [er, e95, ← fn]
        exact good
      obtain ⟨_, d⟩ := QC 0 (by decide)
      obtain ⟨_, f, s, n, hf, ef, hs, es, en, hn, _⟩ := d.resolve_left (fun z => z.1 good)
      have AD : ∀ q, q < 840 → ad_E w a.toInt (sy_r w 6 8) s f n q w1 := fun q hq => by
        obtain ⟨_, d⟩ := QC q hq
        obtain ⟨_, f2, s2, n2, _, ef2, _, es2, en2, _, h⟩ := d.resolve_left (fun z => z.1 good)
        have k1 : f2 = f := by omega
        have k2 : s2 = s := by omega
        subst k1
        subst k2
        have k3 : n2 = n := by omega
        subst k3
        exact h
      have esn : sy_r w 92 s = sy_r w 99 s := (hw.2.1 s hs).2.1
      have day : sy_r w 6 8 = sy_r w 95 0 := hw.2.2.1.1 (6, 8, 0) (nq_in1 List.mem_cons_self)
      have AM : ∀ q, q < 2858 → sy_r w2 95 q = fm_V (sy_r w 95) (fun k => sy_r w 91 (24 * s + k)) a.toInt (sy_r w 6 8) n f q := fun q hq => by
        obtain ⟨_, d⟩ := QM q hq
        obtain ⟨_, f2, s2, n2, _, ef2, _, es2, en2, hn2, hok, h⟩ := d.resolve_left (fun z => z.1 good2)
        rw [e95] at ef2
        rw [e99] at en2
        have k1 : f2 = f := by omega
        have k2 : s2 = s := by omega
        subst k1
        subst k2
        have k3 : n2 = n := by omega
        subst k3
        have h : sy_r w2 95 q = fm_V (sy_r w1 95) (irR w1 s2) a.toInt (sy_r w1 95 0) n2 f2 q := h
        rw [h, e95, day]
        unfold fm_V
        by_cases c5 : q = 5
        · rw [if_pos c5, if_pos c5]
        · rw [if_neg c5, if_neg c5]
          unfold kr_N
          by_cases c : 308 + 34 * f2 ≤ q ∧ q < 308 + 34 * f2 + n2
          · rw [if_pos c, if_pos c]
            show sy_r w1 100 _ = sy_r w 91 _
            rw [e100]
            exact (hw.2.2.2.2.2.1 _ (by omega)).symm
          · rw [if_neg c, if_neg c]
      have cc : ∀ c i, zf_ok c i → sy_r w2 c i = sy_r w1 c i := fun c i hz => fl_nc_ok (d := 0) (A := sx_MGf) (by decide +kernel) f2 hz
      unfold zf_ok at cc
      obtain ⟨_, fr, v29, v30, v31, v38, _⟩ := AD 0 (by decide)
      unfold ad_A at fr
      have e5 : sy_r w 95 5 = (f : Int) := by rw [← fn]; exact ef
      refine fl_file hf hn e5 hfn ?_ (fun i hi => ?_) (fun i hi => ?_) (fun i hi => ?_) (fun i hi => ?_) (fun i hi => ?_) (fun q hq => ?_) AM
      · rw [cc 29 7 (by omega)]
        exact fr_no fr ⟨Or.inl (by decide), Or.inl (by decide), Or.inl (by decide), Or.inl (by decide), Or.inr (by omega), trivial⟩
      · rw [cc 30 i (by omega)]
        by_cases e : i = f
        · rw [if_pos e, e, v30]
        · rw [if_neg e]
          exact fr_no fr ⟨Or.inr (by omega), Or.inl (by decide), Or.inl (by decide), Or.inl (by decide), Or.inl (by decide), trivial⟩
      · rw [cc 31 i (by omega)]
        by_cases e : i = f
        · rw [if_pos e, e, v31]
        · rw [if_neg e]
          exact fr_no fr ⟨Or.inl (by decide), Or.inr (by omega), Or.inl (by decide), Or.inl (by decide), Or.inl (by decide), trivial⟩
      · rw [cc 36 i (by omega)]
        exact fr_no fr ⟨Or.inl (by decide), Or.inl (by decide), Or.inl (by decide), Or.inl (by decide), Or.inl (by decide), trivial⟩
      · rw [cc 37 i (by omega)]
        exact fr_no fr ⟨Or.inl (by decide), Or.inl (by decide), Or.inl (by decide), Or.inl (by decide), Or.inl (by decide), trivial⟩
      · rw [cc 38 i (by omega)]
        by_cases e : i = f
        · rw [if_pos e, e, v38]
        · rw [if_neg e]
          exact fr_no fr ⟨Or.inl (by decide), Or.inl (by decide), Or.inr (by omega), Or.inl (by decide), Or.inl (by decide), trivial⟩
      · rw [cc 39 q (by omega)]
        exact (AD q hq).2.2.2.2.2.2
    · obtain ⟨_, d⟩ := QC 0 (by decide)
      have fr1 : sx_Fr [(93, 0, 100000)] w w1 := (d.resolve_right (fun z => good z.1)).2
      have good2 : ¬ fi_g (fi_E a.toInt b.toInt (sy_r w 15 4) (sy_r w 90 b.toInt.toNat) (sy_r w 17 (sy_r w 20 a.toInt.toNat).toNat)) row2 (sy_r w1 95 5) := fun z => good (by
        rw [← eR z.1, fn, ← congrFun e95 5]
        exact z)
      obtain ⟨_, d⟩ := QM 0 (by decide)
      have fr2 : sx_Fr [(97, 0, 100000), (106, 0, 63), (107, 0, 63)] w1 w2 := (d.resolve_right (fun z => good2 z.1)).2
      exact FLn_mv (by decide +kernel) fr2 (FLn_mv (by decide +kernel) fr1 hfn)
  refine ⟨x1, w1, w2, g1, g2, h0, SH_mv (by decide +kernel) f2 (SH_mv (by decide +kernel) f1 hw.2.1), ⟨AN_mv (fun q => Nat.beq q.1 29) (by decide +kernel) (sx_Fr_app f1 f2) hw.2.2.1.1 (fun q hq hs => ?_), AK_mv (by decide +kernel) f2 (AK_mv (by decide +kernel) f1 hw.2.2.1.2)⟩, EZ_mv (by decide +kernel) f2 (EZ_mv (by decide +kernel) f1 hw.2.2.2.1), rt.1, rt.2.1, rt.2.2, ⟨FN, FLk_mv (by decide +kernel) f2 (FLk_mv (by decide +kernel) f1 hw.2.2.2.2.2.2.2.1.2)⟩, TE_mv (by decide +kernel) f2 (TE_mv (by decide +kernel) f1 hw.2.2.2.2.2.2.2.2)⟩
  obtain ⟨i, hi, rfl⟩ := nq_fam (k := 0) (r := 29) (n := 1) (b := 5) (s := 0) (by decide +kernel) hq hs
  have hi : i = 0 := by omega
  subst hi
  show sy_r w2 29 0 = sy_r w2 95 5
  have n29 : sy_r w2 29 0 = sy_r w1 29 0 := nb_1 (i := 0) (A := sx_MGf) (by decide +kernel) f2
  rw [n29, c6, m6, fn]
  unfold fi_Y
  by_cases h0 : fi_E a.toInt b.toInt (sy_r w 15 4) (sy_r w 90 b.toInt.toNat) (sy_r w 17 (sy_r w 20 a.toInt.toNat).toNat) = 0
  · rw [eR h0]
  · rw [if_neg (fun h => h0 h.1), if_neg (fun h => h0 h.1)]
theorem pe_fly {n : Nat} {a b : Int32} : pr_E n 89 212 [.int a, .int b] := fun w hw => by
  obtain ⟨x1, w1, x2, w2, g1, g2, h1, h0, f1, f2⟩ := p0_fly (n := n) (a := a) (b := b) w hw.1
  have fn : sy_r w 29 0 = sy_r w 95 5 := hw.2.2.1.1 (29, 0, 5) (nq_in4 List.mem_cons_self)
  have hfn := hw.2.2.2.2.2.2.2.1.1
  obtain ⟨⟨p1, p0⟩, p2, p3, p4, p5, p6, p7, p8⟩ := id hfn
  have hy5 := (mo_yT hw.1.1 (Or.inl rfl)).2.2.1
  have hy6 := sy_rg (r := 95) hw.1.1 rfl (g := (6, 1, 1, 0, 0, 0, 40)) (by decide) (k := 0) (j := 0) (by decide) (Nat.le_refl _) (Nat.le_refl _) (by decide)
  have hy6 : 0 ≤ sy_r w 95 6 ∧ sy_r w 95 6 ≤ 40 := hy6
  have e95 := nb_c_ok (r := 95) (A := kk_c_fly.md) (by decide +kernel) f1
  have e98 := nb_c_ok (r := 98) (A := kk_c_fly.md) (by decide +kernel) f1
  have e99 := nb_c_ok (r := 99) (A := kk_c_fly.md) (by decide +kernel) f1
  have e100 := nb_c_ok (r := 100) (A := kk_c_fly.md) (by decide +kernel) f1
  have w90 : ∀ s, s < 4 → 0 ≤ sy_r w 90 s ∧ sy_r w 90 s ≤ 32 := fun s hs => by
    rw [(hw.2.1 s hs).1]
    rcases (hw.2.1 s hs).2.2 with h | h | h | h <;> omega
  have w98 : ∀ s, s < 4 → 0 ≤ sy_r w1 98 s ∧ sy_r w1 98 s ≤ 32 := fun s hs => by
    rw [e98, ← (hw.2.1 s hs).1]
    exact w90 s hs
  obtain ⟨row, hr⟩ : ∃ row : Bool, (row = true ↔ rk_ok (rc_row w b.toInt.toNat) (sy_r w 92 b.toInt.toNat) (-1)) := by
    by_cases h : rk_ok (rc_row w b.toInt.toNat) (sy_r w 92 b.toInt.toNat) (-1)
    · exact ⟨true, fun _ => h, fun _ => rfl⟩
    · exact ⟨false, fun h2 => absurd h2 (by decide), fun h2 => absurd h2 h⟩
  obtain ⟨row2, hr2⟩ : ∃ row : Bool, (row = true ↔ ir_ok w1 b.toInt.toNat (-1)) := by
    by_cases h : ir_ok w1 b.toInt.toNat (-1)
    · exact ⟨true, fun _ => h, fun _ => rfl⟩
    · exact ⟨false, fun h2 => absurd h2 (by decide), fun h2 => absurd h2 h⟩
  have hC : ∀ g : Nat, g < 30 → (g : Int) < sy_r w1 95 5 → 0 ≤ sy_r w1 95 (306 + 34 * g) ∧ sy_r w1 95 (306 + 34 * g) ≤ 40 := fun g hg hgc => by
    rw [e95] at hgc ⊢
    rw [p7 g hg hgc]
    have := tf_le (g := fun t => sy_r w 95 (1322 + 15 * t)) (f := (g : Int)) (sy_r w 95 6).toNat
    omega
  have QC : ∀ q, q < 840 → fyQ w a.toInt b.toInt (fy_E a.toInt b.toInt (sy_r w 29 0) (sy_r w 90 b.toInt.toNat)) row q (some (.int x1), w1) := fun q hq => by
    obtain ⟨res, g, h⟩ := fyx_ok (xg := a) (xs := b) hq hw.1.1 w90 (fun s hs => sh_sz hw.1.1 (Or.inl rfl) hs) rfl hr
    rw [ru_det g1 (ru_of (k := 299) (M := pm_89) rfl (by rw [Bool.and_eq_true]; exact ⟨rfl, sq_rcv hw.1.1 rfl rfl rfl⟩) g)]
    exact h
  have QM : ∀ q, q < 2858 → fnQ w1 a.toInt b.toInt (fy_E a.toInt b.toInt (sy_r w1 95 5) (sy_r w1 98 b.toInt.toNat)) row2 q (some (.int x2), w2) := fun q hq => by
    obtain ⟨res, g, h⟩ := fmy_ok (xg := a) (xs := b) hq h1.1 w98 hC rfl hr2
    rw [ru_det g2 (ru_of (k := 299) (M := pm_212) rfl (by rw [Bool.and_eq_true]; exact ⟨rfl, sq_rcv h1.1 rfl rfl rfl⟩) g)]
    exact h
  have eE : fy_E a.toInt b.toInt (sy_r w1 95 5) (sy_r w1 98 b.toInt.toNat) = fy_E a.toInt b.toInt (sy_r w 29 0) (sy_r w 90 b.toInt.toNat) := by
    rw [e95, e98, fn]
    unfold fy_E
    by_cases b0 : a.toInt < 0 ∨ sy_r w 95 5 ≤ a.toInt ∨ b.toInt < 0 ∨ 3 < b.toInt
    · rw [if_pos b0, if_pos b0]
    · rw [(hw.2.1 b.toInt.toNat (by omega)).1]
  rw [eE] at QM
  have eR : fy_E a.toInt b.toInt (sy_r w 29 0) (sy_r w 90 b.toInt.toNat) = 0 → row2 = row := fun h0 => by
    have hs : b.toInt.toNat < 4 := by
      unfold fy_E at h0
      split at h0
      · exact absurd h0 (by decide)
      · omega
    have ec : ∀ k, k < 12 → rc_row w b.toInt.toNat k = irR w1 b.toInt.toNat k := fun k hk => by
      show sy_r w 91 _ = sy_r w1 100 _
      rw [e100]
      exact hw.2.2.2.2.2.1 _ (by omega)
    have es : sy_r w 92 b.toInt.toNat = sy_r w1 99 b.toInt.toNat := by rw [e99]; exact (hw.2.1 _ hs).2.1
    have iff : row2 = true ↔ row = true := by
      rw [hr, hr2]
      constructor
      · intro h
        rw [es]
        exact rk_congr (fun k hk => (ec k hk).symm) h
      · intro h
        rw [es] at h
        exact rk_congr ec h
    cases row with
    | true => exact iff.mpr rfl
    | false =>
      cases row2 with
      | false => rfl
      | true => exact absurd (iff.mp rfl) (by decide)
  have rt := RT_mv (by decide +kernel) f2 (RT_mv (by decide +kernel) f1 ⟨hw.2.2.2.2.1, hw.2.2.2.2.2.1, hw.2.2.2.2.2.2.1⟩)
  have key : FLn w2 ∧ x1 = x2 := by
    obtain ⟨⟨y1, c3, c4⟩, dc⟩ := QC 0 (by decide)
    obtain ⟨⟨y2, m3, m4⟩, dm⟩ := QM 0 (by decide)
    cases c3
    cases m3
    by_cases good : fy_g (fy_E a.toInt b.toInt (sy_r w 29 0) (sy_r w 90 b.toInt.toNat)) row (sy_r w 29 7)
    · have er := eR good.1
      have good2 : fy_g (fy_E a.toInt b.toInt (sy_r w 29 0) (sy_r w 90 b.toInt.toNat)) row2 (sy_r w1 95 6) := by
        rw [er, e95, ← p1]
        exact good
      obtain ⟨_, t, s, n, ht, et, hs, es, en, hn, _⟩ := dc.resolve_left (fun z => z.1 good)
      obtain ⟨_, t2, s2, n2, g, c, _, et2, _, es2, en2, _, hg, eg, hgc, ec, _⟩ := dm.resolve_left (fun z => z.1 good2)
      rw [e95] at et2 hgc ec
      rw [e99] at en2
      have esn : sy_r w 92 s = sy_r w 99 s := (hw.2.1 s hs).2.1
      have k1 : t2 = t := by omega
      have k2 : s2 = s := by omega
      subst k1
      subst k2
      have k3 : n2 = n := by omega
      subst k3
      have AD : ∀ q, q < 840 → af_E w (g : Int) (sy_r w 6 8) s2 t2 n2 q w1 := fun q hq => by
        obtain ⟨_, d⟩ := QC q hq
        obtain ⟨_, t3, s3, n3, _, et3, _, es3, en3, _, h⟩ := d.resolve_left (fun z => z.1 good)
        have k1 : t3 = t2 := by omega
        have k2 : s3 = s2 := by omega
        subst k1
        subst k2
        have k3 : n3 = n2 := by omega
        subst k3
        rw [eg] at h
        exact h
      have day : sy_r w 6 8 = sy_r w 95 0 := hw.2.2.1.1 (6, 8, 0) (nq_in1 List.mem_cons_self)
      have AM : ∀ q, q < 2858 → sy_r w2 95 q = fn_V (sy_r w 95) (fun k => sy_r w 91 (24 * s2 + k)) (sy_r w 6 8) n2 t2 c g q := fun q hq => by
        obtain ⟨_, d⟩ := QM q hq
        obtain ⟨_, t3, s3, n3, g3, c3, _, et3, _, es3, en3, _, _, eg3, _, ec3, _, h⟩ := d.resolve_left (fun z => z.1 good2)
        rw [e95] at et3 ec3
        rw [e99] at en3
        have k1 : t3 = t2 := by omega
        have k2 : s3 = s2 := by omega
        have k4 : g3 = g := by omega
        subst k1
        subst k2
        subst k4
        have k3 : n3 = n2 := by omega
        have k5 : c3 = c := by omega
        subst k3
        subst k5
        have h : sy_r w2 95 q = fn_V (sy_r w1 95) (irR w1 s3) (sy_r w1 95 0) n3 t3 c3 g3 q := h
        rw [h, e95, day]
        unfold fn_V
        refine go_Vq ?_
        unfold kr_N
        by_cases c : 1325 + 15 * t3 ≤ q ∧ q < 1325 + 15 * t3 + n3
        · rw [if_pos c, if_pos c]
          show sy_r w1 100 _ = sy_r w 91 _
          rw [e100]
          exact (hw.2.2.2.2.2.1 _ (by omega)).symm
        · rw [if_neg c, if_neg c]
      have cc : ∀ c i, zf_ok c i → sy_r w2 c i = sy_r w1 c i := fun c i hz => fl_nc_ok (d := 0) (A := sx_MGy) (by decide +kernel) f2 hz
      unfold zf_ok at cc
      obtain ⟨_, fr, v29, v36, v37, v38, _⟩ := AD 0 (by decide)
      unfold af_A at fr
      refine ⟨fl_fly ht hg hgc hn et2 ec hfn ?_ (fun i hi => ?_) (fun i hi => ?_) (fun i hi => ?_) (fun i hi => ?_) (fun i hi => ?_) (fun q hq => ?_) AM, ?_⟩
      · rw [cc 29 7 (by omega), v29]
      · rw [cc 30 i (by omega)]
        exact fr_no fr ⟨Or.inl (by decide), Or.inl (by decide), Or.inl (by decide), Or.inl (by decide), Or.inl (by decide), trivial⟩
      · rw [cc 31 i (by omega)]
        exact fr_no fr ⟨Or.inl (by decide), Or.inl (by decide), Or.inl (by decide), Or.inl (by decide), Or.inl (by decide), trivial⟩
      · rw [cc 36 i (by omega)]
        by_cases e : i = t2
        · rw [if_pos e, e, v36]
        · rw [if_neg e]
          exact fr_no fr ⟨Or.inr (by omega), Or.inl (by decide), Or.inl (by decide), Or.inl (by decide), Or.inl (by decide), trivial⟩
      · rw [cc 37 i (by omega)]
        by_cases e : i = t2
        · rw [if_pos e, e, v37]
        · rw [if_neg e]
          exact fr_no fr ⟨Or.inl (by decide), Or.inr (by omega), Or.inl (by decide), Or.inl (by decide), Or.inl (by decide), trivial⟩
      · rw [cc 38 i (by omega)]
        by_cases e : i = 30 + t2
        · rw [if_pos e, e, v38]
        · rw [if_neg e]
          exact fr_no fr ⟨Or.inl (by decide), Or.inl (by decide), Or.inr (by omega), Or.inl (by decide), Or.inl (by decide), trivial⟩
      · rw [cc 39 q (by omega)]
        exact (AD q hq).2.2.2.2.2.2
      · apply Int32.toInt_inj.mp
        have c4 : x1.toInt = fy_X (fy_E a.toInt b.toInt (sy_r w 29 0) (sy_r w 90 b.toInt.toNat)) row (sy_r w 29 7) (tf_c (sy_r w1 36) a.toInt ((sy_r w 29 7).toNat + 1) : Nat) := c4
        have m4 : x2.toInt = fy_X (fy_E a.toInt b.toInt (sy_r w 29 0) (sy_r w 90 b.toInt.toNat)) row2 (sy_r w1 95 6) (sy_r w1 95 (306 + 34 * a.toInt.toNat) + 1) := m4
        obtain ⟨z1, z2, z3⟩ := good
        rw [c4, m4, er, e95, z1, z2, eg, Int.toNat_natCast, ec, et, et2, Int.toNat_natCast]
        unfold fy_X
        rw [if_pos rfl, if_pos rfl, if_neg (by omega), if_pos rfl, if_pos rfl, if_neg (by omega)]
        have e1 : tf_c (sy_r w1 36) (g : Int) (t2 + 1) = tf_c (sy_r w1 36) (g : Int) t2 + 1 := if_pos v36
        have e2 : tf_c (sy_r w1 36) (g : Int) t2 = tf_c (fun t => sy_r w 95 (1322 + 15 * t)) (g : Int) t2 := tf_congr (fun t htt => by
          rw [fr_no (r := 36) (i := t) fr ⟨Or.inr (by omega), Or.inl (by decide), Or.inl (by decide), Or.inl (by decide), Or.inl (by decide), trivial⟩]
          exact (p3 t (by omega)).1)
        have e3 := p7 g hg hgc
        rw [ec, et2, Int.toNat_natCast] at e3
        rw [e1, e2]
        omega
    · have fr1 : sx_Fr [(93, 0, 100000)] w w1 := (dc.resolve_right (fun z => good z.1)).2
      have good2 : ¬ fy_g (fy_E a.toInt b.toInt (sy_r w 29 0) (sy_r w 90 b.toInt.toNat)) row2 (sy_r w1 95 6) := fun z => good (by
        rw [← eR z.1, p1, ← congrFun e95 6]
        exact z)
      have fr2 : sx_Fr [(97, 0, 100000), (106, 0, 63), (107, 0, 63)] w1 w2 := (dm.resolve_right (fun z => good2 z.1)).2
      refine ⟨FLn_mv (by decide +kernel) fr2 (FLn_mv (by decide +kernel) fr1 hfn), ?_⟩
      apply Int32.toInt_inj.mp
      have c4 : x1.toInt = fy_X (fy_E a.toInt b.toInt (sy_r w 29 0) (sy_r w 90 b.toInt.toNat)) row (sy_r w 29 7) (tf_c (sy_r w1 36) a.toInt ((sy_r w 29 7).toNat + 1) : Nat) := c4
      have m4 : x2.toInt = fy_X (fy_E a.toInt b.toInt (sy_r w 29 0) (sy_r w 90 b.toInt.toNat)) row2 (sy_r w1 95 6) (sy_r w1 95 (306 + 34 * a.toInt.toNat) + 1) := m4
      rw [c4, m4, e95, p1]
      unfold fy_X
      by_cases z : fy_E a.toInt b.toInt (sy_r w 29 0) (sy_r w 90 b.toInt.toNat) = 0
      · rw [if_pos z, if_pos z, eR z]
        by_cases y : row = true
        · have k40 : sy_r w 95 6 = 40 := by
            by_cases k : sy_r w 95 6 = 40
            · exact k
            · exact absurd ⟨z, y, by rw [p1]; exact k⟩ good
          rw [if_pos y, if_pos y, if_pos k40, if_pos k40]
        · rw [if_neg y, if_neg y]
      · rw [if_neg z, if_neg z]
  obtain ⟨FN, e12⟩ := key
  subst e12
  exact ⟨x1, w1, w2, g1, g2, h0, SH_mv (by decide +kernel) f2 (SH_mv (by decide +kernel) f1 hw.2.1), AL_mv (by decide +kernel) f2 (AL_mv (by decide +kernel) f1 hw.2.2.1), EZ_mv (by decide +kernel) f2 (EZ_mv (by decide +kernel) f1 hw.2.2.2.1), rt.1, rt.2.1, rt.2.2, ⟨FN, FLk_mv (by decide +kernel) f2 (FLk_mv (by decide +kernel) f1 hw.2.2.2.2.2.2.2.1.2)⟩, TE_mv (by decide +kernel) f2 (TE_mv (by decide +kernel) f1 hw.2.2.2.2.2.2.2.2)⟩
theorem pe_row {n : Nat} {a b c : Int32} : pr_E n 94 216 [.int a, .int b, .int c] := fun w hw => by
  obtain ⟨x1, w1, x2, w2, g1, g2, h1, h0, f1, f2⟩ := p0_row (n := n) (a := a) (b := b) (c := c) w hw.1
  have fn : sy_r w 29 0 = sy_r w 95 5 := hw.2.2.1.1 (29, 0, 5) (nq_in4 List.mem_cons_self)
  obtain ⟨⟨p1, p0⟩, p2, p3, p4, p5, p6, p7, p8⟩ := hw.2.2.2.2.2.2.2.1.1
  have hy6 := sy_rg (r := 95) hw.1.1 rfl (g := (6, 1, 1, 0, 0, 0, 40)) (by decide) (k := 0) (j := 0) (by decide) (Nat.le_refl _) (Nat.le_refl _) (by decide)
  have hy6 : 0 ≤ sy_r w 95 6 ∧ sy_r w 95 6 ≤ 40 := hy6
  have hy5 := (mo_yT hw.1.1 (Or.inl rfl)).2.2.1
  have e95 := nb_c_ok (r := 95) (A := kk_c_row.md) (by decide +kernel) f1
  obtain ⟨m, em⟩ : ∃ m : Nat, sy_r w 95 6 = (m : Int) := ⟨(sy_r w 95 6).toNat, by omega⟩
  have hm : m ≤ 40 := by omega
  obtain ⟨⟨r1, v1⟩, e1, ⟨y1, c3, c4⟩, k1⟩ := rwc_ok (xf := a) (xk := b) (xi := c) hm (by rw [p1]; exact em) hw.1.1
  have z1 := ru_det g1 (ru_of (k := 299) (M := pm_94) rfl (by rw [Bool.and_eq_true]; exact ⟨rfl, sq_rcv hw.1.1 rfl rfl rfl⟩) e1)
  obtain ⟨⟨r2, v2⟩, e2, ⟨y2, m3, m4⟩, k2⟩ := rwm_ok (w := w1) (xf := a) (xk := b) (xi := c) hm (by rw [e95]; exact em) h1.1
  have z2 := ru_det g2 (ru_of (k := 299) (M := pm_216) rfl (by rw [Bool.and_eq_true]; exact ⟨rfl, sq_rcv h1.1 rfl rfl rfl⟩) e2)
  have c3 : r1 = some (.int y1) := c3
  have m3 : r2 = some (.int y2) := m3
  subst c3
  subst m3
  cases z1
  cases z2
  have eT : kn_T w1 a.toInt b.toInt m = kn_T w a.toInt b.toInt m := by
    unfold kn_T
    rw [e95]
  have eRR : ro_R w1 a.toInt b.toInt m = ro_R w a.toInt b.toInt m := by
    unfold ro_R
    rw [eT]
  rw [e95, eRR] at m4
  have tt : tk_v (sy_r w 36) (sy_r w 37) a.toInt b.toInt m = tk_v (fun t => sy_r w 95 (1322 + 15 * t)) (fun t => sy_r w 95 (1323 + 15 * t)) a.toInt b.toInt m := tk_congr (fun t ht => ⟨(p3 t (by omega)).1, (p3 t (by omega)).2.1⟩)
  have bT := tk_b (g := fun t => sy_r w 95 (1322 + 15 * t)) (d := fun t => sy_r w 95 (1323 + 15 * t)) (f := a.toInt) (k := b.toInt) m
  have e12 : x1 = x2 := Int32.toInt_inj.mp (by
    rcases c4 with ⟨b1, c4⟩ | ⟨b1, c4⟩
    · rcases m4 with ⟨b2, m4⟩ | ⟨b2, m4⟩
      · rw [c4, m4]
      · exact absurd (fn ▸ b1) b2
    · rcases m4 with ⟨b2, m4⟩ | ⟨b2, m4⟩
      · exact absurd (fn.symm ▸ b2) b1
      · rw [c4, m4]
        have b3 := b1
        unfold rw_bad at b3
        obtain ⟨i, ei⟩ : ∃ i : Nat, c.toInt = (i : Int) := ⟨c.toInt.toNat, by omega⟩
        have eit : c.toInt.toNat = i := by omega
        have same : ∀ r p : Nat, r < 70 → sy_r w 38 r = sy_r w 95 p → (∀ j, j < 12 → sy_r w 39 (12 * r + j) = sy_r w 95 (p + 1 + j)) → rw_X (r : Int) c.toInt (sy_r w 38 (r : Int).toNat) (sy_r w 39 (12 * (r : Int).toNat + c.toInt.toNat)) = rw_X (p : Int) c.toInt (sy_r w 95 (p : Int).toNat) (sy_r w 95 ((p : Int).toNat + 1 + c.toInt.toNat)) := fun r p hr h38 h39 => by
          have b38 := sy_rg (r := 38) hw.1.1 rfl (g := (0, 1, 70, 0, 0, 0, 12)) (by decide) (k := r) (j := 0) hr (Nat.le_refl _) (Nat.le_refl _) (by show 0 + 1 * r + 0 < 70; omega)
          have b38 : 0 ≤ sy_r w 38 (0 + 1 * r + 0) ∧ sy_r w 38 (0 + 1 * r + 0) ≤ 12 := b38
          rw [show 0 + 1 * r + 0 = r by omega] at b38
          rw [Int.toNat_natCast, Int.toNat_natCast, eit, h38, ei]
          unfold rw_X
          by_cases z : (r : Int) < 0 ∨ sy_r w 95 p ≤ (i : Int)
          · rw [if_pos z, if_pos (by omega)]
          · rw [if_neg z, if_neg (by omega)]
            exact h39 i (by omega)
        unfold kw_R ro_R
        by_cases ek : b.toInt = -1
        · rw [if_pos ek, if_pos ek]
          obtain ⟨f, ef⟩ : ∃ f : Nat, a.toInt = (f : Int) := ⟨a.toInt.toNat, by omega⟩
          have h := same f (307 + 34 * f) (by omega) (p2 f (by omega)).2.2 (fun j hj => by rw [show 307 + 34 * f + 1 + j = 308 + 34 * f + j by omega]; exact p4 f (by omega) j hj)
          rw [ef, show (307 : Int) + 34 * (f : Int) = ((307 + 34 * f : Nat) : Int) by omega]
          exact h
        · rw [if_neg ek, if_neg ek]
          unfold kw_T kn_T
          rw [tt]
          generalize tk_v (fun t => sy_r w 95 (1322 + 15 * t)) (fun t => sy_r w 95 (1323 + 15 * t)) a.toInt b.toInt m = T at *
          unfold kw_P kn_P
          by_cases et : T < 0
          · rw [if_pos et, if_pos et]
            unfold rw_X
            rw [if_pos (Or.inl (by decide)), if_pos (Or.inl (by decide))]
          · rw [if_neg et, if_neg et]
            obtain ⟨t, ett⟩ : ∃ t : Nat, T = (t : Int) := ⟨T.toNat, by omega⟩
            have h := same (30 + t) (1324 + 15 * t) (by omega) (p3 t (by omega)).2.2 (fun j hj => by rw [show 1324 + 15 * t + 1 + j = 1325 + 15 * t + j by omega]; exact p5 t (by omega) j hj)
            rw [ett, show (30 : Int) + (t : Int) = ((30 + t : Nat) : Int) by omega, show (1324 : Int) + 15 * (t : Int) = ((1324 + 15 * t : Nat) : Int) by omega]
            exact h)
  subst e12
  exact ⟨x1, w1, w2, g1, g2, h0, SH_mv (by decide +kernel) f2 (SH_mv (by decide +kernel) f1 hw.2.1), AA_mv (by decide +kernel) f2 (AA_mv (by decide +kernel) f1 hw.2.2)⟩
theorem pe_feed {n : Nat} {b : Int32} {a : Int64} : pr_E n 63 195 [.long a, .int b] := fun w hw => by
  obtain ⟨x1, w1, x2, w2, g1, g2, h1, h0, f1, f2⟩ := p0_feed (n := n) (a := a) (b := b) w hw.1
  have te := hw.2.2.2.2.2.2.2.2
  obtain ⟨zs, hs, s0, s1⟩ := wg_int (r := 23) (i := 1) hw.1.1 rfl rfl
  obtain ⟨s, es⟩ : ∃ s : Nat, zs.toInt = (s : Int) := ⟨zs.toInt.toNat, by omega⟩
  have s60 : s ≤ 60 := by omega
  have ez : zs = nI s := Int32.toInt_inj.mp (by rw [nI_toInt (by omega), es])
  subst ez
  obtain ⟨z, v1, r1, c⟩ := fd_c (x := a) (y := b) hw.1.1 hs s60
  obtain ⟨q1, q2⟩ := Prod.mk.inj (ru_det g1 r1)
  have q1 : x1 = z := by cases q1; rfl
  subst q1
  subst q2
  have e95 := nb_c_ok (r := 95) (A := kk_c_feed.md) (by decide +kernel) f1
  have e7 : sy_r w1 95 7 = (s : Int) := by rw [e95, ← te.1.1.1.1, sy_r_of hs, es]
  obtain ⟨z2, v2, r2, d⟩ := fd_m (x := a) (y := b) h1.1 e7 s60
  obtain ⟨q1, q2⟩ := Prod.mk.inj (ru_det g2 r2)
  have q1 : x2 = z2 := by cases q1; rfl
  subst q1
  subst q2
  have key : x1 = x2 ∧ TEn w2 := by
    rcases c with ⟨c1, c2, ct, cf⟩ | ⟨c1, c2, c3, ct, cf⟩ | ⟨c1, c2, c3, c4⟩
    · rcases d with ⟨d1, d2, dt, df⟩ | ⟨d1, _⟩ | ⟨d1, _⟩
      · exact ⟨Int32.toInt_inj.mp (by rw [c2, d2]), TEn_mv (A := [(97, 0, 5)]) (by decide +kernel) df (TEn_mv (A := [(93, 0, 5)]) (by decide +kernel) cf te.1.1)⟩
      · exact absurd d1 c1
      · exact absurd d1 c1
    · rcases d with ⟨d1, _⟩ | ⟨d1, d2, d3, dt, df⟩ | ⟨d1, d2, _⟩
      · exact absurd c1 d1
      · exact ⟨Int32.toInt_inj.mp (by rw [c3, d3]), TEn_mv (A := [(97, 0, 5)]) (by decide +kernel) df (TEn_mv (A := [(93, 0, 5)]) (by decide +kernel) cf te.1.1)⟩
      · exact absurd c2 (by omega)
    · rcases d with ⟨d1, _⟩ | ⟨_, d2, _⟩ | ⟨d1, d2, d3, d4⟩
      · exact absurd c1 d1
      · exact absurd d2 (by omega)
      · obtain ⟨l1, l2⟩ := c1
        exact ⟨Int32.toInt_inj.mp (by rw [c3, d3]), te_feed (by omega) (by omega) te.1.1 c4 d4⟩
  obtain ⟨e12, ten⟩ := key
  subst e12
  exact ⟨x1, w1, w2, g1, g2, h0, SH_mv (by decide +kernel) f2 (SH_mv (by decide +kernel) f1 hw.2.1), AX_mv (by decide +kernel) (sx_Fr_app f1 f2) hw.2.2 ⟨⟨ten, TEk_mv (by decide +kernel) f2 (TEk_mv (by decide +kernel) f1 te.1.2)⟩, NB_mv (by decide +kernel) f2 (NB_mv (by decide +kernel) f1 te.2)⟩⟩
theorem pe_law {n : Nat} {a b : Int32} : pr_E n 65 196 [.int a, .int b] := fun w hw => by
  obtain ⟨x1, w1, x2, w2, g1, g2, h1, h0, f1, f2⟩ := p0_law (n := n) (a := a) (b := b) w hw.1
  have te := hw.2.2.2.2.2.2.2.2
  obtain ⟨zs, hs, s0, s1⟩ := wg_int (r := 23) (i := 1) hw.1.1 rfl rfl
  obtain ⟨s, es⟩ : ∃ s : Nat, zs.toInt = (s : Int) := ⟨zs.toInt.toNat, by omega⟩
  have s60 : s ≤ 60 := by omega
  have ez : zs = nI s := Int32.toInt_inj.mp (by rw [nI_toInt (by omega), es])
  subst ez
  obtain ⟨zl, hl, l0, l1⟩ := wg_int (r := 23) (i := 2) hw.1.1 rfl rfl
  obtain ⟨l, el⟩ : ∃ l : Nat, zl.toInt = (l : Int) := ⟨zl.toInt.toNat, by omega⟩
  have l12 : l ≤ 12 := by omega
  have ez : zl = nI l := Int32.toInt_inj.mp (by rw [nI_toInt (by omega), el])
  subst ez
  obtain ⟨ok, q, la, he⟩ := rd_tot (B := fo_B w) (n := s) 500 0 0 0 [] (Nat.zero_le _) (by decide) (by unfold rd_mu; rw [if_pos (by decide)]; omega)
  obtain ⟨b1, b2, b3⟩ := rd_bd _ _ _ _ _ _ _ _ he (Nat.zero_le _)
  obtain ⟨z, v1, r1, c⟩ := lw_k (u := a) (f := b) hw.1.1 hs s60 hl l12 he
  obtain ⟨q1, q2⟩ := Prod.mk.inj (ru_det g1 r1)
  have q1 : x1 = z := by cases q1; rfl
  subst q1
  subst q2
  have e95 := nb_c_ok (r := 95) (A := kk_c_law.md) (by decide +kernel) f1
  have e7 : sy_r w1 95 7 = (s : Int) := by rw [e95, ← te.1.1.1.1, sy_r_of hs, es]
  have e40 : sy_r w 95 4 = (l : Int) := by rw [← te.1.1.1.2, sy_r_of hl, el]
  have e4 : sy_r w1 95 4 = (l : Int) := by rw [e95]; exact e40
  have eB : ∀ i, i < s → fo_B w i = rl_B w1 i := fun i hi => by
    show sy_r w 24 i % 256 = sy_r w1 95 (2798 + i)
    rw [e95]
    exact te.1.1.2.1 i (by omega)
  have he2 := he
  rw [rd_congr eB] at he2
  have hB : ∀ i, i < s → 0 ≤ rl_B w1 i ∧ rl_B w1 i ≤ 255 := fun i hi => by
    rw [← eB i hi]
    show 0 ≤ sy_r w 24 i % 256 ∧ sy_r w 24 i % 256 ≤ 255
    omega
  obtain ⟨z2, v2, r2, d⟩ := rl_k (u := a) (f := b) h1.1 (NB_mv (by decide +kernel) f1 te.2) e7 s60 e4 l12 hB he2
  obtain ⟨q1, q2⟩ := Prod.mk.inj (ru_det g2 r2)
  have q1 : x2 = z2 := by cases q1; rfl
  subst q1
  subst q2
  have key : x1 = x2 ∧ TEn w2 := by
    rcases c with ⟨c1, c2, ct, cf⟩ | ⟨c1, c2, c3, ct, cf⟩ | ⟨c1, c2, c3, c4, ct, cf, c5⟩ | ⟨c1, c2, c3, c4, c5, c6⟩
    · rcases d with ⟨d1, d2, dt, df⟩ | ⟨d1, _⟩ | ⟨d1, _⟩ | ⟨d1, _⟩
      · exact ⟨Int32.toInt_inj.mp (by rw [c2, d2]), TEn_mv (A := [(97, 0, 5)]) (by decide +kernel) df (TEn_mv (A := [(93, 0, 5)]) (by decide +kernel) cf te.1.1)⟩
      · exact absurd d1 c1
      · exact absurd d1 c1
      · exact absurd d1 c1
    · rcases d with ⟨d1, _⟩ | ⟨d1, d2, d3, dt, df⟩ | ⟨_, d2, _⟩ | ⟨_, d2, _⟩
      · exact absurd c1 d1
      · exact ⟨Int32.toInt_inj.mp (by rw [c3, d3]), TEn_mv (A := [(97, 0, 5)]) (by decide +kernel) df (TEn_mv (A := [(93, 0, 5)]) (by decide +kernel) cf te.1.1)⟩
      · exact absurd c2 (by omega)
      · exact absurd c2 (by omega)
    · rcases d with ⟨d1, _⟩ | ⟨_, d2, _⟩ | ⟨d1, d2, d3, d4, dt, df, d5⟩ | ⟨_, _, d3, _⟩
      · exact absurd c1 d1
      · exact absurd d2 (by omega)
      · exact ⟨Int32.toInt_inj.mp (by rw [c4, d4]), te_bad te.1.1 cf c5 df d5⟩
      · exact absurd d3 c3
    · rcases d with ⟨d1, _⟩ | ⟨_, d2, _⟩ | ⟨_, _, d3, _⟩ | ⟨d1, d2, d3, d4, d5⟩
      · exact absurd c1 d1
      · exact absurd d2 (by omega)
      · exact absurd c3 d3
      · have ha := (b3 c3.1).1
        have ha : la.length + 0 ≤ 0 + q := ha
        exact ⟨Int32.toInt_inj.mp (by rw [c4, d4]), te_law c2 (by omega) te.1.1 c6 e40 c5 d5⟩
  obtain ⟨e12, ten⟩ := key
  subst e12
  exact ⟨x1, w1, w2, g1, g2, h0, SH_mv (by decide +kernel) f2 (SH_mv (by decide +kernel) f1 hw.2.1), AX_mv (by decide +kernel) (sx_Fr_app f1 f2) hw.2.2 ⟨⟨ten, TEk_mv (by decide +kernel) f2 (TEk_mv (by decide +kernel) f1 te.1.2)⟩, NB_mv (by decide +kernel) f2 (NB_mv (by decide +kernel) f1 te.2)⟩⟩
theorem pe_force {n : Nat} {a b : Int32} : pr_E n 80 206 [.int a, .int b] := fun w hw => by
  obtain ⟨x1, w1, x2, w2, g1, g2, h1, h0, f1, f2⟩ := p0_force (n := n) (a := a) (b := b) w hw.1
  have te := hw.2.2.2.2.2.2.2.2
  obtain ⟨zl, hl, l0, l1⟩ := wg_int (r := 23) (i := 2) hw.1.1 rfl rfl
  obtain ⟨l, el⟩ : ∃ l : Nat, zl.toInt = (l : Int) := ⟨zl.toInt.toNat, by omega⟩
  have l12 : l ≤ 12 := by omega
  have ez : zl = nI l := Int32.toInt_inj.mp (by rw [nI_toInt (by omega), el])
  subst ez
  obtain ⟨z, v1, r1, c⟩ := frc_t (u := a) (f := b) hw.1.1 hl l12
  obtain ⟨q1, q2⟩ := Prod.mk.inj (ru_det g1 r1)
  have q1 : x1 = z := by cases q1; rfl
  subst q1
  subst q2
  have e95 := nb_c_ok (r := 95) (A := kk_c_force.md) (by decide +kernel) f1
  have e4 : sy_r w1 95 4 = (l : Int) := by rw [e95, ← te.1.1.1.2, sy_r_of hl, el]
  obtain ⟨z2, v2, r2, d⟩ := frm_t (u := a) (f := b) h1.1 e4 l12
  obtain ⟨q1, q2⟩ := Prod.mk.inj (ru_det g2 r2)
  have q1 : x2 = z2 := by cases q1; rfl
  subst q1
  subst q2
  have e12 : x1 = x2 := Int32.toInt_inj.mp (by
    rw [c, d, fr_lc (U := fun i => sy_r w 25 i) (F := fun i => sy_r w 26 i) (U1 := fun i => sy_r w1 95 (1922 + 73 * i)) (F1 := fun i => sy_r w1 95 (1923 + 73 * i)) (k := a.toInt) (v := b.toInt) (n := l) (fun i hi => ?_)]
    show sy_r w 25 i = sy_r w1 95 (1922 + 73 * i) ∧ sy_r w 26 i = sy_r w1 95 (1923 + 73 * i)
    rw [e95]
    exact ⟨(te.1.1.2.2.1 i (by omega)).1, (te.1.1.2.2.1 i (by omega)).2.1⟩)
  subst e12
  exact ⟨x1, w1, w2, g1, g2, h0, SH_mv (by decide +kernel) f2 (SH_mv (by decide +kernel) f1 hw.2.1), AA_mv (by decide +kernel) f2 (AA_mv (by decide +kernel) f1 hw.2.2)⟩
theorem pr_cell {n : Nat} {a b : Int32} : pr_P n 12 159 [.int a, .int b] := pr_eP pe_cell
theorem pr_block {n : Nat} {a b : Int32} : pr_P n 17 163 [.int a, .int b] := pr_eP pe_block
theorem pr_shut {n : Nat} {a b : Int32} (hb : b = 0 ∨ b = 1) : pr_P n 22 165 [.int a, .int b] := pr_eP (pe_shut hb)
theorem pr_land {n : Nat} {a b c : Int32} : pr_P n 23 166 [.int a, .int b, .int c] := pr_eP pe_land
theorem pr_landIs {n : Nat} {a b : Int32} : pr_P n 25 169 [.int a, .int b] := pr_up (p0_landIs) (by decide +kernel) (by decide +kernel)
theorem pr_rate {n : Nat} {a b : Int32} : pr_P n 28 172 [.int a, .int b] := pr_up (p0_rate) (by decide +kernel) (by decide +kernel)
theorem pr_airline {n : Nat} {a : Int32} : pr_P n 29 173 [.int a] := pr_eP (pe_airline)
theorem pr_plane {n : Nat} {a b c : Int32} : pr_P n 31 174 [.int a, .int b, .int c] := pr_eP pe_plane
theorem pr_as {n : Nat} {a b : Int32} : pr_P n 35 176 [.int a, .int b] := pr_eP pe_as
theorem pr_planeIs {n : Nat} {a b : Int32} : pr_P n 38 179 [.int a, .int b] := pr_up (p0_planeIs) (by decide +kernel) (by decide +kernel)
theorem pr_earn {n : Nat} {a b : Int32} : pr_P n 51 189 [.int a, .int b] := pr_up (p0_earn) (by decide +kernel) (by decide +kernel)
theorem pr_coin {n : Nat} {a : Int32} : pr_P n 52 190 [.int a] := pr_up (p0_coin) (by decide +kernel) (by decide +kernel)
theorem pr_owes {n : Nat} {a b : Int32} : pr_P n 53 191 [.int a, .int b] := pr_up (p0_owes) (by decide +kernel) (by decide +kernel)
theorem pr_pay {n : Nat} {a b c : Int32} : pr_P n 55 193 [.int a, .int b, .int c] := pr_up (p0_pay) (by decide +kernel) (by decide +kernel)
theorem pr_end {n : Nat} {a : Int32} : pr_P n 56 194 [.int a] := pr_endx
theorem pr_feed {n : Nat} {b : Int32} {a : Int64} : pr_P n 63 195 [.long a, .int b] := pr_eP pe_feed
theorem pr_law {n : Nat} {a b : Int32} : pr_P n 65 196 [.int a, .int b] := pr_eP pe_law
theorem pr_force {n : Nat} {a b : Int32} : pr_P n 80 206 [.int a, .int b] := pr_eP pe_force
theorem pr_says {n : Nat} {a b c d : Int32} : pr_P n 81 207 [.int a, .int b, .int c, .int d] := pr_up (p0_says) (by decide +kernel) (by decide +kernel)
theorem pr_file {n : Nat} {a b : Int32} : pr_P n 82 208 [.int a, .int b] := pr_eP pe_file
theorem pr_fly {n : Nat} {a b : Int32} : pr_P n 89 212 [.int a, .int b] := pr_eP pe_fly
theorem pr_flightIs {n : Nat} {a b : Int32} : pr_P n 92 213 [.int a, .int b] := pr_up (p0_flightIs) (by decide +kernel) (by decide +kernel)
theorem pr_row {n : Nat} {a b c : Int32} : pr_P n 94 216 [.int a, .int b, .int c] := pr_eP pe_row
theorem pr_miles {n : Nat} {a b c d : Int32} : pr_P n 96 219 [.int a, .int b, .int c, .int d] := pr_up (p0_miles) (by decide +kernel) (by decide +kernel)
theorem pr_bill {n : Nat} {a : Int32} : pr_P n 101 221 [.int a] := pr_up (p0_bill) (by decide +kernel) (by decide +kernel)
theorem pr_right {n : Nat} {a : Int32} : pr_P n 113 225 [.int a] := pr_up (p0_right) (by decide +kernel) (by decide +kernel)
theorem pr_fee {n : Nat} {a b : Int32} : pr_P n 114 226 [.int a, .int b] := pr_up (p0_fee) (by decide +kernel) (by decide +kernel)
theorem pr_beside {n : Nat} {a b : Int32} (hb : b = 0 ∨ b = 1) : pr_P n 115 227 [.int a, .int b] := pr_up (p0_beside hb) (by decide +kernel) (by decide +kernel)
theorem pr_go {n : Nat} {a : Int32} : pr_P n 117 228 [.int a] := pr_eP (pe_go)
theorem pr_cheapest {n : Nat} {a b c d : Int32} : pr_P n 122 231 [.int a, .int b, .int c, .int d] := pr_up (p0_cheapest) (by decide +kernel) (by decide +kernel)
theorem pr_gain {n : Nat} {a b c d : Int32} : pr_P n 131 233 [.int a, .int b, .int c, .int d] := pr_up (p0_gain) (by decide +kernel) (by decide +kernel)
theorem pr_voice {n : Nat} {a b c : Int32} : pr_P n 133 234 [.int a, .int b, .int c] := pr_eP pe_voice
theorem pr_trace {n : Nat} {a : Int32} : pr_P n 138 240 [.int a] := pr_eP pe_trace
theorem pr_put {n : Nat} {a b c : Int32} : pr_P n 142 243 [.int a, .int b, .int c] := pr_eP (pe_put)
theorem pr_move {n : Nat} {a b c d e : Int32} : pr_P n 145 244 [.int a, .int b, .int c, .int d, .int e] := pr_eP (pe_move)
theorem pr_told {n : Nat} {a : Int32} : pr_P n 153 247 [.int a] := pr_up (p0_told) (by decide +kernel) (by decide +kernel)
theorem pr_found {n : Nat} {a : Int32} : pr_P n 157 248 [.int a] := pr_up (p0_found) (by decide +kernel) (by decide +kernel)
theorem pr_sheet {n : Nat} {a b c : Int32} : pr_P n 139 241 [.int a, .int b, .int c] := pr_eP (pe_sheet)
theorem pr_fuel {n : Nat} {a : Int32} : pr_P n 121 230 [.int a] := pr_eP (pe_fuel)
theorem pr_image {n : Nat} (hn : n ≤ 90000) : pr_P n 147 245 [] := pr_eP (pe_image hn)
theorem pr_restore {n : Nat} (hn : n ≤ 90000) : pr_P n 152 246 [] := pr_eP (pe_restore hn)
