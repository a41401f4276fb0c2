/-! the fresh world is as it should be -/
noncomputable def fr_g (f : Nat → Int32) (g : sx_G) : Bool := (List.range g.2.2.1).all fun k => (List.range (g.2.2.2.2.1 + 1)).all fun j => Nat.blt j g.2.2.2.1 || (decide (g.2.2.2.2.2.1 ≤ (f (g.1 + g.2.1 * k + j)).toInt) && decide ((f (g.1 + g.2.1 * k + j)).toInt ≤ g.2.2.2.2.2.2))
theorem fr_gok {f : Nat → Int32} {g : sx_G} (h : fr_g f g = true) : sx_gok g f := fun k hk j h1 h2 => by
  have a := List.all_eq_true.mp h k (List.mem_range.mpr hk)
  have b := List.all_eq_true.mp a j (List.mem_range.mpr (by omega))
  rcases Bool.or_eq_true_iff.mp b with q | q
  · have q : j < g.2.2.2.1 := Nat.le_of_ble_eq_true q
    omega
  · simp only [Bool.and_eq_true, decide_eq_true_eq] at q
    exact q
noncomputable def fr_f : sx_ft → Value → Bool
  | .inl (lo, hi), .int x => decide (lo ≤ x.toInt) && decide (x.toInt ≤ hi)
  | .inr (.inl ()), .long _ => true
  | .inr (.inr (.inl n)), .ref m => Nat.beq m n
  | .inr (.inr (.inr ())), _ => true
  | _, _ => false
theorem fr_fok : ∀ {t : sx_ft} {v : Value}, fr_f t v = true → sx_fok t v := by
  intro t v h
  unfold fr_f at h
  split at h
  · simp only [Bool.and_eq_true, decide_eq_true_eq] at h
    exact h
  · trivial
  · exact Nat.eq_of_beq_eq_true h
  · unfold sx_fok
    trivial
  · cases h
noncomputable def fr_fs : List sx_ft → List Value → Bool
  | [], [] => true
  | t :: ts, v :: vs => fr_f t v && fr_fs ts vs
  | _, _ => false
theorem fr_fsok : ∀ {ts : List sx_ft} {vs : List Value}, fr_fs ts vs = true → vs.length = ts.length ∧ ∀ (i : Nat) t v, ts[i]? = some t → vs[i]? = some v → sx_fok t v
  | [], [], _ => ⟨rfl, fun i t v h _ => by cases h⟩
  | [], _ :: _, h => by cases h
  | _ :: _, [], h => by cases h
  | t :: ts, v :: vs, h => by
    have h : (fr_f t v && fr_fs ts vs) = true := h
    rw [Bool.and_eq_true] at h
    obtain ⟨a, b⟩ := fr_fsok h.2
    refine ⟨by rw [List.length_cons, List.length_cons, a], fun i t1 v1 h1 h2 => ?_⟩
    match i, h1, h2 with
    | 0, h1, h2 =>
      cases h1
      cases h2
      exact fr_fok h.1
    | i + 1, h1, h2 => exact b i t1 v1 h1 h2
noncomputable def fr_c : sx_ct → pq_C → Bool
  | .inl (ci, fs), .inr (c, vs) => Nat.beq c ci && fr_fs fs vs
  | .inr (.inl (ty, n, gs)), .inl (ty', n', .inl f) => decide (ty' = ty) && Nat.beq n' n && gs.all (fr_g f)
  | .inr (.inr (.inl (n, lo, hi))), .inl (ty', n', .inr _) => decide (ty' = .long) && Nat.beq n' n && decide (lo ≤ -9223372036854775808) && decide (9223372036854775807 ≤ hi)
  | .inr (.inr (.inr ())), _ => true
  | _, _ => false
theorem fr_cok : ∀ {t : sx_ct} {c : pq_C}, fr_c t c = true → sx_cok t c := by
  intro t c h
  unfold fr_c at h
  split at h
  · rw [Bool.and_eq_true] at h
    obtain ⟨a, b⟩ := fr_fsok h.2
    exact ⟨Nat.eq_of_beq_eq_true h.1, a, b⟩
  · simp only [Bool.and_eq_true, decide_eq_true_eq] at h
    exact ⟨h.1.1, Nat.eq_of_beq_eq_true h.1.2, fun g hg => fr_gok (List.all_eq_true.mp h.2 g hg)⟩
  · simp only [Bool.and_eq_true, decide_eq_true_eq] at h
    refine ⟨h.1.1.1, Nat.eq_of_beq_eq_true h.1.1.2, fun i => ⟨Int.le_trans h.1.2 ?_, Int.le_trans ?_ h.2⟩⟩
    · exact Int64.minValue_le_toInt _
    · exact Int64.toInt_le _
  · unfold sx_cok
    trivial
  · cases h
noncomputable def fr_w : List sx_ct → pq_W → Bool
  | [], [] => true
  | t :: T, c :: w => fr_c t c && fr_w T w
  | _, _ => false
theorem fr_wok : ∀ {T : List sx_ct} {w : pq_W}, fr_w T w = true → sx_Ty T w
  | [], [], _ => ⟨rfl, fun r t c h _ => by cases h⟩
  | [], _ :: _, h => by cases h
  | _ :: _, [], h => by cases h
  | t :: T, c :: w, h => by
    have h : (fr_c t c && fr_w T w) = true := h
    rw [Bool.and_eq_true] at h
    obtain ⟨a, b⟩ := fr_wok h.2
    refine ⟨by rw [List.length_cons, List.length_cons, a], fun i t1 v1 h1 h2 => ?_⟩
    match i, h1, h2 with
    | 0, h1, h2 =>
      cases h1
      cases h2
      exact fr_cok h.1
    | i + 1, h1, h2 => exact b i t1 v1 h1 h2
noncomputable def fwt : pq_W := (fw cc3).tail
theorem fw_eq (z : pq_C) : fw z = z :: fwt := rfl
theorem fr_but {T : List sx_ct} {w : pq_W} {r : Nat} {t : sx_ct} {c : pq_C} (h : sx_Ty (T.set r (.inr (.inr (.inr ())))) w) (hT : T[r]? = some t) (hc : w[r]? = some c) (hk : sx_cok t c) : sx_Ty T w := by
  refine ⟨by rw [h.1, List.length_set], fun i t1 c1 h1 h2 => ?_⟩
  by_cases e : r = i
  · subst e
    rw [hT] at h1
    rw [hc] at h2
    cases h1
    cases h2
    exact hk
  · exact h.2 i t1 c1 (by rw [List.getElem?_set_ne e]; exact h1) h2
theorem fwt_ok : fr_w ((sx_T0).set 86 (.inr (.inr (.inr ())))).tail fwt = true := by decide +kernel
theorem fw_ty (z : pq_C) : sx_Ty sx_T0 (fw z) := by
  refine fr_but (r := 86) (t := .inr (.inr (.inl (64, 0, 1000000000000)))) (c := .inl (.long, 64, .inr (fun _ => 0))) ?_ rfl rfl ⟨rfl, rfl, fun i => ⟨by show (0 : Int) ≤ (0 : Int64).toInt; decide, by show (0 : Int64).toInt ≤ 1000000000000; decide⟩⟩
  rw [fw_eq]
  refine fr_wok (T := (.inr (.inr (.inr ()))) :: ((sx_T0).set 86 (.inr (.inr (.inr ())))).tail) ?_
  show (true && fr_w ((sx_T0).set 86 (.inr (.inr (.inr ())))).tail fwt) = true
  rw [fwt_ok]
  rfl
noncomputable def fw_f : Nat → Int32 := match (fwt[94]? : Option pq_C) with
  | some (Sum.inl (_, _, Sum.inl f)) => f
  | _ => fun _ => 0
theorem fw_z : ((List.range 2858).all fun i => Nat.beq i 1 || (Nat.ble 10 i && Nat.ble i 185) || decide (fw_f i = 0)) = true := by decide +kernel
/-- all but fuel, land and rates is 0 -/
noncomputable def fw_N (N : Nat → Int) : Prop := ∀ i, i < 2858 → i ≠ 1 → i < 10 ∨ 186 ≤ i → N i = 0
theorem fw_95 (z : pq_C) : fw_N (sy_r (fw z) 95) := fun i hi h1 h2 => by
  have e : sy_r (fw z) 95 i = (fw_f i).toInt := im_arr (w := fw z) (r := 95) (n := 2858) (f := fw_f) (ty := .int) rfl hi
  have a := List.all_eq_true.mp fw_z i (List.mem_range.mpr hi)
  simp only [Bool.or_eq_true, Bool.and_eq_true, decide_eq_true_eq] at a
  rcases a with (a | a) | a
  · exact absurd (Nat.eq_of_beq_eq_true a) h1
  · have := Nat.le_of_ble_eq_true a.1
    have := Nat.le_of_ble_eq_true a.2
    omega
  · rw [e, a]
    rfl
theorem fw_96 (z : pq_C) : fw_N (sy_r (fw z) 96) := fun i hi _ _ => im_arr (w := fw z) (r := 96) (n := 2858) (f := fun _ => 0) (ty := .int) rfl hi
theorem fw_s {f : Nat → Int} : ∀ {n : Nat}, (∀ i, i < n → f i = 0) → mo_s f n = 0
  | 0, _ => rfl
  | n + 1, h => by
    show mo_s f n + f n = 0
    rw [fw_s (fun i hi => h i (by omega)), h n (by omega)]
    rfl
theorem fw_Mo {N : Nat → Int} (h : fw_N N) : Mo N := by
  have h5 : N 5 = 0 := h 5 (by omega) (by omega) (by omega)
  have hF : ∀ a l, mo_F N a l = 0 := fun a l => fw_s (fun g _ => by
    unfold mo_t
    rw [h5, if_neg (fun q => by have := q.1; omega)])
  have g : ∀ i, i < 2858 → 186 ≤ i → N i = 0 := fun i h1 h2 => h i h1 (by omega) (Or.inr h2)
  have hB : (0 : Int) ≤ mo_B (N 0 / 100).toNat := (mo_B_le _).1
  refine ⟨?_, ⟨?_, ?_, ?_, ?_, ?_, ?_⟩, ⟨?_, ?_⟩, fun a ha => ⟨?_, ?_, ?_, ?_⟩⟩
  · rw [h 0 (by omega) (by omega) (by omega)]; decide
  · rw [h 2 (by omega) (by omega) (by omega)]; decide
  · rw [h 3 (by omega) (by omega) (by omega)]; decide
  · rw [h5]; decide
  · rw [h 6 (by omega) (by omega) (by omega)]; decide
  · intro g0 hg
    rw [g _ (by omega) (by omega)]
    decide
  · intro p hp
    rw [g _ (by omega) (by omega)]
    decide
  · intro g0 hg
    rw [h5] at hg
    omega
  · intro t ht
    rw [h 6 (by omega) (by omega) (by omega)] at ht
    omega
  · intro l hl
    rw [g _ (by omega) (by omega), hF]
    exact ⟨Int.le_refl _, by show (0 : Int) ≤ 0 + mo_B (N 0 / 100).toNat; omega⟩
  · rw [g _ (by omega) (by omega)]
    exact Int.le_refl _
  · rw [g _ (by omega) (by omega)]
    decide
  · intro _
    rw [g _ (by omega) (by omega), fw_s (fun l hl => by unfold mo_x; rw [hF, g _ (by omega) (by omega)]; decide)]
    decide
theorem fw_JT {w : pq_W} {r : Nat} (h : fw_N (sy_r w r)) : sy_JT w r := fun t ht => by
  rw [h (1324 + 15 * t) (by omega) (by omega) (by omega)]
  show 0 ≤ sy_r w r (1324 + 15 * t + 0) ∧ sy_r w r (1324 + 15 * t + 0) ≤ 63
  rw [h (1324 + 15 * t + 0) (by omega) (by omega) (by omega)]
  decide
theorem fw_JL {w : pq_W} {r : Nat} (h : fw_N (sy_r w r)) : sy_JL w r := fun l hl k hk => by
  rw [h (1924 + 73 * l) (by omega) (by omega) (by omega)] at hk
  omega
theorem fw_JJ (z : pq_C) : JJ (fw z) := ⟨⟨⟨fw_JT (fw_95 z), fw_JL (fw_95 z)⟩, fw_JT (fw_96 z), fw_JL (fw_96 z)⟩, fw_Mo (fw_95 z), fw_Mo (fw_96 z)⟩
theorem fw_FI (z : pq_C) : FI 0 (fw z) := by
  have a1 : sy_r (fw z) 6 9 = 10 := rfl
  have a2 : sy_r (fw z) 95 1 = 10 := by
    rw [im_arr (w := fw z) (r := 95) (n := 2858) (f := fw_f) (ty := .int) rfl (by omega)]
    decide +kernel
  have a3 : sy_r (fw z) 5 15 = 0 := rfl
  have a4 : sy_r (fw z) 94 2 = 0 := rfl
  exact ⟨a1.trans a2.symm, a3.trans a4.symm, by rw [a4]; decide, by rw [a4]; decide, fun q => absurd a4 q⟩
theorem fw_SH (z : pq_C) : SH (fw z) := fun s hs => by
  match s, hs with
  | 0, _ => exact ⟨rfl, rfl, Or.inl rfl⟩
  | 1, _ => exact ⟨rfl, rfl, Or.inl rfl⟩
  | 2, _ => exact ⟨rfl, rfl, Or.inl rfl⟩
  | 3, _ => exact ⟨rfl, rfl, Or.inl rfl⟩
theorem fw_al1 : (nq_M.all fun q => Nat.blt q.2.2 2858) = true := by decide +kernel
noncomputable def fw_n (r i : Nat) : Int := match sx_wg (cc3 :: fwt) r i with
  | some (.int x) => x.toInt
  | _ => 0
theorem fw_al2 : (nq_M.all fun q => !(Nat.beq q.1 0) && sx_ieq (fw_n q.1 q.2.1) (fw_f q.2.2).toInt) = true := by decide +kernel
theorem fw_AN (z : pq_C) : AN (fw z) := fun q hq => by
  have h1 : q.2.2 < 2858 := Nat.le_of_ble_eq_true (List.all_eq_true.mp fw_al1 q hq)
  have h2 := List.all_eq_true.mp fw_al2 q hq
  rw [Bool.and_eq_true] at h2
  have h3 : fw_n q.1 q.2.1 = (fw_f q.2.2).toInt := sx_ieq_ok h2.2
  show sy_r (fw z) q.1 q.2.1 = sy_r (fw z) 95 q.2.2
  rw [im_arr (w := fw z) (r := 95) (n := 2858) (f := fw_f) (ty := .int) rfl h1, ← h3, fw_eq]
  obtain ⟨r, i, j⟩ := q
  match r, h2 with
  | 0, h2 => exact absurd (show (!(Nat.beq 0 0)) = true from h2.1) (by decide)
  | r + 1, _ => rfl
theorem fw_AK (z : pq_C) : AK (fw z) := fun h => absurd (show sy_r (fw z) 94 2 = 0 from rfl) h
theorem fw_ez : ((List.range 8).all fun a => sx_ieq (fw_f (187 + 10 * a)).toInt 0) = true := by decide +kernel
theorem fw_EZ (z : pq_C) : EZ (fw z) := fun a ha _ => by
  rw [im_arr (w := fw z) (r := 95) (n := 2858) (f := fw_f) (ty := .int) rfl (by omega)]
  exact sx_ieq_ok (List.all_eq_true.mp fw_ez a (List.mem_range.mpr ha))
theorem fw_EK (z : pq_C) : EK (fw z) := fun h => absurd (show sy_r (fw z) 94 2 = 0 from rfl) h
theorem fw_WI (z : pq_C) : WI 0 (fw z) := ⟨⟨fw_ty z, fw_JJ z, fw_FI z⟩, fw_SH z, ⟨fw_AN z, fw_AK z⟩, fw_EZ z, fw_EK z⟩
