/-! what stands in the reference's rows, as numbers -/
noncomputable def sy_r (w : pq_W) (r i : Nat) : Int := match sx_wg w r i with
  | some (.int x) => x.toInt
  | _ => 0
theorem sy_r_of {w : pq_W} {r i : Nat} {x : Int32} (h : sx_wg w r i = some (.int x)) : sy_r w r i = x.toInt := by
  unfold sy_r
  rw [h]
theorem sy_r_fr {A : sx_A} {w w1 : pq_W} (f : sx_Fr A w w1) {r i : Nat} (h : ¬ sx_InA A r i) : sy_r w1 r i = sy_r w r i := by
  unfold sy_r
  rw [f r i h]
noncomputable def sy_ninb (A : sx_A) (r : Nat) (lo hi : Int) : Bool := A.all fun q => !(Nat.beq q.1 r) || decide (q.2.2 < lo) || decide (hi < q.2.1)
theorem sy_nin {A : sx_A} {r i : Nat} {lo hi : Int} (h : sy_ninb A r lo hi = true) (h1 : lo ≤ i) (h2 : i ≤ hi) : ¬ sx_InA A r i := by
  intro ⟨q, hq, e1, e2, e3⟩
  unfold sy_ninb at h
  rw [List.all_eq_true] at h
  have h3 := h q hq
  rw [Bool.or_eq_true, Bool.or_eq_true] at h3
  rcases h3 with (h3 | h3) | h3
  · rw [e1, show Nat.beq r r = true from Nat.beq_refl r] at h3
    cases h3
  · have := of_decide_eq_true h3
    omega
  · have := of_decide_eq_true h3
    omega
theorem sy_arr {w : pq_W} {r n : Nat} {ty : FieldType} {gs : List sx_G} (ht : sx_Ty sx_T0 w) (hT : sx_T0[r]? = some (.inr (.inl (ty, n, gs)))) : ∃ f : Nat → Int32, w[r]? = some (.inl (ty, n, .inl f)) ∧ (∀ g ∈ gs, sx_gok g f) ∧ ∀ i, i < n → sx_wg w r i = some (.int (f i)) := by
  obtain ⟨c, h1, h2⟩ := sx_Ty_get ht hT
  match c, h1, h2 with
  | .inl (ty', n', .inl f), h1, h2 =>
    obtain ⟨e1, e2, h3⟩ := h2
    subst e1
    subst e2
    refine ⟨f, h1, h3, fun i hi => ?_⟩
    rw [sx_wg_of h1]
    show (if i < n' then some (Value.int (f i)) else none) = _
    rw [if_pos hi]
/-- a place of an array is there, with its number -/
theorem sy_at {w : pq_W} {r n : Nat} {ty : FieldType} {gs : List sx_G} (ht : sx_Ty sx_T0 w) (hT : sx_T0[r]? = some (.inr (.inl (ty, n, gs)))) {i : Nat} (hi : i < n) : ∃ x : Int32, sx_wg w r i = some (.int x) ∧ x.toInt = sy_r w r i := by
  obtain ⟨f, h1, h2, h3⟩ := sy_arr ht hT
  exact ⟨f i, h3 i hi, (sy_r_of (h3 i hi)).symm⟩
/-- bounds of a place by the rows of the cells' types -/
theorem sy_rg {w : pq_W} {r n : Nat} {ty : FieldType} {gs : List sx_G} (ht : sx_Ty sx_T0 w) (hT : sx_T0[r]? = some (.inr (.inl (ty, n, gs)))) {g : sx_G} (hg : g ∈ gs) {k j : Nat} (hk : k < g.2.2.1) (hj : g.2.2.2.1 ≤ j) (hj2 : j ≤ g.2.2.2.2.1) (hi : g.1 + g.2.1 * k + j < n) : g.2.2.2.2.2.1 ≤ sy_r w r (g.1 + g.2.1 * k + j) ∧ sy_r w r (g.1 + g.2.1 * k + j) ≤ g.2.2.2.2.2.2 := by
  obtain ⟨f, h1, h2, h3⟩ := sy_arr ht hT
  rw [sy_r_of (h3 _ hi)]
  exact h2 g hg k hk j hj hj2
theorem sy_Oat {p : Nat → Int} {w : pq_W} {r n : Nat} {ty : FieldType} {gs : List sx_G} {e v : sx_F} {i : Nat} (ht : sx_Ty sx_T0 w) (hT : sx_T0[r]? = some (.inr (.inl (ty, n, gs)))) (hi : i < n) (he : (i : Int) = sx_ev p e) (hv : sy_r w r i = sx_ev p v) : sx_O1 p w (r, e, .inl (.inl v)) := by
  obtain ⟨x, h1, h2⟩ := sy_at ht hT hi
  exact ⟨i, he, _, h1, by show x.toInt = _; rw [h2, hv]⟩
theorem sy_rb (w : pq_W) (r i : Nat) : -2147483648 ≤ sy_r w r i ∧ sy_r w r i ≤ 2147483647 := by
  unfold sy_r
  split
  · rename_i x hx
    exact ⟨x.minValue_le_toInt, x.toInt_le⟩
  · exact ⟨by decide, by decide⟩
/-! what is kept by every call: laws that are well made, the last of each told row -/
noncomputable def sy_dl (c : Int) : Int := if c < 20000 then 1 else if c = 20009 then 0 else -1
noncomputable def sy_nd (c : Int) : Int := if c < 20000 then 0 else if c = 20009 then 1 else 2
noncomputable def sy_ht (c : Nat → Int) : Nat → Int
  | 0 => 0
  | k + 1 => sy_ht c k + sy_dl (c k)
noncomputable def sy_okc (c : Nat → Int) (n : Int) : Prop := ∀ k : Nat, (k : Int) < n → sy_nd (c k) ≤ sy_ht c k
theorem sy_ht_le (c : Nat → Int) : ∀ k : Nat, sy_ht c k ≤ k
  | 0 => Int.le_refl _
  | k + 1 => by
    have h := sy_ht_le c k
    have h2 : sy_dl (c k) ≤ 1 := by
      unfold sy_dl
      split
      · exact Int.le_refl _
      · split <;> decide
    show sy_ht c k + sy_dl (c k) ≤ ((k + 1 : Nat) : Int)
    omega
theorem sy_ht_congr {c d : Nat → Int} : ∀ {k : Nat}, (∀ i, i < k → c i = d i) → sy_ht c k = sy_ht d k
  | 0, _ => rfl
  | k + 1, h => by
    show sy_ht c k + sy_dl (c k) = sy_ht d k + sy_dl (d k)
    rw [sy_ht_congr (fun i hi => h i (by omega)), h k (by omega)]
theorem sy_okc_congr {c d : Nat → Int} {n : Int} (h : ∀ i : Nat, (i : Int) < n → c i = d i) (ho : sy_okc c n) : sy_okc d n := fun k hk => by
  rw [← h k hk, ← sy_ht_congr (fun i hi => h i (by omega))]
  exact ho k hk
noncomputable def sy_JT (w : pq_W) (r : Nat) : Prop := ∀ t : Nat, t < 40 → 0 ≤ sy_r w r (1324 + 15 * t + (sy_r w r (1324 + 15 * t)).toNat) ∧ sy_r w r (1324 + 15 * t + (sy_r w r (1324 + 15 * t)).toNat) ≤ 63
noncomputable def sy_JL (w : pq_W) (r : Nat) : Prop := ∀ l : Nat, l < 12 → sy_okc (fun k => sy_r w r (1925 + 73 * l + k)) (sy_r w r (1924 + 73 * l))
noncomputable def sy_J0 (w : pq_W) : Prop := (sy_JT w 95 ∧ sy_JL w 95) ∧ sy_JT w 96 ∧ sy_JL w 96
abbrev sy_Z (w : pq_W) (r : Nat) : Prop := (∀ t : Nat, t < 40 → 0 ≤ sy_r w r (1324 + 15 * t) ∧ sy_r w r (1324 + 15 * t) ≤ 12) ∧ ∀ l : Nat, l < 12 → 0 ≤ sy_r w r (1924 + 73 * l) ∧ sy_r w r (1924 + 73 * l) ≤ 70
theorem sy_z95 {w : pq_W} (ht : sx_Ty sx_T0 w) : sy_Z w 95 := by
  refine ⟨fun t h => ?_, fun l h => ?_⟩
  · have := sy_rg (r := 95) ht rfl (g := (1322, 15, 40, 2, 2, 0, 12)) (by decide) (k := t) (j := 2) h (Nat.le_refl _) (Nat.le_refl _) (by show 1322 + 15 * t + 2 < 2858; omega)
    rw [show 1324 + 15 * t = 1322 + 15 * t + 2 by omega]
    exact this
  · have := sy_rg (r := 95) ht rfl (g := (1922, 73, 12, 2, 2, 0, 70)) (by decide) (k := l) (j := 2) h (Nat.le_refl _) (Nat.le_refl _) (by show 1922 + 73 * l + 2 < 2858; omega)
    rw [show 1924 + 73 * l = 1922 + 73 * l + 2 by omega]
    exact this
theorem sy_z96 {w : pq_W} (ht : sx_Ty sx_T0 w) : sy_Z w 96 := by
  refine ⟨fun t h => ?_, fun l h => ?_⟩
  · have := sy_rg (r := 96) ht rfl (g := (1322, 15, 40, 2, 2, 0, 12)) (by decide) (k := t) (j := 2) h (Nat.le_refl _) (Nat.le_refl _) (by show 1322 + 15 * t + 2 < 2858; omega)
    rw [show 1324 + 15 * t = 1322 + 15 * t + 2 by omega]
    exact this
  · have := sy_rg (r := 96) ht rfl (g := (1922, 73, 12, 2, 2, 0, 70)) (by decide) (k := l) (j := 2) h (Nat.le_refl _) (Nat.le_refl _) (by show 1922 + 73 * l + 2 < 2858; omega)
    rw [show 1924 + 73 * l = 1922 + 73 * l + 2 by omega]
    exact this
theorem sy_JT_congr {w w1 : pq_W} {r r1 : Nat} (hz : sy_Z w r) (h : ∀ i, 1322 ≤ i → i < 1922 → sy_r w1 r1 i = sy_r w r i) (hj : sy_JT w r) : sy_JT w1 r1 := fun t ht => by
  have z := hz.1 t ht
  rw [h (1324 + 15 * t) (by omega) (by omega), h _ (by omega) (by omega)]
  exact hj t ht
theorem sy_JL_congr {w w1 : pq_W} {r r1 : Nat} (hz : sy_Z w r) (h : ∀ i, 1922 ≤ i → i < 2798 → sy_r w1 r1 i = sy_r w r i) (hj : sy_JL w r) : sy_JL w1 r1 := fun l hl => by
  have z := hz.2 l hl
  rw [h (1924 + 73 * l) (by omega) (by omega)]
  refine sy_okc_congr (fun i hi => ?_) (hj l hl)
  exact (h _ (by omega) (by omega)).symm
theorem sy_J0I : sx_JI sy_J0 := fun w w1 hj ht f => by
  have h96 : ∀ i, i < 2858 → sy_r w1 96 i = sy_r w 96 i := fun i hi => sy_r_fr f (sy_nin (lo := 0) (hi := 2857) rfl (by omega) (by omega))
  have h95 : ∀ i, 1322 ≤ i → i < 2798 → sy_r w1 95 i = sy_r w 95 i := fun i h1 h2 => sy_r_fr f (sy_nin (lo := 1322) (hi := 2797) rfl (by omega) (by omega))
  -- the bounds of w are those of w1
  have z95 : sy_Z w 95 := by
    have z := sy_z95 ht
    refine ⟨fun t h => ?_, fun l h => ?_⟩
    · rw [← h95 _ (by omega) (by omega)]; exact z.1 t h
    · rw [← h95 _ (by omega) (by omega)]; exact z.2 l h
  have z96 : sy_Z w 96 := by
    have z := sy_z96 ht
    refine ⟨fun t h => ?_, fun l h => ?_⟩
    · rw [← h96 _ (by omega)]; exact z.1 t h
    · rw [← h96 _ (by omega)]; exact z.2 l h
  exact ⟨⟨sy_JT_congr z95 (fun i h1 h2 => h95 i h1 (by omega)) hj.1.1, sy_JL_congr z95 (fun i h1 h2 => h95 i (by omega) h2) hj.1.2⟩, sy_JT_congr z96 (fun i h1 h2 => h96 i (by omega)) hj.2.1, sy_JL_congr z96 (fun i h1 h2 => h96 i (by omega)) hj.2.2⟩
