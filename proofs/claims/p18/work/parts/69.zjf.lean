/-! stores into arrays by hand, at any place -/
/-- a place that a range of a type speaks of -/
noncomputable def as_hit (g : sx_G) (q : Nat) : Prop := ∃ k j, k < g.2.2.1 ∧ g.2.2.2.1 ≤ j ∧ j ≤ g.2.2.2.2.1 ∧ q = g.1 + g.2.1 * k + j
theorem as_gok {g : sx_G} {f : Nat → Int32} {q : Nat} {y : Int32} (h : sx_gok g f) (hy : as_hit g q → g.2.2.2.2.2.1 ≤ y.toInt ∧ y.toInt ≤ g.2.2.2.2.2.2) : sx_gok g (upd f q y) := fun k hk j h1 h2 => by
  show _ ≤ (if g.1 + g.2.1 * k + j = q then y else f (g.1 + g.2.1 * k + j)).toInt ∧ (if g.1 + g.2.1 * k + j = q then y else f (g.1 + g.2.1 * k + j)).toInt ≤ _
  by_cases e : g.1 + g.2.1 * k + j = q
  · rw [if_pos e]
    exact hy ⟨k, j, hk, h1, h2, e.symm⟩
  · rw [if_neg e]
    exact h k hk j h1 h2
theorem as_st {r n q : Nat} {ty : FieldType} {gs : List sx_G} {y : Int32} {w : pq_W} (ht : sx_Ty sx_T0 w) (hT : sx_T0[r]? = some (.inr (.inl (ty, n, gs)))) (hi : q < n) (hy : ∀ g ∈ gs, as_hit g q → g.2.2.2.2.2.1 ≤ y.toInt ∧ y.toInt ≤ g.2.2.2.2.2.2) : ∃ f : Nat → Int32, w[r]? = some (.inl (ty, n, .inl f)) ∧ sx_Ty sx_T0 (w.set r (.inl (ty, n, .inl (upd f q y)))) ∧ sx_Fr [(r, (q : Int), (q : Int))] w (w.set r (.inl (ty, n, .inl (upd f q y)))) ∧ sx_wg (w.set r (.inl (ty, n, .inl (upd f q y)))) r q = some (.int y) := by
  obtain ⟨f, h1, h2, _⟩ := sy_arr ht hT
  have hr : r < w.length := (List.getElem?_eq_some_iff.mp h1).1
  refine ⟨f, h1, sx_Ty_set ht hT ⟨rfl, rfl, fun g hg => as_gok (h2 g hg) (hy g hg)⟩, fun r2 i2 hn => ?_, ?_⟩
  · rw [sx_wg_set hr]
    by_cases e : r = r2
    · subst e
      rw [if_pos rfl, sx_wg_of h1]
      have ne : i2 ≠ q := fun e => hn ⟨_, List.mem_cons_self, rfl, by show (q : Int) ≤ i2; omega, by show (i2 : Int) ≤ q; omega⟩
      show (if i2 < n then some (Value.int (if i2 = q then y else f i2)) else none) = if i2 < n then some (Value.int (f i2)) else none
      rw [if_neg ne]
    · rw [if_neg e]
  · rw [sx_wg_set hr, if_pos rfl]
    show (if q < n then some (Value.int (if q = q then y else f q)) else none) = _
    rw [if_pos hi, if_pos rfl]
section XST
variable {k : Nat} {M : pq_M} {pc cs ss pc0 nx t r n q : Nat} {ls : pq_L} {st : List Value} {w : pq_W} {i : Instr} {a : List Nat} {v : Value} {gs : List sx_G} {x y : Int32} {Q : pq_R → Prop}
theorem xs_ist (hq : pq_look (pq_cd M) pc = some (pc0, 22, nx, i, 0 :: a, v, t)) (ht : sx_Ty sx_T0 w) (hT : sx_T0[r]? = some (.inr (.inl (FieldType.int, n, gs)))) (hE : Nat.ble pq_E r = true) (hi : q < n) (hn : n < 2 ^ 31) (hx : x = nI q) (hy : ∀ g ∈ gs, as_hit g q → g.2.2.2.2.2.1 ≤ y.toInt ∧ y.toInt ≤ g.2.2.2.2.2.2) (g : ∀ w2, sx_Ty sx_T0 w2 → sx_Fr [(r, (q : Int), (q : Int))] w w2 → sx_wg w2 r q = some (.int y) → ∃ res, pq_Go k M nx ls st w2 cs ss res ∧ Q res) : ∃ res, pq_Go k M pc ls (.int y :: .int x :: .ref r :: st) w cs ss res ∧ Q res := by
  obtain ⟨f, h1, t2, f2, e2⟩ := as_st ht hT hi hy
  obtain ⟨res, g, z⟩ := g _ t2 f2 e2
  refine ⟨res, go_ast hq h1 ?_ hE g, z⟩
  subst hx
  show (if FieldType.int = .int ∧ pq_in (nI q) n = true then some (Sum.inl (FieldType.int, n, Sum.inl (upd f (nI q).toNatClampNeg y))) else none) = _
  rw [if_pos ⟨rfl, decide_eq_true (vp_in_nI hi hn)⟩, nI_clamp (by omega)]
theorem xs_bst (hq : pq_look (pq_cd M) pc = some (pc0, 22, nx, i, 2 :: a, v, t)) (ht : sx_Ty sx_T0 w) (hT : sx_T0[r]? = some (.inr (.inl (FieldType.byte, n, gs)))) (hE : Nat.ble pq_E r = true) (hi : q < n) (hn : n < 2 ^ 31) (hx : x = nI q) (hy : ∀ g ∈ gs, as_hit g q → g.2.2.2.2.2.1 ≤ y.toInt8.toInt32.toInt ∧ y.toInt8.toInt32.toInt ≤ g.2.2.2.2.2.2) (g : ∀ w2, sx_Ty sx_T0 w2 → sx_Fr [(r, (q : Int), (q : Int))] w w2 → sx_wg w2 r q = some (.int y.toInt8.toInt32) → ∃ res, pq_Go k M nx ls st w2 cs ss res ∧ Q res) : ∃ res, pq_Go k M pc ls (.int y :: .int x :: .ref r :: st) w cs ss res ∧ Q res := by
  obtain ⟨f, h1, t2, f2, e2⟩ := as_st (y := y.toInt8.toInt32) ht hT hi hy
  obtain ⟨res, g, z⟩ := g _ t2 f2 e2
  refine ⟨res, go_ast hq h1 ?_ hE g, z⟩
  subst hx
  show (if (FieldType.byte = .byte ∨ FieldType.byte = .boolean) ∧ pq_in (nI q) n = true then some (Sum.inl (FieldType.byte, n, Sum.inl (upd f (nI q).toNatClampNeg (vp_nar .byte y)))) else none) = _
  rw [if_pos ⟨Or.inl rfl, decide_eq_true (vp_in_nI hi hn)⟩, nI_clamp (by omega), vp_nar_byte]
end XST
/-- a byte of a word, both ways -/
theorem wb_c (X : BitVec 64) (s : Nat) (hs : s ≤ 56) : ((X >>> s).signExtend 32).signExtend 8 = X.extractLsb' s 8 := by
  apply BitVec.eq_of_getLsbD_eq
  intro i hi
  rw [BitVec.getLsbD_signExtend, BitVec.getLsbD_signExtend, BitVec.getLsbD_ushiftRight, BitVec.getLsbD_extractLsb']
  simp [hi, show i < 32 by omega, show i < 64 by omega]
theorem wb_m (X : BitVec 64) (s : Nat) (hs : s ≤ 56) : ((X.sshiftRight s &&& 255#64).signExtend 32) = (X.extractLsb' s 8).setWidth 32 := by
  have e : (255#64) = (BitVec.allOnes 8).setWidth 64 := by decide
  rw [e]
  apply BitVec.eq_of_getLsbD_eq
  intro i hi
  rw [BitVec.getLsbD_signExtend, BitVec.getLsbD_and, BitVec.getLsbD_sshiftRight, BitVec.getLsbD_setWidth, BitVec.getLsbD_setWidth, BitVec.getLsbD_extractLsb', BitVec.getLsbD_allOnes]
  by_cases c : i < 8
  · simp [c, hi, show i < 64 by omega, show ¬ 64 ≤ i by omega, show s + i < 64 by omega]
  · simp [c, hi, show i < 64 by omega]
noncomputable def wb (x : Int64) (k : Nat) : BitVec 8 := x.toBitVec.extractLsb' (8 * k) 8
noncomputable def wb_C (x : Int64) (k : Nat) : Int32 := (x.toUInt64 >>> (((8 * nI k) : Int32).toInt64.toUInt64 &&& Int64.toUInt64 63)).toInt64.toInt32.toInt8.toInt32
noncomputable def wb_R (x : Int64) (k : Nat) : Int32 := ((x >>> (((8 * nI k) : Int32).toInt64 &&& 63)) &&& 255).toInt32
theorem wb_u {x : Int64} {u : UInt64} {s : Nat} (h : u = UInt64.ofNat s) (hs : s ≤ 56) : (x.toUInt64 >>> u).toInt64.toInt32.toInt8.toBitVec = x.toBitVec.extractLsb' s 8 := by
  subst h
  rw [← wb_c x.toBitVec s hs]
  have e : (x.toUInt64 >>> UInt64.ofNat s).toBitVec = x.toBitVec >>> s := by
    rw [UInt64.toBitVec_shiftRight]
    show x.toBitVec >>> ((UInt64.ofNat s).toBitVec % 64#64).toNat = _
    have z : ((UInt64.ofNat s).toBitVec % 64#64).toNat = s := by
      rw [BitVec.toNat_umod]
      show (UInt64.ofNat s).toNat % 64 = s
      rw [UInt64.toNat_ofNat']
      omega
    rw [z]
  show ((x.toUInt64 >>> UInt64.ofNat s).toBitVec.signExtend 32).signExtend 8 = _
  rw [e]
theorem wb_s {x u : Int64} {s : Nat} (h : u = Int64.ofNat s) (hs : s ≤ 56) : ((x >>> u) &&& 255).toInt32.toBitVec = (x.toBitVec.extractLsb' s 8).setWidth 32 := by
  subst h
  rw [← wb_m x.toBitVec s hs]
  have e : (x >>> Int64.ofNat s).toBitVec = x.toBitVec.sshiftRight s := by
    rw [Int64.toBitVec_shiftRight]
    show x.toBitVec.sshiftRight ((Int64.ofNat s).toBitVec.smod 64#64).toNat = _
    have z : ((Int64.ofNat s).toBitVec.smod 64#64).toNat = s := by
      have all : ∀ s : Nat, s < 57 → ((Int64.ofNat s).toBitVec.smod 64#64).toNat = s := by decide +kernel
      exact all s (by omega)
    rw [z]
  show ((x >>> Int64.ofNat s).toBitVec &&& 255#64).signExtend 32 = _
  rw [e]
theorem wb_1 {x : Int64} {k : Nat} (hk : k < 8) : (wb_C x k).toInt8.toInt32.toInt % 256 = ((wb x k).toNat : Int) := by
  have all : ∀ k : Nat, k < 8 → (((8 * nI k) : Int32).toInt64.toUInt64 &&& Int64.toUInt64 63) = UInt64.ofNat (8 * k) := by decide +kernel
  have e := wb_u (x := x) (all k hk) (by omega)
  unfold wb_C
  rw [Int8.toInt8_toInt32, Int8.toInt_toInt32]
  show ((x.toUInt64 >>> (((8 * nI k) : Int32).toInt64.toUInt64 &&& Int64.toUInt64 63)).toInt64.toInt32.toInt8.toBitVec).toInt % 256 = _
  rw [e, BitVec.toInt_eq_toNat_bmod]
  show (((wb x k).toNat : Int).bmod 256) % 256 = _
  have := (wb x k).isLt
  rw [show (256 : Int) = ((256 : Nat) : Int) from rfl, Int.bmod_emod]
  omega
theorem wb_2 {x : Int64} {k : Nat} (hk : k < 8) : (wb_R x k).toInt = ((wb x k).toNat : Int) := by
  have all : ∀ k : Nat, k < 8 → (((8 * nI k) : Int32).toInt64 &&& 63) = Int64.ofNat (8 * k) := by decide +kernel
  have e := wb_s (x := x) (all k hk) (by omega)
  have := (wb x k).isLt
  unfold wb_R
  show (((x >>> (((8 * nI k) : Int32).toInt64 &&& 63)) &&& 255).toInt32.toBitVec).toInt = _
  rw [e, BitVec.toInt_setWidth]
  show Int.bmod ((wb x k).toNat : Int) (2 ^ 32) = _
  exact Int.bmod_eq_of_le (by omega) (by omega)
theorem cw_t (w : pq_W) {x lo hi : Int32} {l h : Int} (hl : lo.toInt = l) (hh : hi.toInt = h) (hp : l ≤ x.toInt ∧ x.toInt ≤ h) : pq_Ru 1 16 [.int x, .int lo, .int hi] w (some (.int 1), w) := by
  refine ru_of (k := 0) (M := pm_16) rfl rfl (go_seg 2 (pc' := 2) (ls' := [(0, .int x), (1, .int lo), (2, .int hi)]) (st' := [.int lo, .int x]) (w' := w) (cs' := 0) (ss' := 0) ?_ (fun _ _ => rfl))
  refine go_cmp false rfl (br_lt_f hl (by omega)) ?_
  refine go_seg 2 (pc' := 7) (ls' := [(0, .int x), (1, .int lo), (2, .int hi)]) (st' := [.int hi, .int x]) (w' := w) (cs' := 0) (ss' := 0) ?_ (fun _ _ => rfl)
  exact go_cmp false rfl (br_gt_f hh (by omega)) (go_end 3 (fun _ _ => rfl))
/-! feed -/
noncomputable def gs95 : List sx_G := [(1, 1, 1, 0, 0, 0, 999), (2, 1, 1, 0, 0, 0, 8), (3, 1, 1, 0, 0, 0, 12), (4, 1, 1, 0, 0, 0, 12), (5, 1, 1, 0, 0, 0, 30), (6, 1, 1, 0, 0, 0, 40), (7, 1, 1, 0, 0, 0, 60), (10, 1, 64, 0, 0, -1, 7), (74, 1, 64, 0, 0, 0, 1), (138, 6, 8, 0, 0, 0, 9999), (138, 6, 8, 1, 1, 1, 9999), (138, 6, 8, 2, 2, 0, 9999), (186, 10, 8, 1, 1, 0, 1), (266, 3, 12, 0, 0, 0, 5), (266, 3, 12, 1, 1, 0, 7), (266, 3, 12, 2, 2, 0, 600), (302, 34, 30, 0, 0, 0, 11), (302, 34, 30, 3, 3, 0, 1), (302, 34, 30, 5, 5, 0, 12), (302, 34, 30, 6, 17, 0, 63), (302, 34, 30, 5, 17, 0, 63), (302, 34, 30, 26, 33, 0, 9999), (1322, 15, 40, 0, 0, 0, 29), (1322, 15, 40, 2, 2, 0, 12), (1322, 15, 40, 3, 14, -1, 63), (1922, 73, 12, 0, 0, 0, 3), (1922, 73, 12, 2, 2, 0, 70), (2798, 1, 60, 0, 0, 0, 255)]
theorem gs_95 {q : Nat} {y : Int32} (h : ∀ g ∈ gs95, ∀ k j : Nat, k < g.2.2.1 → g.2.2.2.1 ≤ j → j ≤ g.2.2.2.2.1 → q = g.1 + g.2.1 * k + j → g.2.2.2.2.2.1 ≤ y.toInt ∧ y.toInt ≤ g.2.2.2.2.2.2) : ∀ g ∈ gs95, as_hit g q → g.2.2.2.2.2.1 ≤ y.toInt ∧ y.toInt ≤ g.2.2.2.2.2.2 := fun g hg hh => by
  obtain ⟨k, j, h1, h2, h3, h4⟩ := hh
  exact h g hg k j h1 h2 h3 h4
theorem gs_tape {s : Nat} {y : Int32} (hy : 0 ≤ y.toInt ∧ y.toInt ≤ 255) (hs : s < 60) : ∀ g ∈ gs95, as_hit g (2798 + s) → g.2.2.2.2.2.1 ≤ y.toInt ∧ y.toInt ≤ g.2.2.2.2.2.2 := gs_95 (by
  intro g hg k j h1 h2 h3 h4
  simp only [gs95, List.mem_cons, List.not_mem_nil, or_false] at hg
  rcases hg with rfl | rfl | rfl | rfl | rfl | rfl | rfl | rfl | rfl | rfl | rfl | rfl | rfl | rfl | rfl | rfl | rfl | rfl | rfl | rfl | rfl | rfl | rfl | rfl | rfl | rfl | rfl | rfl <;> dsimp only at h1 h2 h3 h4 ⊢ <;> omega)
theorem gs_7 {y : Int32} (hy : 0 ≤ y.toInt ∧ y.toInt ≤ 60) : ∀ g ∈ gs95, as_hit g 7 → g.2.2.2.2.2.1 ≤ y.toInt ∧ y.toInt ≤ g.2.2.2.2.2.2 := gs_95 (by
  intro g hg k j h1 h2 h3 h4
  simp only [gs95, List.mem_cons, List.not_mem_nil, or_false] at hg
  rcases hg with rfl | rfl | rfl | rfl | rfl | rfl | rfl | rfl | rfl | rfl | rfl | rfl | rfl | rfl | rfl | rfl | rfl | rfl | rfl | rfl | rfl | rfl | rfl | rfl | rfl | rfl | rfl | rfl <;> dsimp only at h1 h2 h3 h4 ⊢ <;> omega)
theorem wg_ref {w : pq_W} {r ci i m : Nat} {fs : List sx_ft} (ht : sx_Ty sx_T0 w) (hT : sx_T0[r]? = some (.inl (ci, fs))) (hf : fs[i]? = some (.inr (.inr (.inl m)))) : sx_wg w r i = some (.ref m) := by
  obtain ⟨c, h1, h2⟩ := sx_Ty_get ht hT
  match c, h1, h2 with
  | .inr (c0, vs), h1, h2 =>
    obtain ⟨_, hlen, hv⟩ := h2
    rw [sx_wg_of h1]
    show vs[i]? = some (.ref m)
    have hl : i < vs.length := by rw [hlen]; exact (List.getElem?_eq_some_iff.mp hf).1
    have h3 := hv i _ _ hf (List.getElem?_eq_getElem hl)
    rw [List.getElem?_eq_getElem hl]
    match vs[i], h3 with
    | .ref p, h3 =>
      have h3 : p = m := h3
      rw [h3]
noncomputable def fe_C (x : Int64) (i s m : Nat) (w w1 : pq_W) : Prop := sx_Ty sx_T0 w1 ∧ sx_Fr [(23, 1, 1), (24, 0, 59)] w w1 ∧ sx_wg w1 23 1 = some (.int (nI (s + m))) ∧ ∀ q, q < 60 → sy_r w1 24 q % 256 = if s ≤ q ∧ q < s + m then ((wb x (i + (q - s))).toNat : Int) else sy_r w 24 q % 256
noncomputable def fe_R (x : Int64) (i s m : Nat) (w w1 : pq_W) : Prop := sx_Ty sx_T0 w1 ∧ sx_Fr [(95, 7, 7), (95, 2798, 2857)] w w1 ∧ sy_r w1 95 7 = ((s + m : Nat) : Int) ∧ ∀ q, q < 60 → sy_r w1 95 (2798 + q) = if s ≤ q ∧ q < s + m then ((wb x (i + (q - s))).toNat : Int) else sy_r w 95 (2798 + q)
theorem fe_lc {x : Int64} {N K : Nat} (hN : N ≤ 8) : ∀ (m i s : Nat) (w : pq_W), m + i = N → s + m ≤ 60 → sx_Ty sx_T0 w → sx_wg w 23 1 = some (.int (nI s)) → ∃ res, pq_Go K pm_64 3 [(4, .int (nI i)), (0, .ref 23), (1, .long x), (3, .int (nI N))] [] w 0 0 res ∧ (res.1 = some (.int (nI (s + m))) ∧ fe_C x i s m w res.2) := by
  intro m
  induction m with
  | zero =>
    intro i s w hi hs ht h1
    have e : i = N := by omega
    subst e
    refine xs_seg 2 (pc' := 6) (ls' := [(4, .int (nI i)), (0, .ref 23), (1, .long x), (3, .int (nI i))]) (st' := [.int (nI i), .int (nI i)]) (w' := w) (cs' := 0) (ss' := 0) ?_ (fun _ _ => rfl)
    refine xs_cmp true rfl (br_ge_t (b := i) (nI_toInt (by omega)) (by rw [nI_toInt (by omega)]; exact Int.le_refl _)) ?_
    refine xs_seg 1 (pc' := 53) (ls' := [(4, .int (nI i)), (0, .ref 23), (1, .long x), (3, .int (nI i))]) (st' := [.ref 23]) (w' := w) (cs' := 0) (ss' := 0) ?_ (fun _ _ => rfl)
    refine xs_gf (z := .int (nI s)) rfl ht rfl rfl h1 ?_
    exact ⟨_, go_end 1 (fun _ _ => rfl), rfl, ht, sx_Fr_refl _ _, h1, fun q hq => by rw [if_neg (by omega)]⟩
  | succ m ih =>
    intro i s w hi hs ht h1
    have i8 : i < 8 := by omega
    refine xs_seg 2 (pc' := 6) (ls' := [(4, .int (nI i)), (0, .ref 23), (1, .long x), (3, .int (nI N))]) (st' := [.int (nI N), .int (nI i)]) (w' := w) (cs' := 0) (ss' := 0) ?_ (fun _ _ => rfl)
    refine xs_cmp false rfl (br_ge_f (b := N) (nI_toInt (by omega)) (by rw [nI_toInt (by omega)]; omega)) ?_
    refine xs_seg 1 (pc' := 10) (ls' := [(4, .int (nI i)), (0, .ref 23), (1, .long x), (3, .int (nI N))]) (st' := [.ref 23]) (w' := w) (cs' := 0) (ss' := 0) ?_ (fun _ _ => rfl)
    refine xs_gf (z := .int (nI s)) rfl ht rfl rfl h1 ?_
    refine xs_seg 1 (pc' := 15) (ls' := [(4, .int (nI i)), (0, .ref 23), (1, .long x), (3, .int (nI N))]) (st' := [.int 60, .int (nI s)]) (w' := w) (cs' := 0) (ss' := 0) ?_ (fun _ _ => rfl)
    refine xs_cmp false rfl (br_ge_f (b := 60) rfl (by rw [nI_toInt (by omega)]; omega)) ?_
    refine xs_seg 1 (pc' := 19) (ls' := [(4, .int (nI i)), (0, .ref 23), (1, .long x), (3, .int (nI N))]) (st' := [.ref 23]) (w' := w) (cs' := 0) (ss' := 0) ?_ (fun _ _ => rfl)
    refine xs_gf (z := .ref 24) rfl ht rfl rfl (wg_ref ht rfl rfl) ?_
    refine xs_seg 1 (pc' := 23) (ls' := [(4, .int (nI i)), (0, .ref 23), (1, .long x), (3, .int (nI N))]) (st' := [.ref 23, .ref 24]) (w' := w) (cs' := 0) (ss' := 0) ?_ (fun _ _ => rfl)
    refine xs_gf (z := .int (nI s)) rfl ht rfl rfl h1 ?_
    refine xs_seg 7 (pc' := 35) (ls' := [(4, .int (nI i)), (0, .ref 23), (1, .long x), (3, .int (nI N))]) (st' := [.int ((((x).toUInt64 >>> (((8 * (nI i))).toInt64.toUInt64 &&& Int64.toUInt64 63)).toInt64).toInt32).toInt8.toInt32, .int (nI s), .ref 24]) (w' := w) (cs' := 0) (ss' := 0) ?_ (fun _ _ => rfl)
    refine xs_bst (q := s) rfl ht rfl rfl (by omega) (by decide) rfl (fun g hg _ => by cases List.mem_singleton.mp hg; have := Int8.le_toInt (wb_C x i).toInt8; have := Int8.toInt_le (wb_C x i).toInt8; exact ⟨by rw [Int8.toInt_toInt32]; exact Int8.le_toInt _, by rw [Int8.toInt_toInt32]; exact Int8.toInt_le _⟩) (fun w2 t2 f2 e2 => ?_)
    have v2 := wb_1 (x := x) i8
    have e2 : sy_r w2 24 s = (wb_C x i).toInt8.toInt32.toInt := sy_r_of e2
    rw [← e2] at v2
    have h2 : sx_wg w2 23 1 = some (.int (nI s)) := by rw [f2 23 1 (fr_o_ok ⟨Or.inl (by decide), trivial⟩)]; exact h1
    refine xs_seg 2 (pc' := 38) (ls' := [(4, .int (nI i)), (0, .ref 23), (1, .long x), (3, .int (nI N))]) (st' := [.ref 23, .ref 23]) (w' := w2) (cs' := 0) (ss' := 0) ?_ (fun _ _ => rfl)
    refine xs_gf (z := .int (nI s)) rfl t2 rfl rfl h2 ?_
    refine xs_seg 2 (pc' := 43) (ls' := [(4, .int (nI i)), (0, .ref 23), (1, .long x), (3, .int (nI N))]) (st' := [.int ((nI s) + 1), .ref 23]) (w' := w2) (cs' := 0) (ss' := 0) ?_ (fun _ _ => rfl)
    refine xs_pf rfl t2 rfl rfl rfl rfl ⟨by rw [← nI_succ, nI_toInt (by omega)]; omega, by rw [← nI_succ, nI_toInt (by omega)]; omega⟩ (fun w3 t3 f3 e3 => ?_)
    refine xs_seg 2 (pc' := 3) (ls' := [(4, .int (nI (i + 1))), (0, .ref 23), (1, .long x), (3, .int (nI N))]) (st' := []) (w' := w3) (cs' := 0) (ss' := 0) ?_ (fun _ _ => by rw [nI_succ]; rfl)
    rw [← nI_succ] at e3
    obtain ⟨res, g, r1, r2, r3, r4, r5⟩ := ih (i + 1) (s + 1) w3 (by omega) (by omega) t3 e3
    have fa : sx_Fr [(23, 1, 1), (24, 0, 59)] w w3 := fun r j hn => by
      rw [f3 r j (fun ⟨z, hz, e, l1, l2⟩ => hn (by cases List.mem_singleton.mp hz; exact ⟨_, List.mem_cons_self, e, l1, l2⟩)), f2 r j (fun ⟨z, hz, e, l1, l2⟩ => hn (by
        cases List.mem_singleton.mp hz
        have l1 : ((s : Nat) : Int) ≤ j := l1
        have l2 : (j : Int) ≤ ((s : Nat) : Int) := l2
        exact ⟨_, List.mem_cons_of_mem _ List.mem_cons_self, e, by show (0 : Int) ≤ j; omega, by show (j : Int) ≤ 59; omega⟩))]
    refine ⟨res, g, by rw [r1, show s + 1 + m = s + (m + 1) by omega], r2, sx_Fr_trans fa r3, by rw [r4, show s + 1 + m = s + (m + 1) by omega], fun q hq => ?_⟩
    rw [r5 q hq]
    have o3 : sy_r w3 24 q = sy_r w2 24 q := fr_no f3 ⟨Or.inl (by decide), trivial⟩
    by_cases c : q = s
    · subst c
      rw [if_neg (by omega), if_pos (by omega), o3, v2, show i + (q - q) = i by omega]
    · have o2 : sy_r w2 24 q = sy_r w 24 q := fr_no f2 ⟨Or.inr (by omega), trivial⟩
      by_cases d : s + 1 ≤ q ∧ q < s + 1 + m
      · rw [if_pos d, if_pos (by omega), show i + 1 + (q - (s + 1)) = i + (q - s) by omega]
      · rw [if_neg d, if_neg (by omega), o3, o2]
theorem fe_lr {x : Int64} {N K : Nat} (hN : N ≤ 8) : ∀ (m i s : Nat) (w : pq_W), m + i = N → s + m ≤ 60 → sx_Ty sx_T0 w → sy_r w 95 7 = (s : Int) → ∃ res, pq_Go K pm_195 43 [(4, .int (nI i)), (0, .ref 94), (1, .long x), (3, .int (nI N))] [] w 0 0 res ∧ (res.1 = some (.int (nI (s + m))) ∧ fe_R x i s m w res.2) := by
  intro m
  induction m with
  | zero =>
    intro i s w hi hs ht h1
    have e : i = N := by omega
    subst e
    refine xs_seg 2 (pc' := 46) (ls' := [(4, .int (nI i)), (0, .ref 94), (1, .long x), (3, .int (nI i))]) (st' := [.int (nI i), .int (nI i)]) (w' := w) (cs' := 0) (ss' := 0) ?_ (fun _ _ => rfl)
    refine xs_cmp true rfl (br_ge_t (b := i) (nI_toInt (by omega)) (by rw [nI_toInt (by omega)]; exact Int.le_refl _)) ?_
    refine xs_seg 1 (pc' := 95) (ls' := [(4, .int (nI i)), (0, .ref 94), (1, .long x), (3, .int (nI i))]) (st' := [.ref 94]) (w' := w) (cs' := 0) (ss' := 0) ?_ (fun _ _ => rfl)
    refine xs_gf (z := .ref 95) rfl ht rfl rfl (rq_ge ht) ?_
    refine xs_seg 1 (pc' := 100) (ls' := [(4, .int (nI i)), (0, .ref 94), (1, .long x), (3, .int (nI i))]) (st' := [.int 7, .ref 95]) (w' := w) (cs' := 0) (ss' := 0) ?_ (fun _ _ => rfl)
    refine xs_gl (q := 7) (y := (nI s)) rfl ht rfl (by decide) (by decide) rfl (by rw [nI_toInt (by omega)]; exact h1) ?_
    exact ⟨_, go_end 1 (fun _ _ => rfl), rfl, ht, sx_Fr_refl _ _, h1, fun q hq => by rw [if_neg (by omega)]⟩
  | succ m ih =>
    intro i s w hi hs ht h1
    have i8 : i < 8 := by omega
    have v2 := wb_2 (x := x) i8
    have vb : 0 ≤ (wb_R x i).toInt ∧ (wb_R x i).toInt ≤ 255 := by
      have := (wb x i).isLt
      rw [v2]
      omega
    refine xs_seg 2 (pc' := 46) (ls' := [(4, .int (nI i)), (0, .ref 94), (1, .long x), (3, .int (nI N))]) (st' := [.int (nI N), .int (nI i)]) (w' := w) (cs' := 0) (ss' := 0) ?_ (fun _ _ => rfl)
    refine xs_cmp false rfl (br_ge_f (b := N) (nI_toInt (by omega)) (by rw [nI_toInt (by omega)]; omega)) ?_
    refine xs_seg 1 (pc' := 50) (ls' := [(4, .int (nI i)), (0, .ref 94), (1, .long x), (3, .int (nI N))]) (st' := [.ref 94]) (w' := w) (cs' := 0) (ss' := 0) ?_ (fun _ _ => rfl)
    refine xs_gf (z := .ref 95) rfl ht rfl rfl (rq_ge ht) ?_
    refine xs_seg 2 (pc' := 57) (ls' := [(4, .int (nI i)), (0, .ref 94), (1, .long x), (3, .int (nI N))]) (st' := [.ref 94, .int 2798, .ref 95]) (w' := w) (cs' := 0) (ss' := 0) ?_ (fun _ _ => rfl)
    refine xs_gf (z := .ref 95) rfl ht rfl rfl (rq_ge ht) ?_
    refine xs_seg 1 (pc' := 62) (ls' := [(4, .int (nI i)), (0, .ref 94), (1, .long x), (3, .int (nI N))]) (st' := [.int 7, .ref 95, .int 2798, .ref 95]) (w' := w) (cs' := 0) (ss' := 0) ?_ (fun _ _ => rfl)
    refine xs_gl (q := 7) (y := (nI s)) rfl ht rfl (by decide) (by decide) rfl (by rw [nI_toInt (by omega)]; exact h1) ?_
    refine xs_seg 8 (pc' := 75) (ls' := [(4, .int (nI i)), (0, .ref 94), (1, .long x), (3, .int (nI N))]) (st' := [.long ((x >>> (((8 * (nI i))).toInt64 &&& 63)) &&& 255), .int (2798 + (nI s)), .ref 95]) (w' := w) (cs' := 0) (ss' := 0) ?_ (fun _ _ => rfl)
    refine xs_seg 1 (pc' := 76) (ls' := [(4, .int (nI i)), (0, .ref 94), (1, .long x), (3, .int (nI N))]) (st' := [.int (((x >>> (((8 * (nI i))).toInt64 &&& 63)) &&& 255)).toInt32, .int (2798 + (nI s)), .ref 95]) (w' := w) (cs' := 0) (ss' := 0) ?_ (fun _ _ => rfl)
    refine xs_ist (q := (2798 + s)) rfl ht rfl rfl (by omega) (by decide) (by apply Int32.toInt_inj.mp; rw [Int32.toInt_add, show (2798 : Int32).toInt = 2798 from rfl, nI_toInt (by omega), nI_toInt (by omega)]; exact Int.bmod_eq_of_le (by omega) (by omega)) (gs_tape vb (by omega)) (fun w2 t2 f2 e2 => ?_)
    have e2 : sy_r w2 95 (2798 + s) = (wb_R x i).toInt := sy_r_of e2
    rw [v2] at e2
    have h2 : sy_r w2 95 7 = (s : Int) := by rw [fr_no f2 ⟨Or.inr (by omega), trivial⟩]; exact h1
    refine xs_seg 1 (pc' := 78) (ls' := [(4, .int (nI i)), (0, .ref 94), (1, .long x), (3, .int (nI N))]) (st' := [.ref 94]) (w' := w2) (cs' := 0) (ss' := 0) ?_ (fun _ _ => rfl)
    refine xs_gf (z := .ref 95) rfl t2 rfl rfl (rq_ge t2) ?_
    refine xs_seg 2 (pc' := 84) (ls' := [(4, .int (nI i)), (0, .ref 94), (1, .long x), (3, .int (nI N))]) (st' := [.int 7, .ref 95, .int 7, .ref 95]) (w' := w2) (cs' := 0) (ss' := 0) ?_ (fun _ _ => rfl)
    refine xs_gl (q := 7) (y := (nI s)) rfl t2 rfl (by decide) (by decide) rfl (by rw [nI_toInt (by omega)]; exact h2) ?_
    refine xs_seg 2 (pc' := 87) (ls' := [(4, .int (nI i)), (0, .ref 94), (1, .long x), (3, .int (nI N))]) (st' := [.int ((nI s) + 1), .int 7, .ref 95]) (w' := w2) (cs' := 0) (ss' := 0) ?_ (fun _ _ => rfl)
    refine xs_ist (q := 7) rfl t2 rfl rfl (by decide) (by decide) rfl (gs_7 ⟨by rw [← nI_succ, nI_toInt (by omega)]; omega, by rw [← nI_succ, nI_toInt (by omega)]; omega⟩) (fun w3 t3 f3 e3 => ?_)
    refine xs_seg 2 (pc' := 43) (ls' := [(4, .int (nI (i + 1))), (0, .ref 94), (1, .long x), (3, .int (nI N))]) (st' := []) (w' := w3) (cs' := 0) (ss' := 0) ?_ (fun _ _ => by rw [nI_succ]; rfl)
    have e3 : sy_r w3 95 7 = ((s + 1 : Nat) : Int) := by rw [sy_r_of e3, ← nI_succ, nI_toInt (by omega)]
    obtain ⟨res, g, r1, r2, r3, r4, r5⟩ := ih (i + 1) (s + 1) w3 (by omega) (by omega) t3 e3
    have fa : sx_Fr [(95, 7, 7), (95, 2798, 2857)] w w3 := fun r j hn => by
      rw [f3 r j (fun ⟨z, hz, e, l1, l2⟩ => hn (by cases List.mem_singleton.mp hz; exact ⟨_, List.mem_cons_self, e, l1, l2⟩)), f2 r j (fun ⟨z, hz, e, l1, l2⟩ => hn (by
        cases List.mem_singleton.mp hz
        have l1 : ((2798 + s : Nat) : Int) ≤ j := l1
        have l2 : (j : Int) ≤ ((2798 + s : Nat) : Int) := l2
        exact ⟨_, List.mem_cons_of_mem _ List.mem_cons_self, e, by show (2798 : Int) ≤ j; omega, by show (j : Int) ≤ 2857; omega⟩))]
    refine ⟨res, g, by rw [r1, show s + 1 + m = s + (m + 1) by omega], r2, sx_Fr_trans fa r3, by rw [r4, show s + 1 + m = s + (m + 1) by omega], fun q hq => ?_⟩
    rw [r5 q hq]
    have o3 : sy_r w3 95 (2798 + q) = sy_r w2 95 (2798 + q) := fr_no f3 ⟨Or.inr (by omega), trivial⟩
    by_cases c : q = s
    · subst c
      rw [if_neg (by omega), if_pos (by omega), o3, e2, show i + (q - q) = i by omega]
    · have o2 : sy_r w2 95 (2798 + q) = sy_r w 95 (2798 + q) := fr_no f2 ⟨Or.inr (by omega), trivial⟩
      by_cases d : s + 1 ≤ q ∧ q < s + 1 + m
      · rw [if_pos d, if_pos (by omega), show i + 1 + (q - (s + 1)) = i + (q - s) by omega]
      · rw [if_neg d, if_neg (by omega), o3, o2]
