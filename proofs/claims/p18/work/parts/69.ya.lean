/-! rows of the class: around, bit by bit -/
noncomputable def ra_U (x : Int64) : Int64 := ((((x &&& 9187201950435737471) <<< ((1 : Int32).toInt64 &&& 63)) ||| ((x &&& (-72340172838076674)).toUInt64 >>> ((1 : Int32).toInt64.toUInt64 &&& Int64.toUInt64 63)).toInt64) ||| (x <<< ((8 : Int32).toInt64 &&& 63))) ||| (x.toUInt64 >>> ((8 : Int32).toInt64.toUInt64 &&& Int64.toUInt64 63)).toInt64
theorem ra_ru (x : Int64) (w : pq_W) : pq_Ru 1 85 [.long x] w (some (.long (ra_U x)), w) := by
  refine ru_of (k := 0) (M := pm_85) rfl rfl ?_
  refine go_seg 8 (pc' := 12) (ls' := [(0, .long x)]) (st' := [.long (x &&& (-72340172838076674)), .long ((x &&& 9187201950435737471) <<< ((1 : Int32).toInt64 &&& 63))]) (w' := w) (cs' := 0) (ss' := 0) ?_ (fun _ _ => rfl)
  refine go_seg 8 (pc' := 21) (ls' := [(2, .long (((x &&& 9187201950435737471) <<< ((1 : Int32).toInt64 &&& 63)) ||| ((x &&& (-72340172838076674)).toUInt64 >>> ((1 : Int32).toInt64.toUInt64 &&& Int64.toUInt64 63)).toInt64)), (0, .long x)]) (st' := [.long (x <<< ((8 : Int32).toInt64 &&& 63)), .long (((x &&& 9187201950435737471) <<< ((1 : Int32).toInt64 &&& 63)) ||| ((x &&& (-72340172838076674)).toUInt64 >>> ((1 : Int32).toInt64.toUInt64 &&& Int64.toUInt64 63)).toInt64)]) (w' := w) (cs' := 0) (ss' := 0) ?_ (fun _ _ => rfl)
  exact go_end 6 (fun _ _ => rfl)
noncomputable def ra_B (x : Int64) (c : Nat) : Bool := x.toBitVec.getLsbD c
theorem ra_s1 (y : Int64) : (y <<< (1 : Int64)).toBitVec = y.toBitVec <<< (1 : Nat) := by
  show y.toBitVec <<< ((1 : Int64).toBitVec.smod 64) = _
  rw [show (1 : Int64).toBitVec.smod 64 = 1#64 from by decide]
  rfl
theorem ra_s8 (y : Int64) : (y <<< (8 : Int64)).toBitVec = y.toBitVec <<< (8 : Nat) := by
  show y.toBitVec <<< ((8 : Int64).toBitVec.smod 64) = _
  rw [show (8 : Int64).toBitVec.smod 64 = 8#64 from by decide]
  rfl
theorem ra_r1 (y : Int64) : (y.toUInt64 >>> (1 : UInt64)).toInt64.toBitVec = y.toBitVec >>> (1 : Nat) := by
  show y.toBitVec >>> ((1 : UInt64).toBitVec % 64) = _
  rw [show (1 : UInt64).toBitVec % 64 = 1#64 from by decide]
  rfl
theorem ra_r8 (y : Int64) : (y.toUInt64 >>> (8 : UInt64)).toInt64.toBitVec = y.toBitVec >>> (8 : Nat) := by
  show y.toBitVec >>> ((8 : UInt64).toBitVec % 64) = _
  rw [show (8 : UInt64).toBitVec % 64 = 8#64 from by decide]
  rfl
noncomputable def ra_MR : BitVec 64 := (9187201950435737471 : Int64).toBitVec
noncomputable def ra_ML : BitVec 64 := (-72340172838076674 : Int64).toBitVec
theorem ra_mr : ∀ i, i < 64 → ra_MR.getLsbD i = decide (¬ i % 8 = 7) := fun i hi => by
  have h : ((List.range 64).all fun i => decide (ra_MR.getLsbD i = decide (¬ i % 8 = 7))) = true := by decide +kernel
  exact of_decide_eq_true (List.all_eq_true.mp h i (List.mem_range.mpr hi))
theorem ra_ml : ∀ i, i < 65 → ra_ML.getLsbD i = decide (¬ i % 8 = 0) := fun i hi => by
  have h : ((List.range 65).all fun i => decide (ra_ML.getLsbD i = decide (¬ i % 8 = 0))) = true := by decide +kernel
  exact of_decide_eq_true (List.all_eq_true.mp h i (List.mem_range.mpr hi))
theorem ra_key (x : Int64) : (ra_U x).toBitVec = (((x.toBitVec &&& ra_MR) <<< (1 : Nat)) ||| ((x.toBitVec &&& ra_ML) >>> (1 : Nat))) ||| (x.toBitVec <<< (8 : Nat)) ||| (x.toBitVec >>> (8 : Nat)) := by
  unfold ra_U
  rw [show ((1 : Int32).toInt64 &&& 63) = 1 from by decide, show ((8 : Int32).toInt64 &&& 63) = 8 from by decide, show ((1 : Int32).toInt64.toUInt64 &&& Int64.toUInt64 63) = 1 from by decide, show ((8 : Int32).toInt64.toUInt64 &&& Int64.toUInt64 63) = 8 from by decide]
  rw [Int64.toBitVec_or, Int64.toBitVec_or, Int64.toBitVec_or, ra_s1, ra_s8, ra_r1, ra_r8]
  rfl
/-- the four cells beside one -/
noncomputable def ra_N (c m : Nat) : Option Nat := match m with
  | 0 => if 8 ≤ c then some (c - 8) else none
  | 1 => if c + 8 < 64 then some (c + 8) else none
  | 2 => if c % 8 = 0 then none else some (c - 1)
  | _ => if c % 8 = 7 then none else some (c + 1)
theorem ra_bit (x : Int64) (c : Nat) (hc : c < 64) : ra_B (ra_U x) c = true ↔ ∃ m, m < 4 ∧ ∃ d, ra_N c m = some d ∧ ra_B x d = true := by
  unfold ra_B
  rw [ra_key]
  simp only [BitVec.getLsbD_or, BitVec.getLsbD_shiftLeft, BitVec.getLsbD_ushiftRight, BitVec.getLsbD_and, Bool.or_eq_true, Bool.and_eq_true, Bool.not_eq_true', decide_eq_true_eq, decide_eq_false_iff_not]
  constructor
  · rintro (((⟨⟨_, h1⟩, h2, h3⟩ | ⟨h2, h3⟩) | ⟨⟨_, h1⟩, h2⟩) | h2)
    · rw [ra_mr _ (by omega), decide_eq_true_eq] at h3
      exact ⟨2, by omega, c - 1, by show (if c % 8 = 0 then none else some (c - 1)) = _; rw [if_neg (by omega)], h2⟩
    · rw [ra_ml _ (by omega), decide_eq_true_eq] at h3
      exact ⟨3, by omega, c + 1, by show (if c % 8 = 7 then none else some (c + 1)) = _; rw [if_neg (by omega)], by rw [Nat.add_comm]; exact h2⟩
    · exact ⟨0, by omega, c - 8, by show (if 8 ≤ c then some (c - 8) else none) = _; rw [if_pos (by omega)], h2⟩
    · have h3 : c + 8 < 64 := by
        apply Classical.byContradiction
        intro h
        rw [BitVec.getLsbD_of_ge _ _ (by omega)] at h2
        cases h2
      exact ⟨1, by omega, c + 8, by show (if c + 8 < 64 then some (c + 8) else none) = _; rw [if_pos h3], by rw [Nat.add_comm]; exact h2⟩
  · rintro ⟨m, hm, d, h1, h2⟩
    match m, hm with
    | 0, _ =>
      have h1 : (if 8 ≤ c then some (c - 8) else none) = some d := h1
      by_cases h : 8 ≤ c
      · rw [if_pos h] at h1
        cases h1
        exact Or.inl (Or.inr ⟨⟨hc, by omega⟩, h2⟩)
      · rw [if_neg h] at h1
        cases h1
    | 1, _ =>
      have h1 : (if c + 8 < 64 then some (c + 8) else none) = some d := h1
      by_cases h : c + 8 < 64
      · rw [if_pos h] at h1
        cases h1
        exact Or.inr (by rw [Nat.add_comm]; exact h2)
      · rw [if_neg h] at h1
        cases h1
    | 2, _ =>
      have h1 : (if c % 8 = 0 then none else some (c - 1)) = some d := h1
      by_cases h : c % 8 = 0
      · rw [if_pos h] at h1
        cases h1
      · rw [if_neg h] at h1
        cases h1
        exact Or.inl (Or.inl (Or.inl ⟨⟨hc, by omega⟩, h2, by rw [ra_mr _ (by omega), decide_eq_true_eq]; omega⟩))
    | 3, _ =>
      have h1 : (if c % 8 = 7 then none else some (c + 1)) = some d := h1
      by_cases h : c % 8 = 7
      · rw [if_pos h] at h1
        cases h1
      · rw [if_neg h] at h1
        cases h1
        exact Or.inl (Or.inl (Or.inr ⟨by rw [Nat.add_comm]; exact h2, by rw [ra_ml _ (by omega), decide_eq_true_eq]; omega⟩))
theorem ra_ieq (a : Int) : sx_ieq a a = true := by
  rcases a with n | n
  · exact Nat.beq_refl n
  · exact Nat.beq_refl n
/-- beside one another, as the reference has it -/
theorem ra_gNb : ((List.range 64).all fun c => (List.range 4).all fun m => (List.range 64).all fun d => bif sx_ieq (d : Int) ((c : Int) + gq_de m) then (match ra_N c m with
    | some e => Nat.beq e d && decide (sq_nx (Int32.ofInt c) (Int32.ofInt d) = 1)
    | none => !decide (sq_nx (Int32.ofInt c) (Int32.ofInt d) = 1)) else (match ra_N c m with
    | some e => !(Nat.beq e d)
    | none => true)) = true := by decide +kernel
theorem ra_gN {c m d : Nat} (hc : c < 64) (hm : m < 4) : gN c m d ↔ ra_N c m = some d := by
  have hlt : ∀ e, ra_N c m = some e → e < 64 := fun e he => by
    match m, hm with
    | 0, _ =>
      have h1 : (if 8 ≤ c then some (c - 8) else none) = some e := he
      split at h1 <;> cases h1
      omega
    | 1, _ =>
      have h1 : (if c + 8 < 64 then some (c + 8) else none) = some e := he
      split at h1 <;> cases h1
      omega
    | 2, _ =>
      have h1 : (if c % 8 = 0 then none else some (c - 1)) = some e := he
      split at h1 <;> cases h1
      omega
    | 3, _ =>
      have h1 : (if c % 8 = 7 then none else some (c + 1)) = some e := he
      split at h1 <;> cases h1
      omega
  have key : ∀ d, d < 64 → (gN c m d ↔ ra_N c m = some d) := fun d hd => by
    have h := List.all_eq_true.mp (List.all_eq_true.mp (List.all_eq_true.mp ra_gNb c (List.mem_range.mpr hc)) m (List.mem_range.mpr hm)) d (List.mem_range.mpr hd)
    unfold gN
    cases hb : sx_ieq (d : Int) ((c : Int) + gq_de m) with
    | true =>
      have e := sx_ieq_ok hb
      rw [hb] at h
      cases hn : ra_N c m with
      | none =>
        rw [hn] at h
        have h : (!decide (sq_nx (Int32.ofInt c) (Int32.ofInt d) = 1)) = true := h
        rw [Bool.not_eq_true', decide_eq_false_iff_not] at h
        exact ⟨fun q => absurd q.2.2 h, fun q => by cases q⟩
      | some e1 =>
        rw [hn] at h
        have h : (Nat.beq e1 d && decide (sq_nx (Int32.ofInt c) (Int32.ofInt d) = 1)) = true := h
        rw [Bool.and_eq_true, decide_eq_true_eq] at h
        have e2 := Nat.eq_of_beq_eq_true h.1
        exact ⟨fun _ => by rw [e2], fun _ => ⟨e, hd, h.2⟩⟩
    | false =>
      rw [hb] at h
      have ne : ¬ (d : Int) = (c : Int) + gq_de m := fun q => by
        have : sx_ieq (d : Int) ((c : Int) + gq_de m) = true := by rw [q]; exact ra_ieq _
        rw [hb] at this
        cases this
      cases hn : ra_N c m with
      | none => exact ⟨fun q => absurd q.1 ne, fun q => by cases q⟩
      | some e1 =>
        rw [hn] at h
        have h : (!(Nat.beq e1 d)) = true := h
        refine ⟨fun q => absurd q.1 ne, fun q => ?_⟩
        cases q
        rw [Nat.beq_refl] at h
        cases h
  by_cases hd : d < 64
  · exact key d hd
  · exact ⟨fun q => absurd q.2.1 hd, fun q => absurd (hlt d q) hd⟩
/-! the class's isRow: the checks. Symbols 0 sheet, 1 gaps, 2 size -/
noncomputable def rb_l (e : sx_F) : sx_V := .inl (.inr e)
noncomputable def rb_fl : Int × Int := (-9223372036854775808, 9223372036854775807)
noncomputable def rb_s : List (Nat × sx_V) := [(0, .inr (.inr 89)), (1, fx_i 0), (2, fx_i 1), (3, fx_i 2)]
noncomputable def rb_b (r i : sx_V) : List (Nat × sx_V) := rb_s ++ [(4, r), (6, i)]
noncomputable def rb_h (r i n : sx_V) : List (Nat × sx_V) := rb_s ++ [(6, i), (7, n), (8, r)]
noncomputable def rb_iv : List (Int × Int) := [(0, 3), (0, 1), (2, 12)]
noncomputable def rb_t (pc : Nat) (sl : List (Nat × sx_V)) (sa : List sx_V) (C : List sx_F) : Nat × ng_Al := (pc, (ng_L sl, sa, [], C, []))
noncomputable def rb_ck (pc : Nat) (iv : List (Int × Int)) (C : List sx_F) (sl : List (Nat × sx_V)) (sa : List sx_V) (O : sx_O) (re : List ng_Ae) (hd : List (Nat × ng_Al)) : Bool := ng_chk [] [] [] 9 84 pm_84 pc iv C sl sa O re hd 200
theorem rb_0 : rb_ck 0 [(0, 3), (0, 1), (0, 24)] [] [(0, .inr (.inr 89)), (1, fx_i 0), (2, fx_i 1)] [] [(92, sx_y 0, fx_i 2)] [(sh_x 0, [], [(-1, [(2, 1)])], []), (sh_x 0, [], [(13, [(2, -1)])], [])] [rb_t 26 (rb_b (rb_l (-1, [])) (fx_k 0)) [] [(2, [(2, -1)]), (-12, [(2, 1)])]] = true := by decide +kernel
theorem rb_1a : rb_ck 26 (rb_iv ++ [(0, 63)]) [] (rb_b (rb_l (-1, [])) (fx_k 0)) [] [(91, (0, [(0, 24)]), fx_i 3)] [] [rb_t 74 (rb_h (rb_l (-1, [])) (fx_k 0) (fx_i 3)) [] []] = true := by decide +kernel
theorem rb_1c : ([(-2147483648, -1), (64, 2147483647)].all fun z => rb_ck 26 (rb_iv ++ [z]) [] (rb_b (rb_l (-1, [])) (fx_k 0)) [] [(91, (0, [(0, 24)]), fx_i 3)] [] [rb_t 26 (rb_b (rb_l (0, [])) (fx_k 1)) [] []]) = true := by decide +kernel
-- symbols 3 what is reached, 4 i, 5 the number
theorem rb_2 : rb_ck 26 (rb_iv ++ [rb_fl, (1, 11), sy_full]) [(1, [(2, -1), (4, 1)])] (rb_b (rb_l (sx_y 3)) (fx_i 4)) [] [(91, (0, [(0, 24), (4, 1)]), fx_i 5)] [(sh_x 0, [], [(0, [(3, 1)]), (0, [(3, -1)])], [])] [rb_t 61 (rb_b (rb_l (sx_y 3)) (fx_i 4) ++ [(7, fx_i 5)]) [rb_l (sx_y 3)] []] = true := by decide +kernel
theorem rb_3 : rb_ck 26 (rb_iv ++ [rb_fl]) [] (rb_b (rb_l (sx_y 3)) (fx_i 2)) [] [] [(sh_x 0, [], [(0, [(3, 1)]), (0, [(3, -1)])], []), (sh_x 1, [], [(1, [(3, 1)])], []), (sh_x 1, [], [(1, [(3, -1)])], [])] [] = true := by decide +kernel
theorem rb_4a : rb_ck 64 (rb_iv ++ [rb_fl, (1, 11), (0, 63)]) [] (rb_s ++ [(6, fx_i 4), (7, fx_i 5)]) [rb_l (sx_y 3)] [] [] [rb_t 74 (rb_h (rb_l (sx_y 3)) (fx_i 4) (fx_i 5)) [] []] = true := by decide +kernel
theorem rb_4b : rb_ck 64 ([(0, 3), (1, 1), (2, 12)] ++ [rb_fl, (1, 11), (-1, -1)]) [(2, [(2, -1), (4, 1)])] (rb_s ++ [(6, fx_i 4), (7, fx_i 5)]) [rb_l (sx_y 3)] [] [] [rb_t 26 (rb_b (rb_l (sx_y 3)) (.inl (.inl (1, [(4, 1)])))) [] []] = true := by decide +kernel
noncomputable def rb_z : List ((Int × Int) × (Int × Int) × List sx_F) := [((0, 1), (64, 2147483647), []), ((0, 1), (-2147483648, -2), []), ((0, 0), (-2147483648, -1), []), ((0, 1), (-2147483648, -1), [(-1, [(2, 1), (4, -1)])])]
theorem rb_4c : (rb_z.all fun z => rb_ck 64 ([(0, 3), z.1, (2, 12)] ++ [rb_fl, (1, 11), z.2.1]) z.2.2 (rb_s ++ [(6, fx_i 4), (7, fx_i 5)]) [rb_l (sx_y 3)] [] [] [rb_t 26 (rb_b (rb_l (0, [])) (.inl (.inl (1, [(4, 1)])))) [] []]) = true := by decide +kernel
theorem rb_5 : rb_ck 119 (rb_iv ++ [rb_fl, (0, 11)]) [] (rb_b (rb_l (sx_y 3)) (fx_i 4)) [] [] [] [rb_t 26 (rb_b (rb_l (sx_y 3)) (.inl (.inl (1, [(4, 1)])))) [] []] = true := by decide +kernel
