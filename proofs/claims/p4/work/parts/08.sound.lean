def pq_word (t : Nat) (c : Cond) : Bool := decide (pq_wat t = some c) && goodWord c
theorem pq_word_ok {t : Nat} {c : Cond} (h : pq_word t c = true) : c ∈ pq_gt := by
  unfold pq_word at h
  simp only [Bool.and_eq_true, decide_eq_true_eq] at h
  exact pq_gt_mem t h.1 h.2
theorem pq_obj2 : Cond.instanceMethod Lib.objectInit ∈ pq_gt := pq_gt_mem 1027 (by decide +kernel) (by decide +kernel)
theorem pq_obj3 : Cond.code Lib.objectInit ⟨#[0xb1]⟩ 1 none ∈ pq_gt := pq_gt_mem 1028 (by decide +kernel) (by decide +kernel)
theorem pq_cp2 : Cond.native arraycopyName ∈ pq_gt := pq_gt_mem 3228 (by decide +kernel) (by decide +kernel)
theorem pq_cp3 : Cond.static arraycopyName ∈ pq_gt := pq_gt_mem 3227 (by decide +kernel) (by decide +kernel)
theorem pq_cp4 : Cond.initialized "java/lang/System" ∈ pq_gt := pq_gt_mem 1015 (by decide +kernel) (by decide +kernel)
theorem pq_ms0 : Cond.static Lib.Math.max.name ∈ pq_gt := pq_gt_mem 3109 (by decide +kernel) (by decide +kernel)
theorem pq_mc0 : Cond.code Lib.Math.max.name Lib.Math.max.code 2 (some .int) ∈ pq_gt := pq_gt_mem 3110 (by decide +kernel) (by decide +kernel)
theorem pq_ms1 : Cond.static Lib.Math.min.name ∈ pq_gt := pq_gt_mem 3091 (by decide +kernel) (by decide +kernel)
theorem pq_mc1 : Cond.code Lib.Math.min.name Lib.Math.min.code 2 (some .int) ∈ pq_gt := pq_gt_mem 3092 (by decide +kernel) (by decide +kernel)
theorem pq_ms2 : Cond.static Lib.Math.abs.name ∈ pq_gt := pq_gt_mem 7024 (by decide +kernel) (by decide +kernel)
theorem pq_mc2 : Cond.code Lib.Math.abs.name Lib.Math.abs.code 1 (some .int) ∈ pq_gt := pq_gt_mem 7025 (by decide +kernel) (by decide +kernel)
theorem pq_ms3 : Cond.static Lib.MathLoose.max_long.x ∈ pq_gt := pq_gt_mem 4182 (by decide +kernel) (by decide +kernel)
theorem pq_mc3 : Cond.code Lib.MathLoose.max_long.x Lib.MathLoose.max_long.code 4 (some .long) ∈ pq_gt := pq_gt_mem 4183 (by decide +kernel) (by decide +kernel)
theorem pq_ms4 : Cond.static Lib.MathLoose.min_long.x ∈ pq_gt := pq_gt_mem 4179 (by decide +kernel) (by decide +kernel)
theorem pq_mc4 : Cond.code Lib.MathLoose.min_long.x Lib.MathLoose.min_long.code 4 (some .long) ∈ pq_gt := pq_gt_mem 4180 (by decide +kernel) (by decide +kernel)
theorem pq_mi : Cond.initialized "java/lang/Math" ∈ pq_gt := pq_gt_mem 1014 (by decide +kernel) (by decide +kernel)
def pq_mn (op : Nat) : Option MethodName := match op with
  | 0 => some Lib.Math.max.name
  | 1 => some Lib.Math.min.name
  | 2 => some Lib.Math.abs.name
  | 3 => some Lib.MathLoose.max_long.x
  | 4 => some Lib.MathLoose.min_long.x
  | _ => none
theorem pq_clok : ∀ (ci : Nat) (C : String) (T : u_T) (N : Nat), pq_cl[ci]? = some (C, T, N) → (∀ w ∈ u_ws C T N, w ∈ pq_gt) ∧ (∃ ty0 : Nat → FieldType, ∀ k, k < N → parseFieldDescriptor (T k).2.2.1 = some (ty0 k)) ∧ (∀ a, a < N → ∀ b, b < N → a ≠ b → (T a).2.1 ≠ (T b).2.1)
  | 0, C, T, N, h => by cases h; exact ⟨pq_in0, ⟨tyX0, tyX0_ok⟩, nmX0⟩
  | 1, C, T, N, h => by cases h; exact ⟨pq_in1, ⟨tyX1, tyX1_ok⟩, nmX1⟩
  | 2, C, T, N, h => by cases h; exact ⟨pq_in2, ⟨tyX2, tyX2_ok⟩, nmX2⟩
  | 3, C, T, N, h => by cases h; exact ⟨pq_in3, ⟨tyX3, tyX3_ok⟩, nmX3⟩
  | 4, C, T, N, h => by cases h; exact ⟨pq_in4, ⟨tyX4, tyX4_ok⟩, nmX4⟩
  | 5, C, T, N, h => by cases h; exact ⟨pq_in5, ⟨tyX5, tyX5_ok⟩, nmX5⟩
  | 6, C, T, N, h => by cases h; exact ⟨pq_in6, ⟨tyX6, tyX6_ok⟩, nmX6⟩
  | 7, C, T, N, h => by cases h; exact ⟨pq_in7, ⟨tyX7, tyX7_ok⟩, nmX7⟩
  | 8, C, T, N, h => by cases h; exact ⟨pq_in8, ⟨tyX8, tyX8_ok⟩, nmX8⟩
  | 9, C, T, N, h => by cases h; exact ⟨pq_in9, ⟨tyX9, tyX9_ok⟩, nmX9⟩
  | 10, C, T, N, h => by cases h; exact ⟨pq_in10, ⟨tyX10, tyX10_ok⟩, nmX10⟩
  | 11, C, T, N, h => by cases h; exact ⟨pq_in11, ⟨tyX11, tyX11_ok⟩, nmX11⟩
  | _ + 12, C, T, N, h => by cases h
def pq_isld (i : Instr) (t n : Nat) : Bool := match i with
  | .iload k => Nat.beq t 1 && Nat.beq k n
  | .iload_n k => Nat.beq t 1 && Nat.beq k.val n
  | .lload k => Nat.beq t 2 && Nat.beq k n
  | .lload_n k => Nat.beq t 2 && Nat.beq k.val n
  | .aload k => Nat.beq t 3 && Nat.beq k n
  | .aload_n k => Nat.beq t 3 && Nat.beq k.val n
  | .istore k => Nat.beq t 4 && Nat.beq k n
  | .istore_n k => Nat.beq t 4 && Nat.beq k.val n
  | .lstore k => Nat.beq t 5 && Nat.beq k n
  | .lstore_n k => Nat.beq t 5 && Nat.beq k.val n
  | .astore k => Nat.beq t 6 && Nat.beq k n
  | .astore_n k => Nat.beq t 6 && Nat.beq k.val n
  | _ => false
def pq_eo (tab : List pq_M) (M : pq_M) (cat pc : Nat) (i : Instr) (a : List Nat) (v : Value) (t : Nat) : Bool := match cat with
  | 0 => pq_push i v && (match i, v with
    | .ldc idx, .int x => pq_word t (.constant (pq_y M).cls idx x)
    | .ldc_w idx, .int x => pq_word t (.constant (pq_y M).cls idx x)
    | .ldc2_w idx, .long x => pq_word t (.constantLong (pq_y M).cls idx x)
    | .ldc _, _ => false
    | .ldc_w _, _ => false
    | .ldc2_w _, _ => false
    | _, _ => true)
  | 1 => pq_isld i 1 (a.headD 0)
  | 2 => pq_isld i 2 (a.headD 0)
  | 3 => pq_isld i 3 (a.headD 0)
  | 4 => pq_isld i 4 (a.headD 0) && Nat.blt (a.headD 0) (pq_mL M)
  | 5 => pq_isld i 5 (a.headD 0) && Nat.blt (a.headD 0 + 1) (pq_mL M)
  | 6 => pq_isld i 6 (a.headD 0) && Nat.blt (a.headD 0) (pq_mL M)
  | 7 => match i, v with
    | .iinc n d, .int y => Nat.beq n (a.headD 0) && Nat.blt n (pq_mL M) && decide (Int32.ofInt d = y)
    | _, _ => false
  | 8 => true
  | 9 => true
  | 10 => decide (i = .dup)
  | 11 => decide (i = .dup2)
  | 12 => match i with
    | .ifCond _ off => decide ((pc : Int) + off = ((a.headD 0 : Nat) : Int))
    | _ => false
  | 13 => match i with
    | .if_icmp _ off => decide ((pc : Int) + off = ((a.headD 0 : Nat) : Int))
    | _ => false
  | 14 => match i with
    | .goto off => decide ((pc : Int) + off = ((a.headD 0 : Nat) : Int))
    | _ => false
  | 16 => decide (i = .ireturn)
  | 17 => decide (i = .lreturn)
  | 18 => decide (i = .return_)
  | 19 => match i, pq_cl[a.headD 0]? with
    | .getfield idx, some (C, T, N) => Nat.blt (a.getD 1 0) N && decide ((T (a.getD 1 0)).1 = C) && pq_word t (.fieldLink (pq_y M).cls idx C (T (a.getD 1 0)).2.1 (T (a.getD 1 0)).2.2.1)
    | _, _ => false
  | 20 => match i, pq_cl[a.headD 0]? with
    | .putfield idx, some (C, T, N) => Nat.blt (a.getD 1 0) N && decide ((T (a.getD 1 0)).1 = C) && pq_word t (.fieldLink (pq_y M).cls idx C (T (a.getD 1 0)).2.1 (T (a.getD 1 0)).2.2.1) && Nat.beq (a.getD 2 9) (pq_sort (T (a.getD 1 0)).2.2.1) && (!(T (a.getD 1 0)).2.2.2 || (decide ((pq_y M).name = "<init>") && decide (C = (pq_y M).cls)))
    | _, _ => false
  | 21 => match i with
    | .iaload => Nat.beq (a.headD 9) 0
    | .laload => Nat.beq (a.headD 9) 1
    | .baload => Nat.beq (a.headD 9) 2
    | _ => false
  | 22 => match i with
    | .iastore => Nat.beq (a.headD 9) 0
    | .lastore => Nat.beq (a.headD 9) 1
    | .bastore => Nat.beq (a.headD 9) 2
    | _ => false
  | 23 => decide (i = .arraylength)
  | 24 => match i, pq_cl[a.headD 0]?, pq_dfl[a.headD 0]? with
    | .new idx, some (C, T, N), some fs => pq_word t (.classLink (pq_y M).cls idx C) && pq_word (a.getD 1 0) (.instantiable C N) && pq_word (a.getD 2 0) (.initialized C) && Nat.beq fs.length N && (List.range N).all (fun j => match parseFieldDescriptor (T j).2.2.1 with
      | some ty => decide (fs[j]? = some (defaultValue ty))
      | none => false)
    | _, _, _ => false
  | 25 => match i with
    | .newarray at0 => Nat.beq (a.headD 9) (pq_at2 at0) && pq_word t (.arrayClass (newarray.typeOf at0))
    | _ => false
  | 26 => match i with
    | .invokespecial idx => pq_word t (.methodLink (pq_y M).cls idx Lib.objectInit)
    | _ => false
  | 27 => match i with
    | .invokestatic idx => pq_word t (.methodLink (pq_y M).cls idx arraycopyName)
    | _ => false
  | 28 => match tab[a.headD 0]? with
    | some M1 => match i with
      | .invokestatic idx => Nat.beq ((pq_ns M1).getD 0 9) 0 && Nat.beq (a.getD 1 0) ((pq_ns M1).getD 1 0) && (pq_word t (.methodLink (pq_y M).cls idx (pq_y M1)) || decide (pq_wat t = some (.methodLinkNest (pq_y M).cls idx (pq_y M1) "SkyFees")))
      | .invokevirtual idx => Nat.beq ((pq_ns M1).getD 0 9) 1 && Nat.beq (a.getD 1 0) ((pq_ns M1).getD 1 0 + 1) && (pq_word t (.methodLink (pq_y M).cls idx (pq_y M1)) || decide (pq_wat t = some (.methodLinkNest (pq_y M).cls idx (pq_y M1) "SkyFees")))
      | .invokespecial idx => Nat.beq ((pq_ns M1).getD 0 9) 2 && Nat.beq (a.getD 1 0) ((pq_ns M1).getD 1 0 + 1) && (pq_word t (.methodLink (pq_y M).cls idx (pq_y M1)) || decide (pq_wat t = some (.methodLinkNest (pq_y M).cls idx (pq_y M1) "SkyFees")))
      | _ => false
    | none => false
  | 29 => match i, pq_mn (a.headD 9) with
    | .invokestatic idx, some y => pq_word t (.methodLink (pq_y M).cls idx y)
    | _, _ => false
  | 30 => match i, v with
    | .getstatic idx, .ref 1 => pq_word t (.fieldLink (pq_y M).cls idx "SkyFees" "ABOVE" "[I") || decide (pq_wat t = some (.fieldLinkNest (pq_y M).cls idx "SkyFees" "ABOVE" "[I" "SkyFees"))
    | .getstatic idx, .ref 2 => pq_word t (.fieldLink (pq_y M).cls idx "SkyFees" "BODIES" "[I") || decide (pq_wat t = some (.fieldLinkNest (pq_y M).cls idx "SkyFees" "BODIES" "[I" "SkyFees"))
    | .getstatic idx, .int x => decide (x = 1) && pq_word t (.fieldLink (pq_y M).cls idx "java/lang/String" "COMPACT_STRINGS" "Z")
    | .ldc idx, .ref 3 => decide ((pq_y M).cls = "SkyFeesModel") && Nat.beq idx 195
    | _, _ => false
  | 32 => decide (i = .pop)
  | 31 => match i, v with
    | .getfield idx, .int x => decide (x = 0) && pq_word t (.fieldLink (pq_y M).cls idx "java/lang/String" "coder" "B")
    | .getfield idx, .ref 4 => pq_word t (.fieldLink (pq_y M).cls idx "java/lang/String" "value" "[B")
    | _, _ => false
  | _ => false
/-- what is checked of a row -/
def pq_eok (tab : List pq_M) (M : pq_M) (q : pq_N) : Bool := match q with
  | (pc, cat, nx, i, a, v, t) => match cat with
    | 15 => decide (decode (pq_by M) pc = .ok (i, t)) && (match i with
      | .tableswitch d _ _ offs => decide (a.map (fun z : Nat => (z : Int)) = (d :: offs.toList).map (fun o => (pc : Int) + o))
      | .lookupswitch d ps => decide (a.map (fun z : Nat => (z : Int)) = (d :: ps.toList.map (fun z => z.2)).map (fun o => (pc : Int) + o)) && (ps.toList.zip (ps.toList.drop 1)).all (fun (a, next) => a.1 < next.1)
      | _ => false)
    | cat => decide (decode (pq_by M) pc = .ok (i, pq_il i)) && Nat.beq nx (pc + pq_il i) && pq_eo tab M cat pc i a v t
def pq_mok (tab : List pq_M) (M : pq_M) : Prop := pq_mf M ((pq_ns M).getD 0 9) ((pq_ns M).getD 1 0) ∧ (pq_cd M).all (fun b => b.2.all (pq_eok tab M)) = true
/-- the receiver of a virtual method is a cell of its name -/
def pq_rcv (M : pq_M) (as : List Value) (w : pq_W) : Bool := match (pq_ns M).headD 9 with
  | 1 => match as with
    | .ref b :: _ => match w[b]? with
      | some (.inr (ci, _)) => Nat.beq ci ((pq_ns M).getD 6 99)
      | _ => false
    | _ => false
  | 2 => match as with
    | .ref _ :: _ => true
    | _ => false
  | _ => true
/-- a method's run, d calls deep, F rows long at most in each -/
noncomputable def pq_run (tab : List pq_M) (F : Nat) (d : Nat) : Nat → List Value → pq_W → Option pq_R :=
  Nat.rec (motive := fun _ => Nat → List Value → pq_W → Option pq_R) (fun _ _ _ => none) (fun _ ih j as w => match tab[j]? with
    | some M => bif Nat.ble (pq_sum as) (pq_mL M) && pq_rcv M as w then pq_exec ih (pq_lim tab) (pq_lm M) (pq_rt M) (pq_cd M) F 0 (lv_args 0 as) [] w 0 0 else none
    | none => none) d
theorem pq_ld_ok {i : Instr} {n : Nat} : (pq_isld i 1 n = true → i = .iload n ∨ ∃ j : Fin 4, i = .iload_n j ∧ j.val = n) ∧ (pq_isld i 2 n = true → i = .lload n ∨ ∃ j : Fin 4, i = .lload_n j ∧ j.val = n) ∧ (pq_isld i 3 n = true → i = .aload n ∨ ∃ j : Fin 4, i = .aload_n j ∧ j.val = n) ∧ (pq_isld i 4 n = true → i = .istore n ∨ ∃ j : Fin 4, i = .istore_n j ∧ j.val = n) ∧ (pq_isld i 5 n = true → i = .lstore n ∨ ∃ j : Fin 4, i = .lstore_n j ∧ j.val = n) ∧ (pq_isld i 6 n = true → i = .astore n ∨ ∃ j : Fin 4, i = .astore_n j ∧ j.val = n) := by
  refine ⟨fun h => ?_, fun h => ?_, fun h => ?_, fun h => ?_, fun h => ?_, fun h => ?_⟩
  all_goals
    unfold pq_isld at h
    split at h <;> first
      | (cases h; done)
      | (simp only [Bool.and_eq_true] at h
         have h1 := Nat.eq_of_beq_eq_true h.1
         have h2 := Nat.eq_of_beq_eq_true h.2
         first
           | (cases h1; done)
           | (subst h2; exact Or.inl rfl)
           | exact Or.inr ⟨_, rfl, h2⟩)
