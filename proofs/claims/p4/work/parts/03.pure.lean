/-! a machine of my own over a list of cells: values are the kit's, a reference is a number in the list -/
abbrev pq_A : Type := FieldType × Nat × ((Nat → Int32) ⊕ (Nat → Int64))
abbrev pq_C : Type := pq_A ⊕ (Nat × List Value)
abbrev pq_W : Type := List pq_C
abbrev pq_L : Type := List (Nat × Value)
/-- a row of a method: its place, its kind, the next place, the instruction, numbers, a constant, the place of its word among the tables' -/
abbrev pq_N : Type := Nat × Nat × Nat × Instr × List Nat × Value × Nat
abbrev pq_B : Type := List (Nat × List pq_N)
abbrev pq_R : Type := Option Value × pq_W
/-- a method: its name, its bytes, how many slots, its answer's type, what it makes (cells, slots), numbers (kind, arguments, places of its words), its rows -/
abbrev pq_M : Type := MethodName × ByteArray × Nat × Option FieldType × (Nat × Nat) × List Nat × pq_B
def pq_E : Nat := 5
def pq_look1 : List pq_N → Nat → Option pq_N
  | [], _ => none
  | q :: r, pc => bif Nat.beq q.1 pc then some q else pq_look1 r pc
def pq_look : pq_B → Nat → Option pq_N
  | [], _ => none
  | b :: r, pc => bif Nat.ble pc b.1 then pq_look1 b.2 pc else pq_look r pc
theorem pq_look1_mem : ∀ (l : List pq_N) (pc : Nat) (q : pq_N), pq_look1 l pc = some q → q ∈ l ∧ q.1 = pc
  | [], pc, q, h => by cases h
  | a :: r, pc, q, h => by
    unfold pq_look1 at h
    cases hb : Nat.beq a.1 pc with
    | true =>
      rw [hb] at h
      cases h
      exact ⟨List.mem_cons_self, Nat.eq_of_beq_eq_true hb⟩
    | false =>
      rw [hb] at h
      obtain ⟨h1, h2⟩ := pq_look1_mem r pc q h
      exact ⟨List.mem_cons_of_mem _ h1, h2⟩
theorem pq_look_mem : ∀ (b : pq_B) (pc : Nat) (q : pq_N), pq_look b pc = some q → (∃ c ∈ b, q ∈ c.2) ∧ q.1 = pc
  | [], pc, q, h => by cases h
  | a :: r, pc, q, h => by
    unfold pq_look at h
    cases hb : Nat.ble pc a.1 with
    | true =>
      rw [hb] at h
      obtain ⟨h1, h2⟩ := pq_look1_mem a.2 pc q h
      exact ⟨⟨a, List.mem_cons_self, h1⟩, h2⟩
    | false =>
      rw [hb] at h
      obtain ⟨⟨c, h1, h2⟩, h3⟩ := pq_look_mem r pc q h
      exact ⟨⟨c, List.mem_cons_of_mem _ h1, h2⟩, h3⟩
def pq_lk : pq_L → Nat → Option Value
  | [], _ => none
  | q :: r, k => bif Nat.beq q.1 k then some q.2 else pq_lk r k
theorem pq_lk_mem : ∀ (l : pq_L) (k : Nat) (v : Value), pq_lk l k = some v → (k, v) ∈ l
  | [], k, v, h => by cases h
  | a :: r, k, v, h => by
    unfold pq_lk at h
    cases hb : Nat.beq a.1 k with
    | true =>
      rw [hb] at h
      cases h
      have e : a.1 = k := Nat.eq_of_beq_eq_true hb
      subst e
      exact List.mem_cons_self
    | false =>
      rw [hb] at h
      exact List.mem_cons_of_mem _ (pq_lk_mem r k v h)
def pq_st1 (l : pq_L) (i : Nat) (v : Value) : pq_L := (i, v) :: l.filter (fun q => !(q.1 == i) && !(q.1 + 1 == i && q.2.category == 2))
def pq_st2 (l : pq_L) (i : Nat) (v : Value) : pq_L := (i, v) :: l.filter (fun q => !(q.1 == i) && (!(q.1 == i + 1) && !(q.1 + 1 == i && q.2.category == 2)))
/-- how long an instruction is -/
def pq_il : Instr → Nat
  | .iload _ | .istore _ | .aload _ | .astore _ | .lload _ | .lstore _ | .bipush _ | .ldc _ | .newarray _ => 2
  | .sipush _ | .ldc_w _ | .ldc2_w _ | .ifCond _ _ | .if_icmp _ _ | .goto _ | .iinc _ _ | .getfield _ | .putfield _ | .invokevirtual _ | .invokestatic _ | .invokespecial _ | .new _ | .getstatic _ => 3
  | _ => 1
def pq_push (i : Instr) (v : Value) : Bool := match i with
  | .iconst n => decide (v = .int (Int32.ofInt n))
  | .bipush n => decide (v = .int (Int8.ofInt n).toInt32)
  | .sipush n => decide (v = .int (Int16.ofInt n).toInt32)
  | .lconst n => decide (v = .long (Int64.ofNat n))
  | .ldc _ | .ldc_w _ => match v with
    | .int _ => true
    | _ => false
  | .ldc2_w _ => match v with
    | .long _ => true
    | _ => false
  | _ => false
def pq_bin (i : Instr) (a b : Value) : Option Value := match a, b with
  | .int x, .int y => match i with
    | .iadd => some (.int (x + y))
    | .isub => some (.int (x - y))
    | .imul => some (.int (x * y))
    | .idiv => if y = 0 then none else some (.int (x / y))
    | .irem => if y = 0 then none else some (.int (x - x / y * y))
    | .iand => some (.int (x &&& y))
    | .ior => some (.int (x ||| y))
    | .ixor => some (.int (x ^^^ y))
    | .ishr => some (.int (x >>> (y &&& 31)))
    | _ => none
  | .long x, .long y => match i with
    | .ladd => some (.long (x + y))
    | .lsub => some (.long (x - y))
    | .lmul => some (.long (x * y))
    | .ldiv => if y = 0 then none else some (.long (x / y))
    | .lrem => if y = 0 then none else some (.long (x - x / y * y))
    | .land => some (.long (x &&& y))
    | .lor => some (.long (x ||| y))
    | .lcmp => some (.int (lg_cmp x y))
    | _ => none
  | .long x, .int y => match i with
    | .lshl => some (.long (x <<< (y.toInt64 &&& 63)))
    | .lshr => some (.long (x >>> (y.toInt64 &&& 63)))
    | .lushr => some (.long (x.toUInt64 >>> (y.toInt64.toUInt64 &&& Int64.toUInt64 63)).toInt64)
    | _ => none
  | _, _ => none
def pq_un (i : Instr) (a : Value) : Option Value := match a with
  | .int x => match i with
    | .ineg => some (.int (-x))
    | .i2l => some (.long x.toInt64)
    | .i2b => some (.int x.toInt8.toInt32)
    | .i2s => some (.int x.toInt16.toInt32)
    | _ => none
  | .long x => match i with
    | .l2i => some (.int x.toInt32)
    | _ => none
  | _ => none
def pq_br (c : Jvm.ClassFile.Cond) (x y : Int32) : Bool := match c with
  | .eq => decide (x = y)
  | .ne => decide (¬ x = y)
  | .lt => decide (x < y)
  | .ge => decide (y ≤ x)
  | .gt => decide (y < x)
  | .le => decide (x ≤ y)
def pq_lsw : List (Int × Int) → List Nat → Nat → Int32 → Option Nat
  | [], _, d, _ => some d
  | _ :: _, [], _, _ => none
  | q :: r, t :: ts, d, x => if x.toInt = q.1 then some t else pq_lsw r ts d x
/-- the place behind a switch -/
def pq_sw (i : Instr) (a : List Nat) (x : Int32) : Option Nat := match i with
  | .tableswitch _ lo hi _ => if x.toInt < lo ∨ hi < x.toInt then a[0]? else a[(x.toInt - lo).toNat + 1]?
  | .lookupswitch _ ps => pq_lsw ps.toList a.tail (a.headD 0) x
  | _ => none
/-- may a value stand in a field of this sort (0 int, 1 long, 2 boolean, 3 reference) -/
def pq_fit (t : Nat) (v : Value) : Bool := match v with
  | .int x => bif Nat.beq t 0 then true else bif Nat.beq t 2 then decide (x = 0 ∨ x = 1) else false
  | .long _ => Nat.beq t 1
  | .ref _ => Nat.beq t 3
  | _ => false
def pq_in (i : Int32) (n : Nat) : Bool := decide (¬ (i < 0 ∨ n ≤ i.toNatClampNeg))
/-- an array's place read -/
def pq_ald (x : pq_C) (i : Int32) (t : Nat) : Option Value := match x with
  | .inl (ty, n, .inl f) => match t with
    | 0 => if ty = .int ∧ pq_in i n = true then some (.int (f i.toNatClampNeg)) else none
    | 2 => if (ty = .byte ∨ ty = .boolean) ∧ pq_in i n = true then some (.int (f i.toNatClampNeg)) else none
    | _ => none
  | .inl (ty, n, .inr f) => match t with
    | 1 => if ty = .long ∧ pq_in i n = true then some (.long (f i.toNatClampNeg)) else none
    | _ => none
  | _ => none
/-- an array's place written -/
def pq_ast (x : pq_C) (i : Int32) (v : Value) (t : Nat) : Option pq_C := match x, v with
  | .inl (ty, n, .inl f), .int y => match t with
    | 0 => if ty = .int ∧ pq_in i n = true then some (.inl (ty, n, .inl (upd f i.toNatClampNeg y))) else none
    | 2 => if (ty = .byte ∨ ty = .boolean) ∧ pq_in i n = true then some (.inl (ty, n, .inl (upd f i.toNatClampNeg (vp_nar ty y)))) else none
    | _ => none
  | .inl (ty, n, .inr f), .long y => match t with
    | 1 => if ty = .long ∧ pq_in i n = true then some (.inl (ty, n, .inr (vp_updL f i.toNatClampNeg y))) else none
    | _ => none
  | _, _ => none
def pq_alen (x : pq_C) : Option Nat := match x with
  | .inl q => some q.2.1
  | _ => none
/-- System.arraycopy between arrays of ints, of bytes, of booleans -/
def pq_cp (x y : pq_C) (sp dp n : Int32) : Option pq_C := match x, y with
  | .inl (ty, n0, .inl f), .inl (ty1, n1, .inl g) => if (ty = .int ∨ ty = .byte ∨ ty = .boolean) ∧ ty1 = ty ∧ ¬ sp < 0 ∧ ¬ dp < 0 ∧ ¬ n < 0 ∧ sp.toNatClampNeg + n.toNatClampNeg ≤ n0 ∧ dp.toNatClampNeg + n.toNatClampNeg ≤ n1 then some (.inl (ty1, n1, .inl (va_cpy f g sp.toNatClampNeg dp.toNatClampNeg n.toNatClampNeg))) else none
  | _, _ => none
def pq_blank (t : Nat) (n : Nat) : Option pq_C := match t with
  | 0 => some (.inl (.int, n, .inl fun _ => 0))
  | 1 => some (.inl (.long, n, .inr fun _ => 0))
  | 2 => some (.inl (.byte, n, .inl fun _ => 0))
  | 3 => some (.inl (.boolean, n, .inl fun _ => 0))
  | _ => none
def pq_at2 : ArrayType → Nat
  | .int => 0
  | .long => 1
  | .byte => 2
  | .boolean => 3
  | _ => 9
def pq_sum (st : List Value) : Nat := (st.map fun v => v.category).sum
def pq_m0 (st : List Value) : Option (List Value) := match st with
  | .int y :: .int x :: r => some (.int (if x < y then y else x) :: r)
  | _ => none
def pq_m1 (st : List Value) : Option (List Value) := match st with
  | .int y :: .int x :: r => some (.int (if y < x then y else x) :: r)
  | _ => none
def pq_m2 (st : List Value) : Option (List Value) := match st with
  | .int x :: r => some (.int (if 0 ≤ x then x else 0 - x) :: r)
  | _ => none
def pq_m3 (st : List Value) : Option (List Value) := match st with
  | .long y :: .long x :: r => some (.long (if y < x then x else y) :: r)
  | _ => none
def pq_m4 (st : List Value) : Option (List Value) := match st with
  | .long y :: .long x :: r => some (.long (if y < x then y else x) :: r)
  | _ => none
def pq_math (op : Nat) (st : List Value) : Option (List Value) := match op with
  | 0 => pq_m0 st
  | 1 => pq_m1 st
  | 2 => pq_m2 st
  | 3 => pq_m3 st
  | 4 => pq_m4 st
  | _ => none
/-- one row: k goes on at a place with slots, stack, cells and what was made so far -/
def pq_do (call : Nat → List Value → pq_W → Option pq_R) (lim : Nat → Nat × Nat) (own : Nat × Nat) (ret : Option FieldType) (k : Nat → pq_L → List Value → pq_W → Nat → Nat → Option pq_R) (q : pq_N) (ls : pq_L) (st : List Value) (w : pq_W) (cs ss : Nat) : Option pq_R :=
  match q with
  | (_, cat, nx, i, a, v, _) => match cat with
    | 0 => k nx ls (v :: st) w cs ss
    | 1 => match pq_lk ls (a.headD 0) with
      | some (.int x) => k nx ls (.int x :: st) w cs ss
      | _ => none
    | 2 => match pq_lk ls (a.headD 0) with
      | some (.long x) => k nx ls (.long x :: st) w cs ss
      | _ => none
    | 3 => match pq_lk ls (a.headD 0) with
      | some (.ref x) => k nx ls (.ref x :: st) w cs ss
      | _ => none
    | 4 => match st with
      | .int x :: st => k nx (pq_st1 ls (a.headD 0) (.int x)) st w cs ss
      | _ => none
    | 5 => match st with
      | .long x :: st => k nx (pq_st2 ls (a.headD 0) (.long x)) st w cs ss
      | _ => none
    | 6 => match st with
      | .ref x :: st => k nx (pq_st1 ls (a.headD 0) (.ref x)) st w cs ss
      | _ => none
    | 7 => match pq_lk ls (a.headD 0), v with
      | some (.int x), .int y => k nx (pq_st1 ls (a.headD 0) (.int (x + y))) st w cs ss
      | _, _ => none
    | 8 => match st with
      | y :: x :: st => match pq_bin i x y with
        | some z => k nx ls (z :: st) w cs ss
        | none => none
      | _ => none
    | 9 => match st with
      | x :: st => match pq_un i x with
        | some z => k nx ls (z :: st) w cs ss
        | none => none
      | _ => none
    | 10 => match st with
      | x :: st => bif Nat.beq x.category 1 then k nx ls (x :: x :: st) w cs ss else none
      | _ => none
    | 11 => match st with
      | x :: y :: st => bif Nat.beq x.category 1 && Nat.beq y.category 1 then k nx ls (x :: y :: x :: y :: st) w cs ss else none
      | _ => none
    | 12 => match st, i with
      | .int x :: st, .ifCond c _ => bif pq_br c x 0 then k (a.headD 0) ls st w cs ss else k nx ls st w cs ss
      | _, _ => none
    | 13 => match st, i with
      | .int y :: .int x :: st, .if_icmp c _ => bif pq_br c x y then k (a.headD 0) ls st w cs ss else k nx ls st w cs ss
      | _, _ => none
    | 14 => k (a.headD 0) ls st w cs ss
    | 15 => match st with
      | .int x :: st => match pq_sw i a x with
        | some t => k t ls st w cs ss
        | none => none
      | _ => none
    | 16 => match st with
      | [.int x] => bif Nat.ble cs own.1 && Nat.ble ss own.2 then (match ret with
        | some .int => some (some (.int x), w)
        | some .boolean => if x = 0 ∨ x = 1 then some (some (.int x), w) else none
        | some .byte => if x = 0 ∨ x = 1 then some (some (.int x), w) else none
        | _ => none) else none
      | _ => none
    | 17 => match st with
      | [.long x] => bif Nat.ble cs own.1 && Nat.ble ss own.2 then (match ret with
        | some .long => some (some (.long x), w)
        | _ => none) else none
      | _ => none
    | 18 => match st with
      | [] => bif Nat.ble cs own.1 && Nat.ble ss own.2 then (match ret with
        | none => some (none, w)
        | _ => none) else none
      | _ => none
    | 19 => match st with
      | .ref r :: st => match w[r]? with
        | some (.inr (ci, fs)) => bif Nat.beq ci (a.headD 0) then (match fs[(a.getD 1 0)]? with
          | some z => k nx ls (z :: st) w cs ss
          | none => none) else none
        | _ => none
      | _ => none
    | 20 => match st with
      | z :: .ref r :: st => match w[r]? with
        | some (.inr (ci, fs)) => bif Nat.beq ci (a.headD 0) && Nat.ble pq_E r && Nat.blt (a.getD 1 0) fs.length && pq_fit (a.getD 2 9) z then k nx ls st (w.set r (.inr (ci, fs.set (a.getD 1 0) z))) cs ss else none
        | _ => none
      | _ => none
    | 21 => match st with
      | .int x :: .ref r :: st => match w[r]? with
        | some c => match pq_ald c x (a.headD 9) with
          | some z => k nx ls (z :: st) w cs ss
          | none => none
        | none => none
      | _ => none
    | 22 => match st with
      | z :: .int x :: .ref r :: st => match w[r]? with
        | some c => match pq_ast c x z (a.headD 9) with
          | some c1 => bif Nat.ble pq_E r then k nx ls st (w.set r c1) cs ss else none
          | none => none
        | none => none
      | _ => none
    | 23 => match st with
      | .ref r :: st => match w[r]? with
        | some c => match pq_alen c with
          | some n => k nx ls (.int (Int32.ofNat n) :: st) w cs ss
          | none => none
        | none => none
      | _ => none
    | 24 => match pq_dfl[(a.headD 0)]? with
      | some fs => bif Nat.ble (cs + 1) own.1 && Nat.ble (ss + fs.length) own.2 then k nx ls (.ref w.length :: st) (w ++ [.inr (a.headD 0, fs)]) (cs + 1) (ss + fs.length) else none
      | none => none
    | 25 => match st with
      | .int n :: st => match pq_blank (a.headD 9) n.toNatClampNeg with
        | some c => if n < 0 ∨ 60000000 < n.toNatClampNeg then none else bif Nat.ble (cs + 1) own.1 && Nat.ble (ss + n.toNatClampNeg) own.2 then k nx ls (.ref w.length :: st) (w ++ [c]) (cs + 1) (ss + n.toNatClampNeg) else none
        | none => none
      | _ => none
    | 26 => match st with
      | .ref _ :: st => bif Nat.ble (pq_sum st) 8 then k nx ls st w cs ss else none
      | _ => none
    | 27 => match st with
      | .int n :: .int dp :: .ref r1 :: .int sp :: .ref r0 :: st => match w[r0]?, w[r1]? with
        | some c0, some c1 => match pq_cp c0 c1 sp dp n with
          | some c2 => bif Nat.ble pq_E r0 && Nat.ble pq_E r1 && Nat.ble (pq_sum st) 8 then k nx ls st (w.set r1 c2) cs ss else none
          | none => none
        | _, _ => none
      | _ => none
    | 28 => bif Nat.ble (a.getD 1 0) st.length && Nat.ble (pq_sum (st.drop (a.getD 1 0))) 8 && Nat.ble (cs + (lim (a.headD 0)).1) own.1 && Nat.ble (ss + (lim (a.headD 0)).2) own.2 then (match call (a.headD 0) (st.take (a.getD 1 0)).reverse w with
      | some (r, w1) => k nx ls (r.toList ++ st.drop (a.getD 1 0)) w1 (cs + (lim (a.headD 0)).1) (ss + (lim (a.headD 0)).2)
      | none => none) else none
    | 29 => match pq_math (a.headD 9) st with
      | some st1 => bif Nat.ble (pq_sum st1) 8 && Nat.ble cs own.1 && Nat.ble ss own.2 then k nx ls st1 w cs ss else none
      | none => none
    | 30 => k nx ls (v :: st) w cs ss
    | 32 => match st with
      | x :: st => bif Nat.beq x.category 1 then k nx ls st w cs ss else none
      | _ => none
    | 31 => match st with
      | .ref r :: st => match w[r]? with
        | some (.inr (ci, _)) => bif Nat.beq r 3 && Nat.beq ci 99 then k nx ls (v :: st) w cs ss else none
        | _ => none
      | _ => none
    | _ => none
noncomputable def pq_exec (call : Nat → List Value → pq_W → Option pq_R) (lim : Nat → Nat × Nat) (own : Nat × Nat) (ret : Option FieldType) (L : pq_B) (f : Nat) : Nat → pq_L → List Value → pq_W → Nat → Nat → Option pq_R :=
  Nat.rec (motive := fun _ => Nat → pq_L → List Value → pq_W → Nat → Nat → Option pq_R) (fun _ _ _ _ _ _ => none) (fun _ ih pc ls st w cs ss => match pq_look L pc with
    | some q => pq_do call lim own ret ih q ls st w cs ss
    | none => none) f
theorem pq_exec_s (call : Nat → List Value → pq_W → Option pq_R) (lim : Nat → Nat × Nat) (own : Nat × Nat) (ret : Option FieldType) (L : pq_B) (f pc : Nat) (ls : pq_L) (st : List Value) (w : pq_W) (cs ss : Nat) : pq_exec call lim own ret L (f + 1) pc ls st w cs ss = match pq_look L pc with
    | some q => pq_do call lim own ret (pq_exec call lim own ret L f) q ls st w cs ss
    | none => none := rfl
