/-! instructions, found by their bytes -/
def pd_b (c : ByteArray) (p v : Nat) : Prop := ∃ h : p < c.size, c[p].toNat = v
def pd_L (c : ByteArray) : Nat → List Nat → Prop
  | _, [] => True
  | p, b :: r => pd_b c p b ∧ pd_L c (p + 1) r
theorem pd_u1 {c : ByteArray} {p v : Nat} (h : pd_b c p v) : (Jvm.ClassFile.Reader.u1 : Jvm.ClassFile.Decoder Nat) c p = .ok (v, p + 1) := by
  obtain ⟨h1, h2⟩ := h
  show (dite (p < c.size) (fun h => ((set (p + 1) >>= fun _ => pure c[p].toNat) : Jvm.ClassFile.Decoder Nat)) (fun _ => throw (Jvm.ClassFile.HasTruncated.truncated p))) c p = _
  rw [dif_pos h1, ← h2]
  rfl
theorem pd_bind {α β : Type} (m : Jvm.ClassFile.Decoder α) (f : α → Jvm.ClassFile.Decoder β) {c : ByteArray} {p s : Nat} {a : α} (h : m c p = .ok (a, s)) : (m >>= f) c p = f a c s := by
  show Except.bind (m c p) _ = _
  rw [h]
  rfl
theorem pd_map {α β : Type} (m : Jvm.ClassFile.Decoder α) (f : α → β) {c : ByteArray} {p s : Nat} {a : α} (h : m c p = .ok (a, s)) : (f <$> m) c p = .ok (f a, s) := by
  show Except.bind (m c p) _ = _
  rw [h]
  rfl
theorem pd_u2 {c : ByteArray} {p a b : Nat} (h : pd_b c p a) (h2 : pd_b c (p + 1) b) : (Jvm.ClassFile.Reader.u2 : Jvm.ClassFile.Decoder Nat) c p = .ok (a * 256 + b, p + 2) :=
  (pd_bind _ _ (pd_u1 h)).trans ((pd_bind _ _ (pd_u1 h2)).trans rfl)
theorem pd_dec {c : ByteArray} {p s : Nat} {i : Instr} (h : Jvm.ClassFile.Decoder.instr p c p = .ok (i, s)) : decode c p = .ok (i, s - p) := by
  show Except.bind (Jvm.ClassFile.Decoder.instr p c p) _ = _
  rw [h]
  rfl
/-- opcode, kind of what follows (0 nothing, 1, 2: an unsigned byte, two; 3, 4: signed; 5 a byte and a signed one), its numbers -/
def pd_op (i : Instr) : Option (Nat × Nat × Nat × Int) := match i with
  | .iaload => some (46, 0, 0, 0)
  | .laload => some (47, 0, 0, 0)
  | .baload => some (51, 0, 0, 0)
  | .iastore => some (79, 0, 0, 0)
  | .lastore => some (80, 0, 0, 0)
  | .bastore => some (84, 0, 0, 0)
  | .pop => some (87, 0, 0, 0)
  | .dup => some (89, 0, 0, 0)
  | .dup2 => some (92, 0, 0, 0)
  | .iadd => some (96, 0, 0, 0)
  | .ladd => some (97, 0, 0, 0)
  | .isub => some (100, 0, 0, 0)
  | .lsub => some (101, 0, 0, 0)
  | .imul => some (104, 0, 0, 0)
  | .lmul => some (105, 0, 0, 0)
  | .idiv => some (108, 0, 0, 0)
  | .ldiv => some (109, 0, 0, 0)
  | .irem => some (112, 0, 0, 0)
  | .lrem => some (113, 0, 0, 0)
  | .ineg => some (116, 0, 0, 0)
  | .lshl => some (121, 0, 0, 0)
  | .ishr => some (122, 0, 0, 0)
  | .lshr => some (123, 0, 0, 0)
  | .lushr => some (125, 0, 0, 0)
  | .iand => some (126, 0, 0, 0)
  | .land => some (127, 0, 0, 0)
  | .ior => some (128, 0, 0, 0)
  | .lor => some (129, 0, 0, 0)
  | .ixor => some (130, 0, 0, 0)
  | .i2l => some (133, 0, 0, 0)
  | .l2i => some (136, 0, 0, 0)
  | .i2b => some (145, 0, 0, 0)
  | .i2s => some (147, 0, 0, 0)
  | .lcmp => some (148, 0, 0, 0)
  | .ireturn => some (172, 0, 0, 0)
  | .lreturn => some (173, 0, 0, 0)
  | .return_ => some (177, 0, 0, 0)
  | .arraylength => some (190, 0, 0, 0)
  | .iload_n k => some (26 + k.val, 0, 0, 0)
  | .lload_n k => some (30 + k.val, 0, 0, 0)
  | .aload_n k => some (42 + k.val, 0, 0, 0)
  | .istore_n k => some (59 + k.val, 0, 0, 0)
  | .lstore_n k => some (63 + k.val, 0, 0, 0)
  | .astore_n k => some (75 + k.val, 0, 0, 0)
  | .lconst k => some (9 + k.val, 0, 0, 0)
  | .iconst k => bif decide (-1 ≤ k) && decide (k ≤ 5) then some ((k + 3).toNat, 0, 0, 0) else none
  | .ldc k => some (18, 1, k, 0)
  | .iload k => some (21, 1, k, 0)
  | .lload k => some (22, 1, k, 0)
  | .aload k => some (25, 1, k, 0)
  | .istore k => some (54, 1, k, 0)
  | .lstore k => some (55, 1, k, 0)
  | .astore k => some (58, 1, k, 0)
  | .ldc_w k => some (19, 2, k, 0)
  | .ldc2_w k => some (20, 2, k, 0)
  | .getstatic k => some (178, 2, k, 0)
  | .getfield k => some (180, 2, k, 0)
  | .putfield k => some (181, 2, k, 0)
  | .invokevirtual k => some (182, 2, k, 0)
  | .invokespecial k => some (183, 2, k, 0)
  | .invokestatic k => some (184, 2, k, 0)
  | .new k => some (187, 2, k, 0)
  | .bipush d => some (16, 3, 0, d)
  | .sipush d => some (17, 4, 0, d)
  | .goto d => some (167, 4, 0, d)
  | .iinc k d => some (132, 5, k, d)
  | .ifCond c d => match c with
    | .eq => some (153, 4, 0, d)
    | .ne => some (154, 4, 0, d)
    | .lt => some (155, 4, 0, d)
    | .ge => some (156, 4, 0, d)
    | .gt => some (157, 4, 0, d)
    | .le => some (158, 4, 0, d)
  | .if_icmp c d => match c with
    | .eq => some (159, 4, 0, d)
    | .ne => some (160, 4, 0, d)
    | .lt => some (161, 4, 0, d)
    | .ge => some (162, 4, 0, d)
    | .gt => some (163, 4, 0, d)
    | .le => some (164, 4, 0, d)
  | .newarray t => match t with
    | .boolean => some (188, 1, 4, 0)
    | .char => some (188, 1, 5, 0)
    | .float => some (188, 1, 6, 0)
    | .double => some (188, 1, 7, 0)
    | .byte => some (188, 1, 8, 0)
    | .short => some (188, 1, 9, 0)
    | .int => some (188, 1, 10, 0)
    | .long => some (188, 1, 11, 0)
  | _ => none
def pd_r (k n : Nat) (d : Int) (l : List Nat) : Option (List Nat) := match k with
  | 0 => some l
  | 1 => match l with
    | a :: r => bif Nat.beq a n then some r else none
    | _ => none
  | 2 => match l with
    | a :: b :: r => bif Nat.beq (a * 256 + b) n then some r else none
    | _ => none
  | 3 => match l with
    | a :: r => bif decide (Jvm.ClassFile.Reader.signed 8 a = d) then some r else none
    | _ => none
  | 4 => match l with
    | a :: b :: r => bif decide (Jvm.ClassFile.Reader.signed 16 (a * 256 + b) = d) then some r else none
    | _ => none
  | 5 => match l with
    | a :: b :: r => bif Nat.beq a n && decide (Jvm.ClassFile.Reader.signed 8 b = d) then some r else none
    | _ => none
  | _ => none
/-- the bytes behind the instruction, if it stands here -/
def pd_m (i : Instr) (l : List Nat) : Option (List Nat) := match pd_op i with
  | some (op, k, n, d) => match l with
    | b :: r => bif Nat.beq b op then pd_r k n d r else none
    | [] => none
  | none => none
theorem pd_cond {α : Type} {b : Bool} {x y : α} (h : (bif b then some x else none) = some y) : b = true ∧ x = y := by
  cases b with
  | true => cases h; exact ⟨rfl, rfl⟩
  | false => cases h
theorem pd_r0 {n : Nat} {d : Int} {l r : List Nat} (h : pd_r 0 n d l = some r) : r = l := by cases h; rfl
theorem pd_r1 {n : Nat} {d : Int} {l r : List Nat} (h : pd_r 1 n d l = some r) : l = n :: r := by
  match l, h with
  | a :: t, h =>
    obtain ⟨h1, h2⟩ := pd_cond h
    rw [Nat.eq_of_beq_eq_true h1, h2]
theorem pd_r2 {n : Nat} {d : Int} {l r : List Nat} (h : pd_r 2 n d l = some r) : ∃ a b, l = a :: b :: r ∧ a * 256 + b = n := by
  match l, h with
  | a :: b :: t, h =>
    obtain ⟨h1, h2⟩ := pd_cond h
    exact ⟨a, b, by rw [h2], Nat.eq_of_beq_eq_true h1⟩
theorem pd_r3 {n : Nat} {d : Int} {l r : List Nat} (h : pd_r 3 n d l = some r) : ∃ a, l = a :: r ∧ Jvm.ClassFile.Reader.signed 8 a = d := by
  match l, h with
  | a :: t, h =>
    obtain ⟨h1, h2⟩ := pd_cond h
    exact ⟨a, by rw [h2], of_decide_eq_true h1⟩
theorem pd_r4 {n : Nat} {d : Int} {l r : List Nat} (h : pd_r 4 n d l = some r) : ∃ a b, l = a :: b :: r ∧ Jvm.ClassFile.Reader.signed 16 (a * 256 + b) = d := by
  match l, h with
  | a :: b :: t, h =>
    obtain ⟨h1, h2⟩ := pd_cond h
    exact ⟨a, b, by rw [h2], of_decide_eq_true h1⟩
theorem pd_r5 {n : Nat} {d : Int} {l r : List Nat} (h : pd_r 5 n d l = some r) : ∃ b, l = n :: b :: r ∧ Jvm.ClassFile.Reader.signed 8 b = d := by
  match l, h with
  | a :: b :: t, h =>
    obtain ⟨h1, h2⟩ := pd_cond h
    rw [Bool.and_eq_true] at h1
    exact ⟨b, by rw [Nat.eq_of_beq_eq_true h1.1, h2], of_decide_eq_true h1.2⟩
/-- from an opcode on: what is read there -/
theorem pd_go {c : ByteArray} {p op s : Nat} {i : Instr} {m : Jvm.ClassFile.Decoder Instr} (h : pd_b c p op) (e : Jvm.ClassFile.Decoder.instr p c p = m c (p + 1)) (h2 : m c (p + 1) = .ok (i, s)) : decode c p = .ok (i, s - p) := pd_dec (e.trans h2)
theorem pd_op1 {c : ByteArray} {p op : Nat} (h : pd_b c p op) {f : Nat → Jvm.ClassFile.Decoder Instr} (e : Jvm.ClassFile.Decoder.instr p = (Jvm.ClassFile.Reader.u1 >>= f)) : Jvm.ClassFile.Decoder.instr p c p = f op c (p + 1) := by
  rw [e]
  exact pd_bind _ _ (pd_u1 h)
theorem pd_z {c : ByteArray} {p : Nat} {i : Instr} (h : Jvm.ClassFile.Decoder.instr p c p = (pure i : Jvm.ClassFile.Decoder Instr) c (p + 1)) : decode c p = .ok (i, 1) := by
  have := pd_dec (s := p + 1) (i := i) (h.trans rfl)
  rw [this, Nat.add_sub_cancel_left]
theorem pd_e1 {c : ByteArray} {p a : Nat} {f : Nat → Instr} (h : Jvm.ClassFile.Decoder.instr p c p = (Jvm.ClassFile.Reader.u1 >>= fun x => pure (f x) : Jvm.ClassFile.Decoder Instr) c (p + 1)) (ha : pd_b c (p + 1) a) : decode c p = .ok (f a, 2) := by
  have := pd_dec (s := p + 2) (i := f a) (h.trans ((pd_bind _ _ (pd_u1 ha)).trans rfl))
  rw [this, Nat.add_sub_cancel_left]
theorem pd_e2 {c : ByteArray} {p a b : Nat} {f : Nat → Instr} (h : Jvm.ClassFile.Decoder.instr p c p = (Jvm.ClassFile.Reader.u2 >>= fun x => pure (f x) : Jvm.ClassFile.Decoder Instr) c (p + 1)) (ha : pd_b c (p + 1) a) (hb : pd_b c (p + 1 + 1) b) : decode c p = .ok (f (a * 256 + b), 3) := by
  have := pd_dec (s := p + 3) (i := f (a * 256 + b)) (h.trans ((pd_bind _ _ (pd_u2 ha hb)).trans rfl))
  rw [this, Nat.add_sub_cancel_left]
theorem pd_e3 {c : ByteArray} {p a : Nat} {f : Int → Instr} (h : Jvm.ClassFile.Decoder.instr p c p = (Jvm.ClassFile.Reader.s1 >>= fun x => pure (f x) : Jvm.ClassFile.Decoder Instr) c (p + 1)) (ha : pd_b c (p + 1) a) : decode c p = .ok (f (Jvm.ClassFile.Reader.signed 8 a), 2) := by
  have := pd_dec (s := p + 2) (i := f (Jvm.ClassFile.Reader.signed 8 a)) (h.trans ((pd_bind _ _ (pd_map _ _ (pd_u1 ha))).trans rfl))
  rw [this, Nat.add_sub_cancel_left]
theorem pd_e4 {c : ByteArray} {p a b : Nat} {f : Int → Instr} (h : Jvm.ClassFile.Decoder.instr p c p = (Jvm.ClassFile.Reader.s2 >>= fun x => pure (f x) : Jvm.ClassFile.Decoder Instr) c (p + 1)) (ha : pd_b c (p + 1) a) (hb : pd_b c (p + 1 + 1) b) : decode c p = .ok (f (Jvm.ClassFile.Reader.signed 16 (a * 256 + b)), 3) := by
  have := pd_dec (s := p + 3) (i := f (Jvm.ClassFile.Reader.signed 16 (a * 256 + b))) (h.trans ((pd_bind _ _ (pd_map _ _ (pd_u2 ha hb))).trans rfl))
  rw [this, Nat.add_sub_cancel_left]
theorem pd_e5 {c : ByteArray} {p a b : Nat} {f : Nat → Int → Instr} (h : Jvm.ClassFile.Decoder.instr p c p = (Jvm.ClassFile.Reader.u1 >>= fun x => Jvm.ClassFile.Reader.s1 >>= fun y => pure (f x y) : Jvm.ClassFile.Decoder Instr) c (p + 1)) (ha : pd_b c (p + 1) a) (hb : pd_b c (p + 1 + 1) b) : decode c p = .ok (f a (Jvm.ClassFile.Reader.signed 8 b), 3) := by
  have := pd_dec (s := p + 3) (i := f a (Jvm.ClassFile.Reader.signed 8 b)) (h.trans ((pd_bind _ _ (pd_u1 ha)).trans ((pd_bind _ _ (pd_map _ _ (pd_u1 hb))).trans rfl)))
  rw [this, Nat.add_sub_cancel_left]
theorem pd_o46 {c : ByteArray} {p : Nat} (h : pd_b c p 46) : Jvm.ClassFile.Decoder.instr p c p = (pure .iaload : Jvm.ClassFile.Decoder Instr) c (p + 1) := by
  unfold Jvm.ClassFile.Decoder.instr
  exact (pd_bind _ _ (pd_u1 h)).trans rfl
theorem pd_o47 {c : ByteArray} {p : Nat} (h : pd_b c p 47) : Jvm.ClassFile.Decoder.instr p c p = (pure .laload : Jvm.ClassFile.Decoder Instr) c (p + 1) := by
  unfold Jvm.ClassFile.Decoder.instr
  exact (pd_bind _ _ (pd_u1 h)).trans rfl
theorem pd_o51 {c : ByteArray} {p : Nat} (h : pd_b c p 51) : Jvm.ClassFile.Decoder.instr p c p = (pure .baload : Jvm.ClassFile.Decoder Instr) c (p + 1) := by
  unfold Jvm.ClassFile.Decoder.instr
  exact (pd_bind _ _ (pd_u1 h)).trans rfl
theorem pd_o79 {c : ByteArray} {p : Nat} (h : pd_b c p 79) : Jvm.ClassFile.Decoder.instr p c p = (pure .iastore : Jvm.ClassFile.Decoder Instr) c (p + 1) := by
  unfold Jvm.ClassFile.Decoder.instr
  exact (pd_bind _ _ (pd_u1 h)).trans rfl
theorem pd_o80 {c : ByteArray} {p : Nat} (h : pd_b c p 80) : Jvm.ClassFile.Decoder.instr p c p = (pure .lastore : Jvm.ClassFile.Decoder Instr) c (p + 1) := by
  unfold Jvm.ClassFile.Decoder.instr
  exact (pd_bind _ _ (pd_u1 h)).trans rfl
theorem pd_o84 {c : ByteArray} {p : Nat} (h : pd_b c p 84) : Jvm.ClassFile.Decoder.instr p c p = (pure .bastore : Jvm.ClassFile.Decoder Instr) c (p + 1) := by
  unfold Jvm.ClassFile.Decoder.instr
  exact (pd_bind _ _ (pd_u1 h)).trans rfl
theorem pd_o87 {c : ByteArray} {p : Nat} (h : pd_b c p 87) : Jvm.ClassFile.Decoder.instr p c p = (pure .pop : Jvm.ClassFile.Decoder Instr) c (p + 1) := by
  unfold Jvm.ClassFile.Decoder.instr
  exact (pd_bind _ _ (pd_u1 h)).trans rfl
theorem pd_o89 {c : ByteArray} {p : Nat} (h : pd_b c p 89) : Jvm.ClassFile.Decoder.instr p c p = (pure .dup : Jvm.ClassFile.Decoder Instr) c (p + 1) := by
  unfold Jvm.ClassFile.Decoder.instr
  exact (pd_bind _ _ (pd_u1 h)).trans rfl
theorem pd_o92 {c : ByteArray} {p : Nat} (h : pd_b c p 92) : Jvm.ClassFile.Decoder.instr p c p = (pure .dup2 : Jvm.ClassFile.Decoder Instr) c (p + 1) := by
  unfold Jvm.ClassFile.Decoder.instr
  exact (pd_bind _ _ (pd_u1 h)).trans rfl
theorem pd_o96 {c : ByteArray} {p : Nat} (h : pd_b c p 96) : Jvm.ClassFile.Decoder.instr p c p = (pure .iadd : Jvm.ClassFile.Decoder Instr) c (p + 1) := by
  unfold Jvm.ClassFile.Decoder.instr
  exact (pd_bind _ _ (pd_u1 h)).trans rfl
theorem pd_o97 {c : ByteArray} {p : Nat} (h : pd_b c p 97) : Jvm.ClassFile.Decoder.instr p c p = (pure .ladd : Jvm.ClassFile.Decoder Instr) c (p + 1) := by
  unfold Jvm.ClassFile.Decoder.instr
  exact (pd_bind _ _ (pd_u1 h)).trans rfl
theorem pd_o100 {c : ByteArray} {p : Nat} (h : pd_b c p 100) : Jvm.ClassFile.Decoder.instr p c p = (pure .isub : Jvm.ClassFile.Decoder Instr) c (p + 1) := by
  unfold Jvm.ClassFile.Decoder.instr
  exact (pd_bind _ _ (pd_u1 h)).trans rfl
theorem pd_o101 {c : ByteArray} {p : Nat} (h : pd_b c p 101) : Jvm.ClassFile.Decoder.instr p c p = (pure .lsub : Jvm.ClassFile.Decoder Instr) c (p + 1) := by
  unfold Jvm.ClassFile.Decoder.instr
  exact (pd_bind _ _ (pd_u1 h)).trans rfl
theorem pd_o104 {c : ByteArray} {p : Nat} (h : pd_b c p 104) : Jvm.ClassFile.Decoder.instr p c p = (pure .imul : Jvm.ClassFile.Decoder Instr) c (p + 1) := by
  unfold Jvm.ClassFile.Decoder.instr
  exact (pd_bind _ _ (pd_u1 h)).trans rfl
theorem pd_o105 {c : ByteArray} {p : Nat} (h : pd_b c p 105) : Jvm.ClassFile.Decoder.instr p c p = (pure .lmul : Jvm.ClassFile.Decoder Instr) c (p + 1) := by
  unfold Jvm.ClassFile.Decoder.instr
  exact (pd_bind _ _ (pd_u1 h)).trans rfl
theorem pd_o108 {c : ByteArray} {p : Nat} (h : pd_b c p 108) : Jvm.ClassFile.Decoder.instr p c p = (pure .idiv : Jvm.ClassFile.Decoder Instr) c (p + 1) := by
  unfold Jvm.ClassFile.Decoder.instr
  exact (pd_bind _ _ (pd_u1 h)).trans rfl
theorem pd_o109 {c : ByteArray} {p : Nat} (h : pd_b c p 109) : Jvm.ClassFile.Decoder.instr p c p = (pure .ldiv : Jvm.ClassFile.Decoder Instr) c (p + 1) := by
  unfold Jvm.ClassFile.Decoder.instr
  exact (pd_bind _ _ (pd_u1 h)).trans rfl
theorem pd_o112 {c : ByteArray} {p : Nat} (h : pd_b c p 112) : Jvm.ClassFile.Decoder.instr p c p = (pure .irem : Jvm.ClassFile.Decoder Instr) c (p + 1) := by
  unfold Jvm.ClassFile.Decoder.instr
  exact (pd_bind _ _ (pd_u1 h)).trans rfl
theorem pd_o113 {c : ByteArray} {p : Nat} (h : pd_b c p 113) : Jvm.ClassFile.Decoder.instr p c p = (pure .lrem : Jvm.ClassFile.Decoder Instr) c (p + 1) := by
  unfold Jvm.ClassFile.Decoder.instr
  exact (pd_bind _ _ (pd_u1 h)).trans rfl
theorem pd_o116 {c : ByteArray} {p : Nat} (h : pd_b c p 116) : Jvm.ClassFile.Decoder.instr p c p = (pure .ineg : Jvm.ClassFile.Decoder Instr) c (p + 1) := by
  unfold Jvm.ClassFile.Decoder.instr
  exact (pd_bind _ _ (pd_u1 h)).trans rfl
theorem pd_o121 {c : ByteArray} {p : Nat} (h : pd_b c p 121) : Jvm.ClassFile.Decoder.instr p c p = (pure .lshl : Jvm.ClassFile.Decoder Instr) c (p + 1) := by
  unfold Jvm.ClassFile.Decoder.instr
  exact (pd_bind _ _ (pd_u1 h)).trans rfl
theorem pd_o122 {c : ByteArray} {p : Nat} (h : pd_b c p 122) : Jvm.ClassFile.Decoder.instr p c p = (pure .ishr : Jvm.ClassFile.Decoder Instr) c (p + 1) := by
  unfold Jvm.ClassFile.Decoder.instr
  exact (pd_bind _ _ (pd_u1 h)).trans rfl
theorem pd_o123 {c : ByteArray} {p : Nat} (h : pd_b c p 123) : Jvm.ClassFile.Decoder.instr p c p = (pure .lshr : Jvm.ClassFile.Decoder Instr) c (p + 1) := by
  unfold Jvm.ClassFile.Decoder.instr
  exact (pd_bind _ _ (pd_u1 h)).trans rfl
theorem pd_o125 {c : ByteArray} {p : Nat} (h : pd_b c p 125) : Jvm.ClassFile.Decoder.instr p c p = (pure .lushr : Jvm.ClassFile.Decoder Instr) c (p + 1) := by
  unfold Jvm.ClassFile.Decoder.instr
  exact (pd_bind _ _ (pd_u1 h)).trans rfl
theorem pd_o126 {c : ByteArray} {p : Nat} (h : pd_b c p 126) : Jvm.ClassFile.Decoder.instr p c p = (pure .iand : Jvm.ClassFile.Decoder Instr) c (p + 1) := by
  unfold Jvm.ClassFile.Decoder.instr
  exact (pd_bind _ _ (pd_u1 h)).trans rfl
theorem pd_o127 {c : ByteArray} {p : Nat} (h : pd_b c p 127) : Jvm.ClassFile.Decoder.instr p c p = (pure .land : Jvm.ClassFile.Decoder Instr) c (p + 1) := by
  unfold Jvm.ClassFile.Decoder.instr
  exact (pd_bind _ _ (pd_u1 h)).trans rfl
theorem pd_o128 {c : ByteArray} {p : Nat} (h : pd_b c p 128) : Jvm.ClassFile.Decoder.instr p c p = (pure .ior : Jvm.ClassFile.Decoder Instr) c (p + 1) := by
  unfold Jvm.ClassFile.Decoder.instr
  exact (pd_bind _ _ (pd_u1 h)).trans rfl
theorem pd_o129 {c : ByteArray} {p : Nat} (h : pd_b c p 129) : Jvm.ClassFile.Decoder.instr p c p = (pure .lor : Jvm.ClassFile.Decoder Instr) c (p + 1) := by
  unfold Jvm.ClassFile.Decoder.instr
  exact (pd_bind _ _ (pd_u1 h)).trans rfl
theorem pd_o130 {c : ByteArray} {p : Nat} (h : pd_b c p 130) : Jvm.ClassFile.Decoder.instr p c p = (pure .ixor : Jvm.ClassFile.Decoder Instr) c (p + 1) := by
  unfold Jvm.ClassFile.Decoder.instr
  exact (pd_bind _ _ (pd_u1 h)).trans rfl
theorem pd_o133 {c : ByteArray} {p : Nat} (h : pd_b c p 133) : Jvm.ClassFile.Decoder.instr p c p = (pure .i2l : Jvm.ClassFile.Decoder Instr) c (p + 1) := by
  unfold Jvm.ClassFile.Decoder.instr
  exact (pd_bind _ _ (pd_u1 h)).trans rfl
theorem pd_o136 {c : ByteArray} {p : Nat} (h : pd_b c p 136) : Jvm.ClassFile.Decoder.instr p c p = (pure .l2i : Jvm.ClassFile.Decoder Instr) c (p + 1) := by
  unfold Jvm.ClassFile.Decoder.instr
  exact (pd_bind _ _ (pd_u1 h)).trans rfl
theorem pd_o145 {c : ByteArray} {p : Nat} (h : pd_b c p 145) : Jvm.ClassFile.Decoder.instr p c p = (pure .i2b : Jvm.ClassFile.Decoder Instr) c (p + 1) := by
  unfold Jvm.ClassFile.Decoder.instr
  exact (pd_bind _ _ (pd_u1 h)).trans rfl
theorem pd_o147 {c : ByteArray} {p : Nat} (h : pd_b c p 147) : Jvm.ClassFile.Decoder.instr p c p = (pure .i2s : Jvm.ClassFile.Decoder Instr) c (p + 1) := by
  unfold Jvm.ClassFile.Decoder.instr
  exact (pd_bind _ _ (pd_u1 h)).trans rfl
theorem pd_o148 {c : ByteArray} {p : Nat} (h : pd_b c p 148) : Jvm.ClassFile.Decoder.instr p c p = (pure .lcmp : Jvm.ClassFile.Decoder Instr) c (p + 1) := by
  unfold Jvm.ClassFile.Decoder.instr
  exact (pd_bind _ _ (pd_u1 h)).trans rfl
theorem pd_o172 {c : ByteArray} {p : Nat} (h : pd_b c p 172) : Jvm.ClassFile.Decoder.instr p c p = (pure .ireturn : Jvm.ClassFile.Decoder Instr) c (p + 1) := by
  unfold Jvm.ClassFile.Decoder.instr
  exact (pd_bind _ _ (pd_u1 h)).trans rfl
theorem pd_o173 {c : ByteArray} {p : Nat} (h : pd_b c p 173) : Jvm.ClassFile.Decoder.instr p c p = (pure .lreturn : Jvm.ClassFile.Decoder Instr) c (p + 1) := by
  unfold Jvm.ClassFile.Decoder.instr
  exact (pd_bind _ _ (pd_u1 h)).trans rfl
theorem pd_o177 {c : ByteArray} {p : Nat} (h : pd_b c p 177) : Jvm.ClassFile.Decoder.instr p c p = (pure .return_ : Jvm.ClassFile.Decoder Instr) c (p + 1) := by
  unfold Jvm.ClassFile.Decoder.instr
  exact (pd_bind _ _ (pd_u1 h)).trans rfl
theorem pd_o190 {c : ByteArray} {p : Nat} (h : pd_b c p 190) : Jvm.ClassFile.Decoder.instr p c p = (pure .arraylength : Jvm.ClassFile.Decoder Instr) c (p + 1) := by
  unfold Jvm.ClassFile.Decoder.instr
  exact (pd_bind _ _ (pd_u1 h)).trans rfl
theorem pd_o26 {c : ByteArray} {p : Nat} (h : pd_b c p 26) : Jvm.ClassFile.Decoder.instr p c p = (pure (.iload_n 0) : Jvm.ClassFile.Decoder Instr) c (p + 1) := by
  unfold Jvm.ClassFile.Decoder.instr
  exact (pd_bind _ _ (pd_u1 h)).trans rfl
theorem pd_o27 {c : ByteArray} {p : Nat} (h : pd_b c p 27) : Jvm.ClassFile.Decoder.instr p c p = (pure (.iload_n 1) : Jvm.ClassFile.Decoder Instr) c (p + 1) := by
  unfold Jvm.ClassFile.Decoder.instr
  exact (pd_bind _ _ (pd_u1 h)).trans rfl
theorem pd_o28 {c : ByteArray} {p : Nat} (h : pd_b c p 28) : Jvm.ClassFile.Decoder.instr p c p = (pure (.iload_n 2) : Jvm.ClassFile.Decoder Instr) c (p + 1) := by
  unfold Jvm.ClassFile.Decoder.instr
  exact (pd_bind _ _ (pd_u1 h)).trans rfl
theorem pd_o29 {c : ByteArray} {p : Nat} (h : pd_b c p 29) : Jvm.ClassFile.Decoder.instr p c p = (pure (.iload_n 3) : Jvm.ClassFile.Decoder Instr) c (p + 1) := by
  unfold Jvm.ClassFile.Decoder.instr
  exact (pd_bind _ _ (pd_u1 h)).trans rfl
theorem pd_o30 {c : ByteArray} {p : Nat} (h : pd_b c p 30) : Jvm.ClassFile.Decoder.instr p c p = (pure (.lload_n 0) : Jvm.ClassFile.Decoder Instr) c (p + 1) := by
  unfold Jvm.ClassFile.Decoder.instr
  exact (pd_bind _ _ (pd_u1 h)).trans rfl
theorem pd_o31 {c : ByteArray} {p : Nat} (h : pd_b c p 31) : Jvm.ClassFile.Decoder.instr p c p = (pure (.lload_n 1) : Jvm.ClassFile.Decoder Instr) c (p + 1) := by
  unfold Jvm.ClassFile.Decoder.instr
  exact (pd_bind _ _ (pd_u1 h)).trans rfl
theorem pd_o32 {c : ByteArray} {p : Nat} (h : pd_b c p 32) : Jvm.ClassFile.Decoder.instr p c p = (pure (.lload_n 2) : Jvm.ClassFile.Decoder Instr) c (p + 1) := by
  unfold Jvm.ClassFile.Decoder.instr
  exact (pd_bind _ _ (pd_u1 h)).trans rfl
theorem pd_o33 {c : ByteArray} {p : Nat} (h : pd_b c p 33) : Jvm.ClassFile.Decoder.instr p c p = (pure (.lload_n 3) : Jvm.ClassFile.Decoder Instr) c (p + 1) := by
  unfold Jvm.ClassFile.Decoder.instr
  exact (pd_bind _ _ (pd_u1 h)).trans rfl
theorem pd_o42 {c : ByteArray} {p : Nat} (h : pd_b c p 42) : Jvm.ClassFile.Decoder.instr p c p = (pure (.aload_n 0) : Jvm.ClassFile.Decoder Instr) c (p + 1) := by
  unfold Jvm.ClassFile.Decoder.instr
  exact (pd_bind _ _ (pd_u1 h)).trans rfl
theorem pd_o43 {c : ByteArray} {p : Nat} (h : pd_b c p 43) : Jvm.ClassFile.Decoder.instr p c p = (pure (.aload_n 1) : Jvm.ClassFile.Decoder Instr) c (p + 1) := by
  unfold Jvm.ClassFile.Decoder.instr
  exact (pd_bind _ _ (pd_u1 h)).trans rfl
theorem pd_o44 {c : ByteArray} {p : Nat} (h : pd_b c p 44) : Jvm.ClassFile.Decoder.instr p c p = (pure (.aload_n 2) : Jvm.ClassFile.Decoder Instr) c (p + 1) := by
  unfold Jvm.ClassFile.Decoder.instr
  exact (pd_bind _ _ (pd_u1 h)).trans rfl
theorem pd_o45 {c : ByteArray} {p : Nat} (h : pd_b c p 45) : Jvm.ClassFile.Decoder.instr p c p = (pure (.aload_n 3) : Jvm.ClassFile.Decoder Instr) c (p + 1) := by
  unfold Jvm.ClassFile.Decoder.instr
  exact (pd_bind _ _ (pd_u1 h)).trans rfl
theorem pd_o59 {c : ByteArray} {p : Nat} (h : pd_b c p 59) : Jvm.ClassFile.Decoder.instr p c p = (pure (.istore_n 0) : Jvm.ClassFile.Decoder Instr) c (p + 1) := by
  unfold Jvm.ClassFile.Decoder.instr
  exact (pd_bind _ _ (pd_u1 h)).trans rfl
theorem pd_o60 {c : ByteArray} {p : Nat} (h : pd_b c p 60) : Jvm.ClassFile.Decoder.instr p c p = (pure (.istore_n 1) : Jvm.ClassFile.Decoder Instr) c (p + 1) := by
  unfold Jvm.ClassFile.Decoder.instr
  exact (pd_bind _ _ (pd_u1 h)).trans rfl
theorem pd_o61 {c : ByteArray} {p : Nat} (h : pd_b c p 61) : Jvm.ClassFile.Decoder.instr p c p = (pure (.istore_n 2) : Jvm.ClassFile.Decoder Instr) c (p + 1) := by
  unfold Jvm.ClassFile.Decoder.instr
  exact (pd_bind _ _ (pd_u1 h)).trans rfl
theorem pd_o62 {c : ByteArray} {p : Nat} (h : pd_b c p 62) : Jvm.ClassFile.Decoder.instr p c p = (pure (.istore_n 3) : Jvm.ClassFile.Decoder Instr) c (p + 1) := by
  unfold Jvm.ClassFile.Decoder.instr
  exact (pd_bind _ _ (pd_u1 h)).trans rfl
theorem pd_o63 {c : ByteArray} {p : Nat} (h : pd_b c p 63) : Jvm.ClassFile.Decoder.instr p c p = (pure (.lstore_n 0) : Jvm.ClassFile.Decoder Instr) c (p + 1) := by
  unfold Jvm.ClassFile.Decoder.instr
  exact (pd_bind _ _ (pd_u1 h)).trans rfl
theorem pd_o64 {c : ByteArray} {p : Nat} (h : pd_b c p 64) : Jvm.ClassFile.Decoder.instr p c p = (pure (.lstore_n 1) : Jvm.ClassFile.Decoder Instr) c (p + 1) := by
  unfold Jvm.ClassFile.Decoder.instr
  exact (pd_bind _ _ (pd_u1 h)).trans rfl
theorem pd_o65 {c : ByteArray} {p : Nat} (h : pd_b c p 65) : Jvm.ClassFile.Decoder.instr p c p = (pure (.lstore_n 2) : Jvm.ClassFile.Decoder Instr) c (p + 1) := by
  unfold Jvm.ClassFile.Decoder.instr
  exact (pd_bind _ _ (pd_u1 h)).trans rfl
theorem pd_o66 {c : ByteArray} {p : Nat} (h : pd_b c p 66) : Jvm.ClassFile.Decoder.instr p c p = (pure (.lstore_n 3) : Jvm.ClassFile.Decoder Instr) c (p + 1) := by
  unfold Jvm.ClassFile.Decoder.instr
  exact (pd_bind _ _ (pd_u1 h)).trans rfl
theorem pd_o75 {c : ByteArray} {p : Nat} (h : pd_b c p 75) : Jvm.ClassFile.Decoder.instr p c p = (pure (.astore_n 0) : Jvm.ClassFile.Decoder Instr) c (p + 1) := by
  unfold Jvm.ClassFile.Decoder.instr
  exact (pd_bind _ _ (pd_u1 h)).trans rfl
theorem pd_o76 {c : ByteArray} {p : Nat} (h : pd_b c p 76) : Jvm.ClassFile.Decoder.instr p c p = (pure (.astore_n 1) : Jvm.ClassFile.Decoder Instr) c (p + 1) := by
  unfold Jvm.ClassFile.Decoder.instr
  exact (pd_bind _ _ (pd_u1 h)).trans rfl
theorem pd_o77 {c : ByteArray} {p : Nat} (h : pd_b c p 77) : Jvm.ClassFile.Decoder.instr p c p = (pure (.astore_n 2) : Jvm.ClassFile.Decoder Instr) c (p + 1) := by
  unfold Jvm.ClassFile.Decoder.instr
  exact (pd_bind _ _ (pd_u1 h)).trans rfl
theorem pd_o78 {c : ByteArray} {p : Nat} (h : pd_b c p 78) : Jvm.ClassFile.Decoder.instr p c p = (pure (.astore_n 3) : Jvm.ClassFile.Decoder Instr) c (p + 1) := by
  unfold Jvm.ClassFile.Decoder.instr
  exact (pd_bind _ _ (pd_u1 h)).trans rfl
theorem pd_o9 {c : ByteArray} {p : Nat} (h : pd_b c p 9) : Jvm.ClassFile.Decoder.instr p c p = (pure (.lconst 0) : Jvm.ClassFile.Decoder Instr) c (p + 1) := by
  unfold Jvm.ClassFile.Decoder.instr
  exact (pd_bind _ _ (pd_u1 h)).trans rfl
theorem pd_o10 {c : ByteArray} {p : Nat} (h : pd_b c p 10) : Jvm.ClassFile.Decoder.instr p c p = (pure (.lconst 1) : Jvm.ClassFile.Decoder Instr) c (p + 1) := by
  unfold Jvm.ClassFile.Decoder.instr
  exact (pd_bind _ _ (pd_u1 h)).trans rfl
theorem pd_o2 {c : ByteArray} {p : Nat} (h : pd_b c p 2) : Jvm.ClassFile.Decoder.instr p c p = (pure (.iconst (-1)) : Jvm.ClassFile.Decoder Instr) c (p + 1) := by
  unfold Jvm.ClassFile.Decoder.instr
  exact (pd_bind _ _ (pd_u1 h)).trans rfl
theorem pd_o3 {c : ByteArray} {p : Nat} (h : pd_b c p 3) : Jvm.ClassFile.Decoder.instr p c p = (pure (.iconst 0) : Jvm.ClassFile.Decoder Instr) c (p + 1) := by
  unfold Jvm.ClassFile.Decoder.instr
  exact (pd_bind _ _ (pd_u1 h)).trans rfl
theorem pd_o4 {c : ByteArray} {p : Nat} (h : pd_b c p 4) : Jvm.ClassFile.Decoder.instr p c p = (pure (.iconst 1) : Jvm.ClassFile.Decoder Instr) c (p + 1) := by
  unfold Jvm.ClassFile.Decoder.instr
  exact (pd_bind _ _ (pd_u1 h)).trans rfl
theorem pd_o5 {c : ByteArray} {p : Nat} (h : pd_b c p 5) : Jvm.ClassFile.Decoder.instr p c p = (pure (.iconst 2) : Jvm.ClassFile.Decoder Instr) c (p + 1) := by
  unfold Jvm.ClassFile.Decoder.instr
  exact (pd_bind _ _ (pd_u1 h)).trans rfl
theorem pd_o6 {c : ByteArray} {p : Nat} (h : pd_b c p 6) : Jvm.ClassFile.Decoder.instr p c p = (pure (.iconst 3) : Jvm.ClassFile.Decoder Instr) c (p + 1) := by
  unfold Jvm.ClassFile.Decoder.instr
  exact (pd_bind _ _ (pd_u1 h)).trans rfl
theorem pd_o7 {c : ByteArray} {p : Nat} (h : pd_b c p 7) : Jvm.ClassFile.Decoder.instr p c p = (pure (.iconst 4) : Jvm.ClassFile.Decoder Instr) c (p + 1) := by
  unfold Jvm.ClassFile.Decoder.instr
  exact (pd_bind _ _ (pd_u1 h)).trans rfl
theorem pd_o8 {c : ByteArray} {p : Nat} (h : pd_b c p 8) : Jvm.ClassFile.Decoder.instr p c p = (pure (.iconst 5) : Jvm.ClassFile.Decoder Instr) c (p + 1) := by
  unfold Jvm.ClassFile.Decoder.instr
  exact (pd_bind _ _ (pd_u1 h)).trans rfl
theorem pd_o18 {c : ByteArray} {p : Nat} (h : pd_b c p 18) : Jvm.ClassFile.Decoder.instr p c p = (Jvm.ClassFile.Reader.u1 >>= fun x => pure (.ldc x) : Jvm.ClassFile.Decoder Instr) c (p + 1) := by
  unfold Jvm.ClassFile.Decoder.instr
  exact (pd_bind _ _ (pd_u1 h)).trans rfl
theorem pd_o21 {c : ByteArray} {p : Nat} (h : pd_b c p 21) : Jvm.ClassFile.Decoder.instr p c p = (Jvm.ClassFile.Reader.u1 >>= fun x => pure (.iload x) : Jvm.ClassFile.Decoder Instr) c (p + 1) := by
  unfold Jvm.ClassFile.Decoder.instr
  exact (pd_bind _ _ (pd_u1 h)).trans rfl
theorem pd_o22 {c : ByteArray} {p : Nat} (h : pd_b c p 22) : Jvm.ClassFile.Decoder.instr p c p = (Jvm.ClassFile.Reader.u1 >>= fun x => pure (.lload x) : Jvm.ClassFile.Decoder Instr) c (p + 1) := by
  unfold Jvm.ClassFile.Decoder.instr
  exact (pd_bind _ _ (pd_u1 h)).trans rfl
theorem pd_o25 {c : ByteArray} {p : Nat} (h : pd_b c p 25) : Jvm.ClassFile.Decoder.instr p c p = (Jvm.ClassFile.Reader.u1 >>= fun x => pure (.aload x) : Jvm.ClassFile.Decoder Instr) c (p + 1) := by
  unfold Jvm.ClassFile.Decoder.instr
  exact (pd_bind _ _ (pd_u1 h)).trans rfl
theorem pd_o54 {c : ByteArray} {p : Nat} (h : pd_b c p 54) : Jvm.ClassFile.Decoder.instr p c p = (Jvm.ClassFile.Reader.u1 >>= fun x => pure (.istore x) : Jvm.ClassFile.Decoder Instr) c (p + 1) := by
  unfold Jvm.ClassFile.Decoder.instr
  exact (pd_bind _ _ (pd_u1 h)).trans rfl
theorem pd_o55 {c : ByteArray} {p : Nat} (h : pd_b c p 55) : Jvm.ClassFile.Decoder.instr p c p = (Jvm.ClassFile.Reader.u1 >>= fun x => pure (.lstore x) : Jvm.ClassFile.Decoder Instr) c (p + 1) := by
  unfold Jvm.ClassFile.Decoder.instr
  exact (pd_bind _ _ (pd_u1 h)).trans rfl
theorem pd_o58 {c : ByteArray} {p : Nat} (h : pd_b c p 58) : Jvm.ClassFile.Decoder.instr p c p = (Jvm.ClassFile.Reader.u1 >>= fun x => pure (.astore x) : Jvm.ClassFile.Decoder Instr) c (p + 1) := by
  unfold Jvm.ClassFile.Decoder.instr
  exact (pd_bind _ _ (pd_u1 h)).trans rfl
theorem pd_o19 {c : ByteArray} {p : Nat} (h : pd_b c p 19) : Jvm.ClassFile.Decoder.instr p c p = (Jvm.ClassFile.Reader.u2 >>= fun x => pure (.ldc_w x) : Jvm.ClassFile.Decoder Instr) c (p + 1) := by
  unfold Jvm.ClassFile.Decoder.instr
  exact (pd_bind _ _ (pd_u1 h)).trans rfl
theorem pd_o20 {c : ByteArray} {p : Nat} (h : pd_b c p 20) : Jvm.ClassFile.Decoder.instr p c p = (Jvm.ClassFile.Reader.u2 >>= fun x => pure (.ldc2_w x) : Jvm.ClassFile.Decoder Instr) c (p + 1) := by
  unfold Jvm.ClassFile.Decoder.instr
  exact (pd_bind _ _ (pd_u1 h)).trans rfl
theorem pd_o178 {c : ByteArray} {p : Nat} (h : pd_b c p 178) : Jvm.ClassFile.Decoder.instr p c p = (Jvm.ClassFile.Reader.u2 >>= fun x => pure (.getstatic x) : Jvm.ClassFile.Decoder Instr) c (p + 1) := by
  unfold Jvm.ClassFile.Decoder.instr
  exact (pd_bind _ _ (pd_u1 h)).trans rfl
theorem pd_o180 {c : ByteArray} {p : Nat} (h : pd_b c p 180) : Jvm.ClassFile.Decoder.instr p c p = (Jvm.ClassFile.Reader.u2 >>= fun x => pure (.getfield x) : Jvm.ClassFile.Decoder Instr) c (p + 1) := by
  unfold Jvm.ClassFile.Decoder.instr
  exact (pd_bind _ _ (pd_u1 h)).trans rfl
theorem pd_o181 {c : ByteArray} {p : Nat} (h : pd_b c p 181) : Jvm.ClassFile.Decoder.instr p c p = (Jvm.ClassFile.Reader.u2 >>= fun x => pure (.putfield x) : Jvm.ClassFile.Decoder Instr) c (p + 1) := by
  unfold Jvm.ClassFile.Decoder.instr
  exact (pd_bind _ _ (pd_u1 h)).trans rfl
theorem pd_o182 {c : ByteArray} {p : Nat} (h : pd_b c p 182) : Jvm.ClassFile.Decoder.instr p c p = (Jvm.ClassFile.Reader.u2 >>= fun x => pure (.invokevirtual x) : Jvm.ClassFile.Decoder Instr) c (p + 1) := by
  unfold Jvm.ClassFile.Decoder.instr
  exact (pd_bind _ _ (pd_u1 h)).trans rfl
theorem pd_o183 {c : ByteArray} {p : Nat} (h : pd_b c p 183) : Jvm.ClassFile.Decoder.instr p c p = (Jvm.ClassFile.Reader.u2 >>= fun x => pure (.invokespecial x) : Jvm.ClassFile.Decoder Instr) c (p + 1) := by
  unfold Jvm.ClassFile.Decoder.instr
  exact (pd_bind _ _ (pd_u1 h)).trans rfl
theorem pd_o184 {c : ByteArray} {p : Nat} (h : pd_b c p 184) : Jvm.ClassFile.Decoder.instr p c p = (Jvm.ClassFile.Reader.u2 >>= fun x => pure (.invokestatic x) : Jvm.ClassFile.Decoder Instr) c (p + 1) := by
  unfold Jvm.ClassFile.Decoder.instr
  exact (pd_bind _ _ (pd_u1 h)).trans rfl
theorem pd_o187 {c : ByteArray} {p : Nat} (h : pd_b c p 187) : Jvm.ClassFile.Decoder.instr p c p = (Jvm.ClassFile.Reader.u2 >>= fun x => pure (.new x) : Jvm.ClassFile.Decoder Instr) c (p + 1) := by
  unfold Jvm.ClassFile.Decoder.instr
  exact (pd_bind _ _ (pd_u1 h)).trans rfl
theorem pd_o16 {c : ByteArray} {p : Nat} (h : pd_b c p 16) : Jvm.ClassFile.Decoder.instr p c p = (Jvm.ClassFile.Reader.s1 >>= fun x => pure (.bipush x) : Jvm.ClassFile.Decoder Instr) c (p + 1) := by
  unfold Jvm.ClassFile.Decoder.instr
  exact (pd_bind _ _ (pd_u1 h)).trans rfl
theorem pd_o17 {c : ByteArray} {p : Nat} (h : pd_b c p 17) : Jvm.ClassFile.Decoder.instr p c p = (Jvm.ClassFile.Reader.s2 >>= fun x => pure (.sipush x) : Jvm.ClassFile.Decoder Instr) c (p + 1) := by
  unfold Jvm.ClassFile.Decoder.instr
  exact (pd_bind _ _ (pd_u1 h)).trans rfl
theorem pd_o167 {c : ByteArray} {p : Nat} (h : pd_b c p 167) : Jvm.ClassFile.Decoder.instr p c p = (Jvm.ClassFile.Reader.s2 >>= fun x => pure (.goto x) : Jvm.ClassFile.Decoder Instr) c (p + 1) := by
  unfold Jvm.ClassFile.Decoder.instr
  exact (pd_bind _ _ (pd_u1 h)).trans rfl
theorem pd_o132 {c : ByteArray} {p : Nat} (h : pd_b c p 132) : Jvm.ClassFile.Decoder.instr p c p = (Jvm.ClassFile.Reader.u1 >>= fun x => Jvm.ClassFile.Reader.s1 >>= fun y => pure (.iinc x y) : Jvm.ClassFile.Decoder Instr) c (p + 1) := by
  unfold Jvm.ClassFile.Decoder.instr
  exact (pd_bind _ _ (pd_u1 h)).trans rfl
theorem pd_o153 {c : ByteArray} {p : Nat} (h : pd_b c p 153) : Jvm.ClassFile.Decoder.instr p c p = (Jvm.ClassFile.Reader.s2 >>= fun x => pure (.ifCond .eq x) : Jvm.ClassFile.Decoder Instr) c (p + 1) := by
  unfold Jvm.ClassFile.Decoder.instr
  exact (pd_bind _ _ (pd_u1 h)).trans rfl
theorem pd_o154 {c : ByteArray} {p : Nat} (h : pd_b c p 154) : Jvm.ClassFile.Decoder.instr p c p = (Jvm.ClassFile.Reader.s2 >>= fun x => pure (.ifCond .ne x) : Jvm.ClassFile.Decoder Instr) c (p + 1) := by
  unfold Jvm.ClassFile.Decoder.instr
  exact (pd_bind _ _ (pd_u1 h)).trans rfl
theorem pd_o155 {c : ByteArray} {p : Nat} (h : pd_b c p 155) : Jvm.ClassFile.Decoder.instr p c p = (Jvm.ClassFile.Reader.s2 >>= fun x => pure (.ifCond .lt x) : Jvm.ClassFile.Decoder Instr) c (p + 1) := by
  unfold Jvm.ClassFile.Decoder.instr
  exact (pd_bind _ _ (pd_u1 h)).trans rfl
theorem pd_o156 {c : ByteArray} {p : Nat} (h : pd_b c p 156) : Jvm.ClassFile.Decoder.instr p c p = (Jvm.ClassFile.Reader.s2 >>= fun x => pure (.ifCond .ge x) : Jvm.ClassFile.Decoder Instr) c (p + 1) := by
  unfold Jvm.ClassFile.Decoder.instr
  exact (pd_bind _ _ (pd_u1 h)).trans rfl
theorem pd_o157 {c : ByteArray} {p : Nat} (h : pd_b c p 157) : Jvm.ClassFile.Decoder.instr p c p = (Jvm.ClassFile.Reader.s2 >>= fun x => pure (.ifCond .gt x) : Jvm.ClassFile.Decoder Instr) c (p + 1) := by
  unfold Jvm.ClassFile.Decoder.instr
  exact (pd_bind _ _ (pd_u1 h)).trans rfl
theorem pd_o158 {c : ByteArray} {p : Nat} (h : pd_b c p 158) : Jvm.ClassFile.Decoder.instr p c p = (Jvm.ClassFile.Reader.s2 >>= fun x => pure (.ifCond .le x) : Jvm.ClassFile.Decoder Instr) c (p + 1) := by
  unfold Jvm.ClassFile.Decoder.instr
  exact (pd_bind _ _ (pd_u1 h)).trans rfl
theorem pd_o159 {c : ByteArray} {p : Nat} (h : pd_b c p 159) : Jvm.ClassFile.Decoder.instr p c p = (Jvm.ClassFile.Reader.s2 >>= fun x => pure (.if_icmp .eq x) : Jvm.ClassFile.Decoder Instr) c (p + 1) := by
  unfold Jvm.ClassFile.Decoder.instr
  exact (pd_bind _ _ (pd_u1 h)).trans rfl
theorem pd_o160 {c : ByteArray} {p : Nat} (h : pd_b c p 160) : Jvm.ClassFile.Decoder.instr p c p = (Jvm.ClassFile.Reader.s2 >>= fun x => pure (.if_icmp .ne x) : Jvm.ClassFile.Decoder Instr) c (p + 1) := by
  unfold Jvm.ClassFile.Decoder.instr
  exact (pd_bind _ _ (pd_u1 h)).trans rfl
theorem pd_o161 {c : ByteArray} {p : Nat} (h : pd_b c p 161) : Jvm.ClassFile.Decoder.instr p c p = (Jvm.ClassFile.Reader.s2 >>= fun x => pure (.if_icmp .lt x) : Jvm.ClassFile.Decoder Instr) c (p + 1) := by
  unfold Jvm.ClassFile.Decoder.instr
  exact (pd_bind _ _ (pd_u1 h)).trans rfl
theorem pd_o162 {c : ByteArray} {p : Nat} (h : pd_b c p 162) : Jvm.ClassFile.Decoder.instr p c p = (Jvm.ClassFile.Reader.s2 >>= fun x => pure (.if_icmp .ge x) : Jvm.ClassFile.Decoder Instr) c (p + 1) := by
  unfold Jvm.ClassFile.Decoder.instr
  exact (pd_bind _ _ (pd_u1 h)).trans rfl
theorem pd_o163 {c : ByteArray} {p : Nat} (h : pd_b c p 163) : Jvm.ClassFile.Decoder.instr p c p = (Jvm.ClassFile.Reader.s2 >>= fun x => pure (.if_icmp .gt x) : Jvm.ClassFile.Decoder Instr) c (p + 1) := by
  unfold Jvm.ClassFile.Decoder.instr
  exact (pd_bind _ _ (pd_u1 h)).trans rfl
theorem pd_o164 {c : ByteArray} {p : Nat} (h : pd_b c p 164) : Jvm.ClassFile.Decoder.instr p c p = (Jvm.ClassFile.Reader.s2 >>= fun x => pure (.if_icmp .le x) : Jvm.ClassFile.Decoder Instr) c (p + 1) := by
  unfold Jvm.ClassFile.Decoder.instr
  exact (pd_bind _ _ (pd_u1 h)).trans rfl
theorem pd_o188 {c : ByteArray} {p : Nat} (h : pd_b c p 188) : Jvm.ClassFile.Decoder.instr p c p = (Jvm.ClassFile.Decoder.newarray p : Jvm.ClassFile.Decoder Instr) c (p + 1) := by
  unfold Jvm.ClassFile.Decoder.instr
  exact (pd_bind _ _ (pd_u1 h)).trans rfl
theorem pd_n4 {c : ByteArray} {p : Nat} (h : pd_b c p 188) (ha : pd_b c (p + 1) 4) : decode c p = .ok (.newarray .boolean, 2) := by
  have := pd_dec (s := p + 2) (i := .newarray .boolean) ((pd_o188 h).trans (by
    unfold Jvm.ClassFile.Decoder.newarray
    exact (pd_bind _ _ (pd_u1 ha)).trans rfl))
  rw [this, Nat.add_sub_cancel_left]
theorem pd_n5 {c : ByteArray} {p : Nat} (h : pd_b c p 188) (ha : pd_b c (p + 1) 5) : decode c p = .ok (.newarray .char, 2) := by
  have := pd_dec (s := p + 2) (i := .newarray .char) ((pd_o188 h).trans (by
    unfold Jvm.ClassFile.Decoder.newarray
    exact (pd_bind _ _ (pd_u1 ha)).trans rfl))
  rw [this, Nat.add_sub_cancel_left]
theorem pd_n6 {c : ByteArray} {p : Nat} (h : pd_b c p 188) (ha : pd_b c (p + 1) 6) : decode c p = .ok (.newarray .float, 2) := by
  have := pd_dec (s := p + 2) (i := .newarray .float) ((pd_o188 h).trans (by
    unfold Jvm.ClassFile.Decoder.newarray
    exact (pd_bind _ _ (pd_u1 ha)).trans rfl))
  rw [this, Nat.add_sub_cancel_left]
theorem pd_n7 {c : ByteArray} {p : Nat} (h : pd_b c p 188) (ha : pd_b c (p + 1) 7) : decode c p = .ok (.newarray .double, 2) := by
  have := pd_dec (s := p + 2) (i := .newarray .double) ((pd_o188 h).trans (by
    unfold Jvm.ClassFile.Decoder.newarray
    exact (pd_bind _ _ (pd_u1 ha)).trans rfl))
  rw [this, Nat.add_sub_cancel_left]
theorem pd_n8 {c : ByteArray} {p : Nat} (h : pd_b c p 188) (ha : pd_b c (p + 1) 8) : decode c p = .ok (.newarray .byte, 2) := by
  have := pd_dec (s := p + 2) (i := .newarray .byte) ((pd_o188 h).trans (by
    unfold Jvm.ClassFile.Decoder.newarray
    exact (pd_bind _ _ (pd_u1 ha)).trans rfl))
  rw [this, Nat.add_sub_cancel_left]
theorem pd_n9 {c : ByteArray} {p : Nat} (h : pd_b c p 188) (ha : pd_b c (p + 1) 9) : decode c p = .ok (.newarray .short, 2) := by
  have := pd_dec (s := p + 2) (i := .newarray .short) ((pd_o188 h).trans (by
    unfold Jvm.ClassFile.Decoder.newarray
    exact (pd_bind _ _ (pd_u1 ha)).trans rfl))
  rw [this, Nat.add_sub_cancel_left]
theorem pd_n10 {c : ByteArray} {p : Nat} (h : pd_b c p 188) (ha : pd_b c (p + 1) 10) : decode c p = .ok (.newarray .int, 2) := by
  have := pd_dec (s := p + 2) (i := .newarray .int) ((pd_o188 h).trans (by
    unfold Jvm.ClassFile.Decoder.newarray
    exact (pd_bind _ _ (pd_u1 ha)).trans rfl))
  rw [this, Nat.add_sub_cancel_left]
theorem pd_n11 {c : ByteArray} {p : Nat} (h : pd_b c p 188) (ha : pd_b c (p + 1) 11) : decode c p = .ok (.newarray .long, 2) := by
  have := pd_dec (s := p + 2) (i := .newarray .long) ((pd_o188 h).trans (by
    unfold Jvm.ClassFile.Decoder.newarray
    exact (pd_bind _ _ (pd_u1 ha)).trans rfl))
  rw [this, Nat.add_sub_cancel_left]
theorem pd_ok1 {c : ByteArray} {p b k n : Nat} {d : Int} {i : Instr} {t r : List Nat} (ho : pd_op i = some (b, k, n, d)) (h : pd_r k n d t = some r) (h0 : pd_b c p b) (ht : pd_L c (p + 1) t) : decode c p = .ok (i, pq_il i) ∧ pd_L c (p + pq_il i) r := by
  cases i with
  | iaload =>
    cases ho
    rw [pd_r0 h]
    exact ⟨pd_z (pd_o46 h0), ht⟩
  | laload =>
    cases ho
    rw [pd_r0 h]
    exact ⟨pd_z (pd_o47 h0), ht⟩
  | baload =>
    cases ho
    rw [pd_r0 h]
    exact ⟨pd_z (pd_o51 h0), ht⟩
  | iastore =>
    cases ho
    rw [pd_r0 h]
    exact ⟨pd_z (pd_o79 h0), ht⟩
  | lastore =>
    cases ho
    rw [pd_r0 h]
    exact ⟨pd_z (pd_o80 h0), ht⟩
  | bastore =>
    cases ho
    rw [pd_r0 h]
    exact ⟨pd_z (pd_o84 h0), ht⟩
  | pop =>
    cases ho
    rw [pd_r0 h]
    exact ⟨pd_z (pd_o87 h0), ht⟩
  | dup =>
    cases ho
    rw [pd_r0 h]
    exact ⟨pd_z (pd_o89 h0), ht⟩
  | dup2 =>
    cases ho
    rw [pd_r0 h]
    exact ⟨pd_z (pd_o92 h0), ht⟩
  | iadd =>
    cases ho
    rw [pd_r0 h]
    exact ⟨pd_z (pd_o96 h0), ht⟩
  | ladd =>
    cases ho
    rw [pd_r0 h]
    exact ⟨pd_z (pd_o97 h0), ht⟩
  | isub =>
    cases ho
    rw [pd_r0 h]
    exact ⟨pd_z (pd_o100 h0), ht⟩
  | lsub =>
    cases ho
    rw [pd_r0 h]
    exact ⟨pd_z (pd_o101 h0), ht⟩
  | imul =>
    cases ho
    rw [pd_r0 h]
    exact ⟨pd_z (pd_o104 h0), ht⟩
  | lmul =>
    cases ho
    rw [pd_r0 h]
    exact ⟨pd_z (pd_o105 h0), ht⟩
  | idiv =>
    cases ho
    rw [pd_r0 h]
    exact ⟨pd_z (pd_o108 h0), ht⟩
  | ldiv =>
    cases ho
    rw [pd_r0 h]
    exact ⟨pd_z (pd_o109 h0), ht⟩
  | irem =>
    cases ho
    rw [pd_r0 h]
    exact ⟨pd_z (pd_o112 h0), ht⟩
  | lrem =>
    cases ho
    rw [pd_r0 h]
    exact ⟨pd_z (pd_o113 h0), ht⟩
  | ineg =>
    cases ho
    rw [pd_r0 h]
    exact ⟨pd_z (pd_o116 h0), ht⟩
  | lshl =>
    cases ho
    rw [pd_r0 h]
    exact ⟨pd_z (pd_o121 h0), ht⟩
  | ishr =>
    cases ho
    rw [pd_r0 h]
    exact ⟨pd_z (pd_o122 h0), ht⟩
  | lshr =>
    cases ho
    rw [pd_r0 h]
    exact ⟨pd_z (pd_o123 h0), ht⟩
  | lushr =>
    cases ho
    rw [pd_r0 h]
    exact ⟨pd_z (pd_o125 h0), ht⟩
  | iand =>
    cases ho
    rw [pd_r0 h]
    exact ⟨pd_z (pd_o126 h0), ht⟩
  | land =>
    cases ho
    rw [pd_r0 h]
    exact ⟨pd_z (pd_o127 h0), ht⟩
  | ior =>
    cases ho
    rw [pd_r0 h]
    exact ⟨pd_z (pd_o128 h0), ht⟩
  | lor =>
    cases ho
    rw [pd_r0 h]
    exact ⟨pd_z (pd_o129 h0), ht⟩
  | ixor =>
    cases ho
    rw [pd_r0 h]
    exact ⟨pd_z (pd_o130 h0), ht⟩
  | i2l =>
    cases ho
    rw [pd_r0 h]
    exact ⟨pd_z (pd_o133 h0), ht⟩
  | l2i =>
    cases ho
    rw [pd_r0 h]
    exact ⟨pd_z (pd_o136 h0), ht⟩
  | i2b =>
    cases ho
    rw [pd_r0 h]
    exact ⟨pd_z (pd_o145 h0), ht⟩
  | i2s =>
    cases ho
    rw [pd_r0 h]
    exact ⟨pd_z (pd_o147 h0), ht⟩
  | lcmp =>
    cases ho
    rw [pd_r0 h]
    exact ⟨pd_z (pd_o148 h0), ht⟩
  | ireturn =>
    cases ho
    rw [pd_r0 h]
    exact ⟨pd_z (pd_o172 h0), ht⟩
  | lreturn =>
    cases ho
    rw [pd_r0 h]
    exact ⟨pd_z (pd_o173 h0), ht⟩
  | return_ =>
    cases ho
    rw [pd_r0 h]
    exact ⟨pd_z (pd_o177 h0), ht⟩
  | arraylength =>
    cases ho
    rw [pd_r0 h]
    exact ⟨pd_z (pd_o190 h0), ht⟩
  | iload_n k2 =>
    cases ho
    rw [pd_r0 h]
    match k2, h0 with
    | 0, h0 => exact ⟨pd_z (pd_o26 h0), ht⟩
    | 1, h0 => exact ⟨pd_z (pd_o27 h0), ht⟩
    | 2, h0 => exact ⟨pd_z (pd_o28 h0), ht⟩
    | 3, h0 => exact ⟨pd_z (pd_o29 h0), ht⟩
  | lload_n k2 =>
    cases ho
    rw [pd_r0 h]
    match k2, h0 with
    | 0, h0 => exact ⟨pd_z (pd_o30 h0), ht⟩
    | 1, h0 => exact ⟨pd_z (pd_o31 h0), ht⟩
    | 2, h0 => exact ⟨pd_z (pd_o32 h0), ht⟩
    | 3, h0 => exact ⟨pd_z (pd_o33 h0), ht⟩
  | aload_n k2 =>
    cases ho
    rw [pd_r0 h]
    match k2, h0 with
    | 0, h0 => exact ⟨pd_z (pd_o42 h0), ht⟩
    | 1, h0 => exact ⟨pd_z (pd_o43 h0), ht⟩
    | 2, h0 => exact ⟨pd_z (pd_o44 h0), ht⟩
    | 3, h0 => exact ⟨pd_z (pd_o45 h0), ht⟩
  | istore_n k2 =>
    cases ho
    rw [pd_r0 h]
    match k2, h0 with
    | 0, h0 => exact ⟨pd_z (pd_o59 h0), ht⟩
    | 1, h0 => exact ⟨pd_z (pd_o60 h0), ht⟩
    | 2, h0 => exact ⟨pd_z (pd_o61 h0), ht⟩
    | 3, h0 => exact ⟨pd_z (pd_o62 h0), ht⟩
  | lstore_n k2 =>
    cases ho
    rw [pd_r0 h]
    match k2, h0 with
    | 0, h0 => exact ⟨pd_z (pd_o63 h0), ht⟩
    | 1, h0 => exact ⟨pd_z (pd_o64 h0), ht⟩
    | 2, h0 => exact ⟨pd_z (pd_o65 h0), ht⟩
    | 3, h0 => exact ⟨pd_z (pd_o66 h0), ht⟩
  | astore_n k2 =>
    cases ho
    rw [pd_r0 h]
    match k2, h0 with
    | 0, h0 => exact ⟨pd_z (pd_o75 h0), ht⟩
    | 1, h0 => exact ⟨pd_z (pd_o76 h0), ht⟩
    | 2, h0 => exact ⟨pd_z (pd_o77 h0), ht⟩
    | 3, h0 => exact ⟨pd_z (pd_o78 h0), ht⟩
  | lconst k2 =>
    cases ho
    rw [pd_r0 h]
    match k2, h0 with
    | 0, h0 => exact ⟨pd_z (pd_o9 h0), ht⟩
    | 1, h0 => exact ⟨pd_z (pd_o10 h0), ht⟩
  | iconst k2 =>
    have ho : (bif decide (-1 ≤ k2) && decide (k2 ≤ 5) then some ((k2 + 3).toNat, 0, 0, (0 : Int)) else none) = some (b, k, n, d) := ho
    obtain ⟨q1, q2⟩ := pd_cond ho
    cases q2
    rw [Bool.and_eq_true, decide_eq_true_eq, decide_eq_true_eq] at q1
    rw [pd_r0 h]
    have q3 : k2 = -1 ∨ k2 = 0 ∨ k2 = 1 ∨ k2 = 2 ∨ k2 = 3 ∨ k2 = 4 ∨ k2 = 5 := by omega
    rcases q3 with rfl | rfl | rfl | rfl | rfl | rfl | rfl
    · exact ⟨pd_z (pd_o2 h0), ht⟩
    · exact ⟨pd_z (pd_o3 h0), ht⟩
    · exact ⟨pd_z (pd_o4 h0), ht⟩
    · exact ⟨pd_z (pd_o5 h0), ht⟩
    · exact ⟨pd_z (pd_o6 h0), ht⟩
    · exact ⟨pd_z (pd_o7 h0), ht⟩
    · exact ⟨pd_z (pd_o8 h0), ht⟩
  | ldc k2 =>
    cases ho
    rw [pd_r1 h] at ht
    exact ⟨pd_e1 (pd_o18 h0) ht.1, ht.2⟩
  | iload k2 =>
    cases ho
    rw [pd_r1 h] at ht
    exact ⟨pd_e1 (pd_o21 h0) ht.1, ht.2⟩
  | lload k2 =>
    cases ho
    rw [pd_r1 h] at ht
    exact ⟨pd_e1 (pd_o22 h0) ht.1, ht.2⟩
  | aload k2 =>
    cases ho
    rw [pd_r1 h] at ht
    exact ⟨pd_e1 (pd_o25 h0) ht.1, ht.2⟩
  | istore k2 =>
    cases ho
    rw [pd_r1 h] at ht
    exact ⟨pd_e1 (pd_o54 h0) ht.1, ht.2⟩
  | lstore k2 =>
    cases ho
    rw [pd_r1 h] at ht
    exact ⟨pd_e1 (pd_o55 h0) ht.1, ht.2⟩
  | astore k2 =>
    cases ho
    rw [pd_r1 h] at ht
    exact ⟨pd_e1 (pd_o58 h0) ht.1, ht.2⟩
  | ldc_w k2 =>
    cases ho
    obtain ⟨a, b2, e, e2⟩ := pd_r2 h
    rw [e] at ht
    rw [← e2]
    exact ⟨pd_e2 (pd_o19 h0) ht.1 ht.2.1, ht.2.2⟩
  | ldc2_w k2 =>
    cases ho
    obtain ⟨a, b2, e, e2⟩ := pd_r2 h
    rw [e] at ht
    rw [← e2]
    exact ⟨pd_e2 (pd_o20 h0) ht.1 ht.2.1, ht.2.2⟩
  | getstatic k2 =>
    cases ho
    obtain ⟨a, b2, e, e2⟩ := pd_r2 h
    rw [e] at ht
    rw [← e2]
    exact ⟨pd_e2 (pd_o178 h0) ht.1 ht.2.1, ht.2.2⟩
  | getfield k2 =>
    cases ho
    obtain ⟨a, b2, e, e2⟩ := pd_r2 h
    rw [e] at ht
    rw [← e2]
    exact ⟨pd_e2 (pd_o180 h0) ht.1 ht.2.1, ht.2.2⟩
  | putfield k2 =>
    cases ho
    obtain ⟨a, b2, e, e2⟩ := pd_r2 h
    rw [e] at ht
    rw [← e2]
    exact ⟨pd_e2 (pd_o181 h0) ht.1 ht.2.1, ht.2.2⟩
  | invokevirtual k2 =>
    cases ho
    obtain ⟨a, b2, e, e2⟩ := pd_r2 h
    rw [e] at ht
    rw [← e2]
    exact ⟨pd_e2 (pd_o182 h0) ht.1 ht.2.1, ht.2.2⟩
  | invokespecial k2 =>
    cases ho
    obtain ⟨a, b2, e, e2⟩ := pd_r2 h
    rw [e] at ht
    rw [← e2]
    exact ⟨pd_e2 (pd_o183 h0) ht.1 ht.2.1, ht.2.2⟩
  | invokestatic k2 =>
    cases ho
    obtain ⟨a, b2, e, e2⟩ := pd_r2 h
    rw [e] at ht
    rw [← e2]
    exact ⟨pd_e2 (pd_o184 h0) ht.1 ht.2.1, ht.2.2⟩
  | new k2 =>
    cases ho
    obtain ⟨a, b2, e, e2⟩ := pd_r2 h
    rw [e] at ht
    rw [← e2]
    exact ⟨pd_e2 (pd_o187 h0) ht.1 ht.2.1, ht.2.2⟩
  | bipush k2 =>
    cases ho
    obtain ⟨a, e, e2⟩ := pd_r3 h
    rw [e] at ht
    rw [← e2]
    exact ⟨pd_e3 (pd_o16 h0) ht.1, ht.2⟩
  | sipush k2 =>
    cases ho
    obtain ⟨a, b2, e, e2⟩ := pd_r4 h
    rw [e] at ht
    rw [← e2]
    exact ⟨pd_e4 (pd_o17 h0) ht.1 ht.2.1, ht.2.2⟩
  | goto k2 =>
    cases ho
    obtain ⟨a, b2, e, e2⟩ := pd_r4 h
    rw [e] at ht
    rw [← e2]
    exact ⟨pd_e4 (pd_o167 h0) ht.1 ht.2.1, ht.2.2⟩
  | iinc k2 d2 =>
    cases ho
    obtain ⟨b2, e, e2⟩ := pd_r5 h
    rw [e] at ht
    rw [← e2]
    exact ⟨pd_e5 (pd_o132 h0) ht.1 ht.2.1, ht.2.2⟩
  | ifCond c2 k2 =>
    cases c2 with
    | eq =>
      cases ho
      obtain ⟨a, b2, e, e2⟩ := pd_r4 h
      rw [e] at ht
      rw [← e2]
      exact ⟨pd_e4 (pd_o153 h0) ht.1 ht.2.1, ht.2.2⟩
    | ne =>
      cases ho
      obtain ⟨a, b2, e, e2⟩ := pd_r4 h
      rw [e] at ht
      rw [← e2]
      exact ⟨pd_e4 (pd_o154 h0) ht.1 ht.2.1, ht.2.2⟩
    | lt =>
      cases ho
      obtain ⟨a, b2, e, e2⟩ := pd_r4 h
      rw [e] at ht
      rw [← e2]
      exact ⟨pd_e4 (pd_o155 h0) ht.1 ht.2.1, ht.2.2⟩
    | ge =>
      cases ho
      obtain ⟨a, b2, e, e2⟩ := pd_r4 h
      rw [e] at ht
      rw [← e2]
      exact ⟨pd_e4 (pd_o156 h0) ht.1 ht.2.1, ht.2.2⟩
    | gt =>
      cases ho
      obtain ⟨a, b2, e, e2⟩ := pd_r4 h
      rw [e] at ht
      rw [← e2]
      exact ⟨pd_e4 (pd_o157 h0) ht.1 ht.2.1, ht.2.2⟩
    | le =>
      cases ho
      obtain ⟨a, b2, e, e2⟩ := pd_r4 h
      rw [e] at ht
      rw [← e2]
      exact ⟨pd_e4 (pd_o158 h0) ht.1 ht.2.1, ht.2.2⟩
  | if_icmp c2 k2 =>
    cases c2 with
    | eq =>
      cases ho
      obtain ⟨a, b2, e, e2⟩ := pd_r4 h
      rw [e] at ht
      rw [← e2]
      exact ⟨pd_e4 (pd_o159 h0) ht.1 ht.2.1, ht.2.2⟩
    | ne =>
      cases ho
      obtain ⟨a, b2, e, e2⟩ := pd_r4 h
      rw [e] at ht
      rw [← e2]
      exact ⟨pd_e4 (pd_o160 h0) ht.1 ht.2.1, ht.2.2⟩
    | lt =>
      cases ho
      obtain ⟨a, b2, e, e2⟩ := pd_r4 h
      rw [e] at ht
      rw [← e2]
      exact ⟨pd_e4 (pd_o161 h0) ht.1 ht.2.1, ht.2.2⟩
    | ge =>
      cases ho
      obtain ⟨a, b2, e, e2⟩ := pd_r4 h
      rw [e] at ht
      rw [← e2]
      exact ⟨pd_e4 (pd_o162 h0) ht.1 ht.2.1, ht.2.2⟩
    | gt =>
      cases ho
      obtain ⟨a, b2, e, e2⟩ := pd_r4 h
      rw [e] at ht
      rw [← e2]
      exact ⟨pd_e4 (pd_o163 h0) ht.1 ht.2.1, ht.2.2⟩
    | le =>
      cases ho
      obtain ⟨a, b2, e, e2⟩ := pd_r4 h
      rw [e] at ht
      rw [← e2]
      exact ⟨pd_e4 (pd_o164 h0) ht.1 ht.2.1, ht.2.2⟩
  | newarray t2 =>
    cases t2 with
    | boolean =>
      cases ho
      rw [pd_r1 h] at ht
      exact ⟨pd_n4 h0 ht.1, ht.2⟩
    | char =>
      cases ho
      rw [pd_r1 h] at ht
      exact ⟨pd_n5 h0 ht.1, ht.2⟩
    | float =>
      cases ho
      rw [pd_r1 h] at ht
      exact ⟨pd_n6 h0 ht.1, ht.2⟩
    | double =>
      cases ho
      rw [pd_r1 h] at ht
      exact ⟨pd_n7 h0 ht.1, ht.2⟩
    | byte =>
      cases ho
      rw [pd_r1 h] at ht
      exact ⟨pd_n8 h0 ht.1, ht.2⟩
    | short =>
      cases ho
      rw [pd_r1 h] at ht
      exact ⟨pd_n9 h0 ht.1, ht.2⟩
    | int =>
      cases ho
      rw [pd_r1 h] at ht
      exact ⟨pd_n10 h0 ht.1, ht.2⟩
    | long =>
      cases ho
      rw [pd_r1 h] at ht
      exact ⟨pd_n11 h0 ht.1, ht.2⟩
  | _ => cases ho
theorem pd_ok {c : ByteArray} {p : Nat} {i : Instr} {l r : List Nat} (h : pd_m i l = some r) (hl : pd_L c p l) : decode c p = .ok (i, pq_il i) ∧ pd_L c (p + pq_il i) r := by
  unfold pd_m at h
  cases ho : pd_op i with
  | none => rw [ho] at h; cases h
  | some q =>
    obtain ⟨op, k, n, d⟩ := q
    rw [ho] at h
    match l, h, hl with
    | b :: t, h, ⟨h0, ht⟩ =>
      have h : (bif Nat.beq b op then pd_r k n d t else none) = some r := h
      cases hb : Nat.beq b op with
      | false => rw [hb] at h; cases h
      | true =>
        rw [hb] at h
        have h : pd_r k n d t = some r := h
        have e := Nat.eq_of_beq_eq_true hb
        rw [e] at h0
        exact pd_ok1 ho h h0 ht
theorem pd_Ld {c : ByteArray} : ∀ {k p : Nat} {l : List Nat}, pd_L c p l → pd_L c (p + k) (l.drop k)
  | 0, _, _, h => h
  | _ + 1, _, [], _ => trivial
  | k + 1, p, b :: r, h => by
    have := pd_Ld (k := k) h.2
    rw [show p + (k + 1) = p + 1 + k by omega]
    exact this
/-- a method's bytes, read once along its rows -/
def pd_go1 : List pq_N → Nat → List Nat → Option (Nat × List Nat)
  | [], p, l => some (p, l)
  | q :: r, p, l => bif Nat.ble p q.1 then (bif Nat.beq q.2.1 15 then pd_go1 r q.1 (l.drop (q.1 - p)) else match pd_m q.2.2.2.1 (l.drop (q.1 - p)) with
    | some l2 => pd_go1 r (q.1 + pq_il q.2.2.2.1) l2
    | none => none) else none
def pd_gos : pq_B → Nat → List Nat → Bool
  | [], _, _ => true
  | b :: r, p, l => match pd_go1 b.2 p l with
    | some q => pd_gos r q.1 q.2
    | none => false
def pd_Q (c : ByteArray) (q : pq_N) : Prop := Nat.beq q.2.1 15 = true ∨ decode c q.1 = .ok (q.2.2.2.1, pq_il q.2.2.2.1)
theorem pd_go1_ok {c : ByteArray} : ∀ {rs : List pq_N} {p : Nat} {l : List Nat} {z : Nat × List Nat}, pd_go1 rs p l = some z → pd_L c p l → (∀ q ∈ rs, pd_Q c q) ∧ pd_L c z.1 z.2
  | [], p, l, z, h, hl => by
    cases h
    exact ⟨fun q hq => (by cases hq), hl⟩
  | q :: r, p, l, z, h, hl => by
    unfold pd_go1 at h
    cases hb : Nat.ble p q.1 with
    | false => rw [hb] at h; cases h
    | true =>
      rw [hb] at h
      have hp : p ≤ q.1 := Nat.le_of_ble_eq_true hb
      have hl2 : pd_L c q.1 (l.drop (q.1 - p)) := by
        have := pd_Ld (k := q.1 - p) hl
        rw [show p + (q.1 - p) = q.1 by omega] at this
        exact this
      cases hc : Nat.beq q.2.1 15 with
      | true =>
        rw [hc] at h
        obtain ⟨k1, k2⟩ := pd_go1_ok (rs := r) h hl2
        refine ⟨fun x hx => ?_, k2⟩
        rcases List.mem_cons.mp hx with rfl | hx
        · exact Or.inl hc
        · exact k1 x hx
      | false =>
        rw [hc] at h
        have h : (match pd_m q.2.2.2.1 (l.drop (q.1 - p)) with
          | some l2 => pd_go1 r (q.1 + pq_il q.2.2.2.1) l2
          | none => none) = some z := h
        cases hm : pd_m q.2.2.2.1 (l.drop (q.1 - p)) with
        | none => rw [hm] at h; cases h
        | some l2 =>
          rw [hm] at h
          obtain ⟨e1, e2⟩ := pd_ok hm hl2
          obtain ⟨k1, k2⟩ := pd_go1_ok (rs := r) h e2
          refine ⟨fun x hx => ?_, k2⟩
          rcases List.mem_cons.mp hx with rfl | hx
          · exact Or.inr e1
          · exact k1 x hx
theorem pd_gos_ok {c : ByteArray} : ∀ {bs : pq_B} {p : Nat} {l : List Nat}, pd_gos bs p l = true → pd_L c p l → ∀ b ∈ bs, ∀ q ∈ b.2, pd_Q c q
  | [], _, _, _, _, b, hb => by cases hb
  | a :: r, p, l, h, hl, b, hb => by
    unfold pd_gos at h
    cases h1 : pd_go1 a.2 p l with
    | none => rw [h1] at h; cases h
    | some z =>
      rw [h1] at h
      obtain ⟨k1, k2⟩ := pd_go1_ok h1 hl
      rcases List.mem_cons.mp hb with rfl | hb
      · exact k1
      · exact pd_gos_ok h k2 b hb
theorem pd_by1 {c : ByteArray} : ∀ (l : List UInt8) (p : Nat), (∀ (j : Nat) (hj : j < l.length), ∃ h : p + j < c.size, c[p + j] = l[j]) → pd_L c p (l.map UInt8.toNat)
  | [], _, _ => trivial
  | a :: r, p, h => by
    refine ⟨?_, pd_by1 r (p + 1) (fun j hj => ?_)⟩
    · obtain ⟨h1, h2⟩ := h 0 (Nat.zero_lt_succ _)
      exact ⟨h1, congrArg UInt8.toNat h2⟩
    · obtain ⟨h1, h2⟩ := h (j + 1) (Nat.succ_lt_succ hj)
      have e : p + 1 + j = p + (j + 1) := by omega
      refine ⟨by rw [e]; exact h1, ?_⟩
      have h3 : c[p + 1 + j]'(by rw [e]; exact h1) = c[p + (j + 1)]'h1 := by congr 1
      rw [h3, h2]
      rfl
theorem pd_by (c : ByteArray) : pd_L c 0 (c.data.toList.map UInt8.toNat) := pd_by1 c.data.toList 0 (fun j hj => by
  have h1 : j < c.data.size := by rw [← Array.length_toList]; exact hj
  have e : 0 + j = j := Nat.zero_add j
  refine ⟨by rw [e]; exact h1, ?_⟩
  have h3 : c[0 + j]'(by rw [e]; exact h1) = c[j]'h1 := by congr 1
  rw [h3]
  show c.data[j]'h1 = c.data.toList[j]
  rw [Array.getElem_toList])
