/-! what a pure value, a pure cell, a pure list of cells says of the heap; ad: where cell i lies -/
def pq_v (ad : Nat → Nat) : Value → Value
  | .ref i => .ref (ad i)
  | .int x => .int x
  | .long x => .long x
  | .float x => .float x
  | .double x => .double x
  | .null => .null
  | .retAddr x => .retAddr x
def pq_ls (ad : Nat → Nat) (l : pq_L) : pq_L := l.map fun q => (q.1, pq_v ad q.2)
theorem pq_v_cat (ad : Nat → Nat) (v : Value) : (pq_v ad v).category = v.category := by cases v <;> rfl
theorem pq_ls_mem {ad : Nat → Nat} {l : pq_L} {k : Nat} {v : Value} (h : pq_lk l k = some v) : (k, pq_v ad v) ∈ pq_ls ad l := List.mem_map.mpr ⟨(k, v), pq_lk_mem l k v h, rfl⟩
theorem pq_ls_st1 (ad : Nat → Nat) (l : pq_L) (i : Nat) (v : Value) : (i, pq_v ad v) :: (pq_ls ad l).filter (fun q => !(q.1 == i) && !(q.1 + 1 == i && q.2.category == 2)) = pq_ls ad (pq_st1 l i v) := by
  unfold pq_ls pq_st1
  rw [List.map_cons, List.filter_map]
  congr 2
  apply List.filter_congr
  intro q _
  simp [Function.comp, pq_v_cat]
theorem pq_ls_st2 (ad : Nat → Nat) (l : pq_L) (i : Nat) (v : Value) : (i, pq_v ad v) :: (pq_ls ad l).filter (fun q => !(q.1 == i) && (!(q.1 == i + 1) && !(q.1 + 1 == i && q.2.category == 2))) = pq_ls ad (pq_st2 l i v) := by
  unfold pq_ls pq_st2
  rw [List.map_cons, List.filter_map]
  congr 2
  apply List.filter_congr
  intro q _
  simp [Function.comp, pq_v_cat]
theorem pq_sum_v (ad : Nat → Nat) (st : List Value) : ((st.map (pq_v ad)).map fun v => v.category).sum = pq_sum st := by
  unfold pq_sum
  rw [List.map_map]
  congr 1
  apply List.map_congr_left
  intro v _
  exact pq_v_cat ad v
def pq_at (ad : Nat → Nat) (D : va_G) (U : State) (H : Heap) (i : Nat) (x : pq_C) : Prop := match x with
  | .inl (ty, n, .inl f) => ∃ cA : ClassId, H[ad i]? = some (arrV cA n (fun j => .int (f j))) ∧ ArrOfT U cA ty ∧ ∀ j, fits ty (.int (f j)) = true
  | .inl (ty, n, .inr f) => ∃ cA : ClassId, H[ad i]? = some (arrV cA n (fun j => .long (f j))) ∧ ArrOfT U cA ty
  | .inr (ci, fs) => ∃ r : vw_C, pq_cl[ci]? = some r ∧ t_OB (ad i) (D.1 ci) r.2.2 (D.2 ci) H (vp_V (fs.map (pq_v ad)))
theorem pq_at.kept {ad : Nat → Nat} {D : va_G} {U : State} {H H1 : Heap} {i : Nat} {x : pq_C} (h : pq_at ad D U H i x) (e : H1[ad i]? = H[ad i]?) : pq_at ad D U H1 i x := by
  match x, h with
  | .inl (ty, n, .inl f), h =>
    obtain ⟨cA, h1, h2⟩ := h
    exact ⟨cA, by rw [e]; exact h1, h2⟩
  | .inl (ty, n, .inr f), h =>
    obtain ⟨cA, h1, h2⟩ := h
    exact ⟨cA, by rw [e]; exact h1, h2⟩
  | .inr (ci, fs), h =>
    obtain ⟨r, h1, h2⟩ := h
    exact ⟨r, h1, h2.kept e⟩
theorem pq_at.moved {ad : Nat → Nat} {D : va_G} {u U : State} {H : Heap} {i : Nat} {x : pq_C} (hvm : u.vm.Alike U.vm) (h : pq_at ad D u H i x) : pq_at ad D U H i x := by
  match x, h with
  | .inl (ty, n, .inl f), h =>
    obtain ⟨cA, h1, h2, h3⟩ := h
    exact ⟨cA, h1, arrOfT_moved hvm h2, h3⟩
  | .inl (ty, n, .inr f), h =>
    obtain ⟨cA, h1, h2⟩ := h
    exact ⟨cA, h1, arrOfT_moved hvm h2⟩
  | .inr (ci, fs), h => exact h
theorem pq_at.lt {ad : Nat → Nat} {D : va_G} {U : State} {H : Heap} {i : Nat} {x : pq_C} (h : pq_at ad D U H i x) : ad i < H.size := by
  match x, h with
  | .inl (ty, n, .inl f), h =>
    obtain ⟨cA, h1, h2⟩ := h
    exact (Array.getElem?_eq_some_iff.mp h1).1
  | .inl (ty, n, .inr f), h =>
    obtain ⟨cA, h1, h2⟩ := h
    exact (Array.getElem?_eq_some_iff.mp h1).1
  | .inr (ci, fs), h =>
    obtain ⟨r, h1, cell, h2, -⟩ := h
    exact (Array.getElem?_eq_some_iff.mp h2).1
/-- where our cells lie -/
def pq_wr (ad : Nat → Nat) : Nat → Prop := fun q => ∃ i, pq_E ≤ i ∧ ad i = q
/-- a cell that was there before: it is only read; an object: the text of names -/
def pq_ex (ad : Nat → Nat) (U : State) (H : Heap) (i : Nat) (x : pq_C) : Prop := match x with
  | .inl (ty, n, .inl f) => ∃ cell : Cell, H[ad i]? = some cell ∧ U.isArrayOf cell ty ∧ cell.vm ≠ .unknown ∧ (n ≤ cell.slots.size ∧ cell.slots.size.toInt32 = Int32.ofNat n) ∧ ∀ j, j < n → cell.slots[j]? = some (.int (f j))
  | .inr (ci, _) => ci = 99 ∧ va_O "java/lang/String" (ad i) (pq_wr ad) U H ∧ va_OF "java/lang/String" "coder" "B" (.int 0) (ad i) (pq_wr ad) U H ∧ va_OF "java/lang/String" "value" "[B" (.ref (ad 4)) (ad i) (pq_wr ad) U H
  | _ => False
theorem pq_ex.kept {ad : Nat → Nat} {U : State} {H H1 : Heap} {i : Nat} {x : pq_C} (h : pq_ex ad U H i x) (e : H1[ad i]? = H[ad i]?) : pq_ex ad U H1 i x := by
  match x, h with
  | .inl (ty, n, .inl f), h =>
    obtain ⟨cell, h1, h2⟩ := h
    exact ⟨cell, by rw [e]; exact h1, h2⟩
  | .inr (ci, fs), h =>
    obtain ⟨h0, ⟨c0, a1, a2⟩, ⟨cf, k, fi, f, cell, b1, b2, b3, b4⟩, ⟨cf', k', fi', f', cell', d1, d2, d3, d4⟩⟩ := h
    exact ⟨h0, ⟨c0, by rw [e]; exact a1, a2⟩, ⟨cf, k, fi, f, cell, b1, b2, by rw [e]; exact b3, b4⟩, ⟨cf', k', fi', f', cell', d1, d2, by rw [e]; exact d3, d4⟩⟩
theorem pq_ex.moved {ad : Nat → Nat} {u U : State} {H : Heap} {i : Nat} {x : pq_C} (hvm : u.vm.Alike U.vm) (h : pq_ex ad u H i x) : pq_ex ad U H i x := by
  match x, h with
  | .inl (ty, n, .inl f), h =>
    obtain ⟨cell, h1, h2, h3⟩ := h
    exact ⟨cell, h1, State.isArrayOf_alike hvm h2, h3⟩
  | .inr (ci, fs), h => exact ⟨h.1, va_O.moved hvm h.2.1, va_OF.moved hvm h.2.2.1, va_OF.moved hvm h.2.2.2⟩
theorem pq_ex.lt {ad : Nat → Nat} {U : State} {H : Heap} {i : Nat} {x : pq_C} (h : pq_ex ad U H i x) : ad i < H.size := by
  match x, h with
  | .inl (ty, n, .inl f), h =>
    obtain ⟨cell, h1, h2⟩ := h
    exact (Array.getElem?_eq_some_iff.mp h1).1
  | .inr (ci, fs), h =>
    obtain ⟨h0, ⟨c0, a1, a2⟩, -⟩ := h
    exact (Array.getElem?_eq_some_iff.mp a1).1
/-- what stands in the static fields -/
def pq_St (ad : Nat → Nat) (U : State) (H : Heap) : Prop := va_Z "SkyFees" "ABOVE" "[I" (.ref (ad 1)) (pq_wr ad) U H ∧ va_Z "SkyFees" "BODIES" "[I" (.ref (ad 2)) (pq_wr ad) U H ∧ va_Z "java/lang/String" "COMPACT_STRINGS" "Z" (.int 1) (pq_wr ad) U H
theorem pq_St.moved {ad : Nat → Nat} {u U : State} {H : Heap} (hvm : u.vm.Alike U.vm) (h : pq_St ad u H) : pq_St ad U H := ⟨va_Z.moved hvm h.1, va_Z.moved hvm h.2.1, va_Z.moved hvm h.2.2⟩
theorem pq_St.kept {ad : Nat → Nat} {U : State} {H H1 : Heap} (h : pq_St ad U H) (hq : ∀ a : Nat, a < H.size → ¬ pq_wr ad a → H1[a]? = H[a]?) : pq_St ad U H1 := ⟨va_Z.kept h.1 hq, va_Z.kept h.2.1 hq, va_Z.kept h.2.2 hq⟩
def pq_I (ad : Nat → Nat) (D : va_G) (w : pq_W) (U : State) (H : Heap) : Prop := (∀ k : Nat, ad (w.length + k) = H.size + k) ∧ (pq_E ≤ w.length ∧ pq_St ad U H) ∧ ∀ (i : Nat) (x : pq_C), w[i]? = some x → (pq_E ≤ i → pq_at ad D U H i x) ∧ (i < pq_E → pq_ex ad U H i x)
theorem pq_I.moved {ad : Nat → Nat} {D : va_G} {w : pq_W} {u U : State} {H : Heap} (hvm : u.vm.Alike U.vm) (h : pq_I ad D w u H) : pq_I ad D w U H := ⟨h.1, ⟨h.2.1.1, h.2.1.2.moved hvm⟩, fun i x hx => ⟨fun hE => ((h.2.2 i x hx).1 hE).moved hvm, fun hE => ((h.2.2 i x hx).2 hE).moved hvm⟩⟩
theorem pq_I.set {ad : Nat → Nat} {D : va_G} {w : pq_W} {U : State} {H H1 : Heap} {i : Nat} {x : pq_C} (h : pq_I ad D w U H) (hE : pq_E ≤ i) (hj : ∀ i j, pq_E ≤ i → ad i = ad j → i = j) (z : H1.size = H.size) (o : ∀ q : Nat, q ≠ ad i → H1[q]? = H[q]?) (hx : pq_at ad D U H1 i x) : pq_I ad D (w.set i x) U H1 := by
  refine ⟨fun k => by rw [List.length_set, z]; exact h.1 k, ⟨by rw [List.length_set]; exact h.2.1.1, h.2.1.2.kept (fun a _ ha => o a (fun e => ha ⟨i, hE, e.symm⟩))⟩, fun j y hy => ?_⟩
  by_cases e : j = i
  · subst e
    rw [List.getElem?_set] at hy
    simp only [if_true] at hy
    split at hy
    · cases hy
      exact ⟨fun _ => hx, fun q => absurd hE (by omega)⟩
    · cases hy
  · rw [List.getElem?_set_ne (Ne.symm e)] at hy
    have hn : ad j ≠ ad i := fun q => e (hj i j hE q.symm).symm
    exact ⟨fun q => ((h.2.2 j y hy).1 q).kept (o _ hn), fun q => ((h.2.2 j y hy).2 q).kept (o _ hn)⟩
theorem pq_I.push {ad : Nat → Nat} {D : va_G} {w : pq_W} {U : State} {H H1 : Heap} {x : pq_C} (h : pq_I ad D w U H) (z : H1.size = H.size + 1) (o : ∀ q : Nat, q < H.size → H1[q]? = H[q]?) (hx : pq_at ad D U H1 w.length x) : pq_I ad D (w ++ [x]) U H1 := by
  refine ⟨fun k => ?_, ⟨by rw [List.length_append]; exact Nat.le_trans h.2.1.1 (Nat.le_add_right _ _), h.2.1.2.kept (fun a ha _ => o a ha)⟩, fun j y hy => ?_⟩
  · have := h.1 (1 + k)
    rw [List.length_append, List.length_singleton, z, Nat.add_assoc, this]
    omega
  · by_cases e : j < w.length
    · rw [List.getElem?_append_left e] at hy
      have hh := h.2.2 j y hy
      exact ⟨fun q => (hh.1 q).kept (o _ (hh.1 q).lt), fun q => (hh.2 q).kept (o _ (hh.2 q).lt)⟩
    · rw [List.getElem?_append_right (by omega)] at hy
      have hz : j - w.length < 1 := (List.getElem?_eq_some_iff.mp hy).1
      have e2 : j = w.length := by omega
      subst e2
      rw [Nat.sub_self] at hy
      cases hy
      exact ⟨fun _ => hx, fun q => absurd h.2.1.1 (by omega)⟩
theorem pq_I.next {ad : Nat → Nat} {D : va_G} {w : pq_W} {U : State} {H : Heap} (h : pq_I ad D w U H) : ad w.length = H.size := by
  have := h.1 0
  simpa using this
theorem pq_I.obj {ad : Nat → Nat} {D : va_G} {w : pq_W} {U : State} {H : Heap} {r ci : Nat} {fs : List Value} {q : vw_C} (h : pq_I ad D w U H) (hr : w[r]? = some (.inr (ci, fs))) (hc : pq_cl[ci]? = some q) : pq_at ad D U H r (.inr (ci, fs)) := by
  by_cases q : pq_E ≤ r
  · exact (h.2.2 r _ hr).1 q
  · obtain ⟨e, -⟩ := (h.2.2 r _ hr).2 (by omega)
    subst e
    cases hc
theorem pq_I.lng {ad : Nat → Nat} {D : va_G} {w : pq_W} {U : State} {H : Heap} {r n : Nat} {ty : FieldType} {f : Nat → Int64} (h : pq_I ad D w U H) (hr : w[r]? = some (.inl (ty, n, .inr f))) : pq_at ad D U H r (.inl (ty, n, .inr f)) := by
  by_cases q : pq_E ≤ r
  · exact (h.2.2 r _ hr).1 q
  · exact ((h.2.2 r _ hr).2 (by omega)).elim
/-- what a read needs of an array -/
theorem pq_I.rd {ad : Nat → Nat} {D : va_G} {w : pq_W} {U : State} {H : Heap} {r n : Nat} {ty : FieldType} {f : Nat → Int32} (h : pq_I ad D w U H) (hr : w[r]? = some (.inl (ty, n, .inl f))) : ∃ cell : Cell, H[ad r]? = some cell ∧ U.isArrayOf cell ty ∧ cell.vm ≠ .unknown ∧ (n ≤ cell.slots.size ∧ cell.slots.size.toInt32 = Int32.ofNat n) ∧ ∀ j, j < n → cell.slots[j]? = some (.int (f j)) := by
  by_cases q : pq_E ≤ r
  · obtain ⟨cA, h1, h2, -⟩ := (h.2.2 r _ hr).1 q
    exact ⟨_, h1, h2 n _, (fun q => by cases q), ⟨by rw [arrV_size]; exact Nat.le_refl _, by rw [arrV_size]⟩, fun j hj => arrV_read _ _ hj⟩
  · exact (h.2.2 r _ hr).2 (by omega)
def pq_Nt (ad : Nat → Nat) (U : State) : Prop := pq_Ns U ∧ vk_R "SkyFeesModel" 195 "wkamdl" (ad 3) U
/-- what a method's walk rests on -/
def pq_X (p : Program) (s : State) (m : MethodId) (args : Array Value) (meth : Method) (c : Code) (cc : ByteArray) (own : String) (nL : Nat) (ret : Option FieldType) (nm : String) (D : va_G) (ad : Nat → Nat) (h0 : Nat) : Prop :=
  p.tables.exec = Jvm.exec ∧ c.code = cc ∧ c.maxLocals = nL ∧ s.vm.findClass own = some m.cls ∧ (∀ w ∈ pq_gt, w.before args s = true) ∧ pq_Nt ad s ∧ va_K D pq_cl [] s ∧ meth.sig.returnType = ret ∧ meth.locks = false ∧ meth.name = nm ∧ (∀ i j, pq_E ≤ i → ad i = ad j → i = j) ∧ (∀ i, pq_E ≤ i → h0 ≤ ad i)
/-- the walk from a pure place -/
def pq_G (p : Program) (l : Launch) (e : Env) (R : Room) (s : State) (m : MethodId) (args : Array Value) (below : List Frame) (meth : Method) (c : Code) (Q : State → Prop) (nL : Nat) (D : va_G) (ad : Nat → Nat) (h0 : Nat) (pc : Nat) (ls : pq_L) (st : List Value) (w : pq_W) (cs ss : Nat) : Prop :=
  ∀ (H : Heap) (locs : List Loc) (lr : Array Slot), lv_has lr nL (pq_ls ad ls) → pq_I ad D w s H → va_S (fun q => h0 ≤ q) s.heap H locs → W p l e R s m args below meth c H locs cs ss Q (F0 m pc lr (st.map (pq_v ad)))
section PQ1
variable {p : Program} {l : Launch} {e : Env} {R : Room} {s : State} {m : MethodId} {args : Array Value} {below : List Frame} {meth : Method} {c : Code} {Q : State → Prop} {cc : ByteArray} {own : String} {nL : Nat} {ret : Option FieldType} {nm : String} {D : va_G} {ad : Nat → Nat} {h0 pc cs ss : Nat} {ls : pq_L} {st : List Value} {w : pq_W} {i : Instr}
theorem pg_push {v : Value} (X : pq_X p s m args meth c cc own nL ret nm D ad h0) (hd : decode cc pc = .ok (i, pq_il i)) (hp : pq_push i v = true) (hw : ∀ idx : Nat, (∀ x : Int32, (i = .ldc idx ∨ i = .ldc_w idx) → v = .int x → Cond.constant own idx x ∈ pq_gt) ∧ (∀ x : Int64, i = .ldc2_w idx → v = .long x → Cond.constantLong own idx x ∈ pq_gt))
    (k : pq_G p l e R s m args below meth c Q nL D ad h0 (pc + pq_il i) ls (v :: st) w cs ss) : pq_G p l e R s m args below meth c Q nL D ad h0 pc ls st w cs ss := by
  obtain ⟨hx, hb, hml, hown, hts, -⟩ := X
  intro H locs lr hl hI hS
  have k := k H locs lr hl hI hS
  cases i
  case iconst n =>
    have hp := of_decide_eq_true hp
    subst hp
    exact lv_iconst hx hb hd rfl k
  case bipush n =>
    have hp := of_decide_eq_true hp
    subst hp
    exact lv_bipush hx hb hd rfl k
  case sipush n =>
    have hp := of_decide_eq_true hp
    subst hp
    exact lv_sipush hx hb hd rfl k
  case lconst n =>
    have hp := of_decide_eq_true hp
    subst hp
    exact lv_lconst hx hb hd rfl k
  case ldc idx =>
    cases v
    case int x => exact lv_ldc hx hb hown (hts _ ((hw _).1 x (Or.inl rfl) rfl)) hd k
    all_goals cases hp
  case ldc_w idx =>
    cases v
    case int x => exact lv_ldcw hx hb hown (hts _ ((hw _).1 x (Or.inr rfl) rfl)) hd k
    all_goals cases hp
  case ldc2_w idx =>
    cases v
    case long x => exact lv_ldc2 hx hb hown (hts _ ((hw _).2 x rfl rfl)) hd k
    all_goals cases hp
  all_goals cases hp
theorem pg_iload {n : Nat} {x : Int32} (X : pq_X p s m args meth c cc own nL ret nm D ad h0) (hd : decode cc pc = .ok (i, pq_il i)) (hp : i = .iload n ∨ ∃ j : Fin 4, i = .iload_n j ∧ j.val = n) (hv : pq_lk ls n = some (.int x))
    (k : pq_G p l e R s m args below meth c Q nL D ad h0 (pc + pq_il i) ls (.int x :: st) w cs ss) : pq_G p l e R s m args below meth c Q nL D ad h0 pc ls st w cs ss := by
  obtain ⟨hx, hb, hml, hown, hts, -⟩ := X
  intro H locs lr hl hI hS
  have k := k H locs lr hl hI hS
  have hm := hl.2.2 _ (pq_ls_mem (ad := ad) hv)
  rcases hp with rfl | ⟨j, rfl, hj⟩
  · exact lv_iload hx hb hd hm k
  · exact lv_iload_n hx hb hd hj hm k
theorem pg_lload {n : Nat} {x : Int64} (X : pq_X p s m args meth c cc own nL ret nm D ad h0) (hd : decode cc pc = .ok (i, pq_il i)) (hp : i = .lload n ∨ ∃ j : Fin 4, i = .lload_n j ∧ j.val = n) (hv : pq_lk ls n = some (.long x))
    (k : pq_G p l e R s m args below meth c Q nL D ad h0 (pc + pq_il i) ls (.long x :: st) w cs ss) : pq_G p l e R s m args below meth c Q nL D ad h0 pc ls st w cs ss := by
  obtain ⟨hx, hb, hml, hown, hts, -⟩ := X
  intro H locs lr hl hI hS
  have k := k H locs lr hl hI hS
  have hm := hl.2.2 _ (pq_ls_mem (ad := ad) hv)
  rcases hp with rfl | ⟨j, rfl, hj⟩
  · exact lv_lload hx hb hd hm k
  · exact lv_lload_n hx hb hd hj hm k
theorem pg_aload {n : Nat} {x : Nat} (X : pq_X p s m args meth c cc own nL ret nm D ad h0) (hd : decode cc pc = .ok (i, pq_il i)) (hp : i = .aload n ∨ ∃ j : Fin 4, i = .aload_n j ∧ j.val = n) (hv : pq_lk ls n = some (.ref x))
    (k : pq_G p l e R s m args below meth c Q nL D ad h0 (pc + pq_il i) ls (.ref x :: st) w cs ss) : pq_G p l e R s m args below meth c Q nL D ad h0 pc ls st w cs ss := by
  obtain ⟨hx, hb, hml, hown, hts, -⟩ := X
  intro H locs lr hl hI hS
  have k := k H locs lr hl hI hS
  have hm := hl.2.2 _ (pq_ls_mem (ad := ad) hv)
  rcases hp with rfl | ⟨j, rfl, hj⟩
  · exact lv_aload hx hb hd hm k
  · exact lv_aload_n hx hb hd hj hm k
theorem pg_istore {n : Nat} {x : Int32} (X : pq_X p s m args meth c cc own nL ret nm D ad h0) (hd : decode cc pc = .ok (i, pq_il i)) (hp : i = .istore n ∨ ∃ j : Fin 4, i = .istore_n j ∧ j.val = n) (hn : n < nL)
    (k : pq_G p l e R s m args below meth c Q nL D ad h0 (pc + pq_il i) (pq_st1 ls n (.int x)) st w cs ss) : pq_G p l e R s m args below meth c Q nL D ad h0 pc ls (.int x :: st) w cs ss := by
  obtain ⟨hx, hb, hml, hown, hts, -⟩ := X
  intro H locs lr hl hI hS
  rcases hp with rfl | ⟨j, rfl, hj⟩
  · exact lv_istore hx hb hd hl hn (pq_ls_st1 ad ls n (.int x)) (fun lr hl => k H locs lr hl hI hS)
  · exact lv_istore_n hx hb hd hj hl hn (pq_ls_st1 ad ls n (.int x)) (fun lr hl => k H locs lr hl hI hS)
theorem pg_lstore {n : Nat} {x : Int64} (X : pq_X p s m args meth c cc own nL ret nm D ad h0) (hd : decode cc pc = .ok (i, pq_il i)) (hp : i = .lstore n ∨ ∃ j : Fin 4, i = .lstore_n j ∧ j.val = n) (hn : n + 1 < nL)
    (k : pq_G p l e R s m args below meth c Q nL D ad h0 (pc + pq_il i) (pq_st2 ls n (.long x)) st w cs ss) : pq_G p l e R s m args below meth c Q nL D ad h0 pc ls (.long x :: st) w cs ss := by
  obtain ⟨hx, hb, hml, hown, hts, -⟩ := X
  intro H locs lr hl hI hS
  rcases hp with rfl | ⟨j, rfl, hj⟩
  · exact lv_lstore hx hb hd hl hn (pq_ls_st2 ad ls n (.long x)) (fun lr hl => k H locs lr hl hI hS)
  · exact lv_lstore_n hx hb hd hj hl hn (pq_ls_st2 ad ls n (.long x)) (fun lr hl => k H locs lr hl hI hS)
theorem pg_astore {n : Nat} {x : Nat} (X : pq_X p s m args meth c cc own nL ret nm D ad h0) (hd : decode cc pc = .ok (i, pq_il i)) (hp : i = .astore n ∨ ∃ j : Fin 4, i = .astore_n j ∧ j.val = n) (hn : n < nL)
    (k : pq_G p l e R s m args below meth c Q nL D ad h0 (pc + pq_il i) (pq_st1 ls n (.ref x)) st w cs ss) : pq_G p l e R s m args below meth c Q nL D ad h0 pc ls (.ref x :: st) w cs ss := by
  obtain ⟨hx, hb, hml, hown, hts, -⟩ := X
  intro H locs lr hl hI hS
  rcases hp with rfl | ⟨j, rfl, hj⟩
  · exact lv_astore hx hb hd hl hn (pq_ls_st1 ad ls n (.ref x)) (fun lr hl => k H locs lr hl hI hS)
  · exact lv_astore_n hx hb hd hj hl hn (pq_ls_st1 ad ls n (.ref x)) (fun lr hl => k H locs lr hl hI hS)
theorem pg_iinc {n : Nat} {d : Int} {x y : Int32} (X : pq_X p s m args meth c cc own nL ret nm D ad h0) (hd : decode cc pc = .ok (.iinc n d, 3)) (hn : n < nL) (hv : pq_lk ls n = some (.int x)) (hy : Int32.ofInt d = y)
    (k : pq_G p l e R s m args below meth c Q nL D ad h0 (pc + 3) (pq_st1 ls n (.int (x + y))) st w cs ss) : pq_G p l e R s m args below meth c Q nL D ad h0 pc ls st w cs ss := by
  obtain ⟨hx, hb, hml, hown, hts, -⟩ := X
  intro H locs lr hl hI hS
  obtain ⟨t, ht⟩ := List.getElem?_of_mem (pq_ls_mem (ad := ad) hv)
  subst hy
  exact lv_iinc hx hb hd hl ht rfl hn (pq_ls_st1 ad ls n (.int (x + Int32.ofInt d))) (fun lr hl => k H locs lr hl hI hS)
theorem pg_bin {a b z : Value} (X : pq_X p s m args meth c cc own nL ret nm D ad h0) (hd : decode cc pc = .ok (i, pq_il i)) (hp : pq_bin i a b = some z)
    (k : pq_G p l e R s m args below meth c Q nL D ad h0 (pc + pq_il i) ls (z :: st) w cs ss) : pq_G p l e R s m args below meth c Q nL D ad h0 pc ls (b :: a :: st) w cs ss := by
  obtain ⟨hx, hb, hml, hown, hts, -⟩ := X
  intro H locs lr hl hI hS
  have k := k H locs lr hl hI hS
  cases a <;> cases b
  case int.int x y =>
    cases i
    case iadd => cases hp; exact lv_iadd hx hb hd k
    case isub => cases hp; exact lv_isub hx hb hd k
    case imul => cases hp; exact lv_imul hx hb hd k
    case iand => cases hp; exact lv_iand hx hb hd k
    case ior => cases hp; exact lv_ior hx hb hd k
    case ixor => cases hp; exact lv_ixor hx hb hd k
    case ishr => cases hp; exact lv_ishr hx hb hd k
    case idiv =>
      by_cases hy : y = 0
      · simp [pq_bin, hy] at hp
      · simp only [pq_bin, hy, if_false] at hp
        cases hp
        exact lv_idiv hx hb hd hy k
    case irem =>
      by_cases hy : y = 0
      · simp [pq_bin, hy] at hp
      · simp only [pq_bin, hy, if_false] at hp
        cases hp
        exact lv_irem hx hb hd hy k
    all_goals cases hp
  case long.long x y =>
    cases i
    case ladd => cases hp; exact lv_ladd hx hb hd k
    case lsub => cases hp; exact lv_lsub hx hb hd k
    case lmul => cases hp; exact lv_lmul hx hb hd k
    case land => cases hp; exact lv_land hx hb hd k
    case lor => cases hp; exact lv_lor hx hb hd k
    case lcmp => cases hp; exact W.lcmp hx hb hd k
    case ldiv =>
      by_cases hy : y = 0
      · simp [pq_bin, hy] at hp
      · simp only [pq_bin, hy, if_false] at hp
        cases hp
        exact lv_ldiv hx hb hd hy k
    case lrem =>
      by_cases hy : y = 0
      · simp [pq_bin, hy] at hp
      · simp only [pq_bin, hy, if_false] at hp
        cases hp
        exact lv_lrem hx hb hd hy k
    all_goals cases hp
  case long.int x y =>
    cases i
    case lshl => cases hp; exact lv_lshl hx hb hd rfl k
    case lshr => cases hp; exact lv_lshr hx hb hd rfl k
    case lushr => cases hp; exact lv_lushr hx hb hd rfl k
    all_goals cases hp
  all_goals cases hp
theorem pg_un {a z : Value} (X : pq_X p s m args meth c cc own nL ret nm D ad h0) (hd : decode cc pc = .ok (i, pq_il i)) (hp : pq_un i a = some z)
    (k : pq_G p l e R s m args below meth c Q nL D ad h0 (pc + pq_il i) ls (z :: st) w cs ss) : pq_G p l e R s m args below meth c Q nL D ad h0 pc ls (a :: st) w cs ss := by
  obtain ⟨hx, hb, hml, hown, hts, -⟩ := X
  intro H locs lr hl hI hS
  have k := k H locs lr hl hI hS
  cases a
  case int x =>
    cases i
    case ineg => cases hp; exact lv_ineg hx hb hd k
    case i2l => cases hp; exact lv_i2l hx hb hd rfl k
    case i2b => cases hp; exact lv_i2b hx hb hd rfl k
    case i2s => cases hp; exact lv_i2s hx hb hd rfl k
    all_goals cases hp
  case long x =>
    cases i
    case l2i => cases hp; exact lv_l2i hx hb hd rfl k
    all_goals cases hp
  all_goals cases hp
theorem pg_dup {a : Value} (X : pq_X p s m args meth c cc own nL ret nm D ad h0) (hd : decode cc pc = .ok (.dup, 1)) (hc : a.category = 1)
    (k : pq_G p l e R s m args below meth c Q nL D ad h0 (pc + 1) ls (a :: a :: st) w cs ss) : pq_G p l e R s m args below meth c Q nL D ad h0 pc ls (a :: st) w cs ss := by
  obtain ⟨hx, hb, hml, hown, hts, -⟩ := X
  intro H locs lr hl hI hS
  exact lv_dup hx hb hd (by rw [pq_v_cat]; exact hc) (k H locs lr hl hI hS)
theorem pg_pop {a : Value} (X : pq_X p s m args meth c cc own nL ret nm D ad h0) (hd : decode cc pc = .ok (.pop, 1)) (hc : a.category = 1)
    (k : pq_G p l e R s m args below meth c Q nL D ad h0 (pc + 1) ls st w cs ss) : pq_G p l e R s m args below meth c Q nL D ad h0 pc ls (a :: st) w cs ss := by
  obtain ⟨hx, hb, hml, hown, hts, -⟩ := X
  intro H locs lr hl hI hS
  exact lv_pop hx hb hd (by rw [pq_v_cat]; exact hc) (k H locs lr hl hI hS)
theorem pg_dup2 {a b : Value} (X : pq_X p s m args meth c cc own nL ret nm D ad h0) (hd : decode cc pc = .ok (.dup2, 1)) (hc : a.category = 1) (hc2 : b.category = 1)
    (k : pq_G p l e R s m args below meth c Q nL D ad h0 (pc + 1) ls (a :: b :: a :: b :: st) w cs ss) : pq_G p l e R s m args below meth c Q nL D ad h0 pc ls (a :: b :: st) w cs ss := by
  obtain ⟨hx, hb, hml, hown, hts, -⟩ := X
  intro H locs lr hl hI hS
  exact lv_dup2_11 hx hb hd (by rw [pq_v_cat]; exact hc) (by rw [pq_v_cat]; exact hc2) (k H locs lr hl hI hS)
theorem pg_if {x : Int32} {cd : Jvm.ClassFile.Cond} {off : Int} {tgt : Nat} (X : pq_X p s m args meth c cc own nL ret nm D ad h0) (hd : decode cc pc = .ok (.ifCond cd off, 3)) (ht : (pc : Int) + off = (tgt : Int))
    (k1 : pq_br cd x 0 = true → pq_G p l e R s m args below meth c Q nL D ad h0 tgt ls st w cs ss) (k2 : pq_br cd x 0 = false → pq_G p l e R s m args below meth c Q nL D ad h0 (pc + 3) ls st w cs ss) : pq_G p l e R s m args below meth c Q nL D ad h0 pc ls (.int x :: st) w cs ss := by
  obtain ⟨hx, hb, hml, hown, hts, -⟩ := X
  intro H locs lr hl hI hS
  cases cd
  case eq => exact lv_if_eq hx hb hd ht (fun h => k1 (decide_eq_true h) H locs lr hl hI hS) (fun h => k2 (decide_eq_false h) H locs lr hl hI hS)
  case ne => exact lv_if_ne hx hb hd ht (fun h => k1 (decide_eq_true h) H locs lr hl hI hS) (fun h => k2 (decide_eq_false (fun z => z h)) H locs lr hl hI hS)
  case lt => exact lv_if_lt hx hb hd ht (fun h => k1 (decide_eq_true h) H locs lr hl hI hS) (fun h => k2 (decide_eq_false h) H locs lr hl hI hS)
  case ge => exact lv_if_ge hx hb hd ht (fun h => k1 (decide_eq_true h) H locs lr hl hI hS) (fun h => k2 (decide_eq_false h) H locs lr hl hI hS)
  case gt => exact lv_if_gt hx hb hd ht (fun h => k1 (decide_eq_true h) H locs lr hl hI hS) (fun h => k2 (decide_eq_false h) H locs lr hl hI hS)
  case le => exact lv_if_le hx hb hd ht (fun h => k1 (decide_eq_true h) H locs lr hl hI hS) (fun h => k2 (decide_eq_false h) H locs lr hl hI hS)
theorem pg_icmp {x y : Int32} {cd : Jvm.ClassFile.Cond} {off : Int} {tgt : Nat} (X : pq_X p s m args meth c cc own nL ret nm D ad h0) (hd : decode cc pc = .ok (.if_icmp cd off, 3)) (ht : (pc : Int) + off = (tgt : Int))
    (k1 : pq_br cd x y = true → pq_G p l e R s m args below meth c Q nL D ad h0 tgt ls st w cs ss) (k2 : pq_br cd x y = false → pq_G p l e R s m args below meth c Q nL D ad h0 (pc + 3) ls st w cs ss) : pq_G p l e R s m args below meth c Q nL D ad h0 pc ls (.int y :: .int x :: st) w cs ss := by
  obtain ⟨hx, hb, hml, hown, hts, -⟩ := X
  intro H locs lr hl hI hS
  cases cd
  case eq => exact lv_icmp_eq hx hb hd ht (fun h => k1 (decide_eq_true h) H locs lr hl hI hS) (fun h => k2 (decide_eq_false h) H locs lr hl hI hS)
  case ne => exact lv_icmp_ne hx hb hd ht (fun h => k1 (decide_eq_true h) H locs lr hl hI hS) (fun h => k2 (decide_eq_false (fun z => z h)) H locs lr hl hI hS)
  case lt => exact lv_icmp_lt hx hb hd ht (fun h => k1 (decide_eq_true h) H locs lr hl hI hS) (fun h => k2 (decide_eq_false h) H locs lr hl hI hS)
  case ge => exact lv_icmp_ge hx hb hd ht (fun h => k1 (decide_eq_true h) H locs lr hl hI hS) (fun h => k2 (decide_eq_false h) H locs lr hl hI hS)
  case gt => exact lv_icmp_gt hx hb hd ht (fun h => k1 (decide_eq_true h) H locs lr hl hI hS) (fun h => k2 (decide_eq_false h) H locs lr hl hI hS)
  case le => exact lv_icmp_le hx hb hd ht (fun h => k1 (decide_eq_true h) H locs lr hl hI hS) (fun h => k2 (decide_eq_false h) H locs lr hl hI hS)
theorem pg_goto {off : Int} {tgt : Nat} (X : pq_X p s m args meth c cc own nL ret nm D ad h0) (hd : decode cc pc = .ok (.goto off, 3)) (ht : (pc : Int) + off = (tgt : Int))
    (k : pq_G p l e R s m args below meth c Q nL D ad h0 tgt ls st w cs ss) : pq_G p l e R s m args below meth c Q nL D ad h0 pc ls st w cs ss := by
  obtain ⟨hx, hb, hml, hown, hts, -⟩ := X
  intro H locs lr hl hI hS
  exact lv_goto hx hb hd ht (k H locs lr hl hI hS)
end PQ1
