section PQ3
variable {p : Program} {l : Launch} {e : Env} {R : Room} {s : State} {m : MethodId} {args : Array Value} {below : List Frame} {meth : Method} {c : Code} {Q : State → Prop} {cc : ByteArray} {own : String} {nL : Nat} {ret : Option FieldType} {nm : String} {D : va_G} {ad : Nat → Nat} {h0 pc cs ss : Nat} {ls : pq_L} {st : List Value} {w : pq_W} {i : Instr}
theorem pq_setV (ad : Nat → Nat) (fs : List Value) (kf : Nat) (z : Value) (hk : kf < fs.length) (j : Nat) : updV (vp_V (fs.map (pq_v ad))) kf (pq_v ad z) j = vp_V ((fs.set kf z).map (pq_v ad)) j := by
  rw [List.map_set]
  exact vp_updV_set (by rw [List.length_map]; exact hk) (pq_v ad z) j
theorem pg_put {ci kf idx r : Nat} {C : String} {T : u_T} {N : Nat} {fs : List Value} {z : Value} (ty0 : Nat → FieldType) (X : pq_X p s m args meth c cc own nL ret nm D ad h0) (hd : decode cc pc = .ok (.putfield idx, 3)) (hc : pq_cl[ci]? = some (C, T, N)) (hin : ∀ w ∈ u_ws C T N, w ∈ pq_gt) (hty : ∀ k, k < N → parseFieldDescriptor (T k).2.2.1 = some (ty0 k)) (hnm : ∀ a, a < N → ∀ b, b < N → a ≠ b → (T a).2.1 ≠ (T b).2.1) (hk : kf < N) (hdc : (T kf).1 = C) (hlink : Cond.fieldLink own idx C (T kf).2.1 (T kf).2.2.1 ∈ pq_gt) (hfin : (T kf).2.2.2 = false ∨ (nm = "<init>" ∧ C = own)) (hfit : pq_fit (pq_sort (T kf).2.2.1) z = true) (hr : w[r]? = some (.inr (ci, fs))) (hlen : kf < fs.length) (hE : pq_E ≤ r)
    (k : pq_G p l e R s m args below meth c Q nL D ad h0 (pc + 3) ls st (w.set r (.inr (ci, fs.set kf z))) cs ss) : pq_G p l e R s m args below meth c Q nL D ad h0 pc ls (z :: .ref r :: st) w cs ss := by
  obtain ⟨hx, hb, hml, hown, hts, -, hK, -, -, hnm1, hj, ho⟩ := X
  intro H locs lr hl hI hS
  obtain ⟨ty, hd1, hn, hf⟩ := pq_fit_ok (ad := ad) hfit
  have hap := va_apart (own := own) hts hin ty0 hty hnm hK hc
  obtain ⟨r1, h1, cell, q1, q2, q3, q4⟩ := hI.obj hr hc
  have hr1 : r1 = (C, T, N) := Option.some.inj (h1.symm.trans hc)
  subst hr1
  obtain ⟨hSl, hfc, kC, hkC, hkind⟩ := hK.1 ci _ hc
  obtain ⟨cf, kf1, fi, f, hi, hsl⟩ := hSl kf hk
  have hst := (u_facts hfc hkC (u_lays hts hin hk) hi).1
  have hi2 : s.fieldFound? C (T kf).2.1 (T kf).2.2.1 = some (cf, kf1, fi, f) := by rw [← hdc]; exact hi
  have hlay := hts _ (hin _ (u_in_lay hk))
  unfold u_lay at hlay
  have fin : ∀ (H1 : Heap) (locs1 : List Loc), H1[ad r]? = some (cell.setSlot f.slot (pq_v ad z)) → H1.size = H.size → (∀ q, q ≠ ad r → H1[q]? = H[q]?) → locs1 = locs ++ [⟨ad r, f.slot⟩] → W p l e R s m args below meth c H1 locs1 cs ss Q (F0 m (pc + 3) lr (st.map (pq_v ad))) := by
    intro H1 locs1 e1 e2 e3 e4
    subst e4
    rw [hsl] at e1
    refine k H1 _ lr hl (hI.set hE hj e2 e3 ⟨_, hc, t_OB.to (V := updV (vp_V (fs.map (pq_v ad))) kf (pq_v ad z)) ⟨_, e1, q2, q3, t_set q4 hap hk (pq_v ad z)⟩ (fun j _ => pq_setV ad fs kf z hlen j)⟩) (hS.put e2 e3 (ho r hE))
  by_cases hf2 : (T kf).2.2.2 = true
  · rw [if_pos hf2] at hlay
    have hfin : nm = "<init>" ∧ C = own := hfin.resolve_left (by rw [hf2]; decide)
    have hcf : m.cls = cf := by
      obtain ⟨_, _, c', _, _, _, -, -, hf', -, -, -, hown2, -⟩ := Cond.laysFinal_spec hlay
      have e1 : c' = cf := by have := hi.symm.trans hf'; simp at this; exact this.1.symm
      rw [hdc, hfin.2] at hown2
      rw [← e1]; exact Option.some.inj (hown.symm.trans hown2)
    have h6 := u_fits hfc hkC hkind (Or.inr hlay) hi hd1 hn hf
    exact W.putFinK hx hb hown (hts _ hlink) hi2 hst hcf (by rw [hnm1]; exact hfin.1) (by rw [q2]; exact h6) q1 q3 (by rw [hsl]; exact k2_hasslot (q4 kf hk)) rfl rfl hd fun H1 e1 e2 e3 => fin H1 _ e1 e2 e3 rfl
  · rw [if_neg hf2] at hlay
    have h6 := u_store hfc hkC hkind hlay hi hd1 hn hf
    exact W.putK hx hb (f := f) ⟨hown, hts _ hlink, ⟨_, _, _, hi2⟩, hst⟩ (by rw [q2]; exact h6) q1 q3 (by rw [hsl]; exact k2_hasslot (q4 kf hk)) rfl rfl hd fun H1 e1 e2 e3 => fin H1 _ e1 e2 e3 rfl
theorem pg_new {ci idx : Nat} {C : String} {T : u_T} {N : Nat} {fs : List Value} (ty0 : Nat → FieldType) (X : pq_X p s m args meth c cc own nL ret nm D ad h0) (hd : decode cc pc = .ok (.new idx, 3)) (hc : pq_cl[ci]? = some (C, T, N)) (hin : ∀ w ∈ u_ws C T N, w ∈ pq_gt) (hty : ∀ k, k < N → parseFieldDescriptor (T k).2.2.1 = some (ty0 k)) (hlink : Cond.classLink own idx C ∈ pq_gt) (hinst : Cond.instantiable C N ∈ pq_gt) (hini : Cond.initialized C ∈ pq_gt) (hfs : ∀ j, j < N → defaultValue (ty0 j) = vp_V (fs.map (pq_v ad)) j) (h1 : cs + 1 ≤ R.cells) (h2 : ss + N ≤ R.slots)
    (k : pq_G p l e R s m args below meth c Q nL D ad h0 (pc + 3) ls (.ref w.length :: st) (w ++ [.inr (ci, fs)]) (cs + 1) (ss + N)) : pq_G p l e R s m args below meth c Q nL D ad h0 pc ls st w cs ss := by
  obtain ⟨hx, hb, hml, hown, hts, -, hK, -, -, hnm1, hj, ho⟩ := X
  intro H locs lr hl hI hS
  have hKn := hK.1 ci _ hc
  refine W.newcK hx hb hown (hts _ hlink) (hts _ hinst) (hts _ hini) rfl hd h1 h2 hKn.2.1 rfl fun H1 kC hkC e1 z1 o1 => ?_
  have hnx := hI.next
  have k := k H1 locs lr hl (hI.push z1 o1 ⟨_, hc, by rw [hnx]; exact (u_born ty0 hts hin hKn hkC e1 hty).to hfs⟩) ⟨Nat.le_trans hS.1 (by omega), fun x h1 h2 => (o1 x (Nat.lt_of_lt_of_le h1 hS.1)).trans (hS.2.1 x h1 h2), hS.2.2⟩
  rw [List.map_cons, show pq_v ad (.ref w.length) = .ref H.size by rw [← hnx]; rfl] at k
  exact k
theorem pg_newa {atype : ArrayType} {n : Int32} {cl0 : pq_C} (X : pq_X p s m args meth c cc own nL ret nm D ad h0) (hd : decode cc pc = .ok (.newarray atype, 2)) (harr : Cond.arrayClass (newarray.typeOf atype) ∈ pq_gt) (hc : pq_blank (pq_at2 atype) n.toNatClampNeg = some cl0) (hn : ¬ n < 0) (hb0 : n.toNatClampNeg ≤ 60000000) (h1 : cs + 1 ≤ R.cells) (h2 : ss + n.toNatClampNeg ≤ R.slots)
    (k : pq_G p l e R s m args below meth c Q nL D ad h0 (pc + 2) ls (.ref w.length :: st) (w ++ [cl0]) (cs + 1) (ss + n.toNatClampNeg)) : pq_G p l e R s m args below meth c Q nL D ad h0 pc ls (.int n :: st) w cs ss := by
  obtain ⟨hx, hb, hml, hown, hts, -, hK, -, -, hnm1, hj, ho⟩ := X
  intro H locs lr hl hI hS
  have hby : n.toNatClampNeg * componentBytes (newarray.typeOf atype) ≤ 536870912 := by
    have : componentBytes (newarray.typeOf atype) ≤ 8 := by cases atype <;> decide
    have := Nat.mul_le_mul hb0 this
    omega
  refine va_newaK hx hb (hts _ harr) rfl hd rfl hn rfl hby h1 h2 rfl fun H1 cA e1 z1 o1 hAr hNm => ?_
  have hnx := hI.next
  have hat : pq_at ad D s H1 w.length cl0 := by
    cases atype
    case int => cases hc; exact ⟨cA, by rw [hnx]; exact e1, hAr, fun _ => rfl⟩
    case long => cases hc; exact ⟨cA, by rw [hnx]; exact e1, hAr⟩
    case byte => cases hc; exact ⟨cA, by rw [hnx]; exact e1, hAr, fun _ => rfl⟩
    case boolean => cases hc; exact ⟨cA, by rw [hnx]; exact e1, hAr, fun _ => rfl⟩
    all_goals cases hc
  have k := k H1 locs lr hl (hI.push z1 o1 hat) ⟨Nat.le_trans hS.1 (by omega), fun x h1 h2 => (o1 x (Nat.lt_of_lt_of_le h1 hS.1)).trans (hS.2.1 x h1 h2), hS.2.2⟩
  rw [List.map_cons, show pq_v ad (.ref w.length) = .ref H.size by rw [← hnx]; rfl] at k
  exact k
theorem pg_obj {idx r : Nat} (X : pq_X p s m args meth c cc own nL ret nm D ad h0) (hd : decode cc pc = .ok (.invokespecial idx, 3)) (hl1 : Cond.methodLink own idx Lib.objectInit ∈ pq_gt) (hl2 : Cond.instanceMethod Lib.objectInit ∈ pq_gt) (hl3 : Cond.code Lib.objectInit ⟨#[0xb1]⟩ 1 none ∈ pq_gt) (hf : 1 ≤ R.frames) (hlo : 20 ≤ R.locals) (hsum : pq_sum st ≤ 8)
    (k : pq_G p l e R s m args below meth c Q nL D ad h0 (pc + 3) ls st w cs ss) : pq_G p l e R s m args below meth c Q nL D ad h0 pc ls (.ref r :: st) w cs ss := by
  obtain ⟨hx, hb, hml, hown, hts, -⟩ := X
  intro H locs lr hl hI hS
  refine W.objInit hx hb hown (hts _ hl1) (hts _ hl2) (hts _ hl3) rfl (by rw [hml]; exact hl.1) rfl hd hf ?_ (k H locs lr hl hI hS)
  show 2 * 0 + ((st.map (pq_v ad)).map fun v => v.category).sum + 12 ≤ R.locals
  rw [pq_sum_v]
  omega
theorem pg_cp {idx r0 r1 : Nat} {sp dp n : Int32} {c0 c1 c2 : pq_C} (X : pq_X p s m args meth c cc own nL ret nm D ad h0) (hd : decode cc pc = .ok (.invokestatic idx, 3)) (hl1 : Cond.methodLink own idx arraycopyName ∈ pq_gt) (hl2 : Cond.native arraycopyName ∈ pq_gt) (hl3 : Cond.static arraycopyName ∈ pq_gt) (hl4 : Cond.initialized "java/lang/System" ∈ pq_gt) (hf : 1 ≤ R.frames) (hlo : 40 ≤ R.locals) (hsum : pq_sum st ≤ 8) (hr0 : w[r0]? = some c0) (hr1 : w[r1]? = some c1) (hz : pq_cp c0 c1 sp dp n = some c2) (hE0 : pq_E ≤ r0) (hE : pq_E ≤ r1)
    (k : pq_G p l e R s m args below meth c Q nL D ad h0 (pc + 3) ls st (w.set r1 c2) cs ss) : pq_G p l e R s m args below meth c Q nL D ad h0 pc ls (.int n :: .int dp :: .ref r1 :: .int sp :: .ref r0 :: st) w cs ss := by
  obtain ⟨hx, hb, hml, hown, hts, -, hK, -, -, hnm1, hj, ho⟩ := X
  intro H locs lr hl hI hS
  match c0, c1, hr0, hr1, hz with
  | .inl (ty, n0, .inl f), .inl (ty1, n1, .inl g), hr0, hr1, hz =>
    simp only [pq_cp] at hz
    split at hz
    · rename_i hh
      obtain ⟨hty, rfl, h1, h2, h3, h4, h5⟩ := hh
      cases hz
      obtain ⟨cA0, a1, b1, f1⟩ := pq_ald_arr hI hE0 hr0
      obtain ⟨cA1, a2, b2, f2⟩ := pq_ald_arr hI hE hr1
      have nn : ∀ z : Int32, ¬ z < 0 → z.toInt = (z.toNatClampNeg : Int) := by
        intro z hz
        have hz0 : (0 : Int) ≤ z.toInt := by
          have := Int32.not_lt.mp hz
          simpa using Int32.le_iff_toInt_le.mp this
        show z.toInt = ((z.toInt.toNat : Nat) : Int)
        omega
      intro T hT XX
      obtain ⟨-, k0, hk0, cm0, hkk0⟩ := b1 n0 (fun j => .int (f j))
      obtain ⟨-, k1, hk1, cm1, hkk1⟩ := b2 n1 (fun j => .int (g j))
      obtain ⟨vm', X', step⟩ := XX.arraycopy hx hown (hts _ hl1) (hts _ hl2) (hts _ hl3) (hts _ hl4) (src := ad r0) (dst := ad r1) (cs := arrV cA0 n0 (fun j => .int (f j))) (cd := arrV cA1 n1 (fun j => .int (g j))) (srcPos := sp) (destPos := dp) (n := n) (by rw [hT]; exact a1) (by rw [hT]; exact a2)
        (fun _ h => by cases h) (fun _ h => by cases h) (fun h => by cases h) (fun h => by cases h) hk0 hk1 hkk0 hkk1 (by rcases hty with rfl | rfl | rfl <;> simp [refKind]) h1 h2 h3
        (by rw [nn sp h1, nn n h3, arrV_size]; omega)
        (by rw [nn dp h2, nn n h3, arrV_size]; omega)
        (fun vm₁ _ i hi => by
          have e : (arrV cA0 n0 (fun j => .int (f j))).slots.getD (sp.toNatClampNeg + i) .null = .int (f (sp.toNatClampNeg + i)) := by
            rw [Array.getD_eq_getD_getElem?, arrV_read _ _ (by omega)]
            rfl
          refine ⟨?_, ?_⟩
          · rw [e]; exact f1 _
          · rw [e]; exact trivial)
        (g := F0 m pc lr (.int n :: .int dp :: .ref (ad r1) :: .int sp :: .ref (ad r0) :: st.map (pq_v ad))) rfl (by rw [hml]; exact hl.1) (rest := st.map (pq_v ad)) rfl (by rw [hb]; exact hd) hf (by
          show 2 * 0 + ((st.map (pq_v ad)).map fun v => v.category).sum + _ ≤ _
          rw [pq_sum_v]
          have : nativeFrameWords "java/lang/System" "arraycopy" 5 + 11 ≤ 30 := by decide +kernel
          omega)
      have e1 : copied (arrV cA0 n0 (fun j => .int (f j))) (arrV cA1 n1 (fun j => .int (g j))) sp dp n = arrV cA1 n1 (fun j => .int (va_cpy f g sp.toNatClampNeg dp.toNatClampNeg n.toNatClampNeg j)) := va_copied (fun z => .int z) cA0 cA1 f g h4
      rw [e1] at X' step
      have hlt : ad r1 < H.size := (Array.getElem?_eq_some_iff.mp a2).1
      obtain ⟨t, ta, tb⟩ := k (H.setIfInBounds (ad r1) (arrV cA1 n1 (fun j => .int (va_cpy f g sp.toNatClampNeg dp.toNatClampNeg n.toNatClampNeg j)))) _ lr hl
        (hI.set hE hj (by simp) (fun q hq => by simp [Array.getElem?_setIfInBounds, Ne.symm hq]) ⟨cA1, by simp [Array.getElem?_setIfInBounds, hlt], b2, fun j => by
          unfold va_cpy
          split
          · exact f1 _
          · exact f2 _⟩)
        ⟨by simp; exact hS.1, fun q g1 g2 => by
          rw [show (H.setIfInBounds (ad r1) (arrV cA1 n1 (fun j => .int (va_cpy f g sp.toNatClampNeg dp.toNatClampNeg n.toNatClampNeg j))))[q]? = H[q]? by
            have hq : q ≠ ad r1 := fun e => g2 (by rw [e]; exact ho r1 hE)
            simp [Array.getElem?_setIfInBounds, Ne.symm hq]]
          exact hS.2.1 q g1 g2, fun q hq => by
          rcases List.mem_append.mp hq with h | h
          · exact hS.2.2 q h
          · obtain ⟨z, -, hz⟩ := List.mem_map.mp h
            rw [← hz]
            exact ho r1 hE⟩ _ (by rw [← hT]; rfl) X'
      exact ⟨t, step t ta, tb⟩
    · cases hz
theorem pg_math0 {idx : Nat} {x y : Int32} (X : pq_X p s m args meth c cc own nL ret nm D ad h0) (hd : decode cc pc = .ok (.invokestatic idx, 3)) (hl1 : Cond.methodLink own idx Lib.Math.max.name ∈ pq_gt) (hl2 : Cond.static Lib.Math.max.name ∈ pq_gt) (hl3 : Cond.initialized "java/lang/Math" ∈ pq_gt) (hl4 : Cond.code Lib.Math.max.name Lib.Math.max.code 2 (some .int) ∈ pq_gt) (hf : 1 ≤ R.frames) (hlo : 40 ≤ R.locals) (hsum : pq_sum st ≤ 8) (h1 : cs ≤ R.cells) (h2 : ss ≤ R.slots)
    (k : pq_G p l e R s m args below meth c Q nL D ad h0 (pc + 3) ls (.int (if x < y then y else x) :: st) w cs ss) : pq_G p l e R s m args below meth c Q nL D ad h0 pc ls (.int y :: .int x :: st) w cs ss := by
  obtain ⟨hx, hb, hml, hown, hts, -⟩ := X
  intro H locs lr hl hI hS
  refine va_mmax hx hb (by rw [hml]; exact hl.1.symm) hown (hts _ hl1) (hts _ hl2) (hts _ hl3) (hts _ hl4) hf ?_ h1 h2 hd (k H locs lr hl hI hS)
  rw [pq_sum_v]
  omega
theorem pg_math1 {idx : Nat} {x y : Int32} (X : pq_X p s m args meth c cc own nL ret nm D ad h0) (hd : decode cc pc = .ok (.invokestatic idx, 3)) (hl1 : Cond.methodLink own idx Lib.Math.min.name ∈ pq_gt) (hl2 : Cond.static Lib.Math.min.name ∈ pq_gt) (hl3 : Cond.initialized "java/lang/Math" ∈ pq_gt) (hl4 : Cond.code Lib.Math.min.name Lib.Math.min.code 2 (some .int) ∈ pq_gt) (hf : 1 ≤ R.frames) (hlo : 40 ≤ R.locals) (hsum : pq_sum st ≤ 8) (h1 : cs ≤ R.cells) (h2 : ss ≤ R.slots)
    (k : pq_G p l e R s m args below meth c Q nL D ad h0 (pc + 3) ls (.int (if y < x then y else x) :: st) w cs ss) : pq_G p l e R s m args below meth c Q nL D ad h0 pc ls (.int y :: .int x :: st) w cs ss := by
  obtain ⟨hx, hb, hml, hown, hts, -⟩ := X
  intro H locs lr hl hI hS
  refine va_mmin hx hb (by rw [hml]; exact hl.1.symm) hown (hts _ hl1) (hts _ hl2) (hts _ hl3) (hts _ hl4) hf ?_ h1 h2 hd (k H locs lr hl hI hS)
  rw [pq_sum_v]
  omega
theorem pg_math2 {idx : Nat} {x : Int32} (X : pq_X p s m args meth c cc own nL ret nm D ad h0) (hd : decode cc pc = .ok (.invokestatic idx, 3)) (hl1 : Cond.methodLink own idx Lib.Math.abs.name ∈ pq_gt) (hl2 : Cond.static Lib.Math.abs.name ∈ pq_gt) (hl3 : Cond.initialized "java/lang/Math" ∈ pq_gt) (hl4 : Cond.code Lib.Math.abs.name Lib.Math.abs.code 1 (some .int) ∈ pq_gt) (hf : 1 ≤ R.frames) (hlo : 40 ≤ R.locals) (hsum : pq_sum st ≤ 8) (h1 : cs ≤ R.cells) (h2 : ss ≤ R.slots)
    (k : pq_G p l e R s m args below meth c Q nL D ad h0 (pc + 3) ls (.int (if 0 ≤ x then x else 0 - x) :: st) w cs ss) : pq_G p l e R s m args below meth c Q nL D ad h0 pc ls (.int x :: st) w cs ss := by
  obtain ⟨hx, hb, hml, hown, hts, -⟩ := X
  intro H locs lr hl hI hS
  refine va_mabs hx hb (by rw [hml]; exact hl.1.symm) hown (hts _ hl1) (hts _ hl2) (hts _ hl3) (hts _ hl4) hf ?_ h1 h2 hd (k H locs lr hl hI hS)
  rw [pq_sum_v]
  omega
theorem pg_math3 {idx : Nat} {x y : Int64} (X : pq_X p s m args meth c cc own nL ret nm D ad h0) (hd : decode cc pc = .ok (.invokestatic idx, 3)) (hl1 : Cond.methodLink own idx Lib.MathLoose.max_long.x ∈ pq_gt) (hl2 : Cond.static Lib.MathLoose.max_long.x ∈ pq_gt) (hl3 : Cond.initialized "java/lang/Math" ∈ pq_gt) (hl4 : Cond.code Lib.MathLoose.max_long.x Lib.MathLoose.max_long.code 4 (some .long) ∈ pq_gt) (hf : 1 ≤ R.frames) (hlo : 40 ≤ R.locals) (hsum : pq_sum st ≤ 8) (h1 : cs ≤ R.cells) (h2 : ss ≤ R.slots)
    (k : pq_G p l e R s m args below meth c Q nL D ad h0 (pc + 3) ls (.long (if y < x then x else y) :: st) w cs ss) : pq_G p l e R s m args below meth c Q nL D ad h0 pc ls (.long y :: .long x :: st) w cs ss := by
  obtain ⟨hx, hb, hml, hown, hts, -⟩ := X
  intro H locs lr hl hI hS
  refine va_mmax_long hx hb (by rw [hml]; exact hl.1.symm) hown (hts _ hl1) (hts _ hl2) (hts _ hl3) (hts _ hl4) hf ?_ h1 h2 hd (k H locs lr hl hI hS)
  rw [pq_sum_v]
  omega
theorem pg_math4 {idx : Nat} {x y : Int64} (X : pq_X p s m args meth c cc own nL ret nm D ad h0) (hd : decode cc pc = .ok (.invokestatic idx, 3)) (hl1 : Cond.methodLink own idx Lib.MathLoose.min_long.x ∈ pq_gt) (hl2 : Cond.static Lib.MathLoose.min_long.x ∈ pq_gt) (hl3 : Cond.initialized "java/lang/Math" ∈ pq_gt) (hl4 : Cond.code Lib.MathLoose.min_long.x Lib.MathLoose.min_long.code 4 (some .long) ∈ pq_gt) (hf : 1 ≤ R.frames) (hlo : 40 ≤ R.locals) (hsum : pq_sum st ≤ 8) (h1 : cs ≤ R.cells) (h2 : ss ≤ R.slots)
    (k : pq_G p l e R s m args below meth c Q nL D ad h0 (pc + 3) ls (.long (if y < x then y else x) :: st) w cs ss) : pq_G p l e R s m args below meth c Q nL D ad h0 pc ls (.long y :: .long x :: st) w cs ss := by
  obtain ⟨hx, hb, hml, hown, hts, -⟩ := X
  intro H locs lr hl hI hS
  refine va_mmin_long hx hb (by rw [hml]; exact hl.1.symm) hown (hts _ hl1) (hts _ hl2) (hts _ hl3) (hts _ hl4) hf ?_ h1 h2 hd (k H locs lr hl hI hS)
  rw [pq_sum_v]
  omega
end PQ3
