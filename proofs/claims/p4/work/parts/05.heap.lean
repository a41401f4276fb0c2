section PQ2
variable {p : Program} {l : Launch} {e : Env} {R : Room} {s : State} {m : MethodId} {args : Array Value} {below : List Frame} {meth : Method} {c : Code} {Q : State → Prop} {cc : ByteArray} {own : String} {nL : Nat} {ret : Option FieldType} {nm : String} {D : va_G} {ad : Nat → Nat} {h0 pc cs ss : Nat} {ls : pq_L} {st : List Value} {w : pq_W} {i : Instr}
theorem pg_tsw {x : Int32} {dflt lo hi : Int} {offs : Array Int} {len tgt : Nat} {off : Int} (X : pq_X p s m args meth c cc own nL ret nm D ad h0) (hd : decode cc pc = .ok (.tableswitch dflt lo hi offs, len)) (ho : (x.toInt < lo ∨ hi < x.toInt) ∧ off = dflt ∨ ¬ (x.toInt < lo ∨ hi < x.toInt) ∧ offs[(x.toInt - lo).toNat]? = some off) (ht : (pc : Int) + off = (tgt : Int))
    (k : pq_G p l e R s m args below meth c Q nL D ad h0 tgt ls st w cs ss) : pq_G p l e R s m args below meth c Q nL D ad h0 pc ls (.int x :: st) w cs ss := by
  obtain ⟨hx, hb, hml, hown, hts, -⟩ := X
  intro H locs lr hl hI hS
  rcases ho with ⟨h, rfl⟩ | ⟨h, h2⟩
  · exact lv_tableOut hx hb hd h ht (k H locs lr hl hI hS)
  · exact lv_tableIn hx hb hd (fun z => h (Or.inl z)) (fun z => h (Or.inr z)) h2 ht (k H locs lr hl hI hS)
theorem pg_lsw {x : Int32} {dflt : Int} {ps : Array (Int × Int)} {len tgt : Nat} (X : pq_X p s m args meth c cc own nL ret nm D ad h0) (hd : decode cc pc = .ok (.lookupswitch dflt ps, len)) (hp : (ps.toList.zip (ps.toList.drop 1)).all (fun (a, next) => a.1 < next.1) = true) (ht : (pc : Int) + Op.lookupswitch.offset ps.toList dflt x.toInt = (tgt : Int))
    (k : pq_G p l e R s m args below meth c Q nL D ad h0 tgt ls st w cs ss) : pq_G p l e R s m args below meth c Q nL D ad h0 pc ls (.int x :: st) w cs ss := by
  obtain ⟨hx, hb, hml, hown, hts, -⟩ := X
  intro H locs lr hl hI hS
  exact lv_lookup hx hb hd hp rfl ht (k H locs lr hl hI hS)
/-- a static field: our own, a nest mate's, a text -/
theorem pg_gets {C n d : String} {idx : Nat} {v : Value} (X : pq_X p s m args meth c cc own nL ret nm D ad h0) (hd : decode cc pc = .ok (.getstatic idx, 3)) (hv : ∀ H, pq_St ad s H → va_Z C n d (pq_v ad v) (pq_wr ad) s H) (hl : Cond.fieldLink own idx C n d ∈ pq_gt ∨ Cond.fieldLinkNest own idx C n d "SkyFees" ∈ lw_tbl)
    (k : pq_G p l e R s m args below meth c Q nL D ad h0 (pc + 3) ls (v :: st) w cs ss) : pq_G p l e R s m args below meth c Q nL D ad h0 pc ls st w cs ss := by
  obtain ⟨hx, hb, hml, hown, hts, hN, hK, -⟩ := X
  intro H locs lr hlr hI hS
  have k := k H locs lr hlr hI hS
  obtain ⟨cf, kf, fi, f, a, cell, h1, h2, h3, h4, h5, h6, h7, h8⟩ := hv H hI.2.1.2
  rcases hl with hl | hl
  · exact W.gets hx hb hown (hts _ hl) h1 h2 h3 h4 h5 (fun e => by rw [e] at h6; cases h6) h7 rfl hd k
  · exact va_WgetsN hx hb hown (va_Nw.use rfl (hN.1 _ hl rfl)) h1 h2 h3 h4 h5 (fun e => by rw [e] at h6; cases h6) h7 rfl hd k
theorem pg_ldcS {idx : Nat} (X : pq_X p s m args meth c cc "SkyFeesModel" nL ret nm D ad h0) (hd : decode cc pc = .ok (.ldc idx, 2)) (hi : idx = 195)
    (k : pq_G p l e R s m args below meth c Q nL D ad h0 (pc + 2) ls (.ref 3 :: st) w cs ss) : pq_G p l e R s m args below meth c Q nL D ad h0 pc ls st w cs ss := by
  obtain ⟨hx, hb, hml, hown, hts, hN, hK, -⟩ := X
  intro H locs lr hlr hI hS
  subst hi
  exact va_ldcS hx hb hown hN.2 hd (k H locs lr hlr hI hS)
/-- the text's fields -/
theorem pg_strf {idx : Nat} {n d : String} {v : Value} (X : pq_X p s m args meth c cc own nL ret nm D ad h0) (hd : decode cc pc = .ok (.getfield idx, 3)) (hl : Cond.fieldLink own idx "java/lang/String" n d ∈ pq_gt) (hw : ∀ H, pq_I ad D w s H → va_OF "java/lang/String" n d (pq_v ad v) (ad 3) (pq_wr ad) s H)
    (k : pq_G p l e R s m args below meth c Q nL D ad h0 (pc + 3) ls (v :: st) w cs ss) : pq_G p l e R s m args below meth c Q nL D ad h0 pc ls (.ref 3 :: st) w cs ss := by
  obtain ⟨hx, hb, hml, hown, hts, hN, hK, -⟩ := X
  intro H locs lr hlr hI hS
  have k := k H locs lr hlr hI hS
  obtain ⟨cf, kf, fi, f, cell, h1, h2, h3, h4, h5, h6⟩ := hw H hI
  exact W.getf hx hb hown (hts _ hl) h1 h2 h3 h4 (v := pq_v ad v) h5 rfl rfl hd k
theorem pg_get {ci kf idx r : Nat} {C : String} {T : u_T} {N : Nat} {fs : List Value} {z : Value} (X : pq_X p s m args meth c cc own nL ret nm D ad h0) (hd : decode cc pc = .ok (.getfield idx, 3)) (hc : pq_cl[ci]? = some (C, T, N)) (hin : ∀ w ∈ u_ws C T N, w ∈ pq_gt) (hk : kf < N) (hdc : (T kf).1 = C) (hlink : Cond.fieldLink own idx C (T kf).2.1 (T kf).2.2.1 ∈ pq_gt) (hr : w[r]? = some (.inr (ci, fs))) (hz : fs[kf]? = some z)
    (k : pq_G p l e R s m args below meth c Q nL D ad h0 (pc + 3) ls (z :: st) w cs ss) : pq_G p l e R s m args below meth c Q nL D ad h0 pc ls (.ref r :: st) w cs ss := by
  obtain ⟨hx, hb, hml, hown, hts, -, hK, -⟩ := X
  intro H locs lr hl hI hS
  have hP : va_P D pq_cl [(ad r, .inr (ci, fs.map (pq_v ad)))] H := by
    intro j q hj
    have hz : j < 1 := (List.getElem?_eq_some_iff.mp hj).1
    rw [show j = 0 by omega] at hj
    cases hj
    exact hI.obj hr hc
  exact va_get hx hb hts hin hown hK hP 0 rfl hc kf hk (hts _ hlink) (fun x h => by rw [← hdc]; exact h) (by rw [List.getElem?_map, hz]; rfl) hd (k H locs lr hl hI hS)
theorem pq_ald_arr {r : Nat} {ty : FieldType} {n : Nat} {f : Nat → Int32} {H : Heap} (hI : pq_I ad D w s H) (hE : pq_E ≤ r) (hr : w[r]? = some (.inl (ty, n, .inl f))) : ∃ cA : ClassId, H[ad r]? = some (arrV cA n (fun j => .int (f j))) ∧ ArrOfT s cA ty ∧ ∀ j, fits ty (.int (f j)) = true := (hI.2.2 r _ hr).1 hE
theorem pq_ald_arrL {r : Nat} {ty : FieldType} {n : Nat} {f : Nat → Int64} {H : Heap} (hI : pq_I ad D w s H) (hr : w[r]? = some (.inl (ty, n, .inr f))) : ∃ cA : ClassId, H[ad r]? = some (arrV cA n (fun j => .long (f j))) ∧ ArrOfT s cA ty := hI.lng hr
theorem pq_in_n {i : Int32} {n : Nat} (h : pq_in i n = true) : ¬ (i < 0 ∨ n ≤ i.toNatClampNeg) := of_decide_eq_true h
theorem pg_ald {t r : Nat} {x : Int32} {cl0 : pq_C} {z : Value} (X : pq_X p s m args meth c cc own nL ret nm D ad h0) (hd : decode cc pc = .ok (i, 1)) (hi : (t = 0 ∧ i = .iaload) ∨ (t = 1 ∧ i = .laload) ∨ (t = 2 ∧ i = .baload)) (hr : w[r]? = some cl0) (hz : pq_ald cl0 x t = some z)
    (k : pq_G p l e R s m args below meth c Q nL D ad h0 (pc + 1) ls (z :: st) w cs ss) : pq_G p l e R s m args below meth c Q nL D ad h0 pc ls (.int x :: .ref r :: st) w cs ss := by
  obtain ⟨hx, hb, hml, hown, hts, -⟩ := X
  intro H locs lr hl hI hS
  have k := k H locs lr hl hI hS
  match cl0, hr, hz with
  | .inl (ty, n, .inl f), hr, hz =>
    obtain ⟨cell, h1, h2, h3, h4, h5⟩ := hI.rd hr
    rcases hi with ⟨rfl, rfl⟩ | ⟨rfl, rfl⟩ | ⟨rfl, rfl⟩
    · simp only [pq_ald] at hz
      split at hz
      · rename_i hh
        obtain ⟨rfl, hin⟩ := hh
        cases hz
        have hin := pq_in_n hin
        have hlt : x.toNatClampNeg < n := Nat.not_le.mp fun q => hin (Or.inr q)
        exact W.iald (v := .int (f x.toNatClampNeg)) hx hb h1 h2 h3 (fun q => hin (q.imp id (Nat.le_trans h4.1))) (h5 _ hlt) rfl rfl hd k
      · cases hz
    · cases hz
    · simp only [pq_ald] at hz
      split at hz
      · rename_i hh
        obtain ⟨hty, hin⟩ := hh
        cases hz
        have hin := pq_in_n hin
        have hlt : x.toNatClampNeg < n := Nat.not_le.mp fun q => hin (Or.inr q)
        rcases hty with rfl | rfl
        · exact W.bald (v := .int (f x.toNatClampNeg)) hx hb h1 h2 h3 (fun q => hin (q.imp id (Nat.le_trans h4.1))) (h5 _ hlt) rfl rfl hd k
        · exact W.zald (v := .int (f x.toNatClampNeg)) hx hb h1 h2 h3 (fun q => hin (q.imp id (Nat.le_trans h4.1))) (h5 _ hlt) rfl rfl hd k
      · cases hz
  | .inl (ty, n, .inr f), hr, hz =>
    obtain ⟨cA, h1, h2⟩ := pq_ald_arrL hI hr
    rcases hi with ⟨rfl, rfl⟩ | ⟨rfl, rfl⟩ | ⟨rfl, rfl⟩
    · cases hz
    · simp only [pq_ald] at hz
      split at hz
      · rename_i hh
        obtain ⟨rfl, hin⟩ := hh
        cases hz
        have hin := pq_in_n hin
        have hlt : x.toNatClampNeg < n := Nat.not_le.mp fun q => hin (Or.inr q)
        exact W.lald (v := .long (f x.toNatClampNeg)) hx hb h1 (h2 n _) (fun q => by cases q) (by rw [arrV_size]; exact hin) (by rw [arrV_read _ _ hlt]) rfl rfl hd k
      · cases hz
    · cases hz
  | .inr (ci, fs), hr, hz => cases hz
theorem pg_alen {r n : Nat} {cl0 : pq_C} (X : pq_X p s m args meth c cc own nL ret nm D ad h0) (hd : decode cc pc = .ok (.arraylength, 1)) (hr : w[r]? = some cl0) (hz : pq_alen cl0 = some n)
    (k : pq_G p l e R s m args below meth c Q nL D ad h0 (pc + 1) ls (.int (Int32.ofNat n) :: st) w cs ss) : pq_G p l e R s m args below meth c Q nL D ad h0 pc ls (.ref r :: st) w cs ss := by
  obtain ⟨hx, hb, hml, hown, hts, -⟩ := X
  intro H locs lr hl hI hS
  have k := k H locs lr hl hI hS
  match cl0, hr, hz with
  | .inl (ty, n, .inl f), hr, hz =>
    obtain ⟨cell, h1, h2, h3, h4, h5⟩ := hI.rd hr
    cases hz
    exact W.alen hx hb h1 h2 h4.2 rfl rfl hd k
  | .inl (ty, n, .inr f), hr, hz =>
    obtain ⟨cA, h1, h2⟩ := pq_ald_arrL hI hr
    cases hz
    exact W.alen hx hb h1 (h2 n _) (by rw [arrV_size]) rfl rfl hd k
  | .inr (ci, fs), hr, hz => cases hz
theorem pq_upd_f (f : Nat → Int32) (j : Nat) (y : Int32) : updV (fun q => .int (f q)) j (.int y) = fun q => Value.int (upd f j y q) := by
  funext q
  by_cases h : q = j <;> simp [updV, upd, h]
theorem pq_upd_l (f : Nat → Int64) (j : Nat) (y : Int64) : updV (fun q => .long (f q)) j (.long y) = fun q => Value.long (vp_updL f j y q) := by
  funext q
  by_cases h : q = j <;> simp [updV, vp_updL, h]
theorem pq_fit_upd {ty : FieldType} {f : Nat → Int32} {k : Nat} {y : Int32} (h : ∀ j, fits ty (.int (f j)) = true) (hy : fits ty (.int y) = true) : ∀ j, fits ty (.int (upd f k y j)) = true := by
  intro j
  by_cases e : j = k
  · simp [upd, e, hy]
  · simp [upd, e, h j]
theorem pq_fit_byte (y : Int32) : fits .byte (.int (vp_nar .byte y)) = true := by
  rw [vp_nar_byte]
  exact pk_fb y
theorem pq_fit_bool (y : Int32) : fits .boolean (.int (vp_nar .boolean y)) = true := by
  have h : vp_nar .boolean y = y &&& 1 := rfl
  rw [h]
  obtain ⟨j, hj, e⟩ := pk_andE y (m := 1) 1 (by decide +kernel)
  rw [e]
  rcases (show j = 0 ∨ j = 1 by omega) with rfl | rfl <;> decide +kernel
theorem pg_ast {t r : Nat} {x : Int32} {cl0 cl1 : pq_C} {z : Value} (X : pq_X p s m args meth c cc own nL ret nm D ad h0) (hd : decode cc pc = .ok (i, 1)) (hi : (t = 0 ∧ i = .iastore) ∨ (t = 1 ∧ i = .lastore) ∨ (t = 2 ∧ i = .bastore)) (hr : w[r]? = some cl0) (hz : pq_ast cl0 x z t = some cl1) (hE : pq_E ≤ r)
    (k : pq_G p l e R s m args below meth c Q nL D ad h0 (pc + 1) ls st (w.set r cl1) cs ss) : pq_G p l e R s m args below meth c Q nL D ad h0 pc ls (z :: .int x :: .ref r :: st) w cs ss := by
  obtain ⟨hx, hb, hml, hown, hts, -, hK, -, -, -, hj, ho⟩ := X
  intro H locs lr hl hI hS
  match cl0, z, hr, hz with
  | .inl (ty, n, .inl f), .int y, hr, hz =>
    obtain ⟨cA, h1, h2, h3⟩ := pq_ald_arr hI hE hr
    rcases hi with ⟨rfl, rfl⟩ | ⟨rfl, rfl⟩ | ⟨rfl, rfl⟩
    · simp only [pq_ast] at hz
      split at hz
      · rename_i hh
        obtain ⟨rfl, hin⟩ := hh
        cases hz
        have hin := pq_in_n hin
        refine W.iast hx hb h1 (h2 n _) (fun q => by cases q) (by rw [arrV_size]; exact hin) rfl rfl hd fun H1 e1 z1 o1 => ?_
        rw [arrV_store, pq_upd_f] at e1
        exact k H1 _ lr hl (hI.set hE hj z1 o1 ⟨cA, e1, h2, pq_fit_upd h3 rfl⟩) (hS.put z1 o1 (ho r hE))
      · cases hz
    · cases hz
    · simp only [pq_ast] at hz
      split at hz
      · rename_i hh
        obtain ⟨hty, hin⟩ := hh
        cases hz
        have hin := pq_in_n hin
        rcases hty with rfl | rfl
        · refine W.bast hx hb h1 (h2 n _) (fun q => by cases q) (by rw [arrV_size]; exact hin) rfl rfl hd fun H1 e1 z1 o1 => ?_
          rw [arrV_store, show narrow .byte (.int y) = .int (vp_nar .byte y) from rfl, pq_upd_f] at e1
          exact k H1 _ lr hl (hI.set hE hj z1 o1 ⟨cA, e1, h2, pq_fit_upd h3 (pq_fit_byte y)⟩) (hS.put z1 o1 (ho r hE))
        · refine W.zast hx hb h1 (h2 n _) (fun q => by cases q) (by rw [arrV_size]; exact hin) rfl rfl hd fun H1 e1 z1 o1 => ?_
          rw [arrV_store, show narrow .boolean (.int y) = .int (vp_nar .boolean y) from rfl, pq_upd_f] at e1
          exact k H1 _ lr hl (hI.set hE hj z1 o1 ⟨cA, e1, h2, pq_fit_upd h3 (pq_fit_bool y)⟩) (hS.put z1 o1 (ho r hE))
      · cases hz
  | .inl (ty, n, .inr f), .long y, hr, hz =>
    obtain ⟨cA, h1, h2⟩ := pq_ald_arrL hI hr
    rcases hi with ⟨rfl, rfl⟩ | ⟨rfl, rfl⟩ | ⟨rfl, rfl⟩
    · cases hz
    · simp only [pq_ast] at hz
      split at hz
      · rename_i hh
        obtain ⟨rfl, hin⟩ := hh
        cases hz
        have hin := pq_in_n hin
        refine W.last hx hb h1 (h2 n _) (fun q => by cases q) (by rw [arrV_size]; exact hin) rfl rfl hd fun H1 e1 z1 o1 => ?_
        rw [arrV_store, pq_upd_l] at e1
        exact k H1 _ lr hl (hI.set hE hj z1 o1 ⟨cA, e1, h2⟩) (hS.put z1 o1 (ho r hE))
      · cases hz
    · cases hz
/-- the words of a field's sort -/
def pq_sort (d : String) : Nat := match parseFieldDescriptor d with
  | some .int => 0
  | some .long => 1
  | some .boolean => 2
  | some (.object _) => 3
  | some (.array _) => 3
  | _ => 9
theorem pq_fit_ok {d : String} {v : Value} (h : pq_fit (pq_sort d) v = true) : ∃ ty : FieldType, parseFieldDescriptor d = some ty ∧ narrow ty (pq_v ad v) = pq_v ad v ∧ fits ty (pq_v ad v) = true := by
  unfold pq_sort at h
  cases hd : parseFieldDescriptor d with
  | none =>
    rw [hd] at h
    cases v <;> simp [pq_fit] at h
  | some ty =>
    rw [hd] at h
    refine ⟨ty, rfl, ?_⟩
    cases ty
    case int => cases v <;> first | exact ⟨rfl, rfl⟩ | (simp [pq_fit] at h; done)
    case long => cases v <;> first | exact ⟨rfl, rfl⟩ | (simp [pq_fit] at h; done)
    case boolean =>
      cases v
      case int x =>
        have h : x = 0 ∨ x = 1 := of_decide_eq_true h
        rcases h with rfl | rfl
        · exact show narrow .boolean (.int 0) = .int 0 ∧ fits .boolean (.int 0) = true by decide +kernel
        · exact show narrow .boolean (.int 1) = .int 1 ∧ fits .boolean (.int 1) = true by decide +kernel
      all_goals (simp [pq_fit] at h; done)
    case object o => cases v <;> first | exact ⟨rfl, rfl⟩ | (simp [pq_fit] at h; done)
    case array o => cases v <;> first | exact ⟨rfl, rfl⟩ | (simp [pq_fit] at h; done)
    all_goals (cases v <;> simp [pq_fit] at h)
end PQ2
