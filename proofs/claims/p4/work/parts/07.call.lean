def pq_y (M : pq_M) : MethodName := M.1
def pq_by (M : pq_M) : ByteArray := M.2.1
def pq_mL (M : pq_M) : Nat := M.2.2.1
def pq_rt (M : pq_M) : Option FieldType := M.2.2.2.1
def pq_lm (M : pq_M) : Nat × Nat := M.2.2.2.2.1
def pq_ns (M : pq_M) : List Nat := M.2.2.2.2.2.1
def pq_cd (M : pq_M) : pq_B := M.2.2.2.2.2.2
def pq_lim (tab : List pq_M) (j : Nat) : Nat × Nat := match tab[j]? with
  | some M => pq_lm M
  | none => (0, 0)
def pq_ws (M : pq_M) : List Cond := Cond.code (pq_y M) (pq_by M) (pq_mL M) (pq_rt M) :: pq_gt
def pq_rm (d : Nat) (q : Nat × Nat) : Room := { frames := d, cells := q.1, slots := q.2, locals := 80 * d + 40 }
def pq_Pc (ad : Nat → Nat) (D : va_G) (as : List Value) (w : pq_W) : Array Value → State → Prop := fun v U => v = (as.map (pq_v ad)).toArray ∧ pq_I ad D w U U.heap ∧ va_K D pq_cl [] U ∧ pq_Nt ad U
def pq_Qc (ad : Nat → Nat) (D : va_G) (h0 : Nat) (r : Option Value) (w : pq_W) : Array Value → State → Outcome → State → Prop := fun _ st o t => o = .returned (r.map (pq_v ad)) ∧ pq_I ad D w t t.heap ∧ va_F (fun q => h0 ≤ q) st t
theorem pq_Ns.same {u U : State} (h : u.vm = U.vm) (hN : pq_Ns u) : pq_Ns U := fun w hw hi => by
  cases w <;> first | (cases hi; done) | exact va_Nw.same rfl h (hN _ hw hi)
theorem pq_Ns.warm {s U : State} (hW : s.WarmedH U.vm) (hN : pq_Ns s) : pq_Ns U := fun w hw hi => by
  cases w <;> first | (cases hi; done) | exact va_Nw.warmM hW (hN _ hw hi) | exact va_Nw.warmF hW (hN _ hw hi)
theorem pq_Nt.same {ad : Nat → Nat} {u U : State} (h : u.vm = U.vm) (hN : pq_Nt ad u) : pq_Nt ad U := ⟨pq_Ns.same h hN.1, vk_R.same h.symm hN.2⟩
theorem pq_Nt.warm {ad : Nat → Nat} {s U : State} (hW : s.WarmedH U.vm) (hN : pq_Nt ad s) : pq_Nt ad U := ⟨pq_Ns.warm hW hN.1, vk_R.warm hW hN.2⟩
theorem pq_blind (ad : Nat → Nat) (D : va_G) (as : List Value) (w : pq_W) : FrameBlind (pq_Pc ad D as w) := fun a U g mk q => by
  obtain ⟨h1, h2, h3, h4⟩ := q
  exact ⟨h1, h2.moved (u := U) (U := U.calling g mk a) (Vm.Alike.refl U.vm), va_K.moved (u := U) (U := U.calling g mk a) (Vm.Alike.refl U.vm) h3, pq_Nt.same (u := U) (U := U.calling g mk a) rfl h4⟩
/-- the facts of a method: numbers are kind (0 static, 1 virtual, 2 init), arguments without the receiver; the seventh: its cells' number -/
def pq_mf (M : pq_M) (kd n : Nat) : Prop := Cond.code (pq_y M) (pq_by M) (pq_mL M) (pq_rt M) ∈ pq_gt ∧ Cond.initialized (pq_y M).cls ∈ pq_gt ∧ plainName (pq_y M).cls = true ∧ ((pq_y M).cls ≠ "java/lang/invoke/MethodHandle" ∧ (pq_y M).cls ≠ "java/lang/invoke/VarHandle" ∧ (parseMethodDescriptor (pq_y M).desc).map (fun d => d.parameters.length) = some n) ∧ pq_mL M ≤ 60 ∧
  (kd = 0 ∧ Cond.static (pq_y M) ∈ pq_gt ∨ kd = 1 ∧ Cond.instanceMethod (pq_y M) ∈ pq_gt ∧ Cond.selects (pq_y M).cls (pq_y M) (pq_y M) ∈ pq_gt ∧ ((pq_cl[(pq_ns M).getD 6 99]?).map (fun q => q.1) = some (pq_y M).cls ∨ (pq_ns M).getD 6 99 = 99 ∧ (pq_y M).cls = "java/lang/String") ∨ kd = 2 ∧ Cond.instanceMethod (pq_y M) ∈ pq_gt ∧ (pq_y M).name = "<init>" ∧ pq_rt M = none)
section PQ4
variable {p : Program} {l : Launch} {e : Env} {R : Room} {s : State} {m : MethodId} {args : Array Value} {below : List Frame} {meth : Method} {c : Code} {Q : State → Prop} {cc : ByteArray} {own : String} {nL : Nat} {ret : Option FieldType} {nm : String} {D : va_G} {ad : Nat → Nat} {h0 pc cs ss : Nat} {ls : pq_L} {st : List Value} {w : pq_W} {i : Instr}
theorem pq_callW {H : Heap} {locs : List Loc} {mc ms : Nat} {lr : Array Slot} {st0 rest : List Value} {r : Option Value} {w1 : pq_W} {a : Array Value} (hr : va_Run p l e R s m args below meth c H locs cs ss mc ms (F0 m pc lr st0) rest (pq_Qc ad D h0 r w1 a) (fun q => h0 ≤ q)) (hS : va_S (fun q => h0 ≤ q) s.heap H locs)
    (kk : ∀ (H1 : Heap) (locs1 : List Loc), pq_I ad D w1 s H1 → va_S (fun q => h0 ≤ q) s.heap H1 locs1 → W p l e R s m args below meth c H1 locs1 (cs + mc) (ss + ms) Q (F0 m (pc + 3) lr ((r.map (pq_v ad)).toList ++ rest))) : W p l e R s m args below meth c H locs cs ss Q (F0 m pc lr st0) := by
  intro T hT X
  obtain ⟨v, st₀, t, T', L, e0, X', hL, e1, e2, ⟨hv, hI1, hz, hk⟩, st⟩ := hr T hT X
  cases hv
  rw [e0] at hz hk
  have hal : s.vm.Alike t.vm := by rw [← e2]; exact X'.warmed.alike
  obtain ⟨t2, a1, b1⟩ := kk T'.heap (locs ++ L) (by rw [e1]; exact hI1.moved hal.symm)
    ⟨Nat.le_trans hS.1 (by rw [e1]; exact hz), fun q h1 h2 => by rw [e1, hk q (Nat.lt_of_lt_of_le h1 hS.1) h2]; exact hS.2.1 q h1 h2, fun q hq => by
      rcases List.mem_append.mp hq with h | h
      · exact hS.2.2 q h
      · exact hL q h⟩ T' rfl X'
  exact ⟨t2, st t2 a1, b1⟩
theorem pq_pre {H : Heap} {as : List Value} {av : List Value} (hK : va_K D pq_cl [] s) (hN : pq_Nt ad s) (hI : pq_I ad D w s H) (ha : av = as.map (pq_v ad)) : PreS s H (pq_Pc ad D as w) av :=
  ⟨pq_blind ad D as w, fun U hU hW => ⟨by rw [ha], by rw [hU]; exact hI.moved hW.alike, va_K.moved hW.alike hK, hN.warm hW⟩⟩
theorem pq_recv {H : Heap} {r ci : Nat} {fs : List Value} {q : vw_C} (hK : va_K D pq_cl [] s) (hI : pq_I ad D w s H) (hr : w[r]? = some (.inr (ci, fs))) (hc : pq_cl[ci]? = some q) : ∃ cell : Cell, H[ad r]? = some cell ∧ cell.vm.isStatics = false ∧ s.vm.findClass q.1 = some cell.cls := by
  obtain ⟨r1, h1, cell, q1, q2, q3, q4⟩ := hI.obj hr hc
  exact ⟨cell, q1, by rw [q3]; rfl, by rw [q2]; exact (hK.1 ci q hc).2.1⟩
theorem pq_recvS {H : Heap} {r : Nat} {fs : List Value} (hI : pq_I ad D w s H) (hr : w[r]? = some (.inr (99, fs))) : ∃ cell : Cell, H[ad r]? = some cell ∧ cell.vm.isStatics = false ∧ s.vm.findClass "java/lang/String" = some cell.cls := by
  by_cases q : pq_E ≤ r
  · obtain ⟨r1, h1, -⟩ := (hI.2.2 r _ hr).1 q
    cases h1
  · obtain ⟨-, ⟨cell, a1, a2, a3, -⟩, -⟩ := (hI.2.2 r _ hr).2 (by omega)
    exact ⟨cell, a1, a2, a3⟩
theorem pq_goodws {M : pq_M} (h : Cond.code (pq_y M) (pq_by M) (pq_mL M) (pq_rt M) ∈ pq_gt) : GoodIn pq_gt (pq_ws M) := fun w hw => by
  rcases List.mem_cons.mp hw with rfl | hw
  · exact pq_gt_good _ h
  · exact pq_gt_good _ hw
/-- a call: static 0, virtual 1, init 2 -/
theorem pg_call {M : pq_M} {kd n d idx : Nat} {as rest : List Value} {r : Option Value} {w1 : pq_W} (X : pq_X p s m args meth c cc own nL ret nm D ad h0) (hM : Met l (pq_y M) (pq_ws M) (pq_rm d (pq_lm M)) (pq_Pc ad D as w) (pq_Qc ad D h0 r w1) (pq_lm M).1 (pq_lm M).2 (fun q => h0 ≤ q)) (hm : pq_mf M kd n)
    (hd : (kd = 0 ∧ decode cc pc = .ok (.invokestatic idx, 3) ∧ as.length = n) ∨ (kd = 1 ∧ decode cc pc = .ok (.invokevirtual idx, 3) ∧ as.length = n + 1 ∧ ∃ (b ci : Nat) (fs : List Value), as[0]? = some (.ref b) ∧ w[b]? = some (.inr (ci, fs)) ∧ ((∃ q : vw_C, pq_cl[ci]? = some q ∧ q.1 = (pq_y M).cls) ∨ ci = 99 ∧ (pq_y M).cls = "java/lang/String")) ∨ (kd = 2 ∧ decode cc pc = .ok (.invokespecial idx, 3) ∧ as.length = n + 1 ∧ ∃ b : Nat, as[0]? = some (.ref b)))
    (hl : Cond.methodLink own idx (pq_y M) ∈ pq_gt ∨ ∃ host : String, Cond.methodLinkNest own idx (pq_y M) host ∈ lw_tbl) (hR1 : d + 1 ≤ R.frames) (hR2 : 80 * d + 120 ≤ R.locals) (hsum : pq_sum rest ≤ 8) (hc1 : cs + (pq_lm M).1 ≤ R.cells) (hc2 : ss + (pq_lm M).2 ≤ R.slots)
    (k : pq_G p l e R s m args below meth c Q nL D ad h0 (pc + 3) ls (r.toList ++ rest) w1 (cs + (pq_lm M).1) (ss + (pq_lm M).2)) : pq_G p l e R s m args below meth c Q nL D ad h0 pc ls (as.reverse ++ rest) w cs ss := by
  obtain ⟨hx, hb, hml, hown, hts, hN, hK, -⟩ := X
  intro H locs lr hlr hI hS
  obtain ⟨m1, m2, m3, m4, m5, m6⟩ := hm
  have hk : ∀ (H1 : Heap) (locs1 : List Loc), pq_I ad D w1 s H1 → va_S (fun q => h0 ≤ q) s.heap H1 locs1 → W p l e R s m args below meth c H1 locs1 (cs + (pq_lm M).1) (ss + (pq_lm M).2) Q (F0 m (pc + 3) lr ((r.map (pq_v ad)).toList ++ rest.map (pq_v ad))) := by
    intro H1 locs1 a1 a2
    have := k H1 locs1 lr hlr a1 a2
    rw [List.map_append] at this
    rw [show (r.map (pq_v ad)).toList = r.toList.map (pq_v ad) by cases r <;> rfl]
    exact this
  have hRR : (pq_rm d (pq_lm M)).frames + 1 ≤ R.frames ∧ 8 + (pq_mL M + 11) + (pq_rm d (pq_lm M)).locals ≤ R.locals := ⟨hR1, by show 8 + (pq_mL M + 11) + (80 * d + 40) ≤ R.locals; omega⟩
  have hroom : 2 * (F0 m pc lr ((as.reverse ++ rest).map (pq_v ad))).monitorRoom + ((rest.map (pq_v ad)).map fun v => v.category).sum ≤ 8 := by
    show 2 * 0 + _ ≤ 8
    rw [pq_sum_v]; omega
  rcases hd with ⟨rfl, hd, hn⟩ | ⟨rfl, hd, hn, b, ci, fs, ha, hb1, hrcv⟩ | ⟨rfl, hd, hn, b, ha⟩
  · have hst : Cond.static (pq_y M) ∈ pq_gt := by
      rcases m6 with h | h | h
      · exact h.2
      · exact absurd h.1 (by decide)
      · exact absurd h.1 (by decide)
    rcases hl with hl | ⟨host, hl⟩
    · exact pq_callW (va_runS (As := as.map (pq_v ad)) (rest := rest.map (pq_v ad)) ⟨hx, hb, hml, hown, hts⟩ hM ⟨callB_of n hts (pq_goodws m1) rfl rfl rfl (hts _ m2) (hts _ hl) m4 hRR, hts _ hst⟩ (pq_pre hK hN hI rfl) rfl (by rw [List.length_map]; exact hn) hlr.1 (by rw [List.map_append, List.map_reverse]) hroom hd ⟨hc1, hc2⟩) hS hk
    · exact pq_callW (va_runSN (As := as.map (pq_v ad)) (rest := rest.map (pq_v ad)) ⟨hx, hb, hml, hown, hts⟩ hM ⟨va_cnB n hts (pq_goodws m1) rfl rfl rfl (hN.1 _ hl rfl) (hts _ m2) m4 hRR, hts _ hst, trivial⟩ (pq_pre hK hN hI rfl) rfl (by rw [List.length_map]; exact hn) hlr.1 (by rw [List.map_append, List.map_reverse]) hroom hd ⟨hc1, hc2⟩) hS hk
  · obtain ⟨as1, rfl⟩ : ∃ as1, as = .ref b :: as1 := by
      cases as with
      | nil => cases ha
      | cons z as1 => cases ha; exact ⟨as1, rfl⟩
    have hw1 : Cond.instanceMethod (pq_y M) ∈ pq_gt ∧ Cond.selects (pq_y M).cls (pq_y M) (pq_y M) ∈ pq_gt := by
      rcases m6 with h | h | h
      · exact absurd h.1 (by decide)
      · exact ⟨h.2.1, h.2.2.1⟩
      · exact absurd h.1 (by decide)
    have hrv : ∃ cell : Cell, H[ad b]? = some cell ∧ cell.vm.isStatics = false ∧ s.vm.findClass (pq_y M).cls = some cell.cls := by
      rcases hrcv with ⟨q, hcq, hq⟩ | ⟨e1, e2⟩
      · have hrv := pq_recv hK hI hb1 hcq
        rw [hq] at hrv
        exact hrv
      · subst e1
        rw [e2]
        exact pq_recvS hI hb1
    have hpr := pq_pre (as := .ref b :: as1) hK hN hI rfl
    have hlen : (as1.map (pq_v ad)).length = n := by rw [List.length_map]; exact Nat.succ.inj hn
    have hstk : ((.ref b :: as1).reverse ++ rest).map (pq_v ad) = (as1.map (pq_v ad)).reverse ++ .ref (ad b) :: rest.map (pq_v ad) := by
      rw [List.reverse_cons, List.append_assoc, List.map_append, List.map_reverse]
      rfl
    rcases hl with hl | ⟨host, hl⟩
    · exact pq_callW (va_runV (As := as1.map (pq_v ad)) (rest := rest.map (pq_v ad)) ⟨hx, hb, hml, hown, hts⟩ hM ⟨callB_of n hts (pq_goodws m1) rfl rfl rfl (hts _ m2) (hts _ hl) m4 hRR, hts _ hw1.1, hts _ hw1.2⟩ ⟨hpr.1, hrv, hpr.2⟩ rfl hlen hlr.1 hstk hroom hd ⟨hc1, hc2⟩) hS hk
    · exact pq_callW (va_runVN (As := as1.map (pq_v ad)) (rest := rest.map (pq_v ad)) ⟨hx, hb, hml, hown, hts⟩ hM ⟨va_cnB n hts (pq_goodws m1) rfl rfl rfl (hN.1 _ hl rfl) (hts _ m2) m4 hRR, hts _ hw1.1, hts _ hw1.2⟩ ⟨hpr.1, hrv, hpr.2⟩ rfl hlen hlr.1 hstk hroom hd ⟨hc1, hc2⟩) hS hk
  · obtain ⟨as1, rfl⟩ : ∃ as1, as = .ref b :: as1 := by
      cases as with
      | nil => cases ha
      | cons z as1 => cases ha; exact ⟨as1, rfl⟩
    have hw1 : Cond.instanceMethod (pq_y M) ∈ pq_gt ∧ (pq_y M).name = "<init>" ∧ pq_rt M = none := by
      rcases m6 with h | h | h
      · exact absurd h.1 (by decide)
      · exact absurd h.1 (by decide)
      · exact h.2
    have hpr := pq_pre (as := .ref b :: as1) hK hN hI rfl
    have hlen : (as1.map (pq_v ad)).length = n := by rw [List.length_map]; exact Nat.succ.inj hn
    have hstk : ((.ref b :: as1).reverse ++ rest).map (pq_v ad) = (as1.map (pq_v ad)).reverse ++ .ref (ad b) :: rest.map (pq_v ad) := by
      rw [List.reverse_cons, List.append_assoc, List.map_append, List.map_reverse]
      rfl
    have hwe : pq_ws M = Cond.code (pq_y M) (pq_by M) (pq_mL M) none :: pq_gt := by rw [← hw1.2.2]; rfl
    rcases hl with hl | ⟨host, hl⟩
    · exact pq_callW (va_runI (As := as1.map (pq_v ad)) (rest := rest.map (pq_v ad)) ⟨hx, hb, hml, hown, hts⟩ hM ⟨callB_of n hts (pq_goodws m1) hwe rfl rfl (hts _ m2) (hts _ hl) m4 hRR, hw1.2.1, hts _ hw1.1⟩ hpr rfl hlen hlr.1 hstk hroom hd ⟨hc1, hc2⟩) hS hk
    · exact pq_callW (va_runIN (As := as1.map (pq_v ad)) (rest := rest.map (pq_v ad)) ⟨hx, hb, hml, hown, hts⟩ hM ⟨va_cnB n hts (pq_goodws m1) hwe rfl rfl (hN.1 _ hl rfl) (hts _ m2) m4 hRR, hw1.2.1, hts _ hw1.1⟩ hpr rfl hlen hlr.1 hstk hroom hd ⟨hc1, hc2⟩) hS hk
theorem pq_end {H : Heap} {locs : List Loc} {r : Option Value} (hI : pq_I ad D w s H) (hS : va_S (fun q => h0 ≤ q) s.heap H locs) : ∀ t : State, t.heap = H → s.WarmedH t.vm → pq_Qc ad D h0 r w args s (.returned (r.map (pq_v ad))) t := fun t ht hW => ⟨rfl, by rw [ht]; exact hI.moved hW.alike, hS.F ht⟩
theorem pg_iret {x : Int32} {lm : Nat × Nat} (X : pq_X p s m args meth c cc own nL ret nm D ad h0) (hd : decode cc pc = .ok (.ireturn, 1)) (hr : ret = some .int ∨ (ret = some .boolean ∨ ret = some .byte) ∧ (x = 0 ∨ x = 1)) (h1 : cs ≤ lm.1) (h2 : ss ≤ lm.2) : pq_G p l e R s m args below meth c (MQ below (pq_Qc ad D h0 (some (.int x)) w) args s lm.1 lm.2 (fun q => h0 ≤ q)) nL D ad h0 pc ls [.int x] w cs ss := by
  obtain ⟨hx, hb, hml, hown, hts, -, -, hrt, hlk, -⟩ := X
  intro H locs lr hl hI hS
  refine W.widen h1 h2 ?_
  rcases hr with rfl | ⟨rfl | rfl, hv⟩
  · exact W.iret hx hb hrt (pq_end (r := some (.int x)) hI hS) hS.2.2 hd hlk
  · exact W.zret hx hb hrt (by rcases hv with rfl | rfl <;> decide +kernel) (pq_end (r := some (.int x)) hI hS) hS.2.2 hd hlk
  · exact W.zret hx hb hrt (by rcases hv with rfl | rfl <;> decide +kernel) (pq_end (r := some (.int x)) hI hS) hS.2.2 hd hlk
theorem pg_lret {x : Int64} {lm : Nat × Nat} (X : pq_X p s m args meth c cc own nL ret nm D ad h0) (hd : decode cc pc = .ok (.lreturn, 1)) (hr : ret = some .long) (h1 : cs ≤ lm.1) (h2 : ss ≤ lm.2) : pq_G p l e R s m args below meth c (MQ below (pq_Qc ad D h0 (some (.long x)) w) args s lm.1 lm.2 (fun q => h0 ≤ q)) nL D ad h0 pc ls [.long x] w cs ss := by
  obtain ⟨hx, hb, hml, hown, hts, -, -, hrt, hlk, -⟩ := X
  intro H locs lr hl hI hS
  refine W.widen h1 h2 ?_
  subst hr
  exact W.lret hx hb hrt (pq_end (r := some (.long x)) hI hS) hS.2.2 hd hlk
theorem pg_vret {lm : Nat × Nat} (X : pq_X p s m args meth c cc own nL ret nm D ad h0) (hd : decode cc pc = .ok (.return_, 1)) (hr : ret = none) (h1 : cs ≤ lm.1) (h2 : ss ≤ lm.2) : pq_G p l e R s m args below meth c (MQ below (pq_Qc ad D h0 none w) args s lm.1 lm.2 (fun q => h0 ≤ q)) nL D ad h0 pc ls [] w cs ss := by
  obtain ⟨hx, hb, hml, hown, hts, -, -, hrt, hlk, -⟩ := X
  intro H locs lr hl hI hS
  refine W.widen h1 h2 ?_
  subst hr
  exact W.vret hx hb hrt (pq_end (r := none) hI hS) hS.2.2 hd hlk
end PQ4
