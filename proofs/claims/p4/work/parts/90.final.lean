/-! THE CLAIM OUT OF ONE WALK OF THE LAW'S BODY. Your part is whole_start (and what it stands on); all else here is the same for every law, but numbers. -/
def R_law : String := "SkyFeesLaw"
def lw_P (b : Addr) (xs : List Int32) (args : Array Value) (s : State) : Prop := args = #[.ref b] ∧ s.IntsAt b xs ∧ xs.length ≤ 3072 ∧ (Jvm.Cond.and given_1 narrow_1).before args s = true
def lw_Q (_ : Array Value) (s : State) (o : Outcome) (t : State) : Prop := o = .returned (some (.int 1)) ∧ Framed s o t [] 600000 7302250
def lw_Z (below : List Frame) (a : Array Value) (s : State) : State → Prop := fun t => ∃ o, t.status = .running ∧ Ended t below o ∧ lw_Q a s o t
/-- the law's own end, with 1 on the stack, nothing written that was there before, its room as the claim has it -/
theorem lw_ret {p : Program} {l : Launch} {e : Env} {s : State} {m : MethodId} {below : List Frame} {meth : Method} {c : Code} {b : Nat} (hx : p.tables.exec = Jvm.exec) (hb : c.code = code) (hr : meth.sig.returnType = ret) (hlocks : meth.locks = false) {pc : Nat} {H : Heap} {ls : Array Slot} (hdg : decode code pc = .ok (.ireturn, 1)) : W p l e room_1 s m #[Value.ref b] below meth c H [] 600000 7302250 (lw_Z below #[Value.ref b] s) (F0 m pc ls [.int 1]) := by
  intro T hT X
  obtain ⟨fs, hret, hrun, hended, hW, hframe⟩ := X.leave (v := some (.int 1)) (hlocks := hlocks) (fun h => by rw [hr] at h; cases h)
  have hmeth' : T.vm.method? m = some meth := X.method'
  refine ⟨T.setFrames fs, ?_, .returned (some (.int 1)), hrun, hended, rfl, ⟨_, rfl⟩, hW, hframe⟩
  jvm_step X.here [X.here.top, hx, hb, hdg, hmeth', hr, ret, narrow_b1]
  (try refine ⟨rfl, ?_⟩); (try refine ⟨rfl, ?_⟩)
  first | (intro acts; rw [hret _ acts rfl rfl rfl]) | rw [hret _ _ rfl rfl rfl]
  exact Steps.refl _
/-- what holds at the law's entry: the machine, the code, the tables' words (any of lw_tbl by 'hts w (by decide +kernel)'), the script of L ints xs at the cell b, what the Statement gives of the start (any of its parts by flat_of_before) -/
def lw_At (p : Program) (s : State) (m : MethodId) (meth : Method) (c : Code) (b L : Nat) (xs : Nat → Int32) : Prop :=
  p.tables.exec = Jvm.exec ∧ c.code = code ∧ meth.sig.returnType = ret ∧ c.maxLocals = 4 ∧ s.vm.findClass R_law = some m.cls ∧ (∀ w ∈ lw_tbl, w.before #[Value.ref b] s = true) ∧ va_X b L xs s s.heap ∧ b < s.heap.size ∧ meth.locks = false ∧ (Jvm.Cond.and given_1 narrow_1).before #[Value.ref b] s = true
-- ===== MY PART BEGINS =====
set_option maxHeartbeats 4000000 in
set_option maxRecDepth 100000 in
/-- from the entry, for every script of at most 3072 ints, the law comes to its end with true -/
theorem whole_start {p : Program} {e : Env} {s : State} {m : MethodId} {below : List Frame} {meth : Method} {c : Code} (l : Launch) {b L : Nat} {xs : Nat → Int32} (hL : L ≤ 3072) (hmn : meth.name = x.name) (C0 : lw_At p s m meth c b L xs) : W p l e room_1 s m #[Value.ref b] below meth c s.heap [] 0 0 (lw_Z below #[Value.ref b] s) (entryFrame m ([Value.ref b] : List Value).toArray 4) := by
  obtain ⟨hx, hb, hr, hml, hown, hts, hX, hbl, hlocks, hgv⟩ := id C0
  have hgt : ∀ w ∈ pq_gt, w.before #[Value.ref b] s = true := fun w hw => hts w (List.mem_filter.mp hw).1
  have hN : pq_Ns s := fun w hw hi => by
    cases w <;> first | (cases hi; done) | exact va_Nw.of rfl (hts _ hw)
  obtain ⟨c0, iS0, hKn0⟩ := u_known (C := RX0) (T := TX0) (N := 6) (n := 6) hgt pq_in0 (hgt _ (pq_gt_mem 2048 (by decide +kernel) rfl))
  obtain ⟨c1, iS1, hKn1⟩ := u_known (C := RX1) (T := TX1) (N := 6) (n := 6) hgt pq_in1 (hgt _ (pq_gt_mem 2023 (by decide +kernel) rfl))
  obtain ⟨c2, iS2, hKn2⟩ := u_known (C := RX2) (T := TX2) (N := 9) (n := 9) hgt pq_in2 (hgt _ (pq_gt_mem 1090 (by decide +kernel) rfl))
  obtain ⟨c3, iS3, hKn3⟩ := u_known (C := RX3) (T := TX3) (N := 12) (n := 12) hgt pq_in3 (hgt _ (pq_gt_mem 1172 (by decide +kernel) rfl))
  obtain ⟨c4, iS4, hKn4⟩ := u_known (C := RX4) (T := TX4) (N := 6) (n := 6) hgt pq_in4 (hgt _ (pq_gt_mem 1236 (by decide +kernel) rfl))
  obtain ⟨c5, iS5, hKn5⟩ := u_known (C := RX5) (T := TX5) (N := 6) (n := 6) hgt pq_in5 (hgt _ (pq_gt_mem 2073 (by decide +kernel) rfl))
  obtain ⟨c6, iS6, hKn6⟩ := u_known (C := RX6) (T := TX6) (N := 3) (n := 3) hgt pq_in6 (hgt _ (pq_gt_mem 2124 (by decide +kernel) rfl))
  obtain ⟨c7, iS7, hKn7⟩ := u_known (C := RX7) (T := TX7) (N := 10) (n := 10) hgt pq_in7 (hgt _ (pq_gt_mem 1030 (by decide +kernel) rfl))
  obtain ⟨c8, iS8, hKn8⟩ := u_known (C := RX8) (T := TX8) (N := 7) (n := 7) hgt pq_in8 (hgt _ (pq_gt_mem 1138 (by decide +kernel) rfl))
  obtain ⟨c9, iS9, hKn9⟩ := u_known (C := RX9) (T := TX9) (N := 5) (n := 5) hgt pq_in9 (hgt _ (pq_gt_mem 2100 (by decide +kernel) rfl))
  obtain ⟨c10, iS10, hKn10⟩ := u_known (C := RX10) (T := TX10) (N := 16) (n := 16) hgt pq_in10 (hgt _ (pq_gt_mem 1022 (by decide +kernel) rfl))
  obtain ⟨c11, iS11, hKn11⟩ := u_known (C := RX11) (T := TX11) (N := 26) (n := 26) hgt pq_in11 (hgt _ (pq_gt_mem 5110 (by decide +kernel) rfl))
  obtain ⟨dC, dI, hKc⟩ : ∃ (dC : Nat → ClassId) (dI : Nat → Nat → Nat), ∀ (k : Nat) (q : vw_C), pq_cl[k]? = some q → u_Kn s q.1 q.2.1 q.2.2 (dC k) (dI k) := by
    refine ⟨fun k => match k with
      | 0 => c0
      | 1 => c1
      | 2 => c2
      | 3 => c3
      | 4 => c4
      | 5 => c5
      | 6 => c6
      | 7 => c7
      | 8 => c8
      | 9 => c9
      | 10 => c10
      | _ => c11, fun k => match k with
      | 0 => iS0
      | 1 => iS1
      | 2 => iS2
      | 3 => iS3
      | 4 => iS4
      | 5 => iS5
      | 6 => iS6
      | 7 => iS7
      | 8 => iS8
      | 9 => iS9
      | 10 => iS10
      | _ => iS11, ?_⟩
    intro k q hq
    match k, hq with
    | 0, hq => cases hq; exact hKn0
    | 1, hq => cases hq; exact hKn1
    | 2, hq => cases hq; exact hKn2
    | 3, hq => cases hq; exact hKn3
    | 4, hq => cases hq; exact hKn4
    | 5, hq => cases hq; exact hKn5
    | 6, hq => cases hq; exact hKn6
    | 7, hq => cases hq; exact hKn7
    | 8, hq => cases hq; exact hKn8
    | 9, hq => cases hq; exact hKn9
    | 10, hq => cases hq; exact hKn10
    | 11, hq => cases hq; exact hKn11
    | k + 12, hq => simp [pq_cl] at hq
  have hK : va_K (dC, dI) pq_cl [] s := ⟨hKc, fun k q h => by simp at h⟩
  obtain ⟨aA, aB, aS, aV, ⟨gA, gB, gS, gV⟩, hSt⟩ := st_all hgv hts
  obtain ⟨ad, had⟩ : ∃ ad : Nat → Nat, ad = fun i => if i = 0 then b else if i = 1 then aA else if i = 2 then aB else if i = 3 then aS else if i = 4 then aV else s.heap.size + (i - 5) := ⟨_, rfl⟩
  have had0 : ad 0 = b := by rw [had]; rfl
  have hadA : ad 1 = aA := by rw [had]; rfl
  have hadB : ad 2 = aB := by rw [had]; rfl
  have hadS : ad 3 = aS := by rw [had]; rfl
  have hadV : ad 4 = aV := by rw [had]; rfl
  have had1 : ∀ i, 5 ≤ i → ad i = s.heap.size + (i - 5) := fun i hi => by
    rw [had]
    show (if i = 0 then b else if i = 1 then aA else if i = 2 then aB else if i = 3 then aS else if i = 4 then aV else s.heap.size + (i - 5)) = _
    rw [if_neg (by omega), if_neg (by omega), if_neg (by omega), if_neg (by omega), if_neg (by omega)]
  have hlo : ∀ j, j < 5 → ad j < s.heap.size := fun j hj => by
    match j, hj with
    | 0, _ => rw [had0]; exact hbl
    | 1, _ => rw [hadA]; exact gA
    | 2, _ => rw [hadB]; exact gB
    | 3, _ => rw [hadS]; exact gS
    | 4, _ => rw [hadV]; exact gV
  have hinj : ∀ i j, pq_E ≤ i → ad i = ad j → i = j := by
    intro i j hi h
    have hi : 5 ≤ i := hi
    rw [had1 i hi] at h
    rcases Nat.lt_or_ge j 5 with hj | hj
    · have := hlo j hj
      omega
    · rw [had1 j hj] at h
      omega
  have hout : ∀ i, pq_E ≤ i → s.heap.size ≤ ad i := fun i hi => by
    rw [had1 i hi]
    omega
  have hwr : ∀ a : Nat, a < s.heap.size → ¬ pq_wr ad a := fun a ha h => by
    obtain ⟨i, h1, h2⟩ := h
    have := hout i h1
    omega
  obtain ⟨k1, k2, k3, k4, k5, k6⟩ := hSt (pq_wr ad) hwr
  obtain ⟨w', N, hg⟩ := lq_all hL (fw_WI (.inl (.int, L, .inl xs)))
  have hex := hg 300 N N (Nat.le_refl _) (Nat.le_refl _) (Nat.le_refl _)
  have hI : pq_I ad (dC, dI) [.inl (.int, L, .inl xs), cc1, cc2, cc3, cc4] s s.heap := by
    refine ⟨fun k => ?_, ⟨Nat.le_refl _, ?_⟩, fun i y hy => ?_⟩
    · show ad (5 + k) = _
      rw [had1 (5 + k) (by omega)]
      omega
    · unfold pq_St
      rw [hadA, hadB]
      exact k1
    · have hi : i < 5 := (List.getElem?_eq_some_iff.mp hy).1
      refine ⟨fun q => absurd hi (Nat.not_lt.mpr q), fun _ => ?_⟩
      match i, hi, hy with
      | 0, _, hy =>
        cases hy
        obtain ⟨scr, h1, h2, h3, h4, h5⟩ := hX
        exact ⟨scr, by rw [had0]; exact h1, h2, h3, ⟨Nat.le_of_eq h4.symm, by rw [h4]⟩, h5⟩
      | 1, _, hy =>
        cases hy
        obtain ⟨cell, h1, h2, h3, h4, h5, h6, -⟩ := k2
        exact ⟨cell, by rw [hadA]; exact h1, h2, h3, ⟨h4, h5⟩, h6⟩
      | 2, _, hy =>
        cases hy
        obtain ⟨cell, h1, h2, h3, h4, h5, h6, -⟩ := k3
        exact ⟨cell, by rw [hadB]; exact h1, h2, h3, ⟨h4, h5⟩, h6⟩
      | 3, _, hy =>
        cases hy
        show 99 = 99 ∧ _
        rw [hadS, hadV]
        exact ⟨rfl, k4⟩
      | 4, _, hy =>
        cases hy
        obtain ⟨cell, h1, h2, h3, h4, h5, h6, -⟩ := k5
        exact ⟨cell, by rw [hadV]; exact h1, h2, h3, ⟨h4, h5⟩, h6⟩
  have X : pq_X p s m #[Value.ref b] meth c (pq_by pm_law) (pq_y pm_law).cls (pq_mL pm_law) (pq_rt pm_law) (pq_y pm_law).name (dC, dI) ad s.heap.size := ⟨hx, hb, hml, hown, hgt, ⟨hN, by rw [hadS]; exact k6⟩, hK, hr, hlocks, hmn, hinj, hout⟩
  have hl := lv_entry ([.ref b]) (n := 4) (Nat.le_of_ble_eq_true rfl)
  rw [lg_entry_eq]
  have hl2 : pq_ls ad [(0, .ref 0)] = lv_args 0 [.ref b] := by
    show [(0, Value.ref (ad 0))] = [(0, Value.ref b)]
    rw [had0]
  rw [← hl2] at hl
  refine pq_exec_ok (d := 300) (M := pm_law) tab_ok law_rows (pq_met tab_ok N l ad (dC, dI) s.heap.size hinj hout 300) ⟨by decide, by decide, by decide, by decide⟩ (fun pc ls st cs ss i he h1 h2 => ?_) X N 0 [(0, .ref 0)] [] [.inl (.int, L, .inl xs), cc1, cc2, cc3, cc4] 0 0 hex s.heap [] _ hl hI va_S.rf
  rcases he with ⟨a1, rfl, y, rfl, a2, -⟩ | ⟨a1, rfl, y, rfl, a2, -⟩ | ⟨a1, rfl, rfl, a2, -⟩
  · cases a2
    intro H locs lr hlr hI2 hS
    refine W.widen (k := 600000) (n := 7302250) h1 h2 ?_
    refine va_forget hS.2.2 ?_
    exact lw_ret hx hb hr hlocks a1
  · cases a2
  · cases a2
-- ===== YOUR PART ENDS =====
set_option maxHeartbeats 4000000 in
theorem lw_walk (l : Launch) (b : Addr) (xs : List Int32) : MetFree l x (headSpec (Jvm.Cond.code x code maxLocals ret :: tables_1) room_1) (lw_P b xs) (fun _ _ _ _ _ => True) lw_Q := by
  refine MetFree.of_bodyS (code := code) (maxLocals := maxLocals) (ret := ret) (by decide) ?_ ?_
  · intro args s m h hn
    obtain ⟨meth, c, h1, h2, h3, h4, h5, h6, -, -⟩ := Cond.code_spec hn (atoms_spec (ws := Jvm.Cond.code x code maxLocals ret :: tables_1) h _ List.mem_cons_self)
    exact ⟨meth, c, h1, h2, h3, h4, h5, h6⟩
  · intro p e s m args below meth c s₁ B hml0 hP _
    obtain ⟨rfl, hx, hbd, hgv⟩ := hP
    obtain ⟨scr, harrAt, hlist, hof, hsmall⟩ := hx
    obtain ⟨hcb, hkn, -, -⟩ := State.arrayAt?_spec harrAt
    have hown : s.vm.findClass R_law = some m.cls := findClass_of_methodNamed B.named
    have hts0 : ∀ c ∈ (Jvm.Cond.code x code maxLocals ret :: tables_1), c.before #[Value.ref b] s = true := atoms_spec (ws := Jvm.Cond.code x code maxLocals ret :: tables_1) B.pre
    have hts : ∀ w ∈ lw_tbl, w.before #[Value.ref b] s = true := k2_hts_sels lw_privs (fun w hw => hts0 w (List.mem_cons_of_mem _ hw)) lw_privs_ok
    have hml : c.maxLocals = 4 := B.maxLocals_eq (hts0 _ List.mem_cons_self)
    have X₀ : Stand p l e room_1 s m #[Value.ref b] below meth c s₁ [] 0 0 := Stand.of_body B
    have hh0 : s₁.heap = s.heap := by rw [B.state]; rfl
    have hsz : scr.slots.size = xs.length := by rw [← Array.length_toList, hlist, List.length_map]
    have hval : ∀ j : Nat, j < xs.length → scr.slots[j]? = some (.int (xs.getD j 0)) := fun j hj => by
      rw [← Array.getElem?_toList, hlist]
      simp [hj]
    have hbl : b < s.heap.size := (Array.getElem?_eq_some_iff.mp hcb).1
    have hX : va_X b xs.length (fun j => xs.getD j 0) s s.heap := ⟨scr, hcb, hof, hkn, hsz, hval⟩
    have K : W p l e room_1 s m #[Value.ref b] below meth c s₁.heap [] 0 0 (lw_Z below #[Value.ref b] s) (entryFrame m ([Value.ref b] : List Value).toArray 4) := by
      rw [hh0]
      exact whole_start l hbd (name_of_methodNamed B.named B.method).1 ⟨B.exec, B.bytes, B.returns, hml, hown, hts, hX, hbl, B.notSynchronized, hgv⟩
    obtain ⟨t, a1, o, b1, b2, b3⟩ := K s₁ rfl X₀
    exact ⟨t, o, a1, b1, b2, b3⟩
theorem lw_pre_spec {args : Array Value} {s : State} (h : (Jvm.Cond.and given_1 narrow_1).before args s = true) (hr : rest_1_c.before args s = true) : ∃ (b : Addr) (xs : List Int32), lw_P b xs args s := by
  have hs := flat_of_before _ h
  have hq := flat_of_before _ hr
  have hc : (Cond.count 1).before args s = true := hs _ (by decide +kernel)
  have harr : (Cond.arrayOf (.arg 0) .int).before args s = true := hs _ (by decide +kernel)
  have hle : (Cond.le (.length (.arg 0)) (.int 3072)).before args s = true := hs _ (by decide +kernel)
  have hlen : (Cond.isInt (.length (.arg 0))).before args s = true := hq _ (by decide +kernel)
  have hall : (Cond.all (.arg 0) (.isInt (.elem (.arg 0) (.index 0)))).before args s = true := hq _ (by decide +kernel)
  obtain ⟨b, xs, hb, hx⟩ := State.ints_of_pre rfl harr hlen hall
  have hsm : xs.length < 2 ^ 31 := hx.choose_spec.2.2.2
  have hev : (Term.length (.arg 0)).eval args s none [] s = some (.int xs.length.toInt32) := hx.length_eval hb
  have hv := Cond.le_ints hev (show (Term.int 3072).eval args s none [] s = some (.int 3072) from rfl)
  have hd : xs.length.toInt32 ≤ 3072 := by
    simpa [Cond.before, Cond.holds, hv] using hle
  have hN : xs.length ≤ 3072 := (Int32.ofNat_le_ofNat hsm (by decide)).mp (show Int32.ofNat xs.length ≤ Int32.ofNat 3072 from hd)
  exact ⟨b, xs, Cond.one_arg hc (show args[0]? = some (.ref b) from hb), hx, hN, h⟩
theorem lw_comes (l : Launch) : Comes l x (Jvm.Cond.code x code maxLocals ret :: tables_1) room_1 (fun tb e args s => Calls_1 tb e args s ∧ rest_1 tb e args s ∧ Pre_1 tb e args s)
    (fun _ _ args s o t => lw_Q args s o t) := by
  intro p e ha hc hk s m args below hf hfit hheap happ hpre
  obtain ⟨b, xs, hP⟩ := lw_pre_spec hpre.2.2 hpre.2.1
  obtain ⟨k, o, h1, h2, h3, hQ⟩ := lw_walk l b xs p e ha hc hk s m args below hf ((Spec.applies_iff_loose hf).mp happ).1 hP trivial
  exact ⟨k, o, h1, h2, h3, hQ⟩
theorem lw_frame {s t : State} {o : Outcome} {args : Array Value} (h : Framed s o t [] 600000 7302250) :
    Framed s o t (fieldLocs frame_1_writes args s ++ arrayLocs frame_1_arrays args s ++ staticLocs frame_1_statics s) 600000 7302250 := h
theorem lw_limb (L : Cond) (hL : ∀ (args : Array Value) (s t : State), L.after args s (.returned (some (.int 1))) t = true) :
    ArmFor flags0 classFile x code maxLocals ret World_1 tables_1 room_1 Calls_1 rest_1 Pre_1
      (fun tb e a s o t => postC L tb e a s o t ∧ Framed s o t (fieldLocs frame_1_writes a s ++ arrayLocs frame_1_arrays a s ++ staticLocs frame_1_statics s) 600000 7302250) := by
  intro l _ _ _ p e ha hc hk s m args below hf hfit hheap happ hpre
  obtain ⟨k, o, h1, h2, h3, rfl, hF⟩ := lw_comes l p e ha hc hk s m args below hf hfit hheap happ hpre
  exact ⟨k, _, h1, h2, h3, hL args s _, lw_frame hF⟩
theorem i_vc : Claimed_1_1 ∧ Claimed_1_2 := ⟨lw_limb limb_1_1 (fun args s t => by simp [limb_1_1, Cond.after, Cond.holds, Cond.value]), lw_limb limb_1_2 (fun args s t => Cond.after_iff.mpr (by
  first | (rw [show limb_1_2 = Cond.eq .result (.int 1) from rfl, Cond.eq_ints (x := 1) (y := 1) rfl rfl]; simp; done) | (simp [limb_1_2, Cond.value, Term.eval]; done)))⟩
