section PQ5
variable {p : Program} {l : Launch} {e : Env} {s : State} {m : MethodId} {args : Array Value} {below : List Frame} {meth : Method} {c : Code} {D : va_G} {ad : Nat → Nat} {h0 : Nat}
theorem pq_lsw_ok : ∀ (ps : List (Int × Int)) (ts : List Nat) (d : Int) (d' : Nat) (x : Int32) (pc tgt : Nat), ts.map (fun z : Nat => (z : Int)) = (ps.map (fun z => z.2)).map (fun o => (pc : Int) + o) → (d' : Int) = (pc : Int) + d → pq_lsw ps ts d' x = some tgt → (pc : Int) + Op.lookupswitch.offset ps d x.toInt = (tgt : Int)
  | [], ts, d, d', x, pc, tgt, h, hd, hs => by
    cases hs
    rw [hd]
    rfl
  | q :: r, [], d, d', x, pc, tgt, h, hd, hs => by cases hs
  | (qa, qo) :: r, t :: ts, d, d', x, pc, tgt, h, hd, hs => by
    simp only [List.map_cons, List.cons.injEq] at h
    rw [Op.lookupswitch.offset_cons]
    unfold pq_lsw at hs
    split at hs
    · rename_i hx
      cases hs
      rw [if_pos (show qa = x.toInt from Eq.symm hx), h.1]
    · rename_i hx
      rw [if_neg (show ¬ qa = x.toInt from fun z => hx (Eq.symm z))]
      exact pq_lsw_ok r ts d d' x pc tgt h.2 hd hs
/-- a row that ends a method, and its answer -/
def pq_ends (b : ByteArray) (ret : Option FieldType) (r : Option Value) (pc : Nat) (st : List Value) (i : Instr) : Prop :=
  (decode b pc = .ok (i, 1) ∧ i = .ireturn ∧ ∃ x : Int32, st = [.int x] ∧ r = some (.int x) ∧ (ret = some .int ∨ (ret = some .boolean ∨ ret = some .byte) ∧ (x = 0 ∨ x = 1))) ∨ (decode b pc = .ok (i, 1) ∧ i = .lreturn ∧ ∃ x : Int64, st = [.long x] ∧ r = some (.long x) ∧ ret = some .long) ∨ (decode b pc = .ok (i, 1) ∧ i = .return_ ∧ st = [] ∧ r = none ∧ ret = none)
theorem pq_do_ok {tab : List pq_M} {M : pq_M} {d : Nat} {R : Room} {Q : State → Prop} {call : Nat → List Value → pq_W → Option pq_R} {r : Option Value} {w' : pq_W} (hok : ∀ M ∈ tab, pq_mok tab M)
    (hcall : ∀ (j : Nat) (as : List Value) (w : pq_W) (r : Option Value) (w' : pq_W), call j as w = some (r, w') → ∃ M, tab[j]? = some M ∧ pq_rcv M as w = true ∧ Met l (pq_y M) (pq_ws M) (pq_rm d (pq_lm M)) (pq_Pc ad D as w) (pq_Qc ad D h0 r w') (pq_lm M).1 (pq_lm M).2 (fun q => h0 ≤ q))
    (hR : d + 1 ≤ R.frames ∧ 80 * d + 120 ≤ R.locals ∧ (pq_lm M).1 ≤ R.cells ∧ (pq_lm M).2 ≤ R.slots) (hret : ∀ (pc : Nat) (ls : pq_L) (st : List Value) (cs ss : Nat) (i : Instr), pq_ends (pq_by M) (pq_rt M) r pc st i → cs ≤ (pq_lm M).1 → ss ≤ (pq_lm M).2 → pq_G p l e R s m args below meth c Q (pq_mL M) D ad h0 pc ls st w' cs ss)
    (X : pq_X p s m args meth c (pq_by M) (pq_y M).cls (pq_mL M) (pq_rt M) (pq_y M).name D ad h0)
    (k : Nat → pq_L → List Value → pq_W → Nat → Nat → Option pq_R) (hk : ∀ (pc : Nat) (ls : pq_L) (st : List Value) (w : pq_W) (cs ss : Nat), k pc ls st w cs ss = some (r, w') → pq_G p l e R s m args below meth c Q (pq_mL M) D ad h0 pc ls st w cs ss)
    (q : pq_N) (ls : pq_L) (st : List Value) (w : pq_W) (cs ss : Nat) (hq0 : pq_eok tab M q = true) (h00 : pq_do call (pq_lim tab) (pq_lm M) (pq_rt M) k q ls st w cs ss = some (r, w')) :
    pq_G p l e R s m args below meth c Q (pq_mL M) D ad h0 q.1 ls st w cs ss := by
  obtain ⟨pc, cat, nx, i, a, v, t⟩ := q
  have base : ∀ {z : Nat}, ¬ z = 15 → pq_eok tab M (pc, z, nx, i, a, v, t) = true → decode (pq_by M) pc = .ok (i, pq_il i) ∧ nx = pc + pq_il i ∧ pq_eo tab M z pc i a v t = true := by
    intro z hz hb
    unfold pq_eok at hb
    split at hb
    rename_i e1
    cases e1
    split at hb
    · exact absurd rfl hz
    · simp only [Bool.and_eq_true, decide_eq_true_eq] at hb
      exact ⟨hb.1.1, Nat.eq_of_beq_eq_true hb.1.2, hb.2⟩
  match cat, hq0, h00 with
  | 0, hq, h =>
    replace hq := base (by decide) hq
    obtain ⟨hd, hnx, hq⟩ := hq
    try simp only [pq_eo] at hq
    subst hnx
    simp only [Bool.and_eq_true] at hq
    refine pg_push X hd hq.1 ?_ (hk _ _ _ _ _ _ h)
    intro idx
    refine ⟨fun x hi hv => ?_, fun x hi hv => ?_⟩
    · subst hv
      rcases hi with rfl | rfl
      · exact pq_word_ok hq.2
      · exact pq_word_ok hq.2
    · subst hv
      subst hi
      exact pq_word_ok hq.2
  | 1, hq, h =>
    replace hq := base (by decide) hq
    obtain ⟨hd, hnx, hq⟩ := hq
    try simp only [pq_eo] at hq
    subst hnx
    simp only [pq_do] at h
    split at h
    · rename_i x hx
      exact pg_iload X hd (pq_ld_ok.1 hq) hx (hk _ _ _ _ _ _ h)
    · cases h
  | 2, hq, h =>
    replace hq := base (by decide) hq
    obtain ⟨hd, hnx, hq⟩ := hq
    try simp only [pq_eo] at hq
    subst hnx
    simp only [pq_do] at h
    split at h
    · rename_i x hx
      exact pg_lload X hd (pq_ld_ok.2.1 hq) hx (hk _ _ _ _ _ _ h)
    · cases h
  | 3, hq, h =>
    replace hq := base (by decide) hq
    obtain ⟨hd, hnx, hq⟩ := hq
    try simp only [pq_eo] at hq
    subst hnx
    simp only [pq_do] at h
    split at h
    · rename_i x hx
      exact pg_aload X hd (pq_ld_ok.2.2.1 hq) hx (hk _ _ _ _ _ _ h)
    · cases h
  | 4, hq, h =>
    replace hq := base (by decide) hq
    obtain ⟨hd, hnx, hq⟩ := hq
    try simp only [pq_eo] at hq
    subst hnx
    simp only [Bool.and_eq_true] at hq
    simp only [pq_do] at h
    split at h
    · exact pg_istore X hd (pq_ld_ok.2.2.2.1 hq.1) (Nat.le_of_ble_eq_true hq.2) (hk _ _ _ _ _ _ h)
    · cases h
  | 5, hq, h =>
    replace hq := base (by decide) hq
    obtain ⟨hd, hnx, hq⟩ := hq
    try simp only [pq_eo] at hq
    subst hnx
    simp only [Bool.and_eq_true] at hq
    simp only [pq_do] at h
    split at h
    · exact pg_lstore X hd (pq_ld_ok.2.2.2.2.1 hq.1) (Nat.le_of_ble_eq_true hq.2) (hk _ _ _ _ _ _ h)
    · cases h
  | 6, hq, h =>
    replace hq := base (by decide) hq
    obtain ⟨hd, hnx, hq⟩ := hq
    try simp only [pq_eo] at hq
    subst hnx
    simp only [Bool.and_eq_true] at hq
    simp only [pq_do] at h
    split at h
    · exact pg_astore X hd (pq_ld_ok.2.2.2.2.2 hq.1) (Nat.le_of_ble_eq_true hq.2) (hk _ _ _ _ _ _ h)
    · cases h
  | 7, hq, h =>
    replace hq := base (by decide) hq
    obtain ⟨hd, hnx, hq⟩ := hq
    try simp only [pq_eo] at hq
    subst hnx
    simp only [pq_do] at h
    split at hq
    · rename_i n dd y
      simp only [Bool.and_eq_true, decide_eq_true_eq] at hq
      obtain ⟨⟨h1, h2⟩, h3⟩ := hq
      have h1 := Nat.eq_of_beq_eq_true h1
      split at h
      · rename_i x y' hx hy
        cases hy
        rw [← h1] at h hx
        exact pg_iinc X hd (Nat.le_of_ble_eq_true h2) hx h3 (hk _ _ _ _ _ _ h)
      · cases h
    · cases hq
  | 8, hq, h =>
    replace hq := base (by decide) hq
    obtain ⟨hd, hnx, hq⟩ := hq
    try simp only [pq_eo] at hq
    subst hnx
    simp only [pq_do] at h
    split at h
    · split at h
      · rename_i hz
        exact pg_bin X hd hz (hk _ _ _ _ _ _ h)
      · cases h
    · cases h
  | 9, hq, h =>
    replace hq := base (by decide) hq
    obtain ⟨hd, hnx, hq⟩ := hq
    try simp only [pq_eo] at hq
    subst hnx
    simp only [pq_do] at h
    split at h
    · split at h
      · rename_i hz
        exact pg_un X hd hz (hk _ _ _ _ _ _ h)
      · cases h
    · cases h
  | 10, hq, h =>
    replace hq := base (by decide) hq
    obtain ⟨hd, hnx, hq⟩ := hq
    try simp only [pq_eo] at hq
    subst hnx
    have hq := of_decide_eq_true hq
    subst hq
    simp only [pq_do] at h
    split at h
    · cases hc : Nat.beq (Value.category _) 1 with
      | true =>
        rw [hc] at h
        exact pg_dup X hd (Nat.eq_of_beq_eq_true hc) (hk _ _ _ _ _ _ h)
      | false =>
        rw [hc] at h
        cases h
    · cases h
  | 11, hq, h =>
    replace hq := base (by decide) hq
    obtain ⟨hd, hnx, hq⟩ := hq
    try simp only [pq_eo] at hq
    subst hnx
    have hq := of_decide_eq_true hq
    subst hq
    simp only [pq_do] at h
    split at h
    · rename_i x y st'
      cases hc : (Nat.beq x.category 1 && Nat.beq y.category 1) with
      | true =>
        rw [hc] at h
        simp only [Bool.and_eq_true] at hc
        exact pg_dup2 X hd (Nat.eq_of_beq_eq_true hc.1) (Nat.eq_of_beq_eq_true hc.2) (hk _ _ _ _ _ _ h)
      | false =>
        rw [hc] at h
        cases h
    · cases h
  | 12, hq, h =>
    replace hq := base (by decide) hq
    obtain ⟨hd, hnx, hq⟩ := hq
    try simp only [pq_eo] at hq
    subst hnx
    simp only [pq_do] at h
    split at hq
    · rename_i cd off
      have hq := of_decide_eq_true hq
      split at h
      · rename_i x st' cd' off' he
        cases he
        exact pg_if X hd hq (fun hb => by rw [hb] at h; exact hk _ _ _ _ _ _ h) (fun hb => by rw [hb] at h; exact hk _ _ _ _ _ _ h)
      · cases h
    · cases hq
  | 13, hq, h =>
    replace hq := base (by decide) hq
    obtain ⟨hd, hnx, hq⟩ := hq
    try simp only [pq_eo] at hq
    subst hnx
    simp only [pq_do] at h
    split at hq
    · rename_i cd off
      have hq := of_decide_eq_true hq
      split at h
      · rename_i y x st' cd' off' he
        cases he
        exact pg_icmp X hd hq (fun hb => by rw [hb] at h; exact hk _ _ _ _ _ _ h) (fun hb => by rw [hb] at h; exact hk _ _ _ _ _ _ h)
      · cases h
    · cases hq
  | 14, hq, h =>
    replace hq := base (by decide) hq
    obtain ⟨hd, hnx, hq⟩ := hq
    try simp only [pq_eo] at hq
    subst hnx
    simp only [pq_do] at h
    split at hq
    · exact pg_goto X hd (of_decide_eq_true hq) (hk _ _ _ _ _ _ h)
    · cases hq
  | 15, hq, h =>
    simp only [pq_eok, Bool.and_eq_true, decide_eq_true_eq] at hq
    simp only [pq_do] at h
    obtain ⟨hd, hq⟩ := hq
    split at h
    · rename_i x st'
      split at h
      · rename_i tg htg
        split at hq
        · rename_i dd lo hi offs
          have hq := of_decide_eq_true hq
          simp only [pq_sw] at htg
          split at htg
          · rename_i hh
            refine pg_tsw (off := dd) X hd (Or.inl ⟨hh, rfl⟩) ?_ (hk _ _ _ _ _ _ h)
            cases a with
            | nil => cases htg
            | cons a0 a1 =>
              cases htg
              simp only [List.map_cons, List.cons.injEq] at hq
              exact hq.1.symm
          · rename_i hh
            cases a with
            | nil => simp at htg
            | cons a0 a1 =>
              simp only [List.map_cons, List.cons.injEq] at hq
              rw [List.getElem?_cons_succ] at htg
              have e1 : (a1.map (fun z : Nat => (z : Int)))[(x.toInt - lo).toNat]? = some (tg : Int) := by rw [List.getElem?_map, htg]; rfl
              rw [hq.2, List.getElem?_map] at e1
              cases ho : offs.toList[(x.toInt - lo).toNat]? with
              | none => rw [ho] at e1; cases e1
              | some off =>
                rw [ho] at e1
                refine pg_tsw (off := off) X hd (Or.inr ⟨hh, by rw [← Array.getElem?_toList]; exact ho⟩) (Option.some.inj e1) (hk _ _ _ _ _ _ h)
        · rename_i dd ps
          simp only [Bool.and_eq_true, decide_eq_true_eq] at hq
          simp only [pq_sw] at htg
          cases a with
          | nil => simp at hq
          | cons a0 a1 =>
            simp only [List.map_cons, List.cons.injEq] at hq
            exact pg_lsw X hd hq.2 (pq_lsw_ok ps.toList a1 dd a0 x pc tg hq.1.2 hq.1.1 htg) (hk _ _ _ _ _ _ h)
        · cases hq
      · cases h
    · cases h
  | 16, hq, h =>
    replace hq := base (by decide) hq
    obtain ⟨hd, hnx, hq⟩ := hq
    try simp only [pq_eo] at hq
    subst hnx
    have hq := of_decide_eq_true hq
    subst hq
    simp only [pq_do] at h
    split at h
    · rename_i x
      cases hc : (Nat.ble cs (pq_lm M).1 && Nat.ble ss (pq_lm M).2) with
      | true =>
        rw [hc] at h
        simp only [Bool.and_eq_true] at hc
        simp only [cond_true] at h
        split at h
        · rename_i hr
          cases h
          exact hret _ _ _ _ _ _ (Or.inl ⟨hd, rfl, _, rfl, rfl, Or.inl hr⟩) (Nat.le_of_ble_eq_true hc.1) (Nat.le_of_ble_eq_true hc.2)
        · rename_i hr
          split at h
          · rename_i hv
            cases h
            exact hret _ _ _ _ _ _ (Or.inl ⟨hd, rfl, _, rfl, rfl, Or.inr ⟨Or.inl hr, hv⟩⟩) (Nat.le_of_ble_eq_true hc.1) (Nat.le_of_ble_eq_true hc.2)
          · cases h
        · rename_i hr
          split at h
          · rename_i hv
            cases h
            exact hret _ _ _ _ _ _ (Or.inl ⟨hd, rfl, _, rfl, rfl, Or.inr ⟨Or.inr hr, hv⟩⟩) (Nat.le_of_ble_eq_true hc.1) (Nat.le_of_ble_eq_true hc.2)
          · cases h
        · cases h
      | false =>
        rw [hc] at h
        cases h
    · cases h
  | 17, hq, h =>
    replace hq := base (by decide) hq
    obtain ⟨hd, hnx, hq⟩ := hq
    try simp only [pq_eo] at hq
    subst hnx
    have hq := of_decide_eq_true hq
    subst hq
    simp only [pq_do] at h
    split at h
    · rename_i x
      cases hc : (Nat.ble cs (pq_lm M).1 && Nat.ble ss (pq_lm M).2) with
      | true =>
        rw [hc] at h
        simp only [Bool.and_eq_true] at hc
        simp only [cond_true] at h
        split at h
        · rename_i hr
          cases h
          exact hret _ _ _ _ _ _ (Or.inr (Or.inl ⟨hd, rfl, _, rfl, rfl, hr⟩)) (Nat.le_of_ble_eq_true hc.1) (Nat.le_of_ble_eq_true hc.2)
        · cases h
      | false =>
        rw [hc] at h
        cases h
    · cases h
  | 18, hq, h =>
    replace hq := base (by decide) hq
    obtain ⟨hd, hnx, hq⟩ := hq
    try simp only [pq_eo] at hq
    subst hnx
    have hq := of_decide_eq_true hq
    subst hq
    simp only [pq_do] at h
    split at h
    · cases hc : (Nat.ble cs (pq_lm M).1 && Nat.ble ss (pq_lm M).2) with
      | true =>
        rw [hc] at h
        simp only [Bool.and_eq_true] at hc
        simp only [cond_true] at h
        split at h
        · rename_i hr
          cases h
          exact hret _ _ _ _ _ _ (Or.inr (Or.inr ⟨hd, rfl, rfl, rfl, hr⟩)) (Nat.le_of_ble_eq_true hc.1) (Nat.le_of_ble_eq_true hc.2)
        · cases h
      | false =>
        rw [hc] at h
        cases h
    · cases h
  | 19, hq, h =>
    replace hq := base (by decide) hq
    obtain ⟨hd, hnx, hq⟩ := hq
    try simp only [pq_eo] at hq
    subst hnx
    simp only [pq_do] at h
    split at hq
    · rename_i idx C T N hcl
      simp only [Bool.and_eq_true, decide_eq_true_eq] at hq
      obtain ⟨⟨h1, h2⟩, h3⟩ := hq
      split at h
      · split at h
        · rename_i ci fs hr
          cases hc : Nat.beq ci (a.headD 0) with
          | true =>
            rw [hc] at h
            simp only [cond_true] at h
            have hc := Nat.eq_of_beq_eq_true hc
            rw [← hc] at hcl
            split at h
            · rename_i z hz
              exact pg_get X hd hcl (pq_clok ci C T N hcl).1 (Nat.le_of_ble_eq_true h1) h2 (pq_word_ok h3) hr hz (hk _ _ _ _ _ _ h)
            · cases h
          | false =>
            rw [hc] at h
            cases h
        · cases h
      · cases h
    · cases hq
  | 20, hq, h =>
    replace hq := base (by decide) hq
    obtain ⟨hd, hnx, hq⟩ := hq
    try simp only [pq_eo] at hq
    subst hnx
    simp only [pq_do] at h
    split at hq
    · rename_i idx C T N hcl
      simp only [Bool.and_eq_true, decide_eq_true_eq, Bool.or_eq_true, Bool.not_eq_true'] at hq
      obtain ⟨⟨⟨⟨h1, h2⟩, h3⟩, h4⟩, h5⟩ := hq
      have h4 := Nat.eq_of_beq_eq_true h4
      split at h
      · split at h
        · rename_i z r0 st' x0 ci fs hr
          cases hc : (Nat.beq ci (a.headD 0) && Nat.ble pq_E r0 && Nat.blt (a.getD 1 0) fs.length && pq_fit (a.getD 2 9) z) with
          | true =>
            rw [hc] at h
            simp only [cond_true] at h
            simp only [Bool.and_eq_true] at hc
            obtain ⟨⟨⟨c1, c2⟩, c3⟩, c4⟩ := hc
            have c1 := Nat.eq_of_beq_eq_true c1
            rw [← c1] at hcl
            obtain ⟨k1, ⟨ty0, k2⟩, k3⟩ := pq_clok ci C T N hcl
            rw [h4] at c4
            exact pg_put ty0 X hd hcl k1 k2 k3 (Nat.le_of_ble_eq_true h1) h2 (pq_word_ok h3) h5 c4 hr (Nat.le_of_ble_eq_true c3) (Nat.le_of_ble_eq_true c2) (hk _ _ _ _ _ _ h)
          | false =>
            rw [hc] at h
            cases h
        · cases h
      · cases h
    · cases hq
  | 21, hq, h =>
    replace hq := base (by decide) hq
    obtain ⟨hd, hnx, hq⟩ := hq
    try simp only [pq_eo] at hq
    subst hnx
    simp only [pq_do] at h
    split at h
    · split at h
      · rename_i hr
        split at h
        · rename_i z hz
          split at hq
          · exact pg_ald X hd (Or.inl ⟨Nat.eq_of_beq_eq_true hq, rfl⟩) hr hz (hk _ _ _ _ _ _ h)
          · exact pg_ald X hd (Or.inr (Or.inl ⟨Nat.eq_of_beq_eq_true hq, rfl⟩)) hr hz (hk _ _ _ _ _ _ h)
          · exact pg_ald X hd (Or.inr (Or.inr ⟨Nat.eq_of_beq_eq_true hq, rfl⟩)) hr hz (hk _ _ _ _ _ _ h)
          · cases hq
        · cases h
      · cases h
    · cases h
  | 22, hq, h =>
    replace hq := base (by decide) hq
    obtain ⟨hd, hnx, hq⟩ := hq
    try simp only [pq_eo] at hq
    subst hnx
    simp only [pq_do] at h
    split at h
    · rename_i z x r0 st'
      split at h
      · rename_i hr
        split at h
        · rename_i c1 hz
          cases hc : Nat.ble pq_E r0 with
          | true =>
            rw [hc] at h
            simp only [cond_true] at h
            split at hq
            · exact pg_ast X hd (Or.inl ⟨Nat.eq_of_beq_eq_true hq, rfl⟩) hr hz (Nat.le_of_ble_eq_true hc) (hk _ _ _ _ _ _ h)
            · exact pg_ast X hd (Or.inr (Or.inl ⟨Nat.eq_of_beq_eq_true hq, rfl⟩)) hr hz (Nat.le_of_ble_eq_true hc) (hk _ _ _ _ _ _ h)
            · exact pg_ast X hd (Or.inr (Or.inr ⟨Nat.eq_of_beq_eq_true hq, rfl⟩)) hr hz (Nat.le_of_ble_eq_true hc) (hk _ _ _ _ _ _ h)
            · cases hq
          | false =>
            rw [hc] at h
            cases h
        · cases h
      · cases h
    · cases h
  | 23, hq, h =>
    replace hq := base (by decide) hq
    obtain ⟨hd, hnx, hq⟩ := hq
    try simp only [pq_eo] at hq
    subst hnx
    have hq := of_decide_eq_true hq
    subst hq
    simp only [pq_do] at h
    split at h
    · split at h
      · rename_i hr
        split at h
        · rename_i hz
          exact pg_alen X hd hr hz (hk _ _ _ _ _ _ h)
        · cases h
      · cases h
    · cases h
  | 24, hq, h =>
    replace hq := base (by decide) hq
    obtain ⟨hd, hnx, hq⟩ := hq
    try simp only [pq_eo] at hq
    subst hnx
    simp only [pq_do] at h
    split at hq
    · rename_i idx C T N fs hcl hfs
      simp only [Bool.and_eq_true] at hq
      obtain ⟨⟨⟨⟨h1, h2⟩, h3⟩, h4⟩, h5⟩ := hq
      have h4 := Nat.eq_of_beq_eq_true h4
      obtain ⟨k1, ⟨ty0, k2⟩, k3⟩ := pq_clok _ C T N hcl
      rw [hfs] at h
      simp only at h
      cases hc : (Nat.ble (cs + 1) (pq_lm M).1 && Nat.ble (ss + fs.length) (pq_lm M).2) with
      | true =>
        rw [hc] at h
        simp only [cond_true] at h
        simp only [Bool.and_eq_true] at hc
        rw [h4] at hc h
        refine pg_new (fs := fs) ty0 X hd hcl k1 k2 (pq_word_ok h1) (pq_word_ok h2) (pq_word_ok h3) ?_ (Nat.le_trans (Nat.le_of_ble_eq_true hc.1) hR.2.2.1) (Nat.le_trans (Nat.le_of_ble_eq_true hc.2) hR.2.2.2) (hk _ _ _ _ _ _ h)
        intro j hj
        have h6 := List.all_eq_true.mp h5 j (List.mem_range.mpr hj)
        rw [k2 j hj] at h6
        have h6 := of_decide_eq_true h6
        show _ = (fs.map (pq_v ad)).getD j .null
        rw [List.getD_eq_getElem?_getD, List.getElem?_map, h6]
        cases ty0 j <;> rfl
      | false =>
        rw [hc] at h
        cases h
    · cases hq
  | 25, hq, h =>
    replace hq := base (by decide) hq
    obtain ⟨hd, hnx, hq⟩ := hq
    try simp only [pq_eo] at hq
    subst hnx
    simp only [pq_do] at h
    split at hq
    · rename_i at0
      simp only [Bool.and_eq_true] at hq
      have h1 := Nat.eq_of_beq_eq_true hq.1
      split at h
      · rename_i n st'
        split at h
        · rename_i c1 hz
          split at h
          · cases h
          · rename_i hn
            cases hc : (Nat.ble (cs + 1) (pq_lm M).1 && Nat.ble (ss + n.toNatClampNeg) (pq_lm M).2) with
            | true =>
              rw [hc] at h
              simp only [cond_true] at h
              simp only [Bool.and_eq_true] at hc
              rw [h1] at hz
              exact pg_newa X hd (pq_word_ok hq.2) hz (fun z => hn (Or.inl z)) (Nat.not_lt.mp (fun z => hn (Or.inr z))) (Nat.le_trans (Nat.le_of_ble_eq_true hc.1) hR.2.2.1) (Nat.le_trans (Nat.le_of_ble_eq_true hc.2) hR.2.2.2) (hk _ _ _ _ _ _ h)
            | false =>
              rw [hc] at h
              cases h
        · cases h
      · cases h
    · cases hq
  | 26, hq, h =>
    replace hq := base (by decide) hq
    obtain ⟨hd, hnx, hq⟩ := hq
    try simp only [pq_eo] at hq
    subst hnx
    simp only [pq_do] at h
    split at hq
    · split at h
      · rename_i r0 st'
        cases hc : Nat.ble (pq_sum st') 8 with
        | true =>
          rw [hc] at h
          simp only [cond_true] at h
          exact pg_obj X hd (pq_word_ok hq) pq_obj2 pq_obj3 (by omega) (by omega) (Nat.le_of_ble_eq_true hc) (hk _ _ _ _ _ _ h)
        | false =>
          rw [hc] at h
          cases h
      · cases h
    · cases hq
  | 27, hq, h =>
    replace hq := base (by decide) hq
    obtain ⟨hd, hnx, hq⟩ := hq
    try simp only [pq_eo] at hq
    subst hnx
    simp only [pq_do] at h
    split at hq
    · split at h
      · rename_i n dp r1 sp r0 st'
        split at h
        · rename_i c0 c1 hr0 hr1
          split at h
          · rename_i c2 hz
            cases hc : (Nat.ble pq_E r0 && Nat.ble pq_E r1 && Nat.ble (pq_sum st') 8) with
            | true =>
              rw [hc] at h
              simp only [cond_true] at h
              simp only [Bool.and_eq_true] at hc
              exact pg_cp X hd (pq_word_ok hq) pq_cp2 pq_cp3 pq_cp4 (by omega) (by omega) (Nat.le_of_ble_eq_true hc.2) hr0 hr1 hz (Nat.le_of_ble_eq_true hc.1.1) (Nat.le_of_ble_eq_true hc.1.2) (hk _ _ _ _ _ _ h)
            | false =>
              rw [hc] at h
              cases h
          · cases h
        · cases h
      · cases h
    · cases hq
  | 28, hq, h =>
    replace hq := base (by decide) hq
    obtain ⟨hd, hnx, hq⟩ := hq
    try simp only [pq_eo] at hq
    subst hnx
    simp only [pq_do] at h
    split at hq
    · rename_i M1 hM1
      have hlim : pq_lim tab (a.headD 0) = pq_lm M1 := by unfold pq_lim; rw [hM1]
      rw [hlim] at h
      cases hc : (Nat.ble (a.getD 1 0) st.length && Nat.ble (pq_sum (st.drop (a.getD 1 0))) 8 && Nat.ble (cs + (pq_lm M1).1) (pq_lm M).1 && Nat.ble (ss + (pq_lm M1).2) (pq_lm M).2) with
      | false =>
        rw [hc] at h
        cases h
      | true =>
        rw [hc] at h
        simp only [cond_true] at h
        simp only [Bool.and_eq_true] at hc
        obtain ⟨⟨⟨c1, c2⟩, c3⟩, c4⟩ := hc
        have c1 := Nat.le_of_ble_eq_true c1
        split at h
        · rename_i r1 w1 hcl
          obtain ⟨M2, hM2, hrc, hmet⟩ := hcall _ _ _ _ _ hcl
          have e2 : M2 = M1 := Option.some.inj (hM2.symm.trans hM1)
          subst e2
          have hmf := (hok M2 (List.mem_of_getElem? hM1)).1
          have hst : st = ((st.take (a.getD 1 0)).reverse).reverse ++ st.drop (a.getD 1 0) := by rw [List.reverse_reverse, List.take_append_drop]
          have hlen : ((st.take (a.getD 1 0)).reverse).length = a.getD 1 0 := by rw [List.length_reverse, List.length_take]; omega
          have hlk : ∀ idx : Nat, (pq_word t (.methodLink (pq_y M).cls idx (pq_y M2)) || decide (pq_wat t = some (.methodLinkNest (pq_y M).cls idx (pq_y M2) "SkyFees"))) = true → Cond.methodLink (pq_y M).cls idx (pq_y M2) ∈ pq_gt ∨ ∃ host : String, Cond.methodLinkNest (pq_y M).cls idx (pq_y M2) host ∈ lw_tbl := by
            intro idx hh
            rcases Bool.or_eq_true_iff.mp hh with hh | hh
            · exact Or.inl (pq_word_ok hh)
            · exact Or.inr ⟨_, pq_wat_mem (of_decide_eq_true hh)⟩
          generalize has : (st.take (a.getD 1 0)).reverse = as at hst hlen hmet hrc
          rw [hst]
          have hcl2 : ((pq_cl[(pq_ns M2).getD 6 99]?).map (fun q => q.1) = some (pq_y M2).cls ∨ (pq_ns M2).getD 6 99 = 99 ∧ (pq_y M2).cls = "java/lang/String") ∨ ¬ (pq_ns M2).getD 0 9 = 1 := by
            rcases hmf.2.2.2.2.2 with hh | hh | hh
            · exact Or.inr (by rw [hh.1]; decide)
            · exact Or.inl hh.2.2.2
            · exact Or.inr (by rw [hh.1]; decide)
          have hd0 : (pq_ns M2).headD 9 = (pq_ns M2).getD 0 9 := by cases pq_ns M2 <;> rfl
          split at hq
          · rename_i idx
            simp only [Bool.and_eq_true] at hq
            have q1 := Nat.eq_of_beq_eq_true hq.1.1
            have q2 := Nat.eq_of_beq_eq_true hq.1.2
            exact pg_call (M := M2) (kd := (pq_ns M2).getD 0 9) X hmet hmf (Or.inl ⟨q1, hd, by rw [hlen, q2]⟩) (hlk idx hq.2) hR.1 hR.2.1 (Nat.le_of_ble_eq_true c2) (Nat.le_trans (Nat.le_of_ble_eq_true c3) hR.2.2.1) (Nat.le_trans (Nat.le_of_ble_eq_true c4) hR.2.2.2) (hk _ _ _ _ _ _ h)
          · rename_i idx
            simp only [Bool.and_eq_true] at hq
            have q1 := Nat.eq_of_beq_eq_true hq.1.1
            have q2 := Nat.eq_of_beq_eq_true hq.1.2
            refine pg_call (M := M2) (kd := (pq_ns M2).getD 0 9) X hmet hmf (Or.inr (Or.inl ⟨q1, hd, by rw [hlen, q2], ?_⟩)) (hlk idx hq.2) hR.1 hR.2.1 (Nat.le_of_ble_eq_true c2) (Nat.le_trans (Nat.le_of_ble_eq_true c3) hR.2.2.1) (Nat.le_trans (Nat.le_of_ble_eq_true c4) hR.2.2.2) (hk _ _ _ _ _ _ h)
            have hcl2 := hcl2.resolve_right (fun z => z q1)
            unfold pq_rcv at hrc
            rw [hd0, q1] at hrc
            simp only at hrc
            split at hrc
            · rename_i b as1
              split at hrc
              · rename_i ci fs hb1
                have hb2 := Nat.eq_of_beq_eq_true hrc
                rw [← hb2] at hcl2
                rcases hcl2 with hcl2 | hcl2
                · cases hq3 : pq_cl[ci]? with
                  | none => rw [hq3] at hcl2; cases hcl2
                  | some qq =>
                    rw [hq3] at hcl2
                    exact ⟨b, ci, fs, rfl, hb1, Or.inl ⟨qq, hq3, Option.some.inj hcl2⟩⟩
                · exact ⟨b, ci, fs, rfl, hb1, Or.inr hcl2⟩
              · cases hrc
            · cases hrc
          · rename_i idx
            simp only [Bool.and_eq_true] at hq
            have q1 := Nat.eq_of_beq_eq_true hq.1.1
            have q2 := Nat.eq_of_beq_eq_true hq.1.2
            refine pg_call (M := M2) (kd := (pq_ns M2).getD 0 9) X hmet hmf (Or.inr (Or.inr ⟨q1, hd, by rw [hlen, q2], ?_⟩)) (hlk idx hq.2) hR.1 hR.2.1 (Nat.le_of_ble_eq_true c2) (Nat.le_trans (Nat.le_of_ble_eq_true c3) hR.2.2.1) (Nat.le_trans (Nat.le_of_ble_eq_true c4) hR.2.2.2) (hk _ _ _ _ _ _ h)
            unfold pq_rcv at hrc
            rw [hd0, q1] at hrc
            simp only at hrc
            split at hrc
            · rename_i b as1
              exact ⟨b, rfl⟩
            · cases hrc
          · cases hq
        · cases h
    · cases hq
  | 29, hq, h =>
    replace hq := base (by decide) hq
    obtain ⟨hd, hnx, hq⟩ := hq
    try simp only [pq_eo] at hq
    subst hnx
    simp only [pq_do] at h
    split at hq
    · rename_i idx y hy
      split at h
      · rename_i st1 hz
        cases hc : (Nat.ble (pq_sum st1) 8 && Nat.ble cs (pq_lm M).1 && Nat.ble ss (pq_lm M).2) with
        | true =>
          rw [hc] at h
          simp only [cond_true] at h
          simp only [Bool.and_eq_true] at hc
          obtain ⟨⟨c1, c2⟩, c3⟩ := hc
          have c1 := Nat.le_of_ble_eq_true c1
          have c2 := Nat.le_trans (Nat.le_of_ble_eq_true c2) hR.2.2.1
          have c3 := Nat.le_trans (Nat.le_of_ble_eq_true c3) hR.2.2.2
          generalize a.headD 9 = op at hy hz
          unfold pq_mn at hy
          split at hy
          · cases hy
            simp only [pq_math, pq_m0] at hz
            split at hz
            · cases hz
              exact pg_math0 X hd (pq_word_ok hq) pq_ms0 pq_mi pq_mc0 (by omega) (by omega) (Nat.le_trans (by unfold pq_sum; rw [List.map_cons, List.sum_cons]; exact Nat.le_add_left _ _) c1) c2 c3 (hk _ _ _ _ _ _ h)
            · cases hz
          · cases hy
            simp only [pq_math, pq_m1] at hz
            split at hz
            · cases hz
              exact pg_math1 X hd (pq_word_ok hq) pq_ms1 pq_mi pq_mc1 (by omega) (by omega) (Nat.le_trans (by unfold pq_sum; rw [List.map_cons, List.sum_cons]; exact Nat.le_add_left _ _) c1) c2 c3 (hk _ _ _ _ _ _ h)
            · cases hz
          · cases hy
            simp only [pq_math, pq_m2] at hz
            split at hz
            · cases hz
              exact pg_math2 X hd (pq_word_ok hq) pq_ms2 pq_mi pq_mc2 (by omega) (by omega) (Nat.le_trans (by unfold pq_sum; rw [List.map_cons, List.sum_cons]; exact Nat.le_add_left _ _) c1) c2 c3 (hk _ _ _ _ _ _ h)
            · cases hz
          · cases hy
            simp only [pq_math, pq_m3] at hz
            split at hz
            · cases hz
              exact pg_math3 X hd (pq_word_ok hq) pq_ms3 pq_mi pq_mc3 (by omega) (by omega) (Nat.le_trans (by unfold pq_sum; rw [List.map_cons, List.sum_cons]; exact Nat.le_add_left _ _) c1) c2 c3 (hk _ _ _ _ _ _ h)
            · cases hz
          · cases hy
            simp only [pq_math, pq_m4] at hz
            split at hz
            · cases hz
              exact pg_math4 X hd (pq_word_ok hq) pq_ms4 pq_mi pq_mc4 (by omega) (by omega) (Nat.le_trans (by unfold pq_sum; rw [List.map_cons, List.sum_cons]; exact Nat.le_add_left _ _) c1) c2 c3 (hk _ _ _ _ _ _ h)
            · cases hz
          · cases hy
        | false =>
          rw [hc] at h
          cases h
      · cases h
    · cases hq
  | 30, hq, h =>
    replace hq := base (by decide) hq
    obtain ⟨hd, hnx, hq⟩ := hq
    try simp only [pq_eo] at hq
    subst hnx
    simp only [pq_do] at h
    split at hq
    · rename_i idx
      refine pg_gets (C := "SkyFees") (n := "ABOVE") (d := "[I") (v := .ref 1) X hd (fun H z => z.1) ?_ (hk _ _ _ _ _ _ h)
      rcases Bool.or_eq_true_iff.mp hq with hh | hh
      · exact Or.inl (pq_word_ok hh)
      · exact Or.inr (pq_wat_mem (of_decide_eq_true hh))
    · rename_i idx
      refine pg_gets (C := "SkyFees") (n := "BODIES") (d := "[I") (v := .ref 2) X hd (fun H z => z.2.1) ?_ (hk _ _ _ _ _ _ h)
      rcases Bool.or_eq_true_iff.mp hq with hh | hh
      · exact Or.inl (pq_word_ok hh)
      · exact Or.inr (pq_wat_mem (of_decide_eq_true hh))
    · rename_i idx x
      simp only [Bool.and_eq_true, decide_eq_true_eq] at hq
      obtain ⟨e, hq⟩ := hq
      subst e
      exact pg_gets (C := "java/lang/String") (n := "COMPACT_STRINGS") (d := "Z") (v := .int 1) X hd (fun H z => z.2.2) (Or.inl (pq_word_ok hq)) (hk _ _ _ _ _ _ h)
    · rename_i idx
      simp only [Bool.and_eq_true, decide_eq_true_eq] at hq
      have X2 := X
      rw [hq.1] at X2
      exact pg_ldcS X2 hd (Nat.eq_of_beq_eq_true hq.2) (hk _ _ _ _ _ _ h)
    · cases hq
  | 31, hq, h =>
    replace hq := base (by decide) hq
    obtain ⟨hd, hnx, hq⟩ := hq
    try simp only [pq_eo] at hq
    subst hnx
    simp only [pq_do] at h
    split at h
    · rename_i rr st1
      split at h
      · rename_i ci fs hr
        cases hb : (Nat.beq rr 3 && Nat.beq ci 99) with
        | false => rw [hb] at h; cases h
        | true =>
          rw [hb] at h
          simp only [cond_true] at h
          simp only [Bool.and_eq_true] at hb
          have e1 := Nat.eq_of_beq_eq_true hb.1
          have e2 := Nat.eq_of_beq_eq_true hb.2
          subst e1
          subst e2
          split at hq
          · rename_i idx x
            simp only [Bool.and_eq_true, decide_eq_true_eq] at hq
            obtain ⟨e, hq⟩ := hq
            subst e
            exact pg_strf (v := .int 0) X hd (pq_word_ok hq) (fun H hI => ((hI.2.2 3 _ hr).2 (by decide)).2.2.1) (hk _ _ _ _ _ _ h)
          · rename_i idx
            exact pg_strf (v := .ref 4) X hd (pq_word_ok hq) (fun H hI => ((hI.2.2 3 _ hr).2 (by decide)).2.2.2) (hk _ _ _ _ _ _ h)
          · cases hq
      · cases h
    · cases h
  | 32, hq, h =>
    replace hq := base (by decide) hq
    obtain ⟨hd, hnx, hq⟩ := hq
    try simp only [pq_eo] at hq
    subst hnx
    have hq := of_decide_eq_true hq
    subst hq
    simp only [pq_do] at h
    split at h
    · cases hc : Nat.beq (Value.category _) 1 with
      | true =>
        rw [hc] at h
        exact pg_pop X hd (Nat.eq_of_beq_eq_true hc) (hk _ _ _ _ _ _ h)
      | false =>
        rw [hc] at h
        cases h
    · cases h
  | n + 33, hq, h => cases h
end PQ5
