theorem pq_exec_ok {p : Program} {l : Launch} {e : Env} {s : State} {m : MethodId} {args : Array Value} {below : List Frame} {meth : Method} {c : Code} {D : va_G} {ad : Nat → Nat} {h0 : Nat} {tab : List pq_M} {M : pq_M} {d : Nat} {R : Room} {Q : State → Prop} {call : Nat → List Value → pq_W → Option pq_R} {r : Option Value} {w' : pq_W} (hok : ∀ M ∈ tab, pq_mok tab M) (hM : (pq_cd M).all (fun b => b.2.all (pq_eok tab M)) = true)
    (hcall : ∀ (j : Nat) (as : List Value) (w : pq_W) (r : Option Value) (w' : pq_W), call j as w = some (r, w') → ∃ M, tab[j]? = some M ∧ pq_rcv M as w = true ∧ Met l (pq_y M) (pq_ws M) (pq_rm d (pq_lm M)) (pq_Pc ad D as w) (pq_Qc ad D h0 r w') (pq_lm M).1 (pq_lm M).2 (fun q => h0 ≤ q))
    (hR : d + 1 ≤ R.frames ∧ 80 * d + 120 ≤ R.locals ∧ (pq_lm M).1 ≤ R.cells ∧ (pq_lm M).2 ≤ R.slots) (hret : ∀ (pc : Nat) (ls : pq_L) (st : List Value) (cs ss : Nat) (i : Instr), pq_ends (pq_by M) (pq_rt M) r pc st i → cs ≤ (pq_lm M).1 → ss ≤ (pq_lm M).2 → pq_G p l e R s m args below meth c Q (pq_mL M) D ad h0 pc ls st w' cs ss)
    (X : pq_X p s m args meth c (pq_by M) (pq_y M).cls (pq_mL M) (pq_rt M) (pq_y M).name D ad h0) : ∀ (f pc : Nat) (ls : pq_L) (st : List Value) (w : pq_W) (cs ss : Nat), pq_exec call (pq_lim tab) (pq_lm M) (pq_rt M) (pq_cd M) f pc ls st w cs ss = some (r, w') →
      pq_G p l e R s m args below meth c Q (pq_mL M) D ad h0 pc ls st w cs ss := by
  intro f
  induction f with
  | zero =>
    intro pc ls st w cs ss h
    cases h
  | succ f ih =>
    intro pc ls st w cs ss h
    rw [pq_exec_s] at h
    split at h
    · rename_i q hq
      obtain ⟨⟨b, hb, hq1⟩, hq2⟩ := pq_look_mem _ _ _ hq
      have hm2 := List.all_eq_true.mp (List.all_eq_true.mp hM b hb) q hq1
      subst hq2
      exact pq_do_ok hok hcall hR hret X _ (fun pc ls st w cs ss hh => ih pc ls st w cs ss hh) q ls st w cs ss hm2 h
    · cases h
theorem pq_args_v (ad : Nat → Nat) : ∀ (as : List Value) (i : Nat), lv_args i (as.map (pq_v ad)) = pq_ls ad (lv_args i as)
  | [], i => rfl
  | v :: as, i => by
    show (i, pq_v ad v) :: lv_args (if (pq_v ad v).category = 2 then i + 2 else i + 1) (as.map (pq_v ad)) = (i, pq_v ad v) :: pq_ls ad (lv_args (if v.category = 2 then i + 2 else i + 1) as)
    rw [pq_v_cat, pq_args_v ad as]
theorem pq_sl_len : ∀ as : List Value, (lg_sl as).length = pq_sum as
  | [] => rfl
  | v :: as => by
    have ih := pq_sl_len as
    unfold lg_sl at ih ⊢
    unfold pq_sum at ih ⊢
    rw [List.flatMap_cons, List.length_append, ih, List.map_cons, List.sum_cons]
    rcases lv_cat v with h | h
    · rw [if_neg (by omega), h]; rfl
    · rw [if_pos h, h]; rfl
/-- THE PURE MACHINE IS RIGHT: what it says of a method's run is the method's contract -/
theorem pq_met {tab : List pq_M} (hok : ∀ M ∈ tab, pq_mok tab M) (F : Nat) (l : Launch) (ad : Nat → Nat) (D : va_G) (h0 : Nat) (hj : ∀ i j, pq_E ≤ i → ad i = ad j → i = j) (ho : ∀ i, pq_E ≤ i → h0 ≤ ad i) : ∀ (d j : Nat) (as : List Value) (w : pq_W) (r : Option Value) (w' : pq_W), pq_run tab F d j as w = some (r, w') →
    ∃ M, tab[j]? = some M ∧ pq_rcv M as w = true ∧ Met l (pq_y M) (pq_ws M) (pq_rm d (pq_lm M)) (pq_Pc ad D as w) (pq_Qc ad D h0 r w') (pq_lm M).1 (pq_lm M).2 (fun q => h0 ≤ q) := by
  intro d
  induction d with
  | zero =>
    intro j as w r w' h
    cases h
  | succ d ih =>
    intro j as w r w' h
    have h : (match tab[j]? with
      | some M => bif Nat.ble (pq_sum as) (pq_mL M) && pq_rcv M as w then pq_exec (pq_run tab F d) (pq_lim tab) (pq_lm M) (pq_rt M) (pq_cd M) F 0 (lv_args 0 as) [] w 0 0 else none
      | none => none) = some (r, w') := h
    split at h
    · rename_i M hM
      refine ⟨M, hM, ?_⟩
      cases hc : (Nat.ble (pq_sum as) (pq_mL M) && pq_rcv M as w) with
      | false =>
        rw [hc] at h
        cases h
      | true =>
        rw [hc] at h
        simp only [cond_true] at h
        simp only [Bool.and_eq_true] at hc
        refine ⟨hc.2, ?_⟩
        have hMm := List.mem_of_getElem? hM
        have hmm := hok M hMm
        have hmf := hmm.1
        refine Met.ofW (cc := pq_by M) (maxL := pq_mL M) (ret := pq_rt M) hmf.2.2.1 rfl ?_
        intro p e s m args below meth c s₁ B hml hv
        obtain ⟨rfl, hI, hK, hN⟩ := hv
        have hts := atoms_spec (ws := pq_ws M) B.pre
        have X : pq_X p s m _ meth c (pq_by M) (pq_y M).cls (pq_mL M) (pq_rt M) (pq_y M).name D ad h0 := ⟨B.exec, B.bytes, hml, findClass_of_methodNamed B.named, fun w hw => hts w (List.mem_cons_of_mem _ hw), hN, hK, B.returns, B.notSynchronized, (name_of_methodNamed B.named B.method).1, hj, ho⟩
        rw [lg_entry_eq]
        have hl := lv_entry (as.map (pq_v ad)) (n := pq_mL M) (by rw [pq_sl_len, show pq_sum (as.map (pq_v ad)) = pq_sum as from pq_sum_v ad as]; exact Nat.le_of_ble_eq_true hc.1)
        rw [pq_args_v] at hl
        exact pq_exec_ok (d := d) hok hmm.2 ih ⟨Nat.le_refl _, show 80 * d + 120 ≤ 80 * (d + 1) + 40 by omega, Nat.le_refl _, Nat.le_refl _⟩ (fun pc ls st cs ss i he h1 h2 => by
          rcases he with ⟨a1, rfl, x, rfl, rfl, a2⟩ | ⟨a1, rfl, x, rfl, rfl, a2⟩ | ⟨a1, rfl, rfl, rfl, a2⟩
          · exact pg_iret X a1 a2 h1 h2
          · exact pg_lret X a1 a2 h1 h2
          · exact pg_vret X a1 a2 h1 h2) X F 0 (lv_args 0 as) [] w 0 0 h s.heap [] _ hl hI va_S.rf
    · cases h
