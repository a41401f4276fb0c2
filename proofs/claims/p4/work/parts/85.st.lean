/-! what the Statement gives of the start: the static fields, the text of names -/
def st_F : List Cond := flatC (Jvm.Cond.and given_1 narrow_1)
def st_tA : Term := .static "SkyFees" "ABOVE" "[I"
def st_tB : Term := .static "SkyFees" "BODIES" "[I"
def st_tS : Term := .string "SkyFeesModel" 195
def st_tV : Term := .field st_tS "java/lang/String" "value" "[B"
theorem st_eA : ∀ j : Nat, j < 6 → Cond.eq (.elem st_tA (.int (Int32.ofNat j))) (.int (([-1, 0, 1, 0, 0, 3] : List Int32).getD j 0)) ∈ st_F := by decide +kernel
theorem st_eB : ∀ j : Nat, j < 24 → Cond.eq (.elem st_tB (.int (Int32.ofNat j))) (.int (([10, 11, 12, 13, 20, 0, 0, 21, 31, 0, 30, 0, 0, 40, 0, 0, 0, 0, 0, 50, 0, 61, 60, 0] : List Int32).getD j 0)) ∈ st_F := by decide +kernel
theorem st_eV : ∀ j : Nat, j < 6 → Cond.eq (.elem st_tV (.int (Int32.ofNat j))) (.int (([119, 107, 97, 109, 100, 108] : List Int32).getD j 0)) ∈ st_F := by decide +kernel
theorem st_l : Cond.arrayOf st_tA .int ∈ st_F ∧ Cond.eq (.length st_tA) (.int (Int32.ofNat 6)) ∈ st_F ∧ Cond.arrayOf st_tB .int ∈ st_F ∧ Cond.eq (.length st_tB) (.int (Int32.ofNat 24)) ∈ st_F ∧ Cond.arrayOf st_tV .byte ∈ st_F ∧ Cond.eq (.length st_tV) (.int (Int32.ofNat 6)) ∈ st_F ∧ Cond.exactly st_tS "java/lang/String" ∈ st_F ∧ Cond.eq (.field st_tS "java/lang/String" "coder" "B") (.int 0) ∈ st_F ∧ Cond.eq (.static "java/lang/String" "COMPACT_STRINGS" "Z") (.int 1) ∈ st_F := by decide +kernel
/-- the cells that were there before, and what is known of them -/
def st_K (aA aB aS aV : Nat) (A : Nat → Prop) (s : State) : Prop :=
  (va_Z "SkyFees" "ABOVE" "[I" (.ref aA) A s s.heap ∧ va_Z "SkyFees" "BODIES" "[I" (.ref aB) A s s.heap ∧ va_Z "java/lang/String" "COMPACT_STRINGS" "Z" (.int 1) A s s.heap) ∧ va_T .int aA 6 (fun j => .int (([-1, 0, 1, 0, 0, 3] : List Int32).getD j 0)) A s s.heap ∧ va_T .int aB 24 (fun j => .int (([10, 11, 12, 13, 20, 0, 0, 21, 31, 0, 30, 0, 0, 40, 0, 0, 0, 0, 0, 50, 0, 61, 60, 0] : List Int32).getD j 0)) A s s.heap ∧ (va_O "java/lang/String" aS A s s.heap ∧ va_OF "java/lang/String" "coder" "B" (.int 0) aS A s s.heap ∧ va_OF "java/lang/String" "value" "[B" (.ref aV) aS A s s.heap) ∧ va_T .byte aV 6 (fun j => .int (([119, 107, 97, 109, 100, 108] : List Int32).getD j 0)) A s s.heap ∧ vk_R "SkyFeesModel" 195 "wkamdl" aS s
theorem st_all {args : Array Value} {s : State} (hgv : (Jvm.Cond.and given_1 narrow_1).before args s = true) (hts : ∀ w ∈ lw_tbl, w.before args s = true) : ∃ aA aB aS aV : Nat, (aA < s.heap.size ∧ aB < s.heap.size ∧ aS < s.heap.size ∧ aV < s.heap.size) ∧ ∀ A : Nat → Prop, (∀ a : Nat, a < s.heap.size → ¬ A a) → st_K aA aB aS aV A s := by
  have hs : ∀ c ∈ st_F, c.before args s = true := flat_of_before _ hgv
  obtain ⟨l1, l2, l3, l4, l5, l6, l7, l8, l9⟩ := st_l
  have n0 : ∀ a : Nat, a < s.heap.size → ¬ (fun _ : Nat => False) a := fun _ _ h => h
  obtain ⟨aA, eA, tA⟩ := va_Tof (tm := st_tA) (f := fun j => .int (([-1, 0, 1, 0, 0, 3] : List Int32).getD j 0)) (A := fun _ => False) (N := 6) (by decide) (hs _ l1) (va_eqt (hs _ l2)) (fun j hj => va_eqt (hs _ (st_eA j hj))) n0
  obtain ⟨aB, eB, tB⟩ := va_Tof (tm := st_tB) (f := fun j => .int (([10, 11, 12, 13, 20, 0, 0, 21, 31, 0, 30, 0, 0, 40, 0, 0, 0, 0, 0, 50, 0, 61, 60, 0] : List Int32).getD j 0)) (A := fun _ => False) (N := 24) (by decide) (hs _ l3) (va_eqt (hs _ l4)) (fun j hj => va_eqt (hs _ (st_eB j hj))) n0
  obtain ⟨aV, eV, tV⟩ := va_Tof (tm := st_tV) (f := fun j => .int (([119, 107, 97, 109, 100, 108] : List Int32).getD j 0)) (A := fun _ => False) (N := 6) (by decide) (hs _ l5) (va_eqt (hs _ l6)) (fun j hj => va_eqt (hs _ (st_eV j hj))) n0
  obtain ⟨aS, c, cA, kA, eS, q2, q3, q4, q5, q6, -⟩ := Cond.exactly_spec (args := args) (first := s) (o := none) (s := s) (idx := []) (t := st_tS) (cls := "java/lang/String") (hs _ l7)
  refine ⟨aA, aB, aS, aV, ⟨?_, ?_, (Array.getElem?_eq_some_iff.mp q3).1, ?_⟩, fun A hA => ?_⟩
  · obtain ⟨cl, g, -⟩ := tA
    exact (Array.getElem?_eq_some_iff.mp g).1
  · obtain ⟨cl, g, -⟩ := tB
    exact (Array.getElem?_eq_some_iff.mp g).1
  · obtain ⟨cl, g, -⟩ := tV
    exact (Array.getElem?_eq_some_iff.mp g).1
  · have tT : ∀ {ty : FieldType} {t N : Nat} {f : Nat → Value}, va_T ty t N f (fun _ => False) s s.heap → va_T ty t N f A s s.heap := fun h => by
      obtain ⟨cell, h1, h2, h3, h4, h5, h6, -⟩ := h
      exact ⟨cell, h1, h2, h3, h4, h5, h6, hA _ (Array.getElem?_eq_some_iff.mp h1).1⟩
    refine ⟨⟨va_Zof (hts _ (pq_wat_mem (t := 3053) (by decide +kernel))) (hts _ (pq_wat_mem (t := 1001) (by decide +kernel))) eA hA, va_Zof (hts _ (pq_wat_mem (t := 5019) (by decide +kernel))) (hts _ (pq_wat_mem (t := 1001) (by decide +kernel))) eB hA, va_Zof (hts _ (pq_wat_mem (t := 6170) (by decide +kernel))) (hts _ (pq_wat_mem (t := 1016) (by decide +kernel))) (va_eqt (hs _ l9)) hA⟩, tT tA, tT tB, ⟨⟨cA, q3, q5, by rw [q6]; exact q2, hA _ (Array.getElem?_eq_some_iff.mp q3).1⟩, vk_OFof eS (va_eqt (hs _ l8)) hA, vk_OFof eS eV hA⟩, tT tV, vk_R.of (hts _ (pq_wat_mem (t := 6156) (by decide +kernel))) eS⟩
