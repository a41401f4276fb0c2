/-! rows by hand: a field read, an array's place read, over any world (for loops that want each place exactly: image, restore) -/
section RDA
variable {k : Nat} {M : pq_M} {pc pc0 nx t r cs ss : Nat} {ls : pq_L} {st : List Value} {w : pq_W} {res : pq_R} {i : Instr} {v z : Value}
theorem go_fld {ci a1 : Nat} {fs : List Value} (hq : pq_look (pq_cd M) pc = some (pc0, 19, nx, i, [ci, a1], v, t)) (hr : w[r]? = some (.inr (ci, fs))) (hz : fs[a1]? = some z) (g : pq_Go k M nx ls (z :: st) w cs ss res) : pq_Go k M pc ls (.ref r :: st) w cs ss res := by
  refine go_seg 1 g (fun call f => ?_)
  rw [pq_exec_s, hq]
  show (match w[r]? with
    | some (.inr (ci', fs)) => bif Nat.beq ci' ci then (match fs[a1]? with
      | some z => _
      | none => none) else none
    | _ => none) = _
  rw [hr]
  show (bif Nat.beq ci ci then (match fs[a1]? with
      | some z => _
      | none => none) else none) = _
  rw [show Nat.beq ci ci = true from Nat.beq_refl ci, hz]
  rfl
theorem go_ald {a0 : Nat} {x : Int32} {c0 : pq_C} (hq : pq_look (pq_cd M) pc = some (pc0, 21, nx, i, [a0], v, t)) (hr : w[r]? = some c0) (hz : pq_ald c0 x a0 = some z) (g : pq_Go k M nx ls (z :: st) w cs ss res) : pq_Go k M pc ls (.int x :: .ref r :: st) w cs ss res := by
  refine go_seg 1 g (fun call f => ?_)
  rw [pq_exec_s, hq]
  show (match w[r]? with
    | some c => match pq_ald c x a0 with
      | some z => _
      | none => none
    | none => none) = _
  rw [hr]
  show (match pq_ald c0 x a0 with
      | some z => _
      | none => none) = _
  rw [hz]
end RDA
