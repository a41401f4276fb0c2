def RX0 : String := "SkyFees$Billing"
def TX0 : u_T := fun k => match k with
  | 0 => ("SkyFees$Billing", "sky", "LSkyFees$Sky;", true)
  | 1 => ("SkyFees$Billing", "fleet", "LSkyFees$Fleet;", true)
  | 2 => ("SkyFees$Billing", "flights", "LSkyFees$Flights;", true)
  | 3 => ("SkyFees$Billing", "court", "LSkyFees$Court;", true)
  | 4 => ("SkyFees$Billing", "least", "[I", true)
  | _ => ("SkyFees$Billing", "most", "[I", true)
def tyX0 : Nat → FieldType := fun k => match k with
  | 0 => .object "SkyFees$Sky"
  | 1 => .object "SkyFees$Fleet"
  | 2 => .object "SkyFees$Flights"
  | 3 => .object "SkyFees$Court"
  | 4 => .array .int
  | _ => .array .int
theorem nmX0 : ∀ a, a < 6 → ∀ b, b < 6 → a ≠ b → (TX0 a).2.1 ≠ (TX0 b).2.1 := by decide +kernel
theorem tyX0_ok : ∀ k, k < 6 → parseFieldDescriptor (TX0 k).2.2.1 = some (tyX0 k) := by decide +kernel
def RX1 : String := "SkyFees$Court"
def TX1 : u_T := fun k => match k with
  | 0 => ("SkyFees$Court", "sky", "LSkyFees$Sky;", true)
  | 1 => ("SkyFees$Court", "fleet", "LSkyFees$Fleet;", true)
  | 2 => ("SkyFees$Court", "treaty", "LSkyFees$Treaty;", true)
  | 3 => ("SkyFees$Court", "flights", "LSkyFees$Flights;", true)
  | 4 => ("SkyFees$Court", "names", "[I", true)
  | _ => ("SkyFees$Court", "stack", "[I", true)
def tyX1 : Nat → FieldType := fun k => match k with
  | 0 => .object "SkyFees$Sky"
  | 1 => .object "SkyFees$Fleet"
  | 2 => .object "SkyFees$Treaty"
  | 3 => .object "SkyFees$Flights"
  | 4 => .array .int
  | _ => .array .int
theorem nmX1 : ∀ a, a < 6 → ∀ b, b < 6 → a ≠ b → (TX1 a).2.1 ≠ (TX1 b).2.1 := by decide +kernel
theorem tyX1_ok : ∀ k, k < 6 → parseFieldDescriptor (TX1 k).2.2.1 = some (tyX1 k) := by decide +kernel
def RX2 : String := "SkyFees$Fleet"
def TX2 : u_T := fun k => match k with
  | 0 => ("SkyFees$Fleet", "airlines", "I", false)
  | 1 => ("SkyFees$Fleet", "purse", "[I", true)
  | 2 => ("SkyFees$Fleet", "ended", "[Z", true)
  | 3 => ("SkyFees$Fleet", "debt", "[I", true)
  | 4 => ("SkyFees$Fleet", "planes", "I", false)
  | 5 => ("SkyFees$Fleet", "kind", "[I", true)
  | 6 => ("SkyFees$Fleet", "line", "[I", true)
  | 7 => ("SkyFees$Fleet", "weight", "[I", true)
  | _ => ("SkyFees$Fleet", "remainder", "[J", true)
def tyX2 : Nat → FieldType := fun k => match k with
  | 0 => .int
  | 1 => .array .int
  | 2 => .array .boolean
  | 3 => .array .int
  | 4 => .int
  | 5 => .array .int
  | 6 => .array .int
  | 7 => .array .int
  | _ => .array .long
theorem nmX2 : ∀ a, a < 9 → ∀ b, b < 9 → a ≠ b → (TX2 a).2.1 ≠ (TX2 b).2.1 := by decide +kernel
theorem tyX2_ok : ∀ k, k < 9 → parseFieldDescriptor (TX2 k).2.2.1 = some (tyX2 k) := by decide +kernel
def RX3 : String := "SkyFees$Flights"
def TX3 : u_T := fun k => match k with
  | 0 => ("SkyFees$Flights", "count", "I", false)
  | 1 => ("SkyFees$Flights", "plane", "[I", true)
  | 2 => ("SkyFees$Flights", "day", "[I", true)
  | 3 => ("SkyFees$Flights", "billedOn", "[I", true)
  | 4 => ("SkyFees$Flights", "doubled", "[Z", true)
  | 5 => ("SkyFees$Flights", "fees", "[I", true)
  | 6 => ("SkyFees$Flights", "rates", "[I", true)
  | 7 => ("SkyFees$Flights", "told", "I", false)
  | 8 => ("SkyFees$Flights", "toldFlight", "[I", true)
  | 9 => ("SkyFees$Flights", "toldDay", "[I", true)
  | 10 => ("SkyFees$Flights", "size", "[I", true)
  | _ => ("SkyFees$Flights", "numbers", "[I", true)
def tyX3 : Nat → FieldType := fun k => match k with
  | 0 => .int
  | 1 => .array .int
  | 2 => .array .int
  | 3 => .array .int
  | 4 => .array .boolean
  | 5 => .array .int
  | 6 => .array .int
  | 7 => .int
  | 8 => .array .int
  | 9 => .array .int
  | 10 => .array .int
  | _ => .array .int
theorem nmX3 : ∀ a, a < 12 → ∀ b, b < 12 → a ≠ b → (TX3 a).2.1 ≠ (TX3 b).2.1 := by decide +kernel
theorem tyX3_ok : ∀ k, k < 12 → parseFieldDescriptor (TX3 k).2.2.1 = some (tyX3 k) := by decide +kernel
def RX4 : String := "SkyFees$Reader"
def TX4 : u_T := fun k => match k with
  | 0 => ("SkyFees$Reader", "code", "[I", true)
  | 1 => ("SkyFees$Reader", "size", "I", false)
  | 2 => ("SkyFees$Reader", "text", "[B", false)
  | 3 => ("SkyFees$Reader", "bytes", "I", false)
  | 4 => ("SkyFees$Reader", "place", "I", false)
  | _ => ("SkyFees$Reader", "fault", "I", false)
def tyX4 : Nat → FieldType := fun k => match k with
  | 0 => .array .int
  | 1 => .int
  | 2 => .array .byte
  | 3 => .int
  | 4 => .int
  | _ => .int
theorem nmX4 : ∀ a, a < 6 → ∀ b, b < 6 → a ≠ b → (TX4 a).2.1 ≠ (TX4 b).2.1 := by decide +kernel
theorem tyX4_ok : ∀ k, k < 6 → parseFieldDescriptor (TX4 k).2.2.1 = some (tyX4 k) := by decide +kernel
def RX5 : String := "SkyFees$Routes"
def TX5 : u_T := fun k => match k with
  | 0 => ("SkyFees$Routes", "way", "[I", true)
  | 1 => ("SkyFees$Routes", "steps", "I", false)
  | 2 => ("SkyFees$Routes", "sky", "LSkyFees$Sky;", true)
  | 3 => ("SkyFees$Routes", "court", "LSkyFees$Court;", true)
  | 4 => ("SkyFees$Routes", "toll", "[I", true)
  | _ => ("SkyFees$Routes", "far", "[J", true)
def tyX5 : Nat → FieldType := fun k => match k with
  | 0 => .array .int
  | 1 => .int
  | 2 => .object "SkyFees$Sky"
  | 3 => .object "SkyFees$Court"
  | 4 => .array .int
  | _ => .array .long
theorem nmX5 : ∀ a, a < 6 → ∀ b, b < 6 → a ≠ b → (TX5 a).2.1 ≠ (TX5 b).2.1 := by decide +kernel
theorem tyX5_ok : ∀ k, k < 6 → parseFieldDescriptor (TX5 k).2.2.1 = some (tyX5 k) := by decide +kernel
def RX6 : String := "SkyFees$Sheets"
def TX6 : u_T := fun k => match k with
  | 0 => ("SkyFees$Sheets", "bits", "[I", true)
  | 1 => ("SkyFees$Sheets", "numbers", "[I", true)
  | _ => ("SkyFees$Sheets", "size", "[I", true)
def tyX6 : Nat → FieldType := fun k => match k with
  | 0 => .array .int
  | 1 => .array .int
  | _ => .array .int
theorem nmX6 : ∀ a, a < 3 → ∀ b, b < 3 → a ≠ b → (TX6 a).2.1 ≠ (TX6 b).2.1 := by decide +kernel
theorem tyX6_ok : ∀ k, k < 3 → parseFieldDescriptor (TX6 k).2.2.1 = some (tyX6 k) := by decide +kernel
def RX7 : String := "SkyFees$Sky"
def TX7 : u_T := fun k => match k with
  | 0 => ("SkyFees$Sky", "owner", "[I", true)
  | 1 => ("SkyFees$Sky", "shut", "[Z", true)
  | 2 => ("SkyFees$Sky", "cost", "[I", true)
  | 3 => ("SkyFees$Sky", "foretold", "[I", true)
  | 4 => ("SkyFees$Sky", "rate", "[I", true)
  | 5 => ("SkyFees$Sky", "income", "[I", true)
  | 6 => ("SkyFees$Sky", "rest", "[I", true)
  | 7 => ("SkyFees$Sky", "lost", "[I", true)
  | 8 => ("SkyFees$Sky", "day", "I", false)
  | _ => ("SkyFees$Sky", "fuelPrice", "I", false)
def tyX7 : Nat → FieldType := fun k => match k with
  | 0 => .array .int
  | 1 => .array .boolean
  | 2 => .array .int
  | 3 => .array .int
  | 4 => .array .int
  | 5 => .array .int
  | 6 => .array .int
  | 7 => .array .int
  | 8 => .int
  | _ => .int
theorem nmX7 : ∀ a, a < 10 → ∀ b, b < 10 → a ≠ b → (TX7 a).2.1 ≠ (TX7 b).2.1 := by decide +kernel
theorem tyX7_ok : ∀ k, k < 10 → parseFieldDescriptor (TX7 k).2.2.1 = some (tyX7 k) := by decide +kernel
def RX8 : String := "SkyFees$Treaty"
def TX8 : u_T := fun k => match k with
  | 0 => ("SkyFees$Treaty", "tape", "[B", true)
  | 1 => ("SkyFees$Treaty", "tapeSize", "I", false)
  | 2 => ("SkyFees$Treaty", "laws", "I", false)
  | 3 => ("SkyFees$Treaty", "use", "[I", true)
  | 4 => ("SkyFees$Treaty", "from", "[I", true)
  | 5 => ("SkyFees$Treaty", "size", "[I", true)
  | _ => ("SkyFees$Treaty", "code", "[I", true)
def tyX8 : Nat → FieldType := fun k => match k with
  | 0 => .array .byte
  | 1 => .int
  | 2 => .int
  | 3 => .array .int
  | 4 => .array .int
  | 5 => .array .int
  | _ => .array .int
theorem nmX8 : ∀ a, a < 7 → ∀ b, b < 7 → a ≠ b → (TX8 a).2.1 ≠ (TX8 b).2.1 := by decide +kernel
theorem tyX8_ok : ∀ k, k < 7 → parseFieldDescriptor (TX8 k).2.2.1 = some (tyX8 k) := by decide +kernel
def RX9 : String := "SkyFees$Voices"
def TX9 : u_T := fun k => match k with
  | 0 => ("SkyFees$Voices", "bodies", "[I", true)
  | 1 => ("SkyFees$Voices", "begun", "I", false)
  | 2 => ("SkyFees$Voices", "number", "I", false)
  | 3 => ("SkyFees$Voices", "weight", "I", false)
  | _ => ("SkyFees$Voices", "kind", "I", false)
def tyX9 : Nat → FieldType := fun k => match k with
  | 0 => .array .int
  | 1 => .int
  | 2 => .int
  | 3 => .int
  | _ => .int
theorem nmX9 : ∀ a, a < 5 → ∀ b, b < 5 → a ≠ b → (TX9 a).2.1 ≠ (TX9 b).2.1 := by decide +kernel
theorem tyX9_ok : ∀ k, k < 5 → parseFieldDescriptor (TX9 k).2.2.1 = some (tyX9 k) := by decide +kernel
def RX10 : String := "SkyFees"
def TX10 : u_T := fun k => match k with
  | 0 => ("SkyFees", "sky", "LSkyFees$Sky;", true)
  | 1 => ("SkyFees", "fleet", "LSkyFees$Fleet;", true)
  | 2 => ("SkyFees", "treaty", "LSkyFees$Treaty;", true)
  | 3 => ("SkyFees", "flights", "LSkyFees$Flights;", true)
  | 4 => ("SkyFees", "keptSky", "LSkyFees$Sky;", true)
  | 5 => ("SkyFees", "keptFleet", "LSkyFees$Fleet;", true)
  | 6 => ("SkyFees", "keptTreaty", "LSkyFees$Treaty;", true)
  | 7 => ("SkyFees", "keptFlights", "LSkyFees$Flights;", true)
  | 8 => ("SkyFees", "reader", "LSkyFees$Reader;", true)
  | 9 => ("SkyFees", "court", "LSkyFees$Court;", true)
  | 10 => ("SkyFees", "billing", "LSkyFees$Billing;", true)
  | 11 => ("SkyFees", "routes", "LSkyFees$Routes;", true)
  | 12 => ("SkyFees", "voices", "LSkyFees$Voices;", true)
  | 13 => ("SkyFees", "sheets", "LSkyFees$Sheets;", true)
  | 14 => ("SkyFees", "findings", "[I", true)
  | _ => ("SkyFees", "images", "I", false)
def tyX10 : Nat → FieldType := fun k => match k with
  | 0 => .object "SkyFees$Sky"
  | 1 => .object "SkyFees$Fleet"
  | 2 => .object "SkyFees$Treaty"
  | 3 => .object "SkyFees$Flights"
  | 4 => .object "SkyFees$Sky"
  | 5 => .object "SkyFees$Fleet"
  | 6 => .object "SkyFees$Treaty"
  | 7 => .object "SkyFees$Flights"
  | 8 => .object "SkyFees$Reader"
  | 9 => .object "SkyFees$Court"
  | 10 => .object "SkyFees$Billing"
  | 11 => .object "SkyFees$Routes"
  | 12 => .object "SkyFees$Voices"
  | 13 => .object "SkyFees$Sheets"
  | 14 => .array .int
  | _ => .int
theorem nmX10 : ∀ a, a < 16 → ∀ b, b < 16 → a ≠ b → (TX10 a).2.1 ≠ (TX10 b).2.1 := by decide +kernel
theorem tyX10_ok : ∀ k, k < 16 → parseFieldDescriptor (TX10 k).2.2.1 = some (tyX10 k) := by decide +kernel
def RX11 : String := "SkyFeesModel"
def TX11 : u_T := fun k => match k with
  | 0 => ("SkyFeesModel", "now", "[I", true)
  | 1 => ("SkyFeesModel", "kept", "[I", true)
  | 2 => ("SkyFeesModel", "images", "I", false)
  | 3 => ("SkyFeesModel", "found", "[I", true)
  | 4 => ("SkyFeesModel", "widths", "[I", true)
  | 5 => ("SkyFeesModel", "sizes", "[I", true)
  | 6 => ("SkyFeesModel", "numbers", "[I", true)
  | 7 => ("SkyFeesModel", "trace", "[I", true)
  | 8 => ("SkyFeesModel", "traced", "I", false)
  | 9 => ("SkyFeesModel", "parts", "[J", true)
  | 10 => ("SkyFeesModel", "remainders", "[J", true)
  | 11 => ("SkyFeesModel", "at", "I", false)
  | 12 => ("SkyFeesModel", "open", "I", false)
  | 13 => ("SkyFeesModel", "isFault", "Z", false)
  | 14 => ("SkyFeesModel", "code", "[I", true)
  | 15 => ("SkyFeesModel", "coded", "I", false)
  | 16 => ("SkyFeesModel", "pile", "[I", true)
  | 17 => ("SkyFeesModel", "ways", "[I", true)
  | 18 => ("SkyFeesModel", "behind", "[I", true)
  | 19 => ("SkyFeesModel", "due", "[I", true)
  | 20 => ("SkyFeesModel", "costs", "[I", true)
  | 21 => ("SkyFeesModel", "steps", "[I", true)
  | 22 => ("SkyFeesModel", "ends", "[I", true)
  | 23 => ("SkyFeesModel", "way", "[I", true)
  | 24 => ("SkyFeesModel", "speaker", "I", false)
  | _ => ("SkyFeesModel", "between", "[I", true)
def tyX11 : Nat → FieldType := fun k => match k with
  | 0 => .array .int
  | 1 => .array .int
  | 2 => .int
  | 3 => .array .int
  | 4 => .array .int
  | 5 => .array .int
  | 6 => .array .int
  | 7 => .array .int
  | 8 => .int
  | 9 => .array .long
  | 10 => .array .long
  | 11 => .int
  | 12 => .int
  | 13 => .boolean
  | 14 => .array .int
  | 15 => .int
  | 16 => .array .int
  | 17 => .array .int
  | 18 => .array .int
  | 19 => .array .int
  | 20 => .array .int
  | 21 => .array .int
  | 22 => .array .int
  | 23 => .array .int
  | 24 => .int
  | _ => .array .int
theorem nmX11 : ∀ a, a < 26 → ∀ b, b < 26 → a ≠ b → (TX11 a).2.1 ≠ (TX11 b).2.1 := by decide +kernel
theorem tyX11_ok : ∀ k, k < 26 → parseFieldDescriptor (TX11 k).2.2.1 = some (tyX11 k) := by decide +kernel
abbrev pq_cl : List vw_C := [(RX0, TX0, 6), (RX1, TX1, 6), (RX2, TX2, 9), (RX3, TX3, 12), (RX4, TX4, 6), (RX5, TX5, 6), (RX6, TX6, 3), (RX7, TX7, 10), (RX8, TX8, 7), (RX9, TX9, 5), (RX10, TX10, 16), (RX11, TX11, 26)]
def pq_dfl : List (List Value) := [[.null, .null, .null, .null, .null, .null], [.null, .null, .null, .null, .null, .null], [.int 0, .null, .null, .null, .int 0, .null, .null, .null, .null], [.int 0, .null, .null, .null, .null, .null, .null, .int 0, .null, .null, .null, .null], [.null, .int 0, .null, .int 0, .int 0, .int 0], [.null, .int 0, .null, .null, .null, .null], [.null, .null, .null], [.null, .null, .null, .null, .null, .null, .null, .null, .int 0, .int 0], [.null, .int 0, .int 0, .null, .null, .null, .null], [.null, .int 0, .int 0, .int 0, .int 0], [.null, .null, .null, .null, .null, .null, .null, .null, .null, .null, .null, .null, .null, .null, .null, .int 0], [.null, .null, .int 0, .null, .null, .null, .null, .null, .int 0, .null, .null, .int 0, .int 0, .int 0, .null, .int 0, .null, .null, .null, .null, .null, .null, .null, .null, .int 0, .null]]
def pq_gt : List Cond := lw_tbl.filter goodWord
def pq_isN : Cond → Bool
  | .methodLinkNest .. => true
  | .fieldLinkNest .. => true
  | _ => false
def pq_Ns (U : State) : Prop := ∀ w ∈ lw_tbl, pq_isN w = true → va_Nw w U
def pq_piece (k : Nat) : List Cond := match k with
  | 0 => k2_sels lw_privs
  | 1 => tables_1_1
  | 2 => tables_1_2
  | 3 => tables_1_3
  | 4 => tables_1_4
  | 5 => tables_1_5
  | 6 => tables_1_6
  | _ => tables_1_7
/-- the word at a place: a piece of the tables' words, and its number there -/
def pq_wat (t : Nat) : Option Cond := (pq_piece (t / 1000))[t % 1000]?
theorem pq_piece_mem (k : Nat) (w : Cond) (h : w ∈ pq_piece k) : w ∈ lw_tbl := by
  unfold lw_tbl tables_1
  simp only [List.mem_append]
  unfold pq_piece at h
  split at h
  · exact Or.inl h
  · exact Or.inr (Or.inl h)
  · exact Or.inr (Or.inr (Or.inl h))
  · exact Or.inr (Or.inr (Or.inr (Or.inl h)))
  · exact Or.inr (Or.inr (Or.inr (Or.inr (Or.inl h))))
  · exact Or.inr (Or.inr (Or.inr (Or.inr (Or.inr (Or.inl h)))))
  · exact Or.inr (Or.inr (Or.inr (Or.inr (Or.inr (Or.inr (Or.inl h))))))
  · exact Or.inr (Or.inr (Or.inr (Or.inr (Or.inr (Or.inr (Or.inr h))))))
theorem pq_wat_mem {t : Nat} {w : Cond} (h : pq_wat t = some w) : w ∈ lw_tbl := pq_piece_mem _ _ (List.mem_of_getElem? h)
theorem pq_gt_mem {w : Cond} (t : Nat) (h : pq_wat t = some w) (hg : goodWord w = true) : w ∈ pq_gt := List.mem_filter.mpr ⟨pq_wat_mem h, hg⟩
theorem pq_gt_good : GoodIn pq_gt pq_gt := fun w hw => ⟨hw, good_of_word (List.mem_filter.mp hw).2⟩
theorem pq_gt_in : GoodIn lw_tbl pq_gt := fun w hw => ⟨(List.mem_filter.mp hw).1, good_of_word (List.mem_filter.mp hw).2⟩
theorem pq_in0 : ∀ w ∈ u_ws RX0 TX0 6, w ∈ pq_gt := by
  intro w hw
  obtain ⟨k, hk, rfl⟩ := List.mem_map.mp hw
  have hk := List.mem_range.mp hk
  have H : ∀ k, k < 6 → pq_wat (([2059, 2061, 2063, 2065, 2067, 2069] : List Nat).getD k 0) = some (u_lay RX0 TX0 k) ∧ goodWord (u_lay RX0 TX0 k) = true := by decide +kernel
  exact pq_gt_mem _ (H k hk).1 (H k hk).2
theorem pq_in1 : ∀ w ∈ u_ws RX1 TX1 6, w ∈ pq_gt := by
  intro w hw
  obtain ⟨k, hk, rfl⟩ := List.mem_map.mp hw
  have hk := List.mem_range.mp hk
  have H : ∀ k, k < 6 → pq_wat (([2034, 2036, 2038, 2040, 2042, 2044] : List Nat).getD k 0) = some (u_lay RX1 TX1 k) ∧ goodWord (u_lay RX1 TX1 k) = true := by decide +kernel
  exact pq_gt_mem _ (H k hk).1 (H k hk).2
theorem pq_in2 : ∀ w ∈ u_ws RX2 TX2 9, w ∈ pq_gt := by
  intro w hw
  obtain ⟨k, hk, rfl⟩ := List.mem_map.mp hw
  have hk := List.mem_range.mp hk
  have H : ∀ k, k < 9 → pq_wat (([1117, 1119, 1121, 1123, 1125, 1127, 1129, 1131, 1133] : List Nat).getD k 0) = some (u_lay RX2 TX2 k) ∧ goodWord (u_lay RX2 TX2 k) = true := by decide +kernel
  exact pq_gt_mem _ (H k hk).1 (H k hk).2
theorem pq_in3 : ∀ w ∈ u_ws RX3 TX3 12, w ∈ pq_gt := by
  intro w hw
  obtain ⟨k, hk, rfl⟩ := List.mem_map.mp hw
  have hk := List.mem_range.mp hk
  have H : ∀ k, k < 12 → pq_wat (([1210, 1212, 1214, 1216, 1218, 1220, 1222, 1224, 1226, 1228, 1230, 1232] : List Nat).getD k 0) = some (u_lay RX3 TX3 k) ∧ goodWord (u_lay RX3 TX3 k) = true := by decide +kernel
  exact pq_gt_mem _ (H k hk).1 (H k hk).2
theorem pq_in4 : ∀ w ∈ u_ws RX4 TX4 6, w ∈ pq_gt := by
  intro w hw
  obtain ⟨k, hk, rfl⟩ := List.mem_map.mp hw
  have hk := List.mem_range.mp hk
  have H : ∀ k, k < 6 → pq_wat (([2009, 2011, 2013, 2015, 2017, 2019] : List Nat).getD k 0) = some (u_lay RX4 TX4 k) ∧ goodWord (u_lay RX4 TX4 k) = true := by decide +kernel
  exact pq_gt_mem _ (H k hk).1 (H k hk).2
theorem pq_in5 : ∀ w ∈ u_ws RX5 TX5 6, w ∈ pq_gt := by
  intro w hw
  obtain ⟨k, hk, rfl⟩ := List.mem_map.mp hw
  have hk := List.mem_range.mp hk
  have H : ∀ k, k < 6 → pq_wat (([2086, 2088, 2090, 2092, 2094, 2096] : List Nat).getD k 0) = some (u_lay RX5 TX5 k) ∧ goodWord (u_lay RX5 TX5 k) = true := by decide +kernel
  exact pq_gt_mem _ (H k hk).1 (H k hk).2
theorem pq_in6 : ∀ w ∈ u_ws RX6 TX6 3, w ∈ pq_gt := by
  intro w hw
  obtain ⟨k, hk, rfl⟩ := List.mem_map.mp hw
  have hk := List.mem_range.mp hk
  have H : ∀ k, k < 3 → pq_wat (([2134, 2136, 2138] : List Nat).getD k 0) = some (u_lay RX6 TX6 k) ∧ goodWord (u_lay RX6 TX6 k) = true := by decide +kernel
  exact pq_gt_mem _ (H k hk).1 (H k hk).2
theorem pq_in7 : ∀ w ∈ u_ws RX7 TX7 10, w ∈ pq_gt := by
  intro w hw
  obtain ⟨k, hk, rfl⟩ := List.mem_map.mp hw
  have hk := List.mem_range.mp hk
  have H : ∀ k, k < 10 → pq_wat (([1066, 1068, 1070, 1072, 1074, 1076, 1078, 1080, 1082, 1084] : List Nat).getD k 0) = some (u_lay RX7 TX7 k) ∧ goodWord (u_lay RX7 TX7 k) = true := by decide +kernel
  exact pq_gt_mem _ (H k hk).1 (H k hk).2
theorem pq_in8 : ∀ w ∈ u_ws RX8 TX8 7, w ∈ pq_gt := by
  intro w hw
  obtain ⟨k, hk, rfl⟩ := List.mem_map.mp hw
  have hk := List.mem_range.mp hk
  have H : ∀ k, k < 7 → pq_wat (([1155, 1157, 1159, 1161, 1163, 1165, 1167] : List Nat).getD k 0) = some (u_lay RX8 TX8 k) ∧ goodWord (u_lay RX8 TX8 k) = true := by decide +kernel
  exact pq_gt_mem _ (H k hk).1 (H k hk).2
theorem pq_in9 : ∀ w ∈ u_ws RX9 TX9 5, w ∈ pq_gt := by
  intro w hw
  obtain ⟨k, hk, rfl⟩ := List.mem_map.mp hw
  have hk := List.mem_range.mp hk
  have H : ∀ k, k < 5 → pq_wat (([2112, 2114, 2116, 2118, 2120] : List Nat).getD k 0) = some (u_lay RX9 TX9 k) ∧ goodWord (u_lay RX9 TX9 k) = true := by decide +kernel
  exact pq_gt_mem _ (H k hk).1 (H k hk).2
theorem pq_in10 : ∀ w ∈ u_ws RX10 TX10 16, w ∈ pq_gt := by
  intro w hw
  obtain ⟨k, hk, rfl⟩ := List.mem_map.mp hw
  have hk := List.mem_range.mp hk
  have H : ∀ k, k < 16 → pq_wat (([2157, 2159, 2161, 2163, 2165, 2167, 2169, 2171, 2173, 2175, 2177, 2179, 2181, 2183, 2185, 2187] : List Nat).getD k 0) = some (u_lay RX10 TX10 k) ∧ goodWord (u_lay RX10 TX10 k) = true := by decide +kernel
  exact pq_gt_mem _ (H k hk).1 (H k hk).2
theorem pq_in11 : ∀ w ∈ u_ws RX11 TX11 26, w ∈ pq_gt := by
  intro w hw
  obtain ⟨k, hk, rfl⟩ := List.mem_map.mp hw
  have hk := List.mem_range.mp hk
  have H : ∀ k, k < 26 → pq_wat (([5141, 5143, 5145, 5147, 5149, 5151, 5153, 5155, 5157, 5159, 5161, 5163, 5165, 5167, 5169, 5171, 5173, 5175, 5177, 5179, 5181, 5183, 5185, 5187, 5189, 5191] : List Nat).getD k 0) = some (u_lay RX11 TX11 k) ∧ goodWord (u_lay RX11 TX11 k) = true := by decide +kernel
  exact pq_gt_mem _ (H k hk).1 (H k hk).2
