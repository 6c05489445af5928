/-! names, printed by a program of ours out of what TURN printed: classes, fields, methods, and that the tables hold their words -/
theorem tm0 {w : Cond} (h : w ∈ k2_sels lw_privs) : w ∈ lw_tbl := List.mem_append_left _ h
theorem tm1 {w : Cond} (h : w ∈ tables_1_1) : w ∈ lw_tbl := List.mem_append_right _ (List.mem_append_left _ h)
theorem tm2 {w : Cond} (h : w ∈ tables_1_2) : w ∈ lw_tbl := List.mem_append_right _ (List.mem_append_right _ (List.mem_append_left _ h))
theorem tm3 {w : Cond} (h : w ∈ tables_1_3) : w ∈ lw_tbl := List.mem_append_right _ (List.mem_append_right _ (List.mem_append_right _ (List.mem_append_left _ h)))
theorem tm4 {w : Cond} (h : w ∈ tables_1_4) : w ∈ lw_tbl := List.mem_append_right _ (List.mem_append_right _ (List.mem_append_right _ (List.mem_append_right _ (List.mem_append_left _ h))))
theorem tm5 {w : Cond} (h : w ∈ tables_1_5) : w ∈ lw_tbl := List.mem_append_right _ (List.mem_append_right _ (List.mem_append_right _ (List.mem_append_right _ (List.mem_append_right _ (List.mem_append_left _ h)))))
theorem tm6 {w : Cond} (h : w ∈ tables_1_6) : w ∈ lw_tbl := List.mem_append_right _ (List.mem_append_right _ (List.mem_append_right _ (List.mem_append_right _ (List.mem_append_right _ (List.mem_append_right _ (List.mem_append_left _ h))))))
theorem tm7 {w : Cond} (h : w ∈ tables_1_7) : w ∈ lw_tbl := List.mem_append_right _ (List.mem_append_right _ (List.mem_append_right _ (List.mem_append_right _ (List.mem_append_right _ (List.mem_append_right _ (List.mem_append_right _ h))))))
theorem in_of {C : String} {T : u_T} {N : Nat} (h : ∀ k, k < N → u_lay C T k ∈ lw_tbl) : ∀ w ∈ u_ws C T N, w ∈ lw_tbl := by
  intro w hw
  obtain ⟨k, hk, rfl⟩ := List.mem_map.mp hw
  exact h k (List.mem_range.mp hk)
def RX0 : String := "ChosenRelays$Choice"
def TX0 : u_T := fun k => match k with
  | 0 => ("ChosenRelays$Choice", "picked", "[I", true)
  | _ => ("ChosenRelays$Choice", "pickedCount", "I", false)
def tyX0 : Nat → FieldType := fun k => match k with
  | 0 => .array .int
  | _ => .int
theorem nmX0 : ∀ a, a < 2 → ∀ b, b < 2 → a ≠ b → (TX0 a).2.1 ≠ (TX0 b).2.1 := by decide +kernel
theorem okX0 : ∀ k, k < 2 → parseFieldDescriptor (TX0 k).2.2.1 = some (tyX0 k) := by decide +kernel
theorem inX0 : ∀ w ∈ u_ws RX0 TX0 2, w ∈ lw_tbl := in_of (fun k hk => match k, hk with
  | 0, _ => tm2 (List.mem_of_getElem? (i := 25) (by decide +kernel))
  | 1, _ => tm2 (List.mem_of_getElem? (i := 27) (by decide +kernel))
  | k + 2, hk => absurd hk (by omega))
def RX1 : String := "ChosenRelays$Flood"
def TX1 : u_T := fun k => match k with
  | 0 => ("ChosenRelays$Flood", "got", "I", false)
  | 1 => ("ChosenRelays$Flood", "sent", "I", false)
  | 2 => ("ChosenRelays$Flood", "row", "[I", true)
  | 3 => ("ChosenRelays$Flood", "inRow", "I", false)
  | _ => ("ChosenRelays$Flood", "stood", "I", false)
def tyX1 : Nat → FieldType := fun k => match k with
  | 0 => .int
  | 1 => .int
  | 2 => .array .int
  | 3 => .int
  | _ => .int
theorem nmX1 : ∀ a, a < 5 → ∀ b, b < 5 → a ≠ b → (TX1 a).2.1 ≠ (TX1 b).2.1 := by decide +kernel
theorem okX1 : ∀ k, k < 5 → parseFieldDescriptor (TX1 k).2.2.1 = some (tyX1 k) := by decide +kernel
theorem inX1 : ∀ w ∈ u_ws RX1 TX1 5, w ∈ lw_tbl := in_of (fun k hk => match k, hk with
  | 0, _ => tm2 (List.mem_of_getElem? (i := 101) (by decide +kernel))
  | 1, _ => tm2 (List.mem_of_getElem? (i := 103) (by decide +kernel))
  | 2, _ => tm2 (List.mem_of_getElem? (i := 105) (by decide +kernel))
  | 3, _ => tm2 (List.mem_of_getElem? (i := 107) (by decide +kernel))
  | 4, _ => tm2 (List.mem_of_getElem? (i := 109) (by decide +kernel))
  | k + 5, hk => absurd hk (by omega))
def RX2 : String := "ChosenRelays$Going"
def TX2 : u_T := fun k => match k with
  | 0 => ("ChosenRelays$Going", "nodes", "[I", true)
  | 1 => ("ChosenRelays$Going", "steps", "I", false)
  | 2 => ("ChosenRelays$Going", "ending", "I", false)
  | _ => ("ChosenRelays$Going", "been", "I", false)
def tyX2 : Nat → FieldType := fun k => match k with
  | 0 => .array .int
  | 1 => .int
  | 2 => .int
  | _ => .int
theorem nmX2 : ∀ a, a < 4 → ∀ b, b < 4 → a ≠ b → (TX2 a).2.1 ≠ (TX2 b).2.1 := by decide +kernel
theorem okX2 : ∀ k, k < 4 → parseFieldDescriptor (TX2 k).2.2.1 = some (tyX2 k) := by decide +kernel
theorem inX2 : ∀ w ∈ u_ws RX2 TX2 4, w ∈ lw_tbl := in_of (fun k hk => match k, hk with
  | 0, _ => tm2 (List.mem_of_getElem? (i := 60) (by decide +kernel))
  | 1, _ => tm2 (List.mem_of_getElem? (i := 62) (by decide +kernel))
  | 2, _ => tm2 (List.mem_of_getElem? (i := 64) (by decide +kernel))
  | 3, _ => tm2 (List.mem_of_getElem? (i := 66) (by decide +kernel))
  | k + 4, hk => absurd hk (by omega))
def RX3 : String := "ChosenRelays$Links"
def TX3 : u_T := fun k => match k with
  | 0 => ("ChosenRelays$Links", "qualities", "[I", true)
  | 1 => ("ChosenRelays$Links", "knowns", "[I", true)
  | 2 => ("ChosenRelays$Links", "ups", "[I", true)
  | 3 => ("ChosenRelays$Links", "neighbours", "[I", true)
  | 4 => ("ChosenRelays$Links", "choosers", "[I", true)
  | _ => ("ChosenRelays$Links", "relays", "[I", true)
def tyX3 : Nat → FieldType := fun k => match k with
  | 0 => .array .int
  | 1 => .array .int
  | 2 => .array .int
  | 3 => .array .int
  | 4 => .array .int
  | _ => .array .int
theorem nmX3 : ∀ a, a < 6 → ∀ b, b < 6 → a ≠ b → (TX3 a).2.1 ≠ (TX3 b).2.1 := by decide +kernel
theorem okX3 : ∀ k, k < 6 → parseFieldDescriptor (TX3 k).2.2.1 = some (tyX3 k) := by decide +kernel
theorem inX3 : ∀ w ∈ u_ws RX3 TX3 6, w ∈ lw_tbl := in_of (fun k hk => match k, hk with
  | 0, _ => tm1 (List.mem_of_getElem? (i := 66) (by decide +kernel))
  | 1, _ => tm1 (List.mem_of_getElem? (i := 68) (by decide +kernel))
  | 2, _ => tm1 (List.mem_of_getElem? (i := 70) (by decide +kernel))
  | 3, _ => tm1 (List.mem_of_getElem? (i := 72) (by decide +kernel))
  | 4, _ => tm1 (List.mem_of_getElem? (i := 74) (by decide +kernel))
  | 5, _ => tm1 (List.mem_of_getElem? (i := 76) (by decide +kernel))
  | k + 6, hk => absurd hk (by omega))
def RX4 : String := "ChosenRelays$Losses"
def TX4 : u_T := fun k => match k with
  | 0 => ("ChosenRelays$Losses", "lost", "I", false)
  | 1 => ("ChosenRelays$Losses", "drawn", "I", false)
  | _ => ("ChosenRelays$Losses", "loss", "I", false)
def tyX4 : Nat → FieldType := fun k => match k with
  | 0 => .int
  | 1 => .int
  | _ => .int
theorem nmX4 : ∀ a, a < 3 → ∀ b, b < 3 → a ≠ b → (TX4 a).2.1 ≠ (TX4 b).2.1 := by decide +kernel
theorem okX4 : ∀ k, k < 3 → parseFieldDescriptor (TX4 k).2.2.1 = some (tyX4 k) := by decide +kernel
theorem inX4 : ∀ w ∈ u_ws RX4 TX4 3, w ∈ lw_tbl := in_of (fun k hk => match k, hk with
  | 0, _ => tm2 (List.mem_of_getElem? (i := 122) (by decide +kernel))
  | 1, _ => tm2 (List.mem_of_getElem? (i := 124) (by decide +kernel))
  | 2, _ => tm2 (List.mem_of_getElem? (i := 126) (by decide +kernel))
  | k + 3, hk => absurd hk (by omega))
def RX5 : String := "ChosenRelays$Mesh"
def TX5 : u_T := fun k => match k with
  | 0 => ("ChosenRelays$Mesh", "count", "I", false)
  | 1 => ("ChosenRelays$Mesh", "on", "I", false)
  | 2 => ("ChosenRelays$Mesh", "ticks", "I", false)
  | 3 => ("ChosenRelays$Mesh", "every", "I", false)
  | 4 => ("ChosenRelays$Mesh", "hold", "I", false)
  | 5 => ("ChosenRelays$Mesh", "rise", "I", false)
  | 6 => ("ChosenRelays$Mesh", "fall", "I", false)
  | 7 => ("ChosenRelays$Mesh", "wills", "[I", true)
  | 8 => ("ChosenRelays$Mesh", "hears", "[I", true)
  | 9 => ("ChosenRelays$Mesh", "jams", "[I", true)
  | 10 => ("ChosenRelays$Mesh", "links", "LChosenRelays$Links;", true)
  | _ => ("ChosenRelays$Mesh", "news", "LChosenRelays$News;", true)
def tyX5 : Nat → FieldType := fun k => match k with
  | 0 => .int
  | 1 => .int
  | 2 => .int
  | 3 => .int
  | 4 => .int
  | 5 => .int
  | 6 => .int
  | 7 => .array .int
  | 8 => .array .int
  | 9 => .array .int
  | 10 => .object "ChosenRelays$Links"
  | _ => .object "ChosenRelays$News"
theorem nmX5 : ∀ a, a < 12 → ∀ b, b < 12 → a ≠ b → (TX5 a).2.1 ≠ (TX5 b).2.1 := by decide +kernel
theorem okX5 : ∀ k, k < 12 → parseFieldDescriptor (TX5 k).2.2.1 = some (tyX5 k) := by decide +kernel
theorem inX5 : ∀ w ∈ u_ws RX5 TX5 12, w ∈ lw_tbl := in_of (fun k hk => match k, hk with
  | 0, _ => tm1 (List.mem_of_getElem? (i := 193) (by decide +kernel))
  | 1, _ => tm1 (List.mem_of_getElem? (i := 195) (by decide +kernel))
  | 2, _ => tm1 (List.mem_of_getElem? (i := 197) (by decide +kernel))
  | 3, _ => tm1 (List.mem_of_getElem? (i := 199) (by decide +kernel))
  | 4, _ => tm1 (List.mem_of_getElem? (i := 201) (by decide +kernel))
  | 5, _ => tm1 (List.mem_of_getElem? (i := 203) (by decide +kernel))
  | 6, _ => tm1 (List.mem_of_getElem? (i := 205) (by decide +kernel))
  | 7, _ => tm1 (List.mem_of_getElem? (i := 207) (by decide +kernel))
  | 8, _ => tm1 (List.mem_of_getElem? (i := 209) (by decide +kernel))
  | 9, _ => tm1 (List.mem_of_getElem? (i := 211) (by decide +kernel))
  | 10, _ => tm1 (List.mem_of_getElem? (i := 213) (by decide +kernel))
  | 11, _ => tm1 (List.mem_of_getElem? (i := 215) (by decide +kernel))
  | k + 12, hk => absurd hk (by omega))
def RX6 : String := "ChosenRelays$News"
def TX6 : u_T := fun k => match k with
  | 0 => ("ChosenRelays$News", "sets", "[I", true)
  | 1 => ("ChosenRelays$News", "numbers", "[I", true)
  | 2 => ("ChosenRelays$News", "lefts", "[I", true)
  | 3 => ("ChosenRelays$News", "ownNumbers", "[I", true)
  | 4 => ("ChosenRelays$News", "ownSets", "[I", true)
  | 5 => ("ChosenRelays$News", "written", "[I", true)
  | 6 => ("ChosenRelays$News", "notices", "I", false)
  | 7 => ("ChosenRelays$News", "sendings", "I", false)
  | _ => ("ChosenRelays$News", "olds", "I", false)
def tyX6 : Nat → FieldType := fun k => match k with
  | 0 => .array .int
  | 1 => .array .int
  | 2 => .array .int
  | 3 => .array .int
  | 4 => .array .int
  | 5 => .array .int
  | 6 => .int
  | 7 => .int
  | _ => .int
theorem nmX6 : ∀ a, a < 9 → ∀ b, b < 9 → a ≠ b → (TX6 a).2.1 ≠ (TX6 b).2.1 := by decide +kernel
theorem okX6 : ∀ k, k < 9 → parseFieldDescriptor (TX6 k).2.2.1 = some (tyX6 k) := by decide +kernel
theorem inX6 : ∀ w ∈ u_ws RX6 TX6 9, w ∈ lw_tbl := in_of (fun k hk => match k, hk with
  | 0, _ => tm1 (List.mem_of_getElem? (i := 108) (by decide +kernel))
  | 1, _ => tm1 (List.mem_of_getElem? (i := 110) (by decide +kernel))
  | 2, _ => tm1 (List.mem_of_getElem? (i := 112) (by decide +kernel))
  | 3, _ => tm1 (List.mem_of_getElem? (i := 114) (by decide +kernel))
  | 4, _ => tm1 (List.mem_of_getElem? (i := 116) (by decide +kernel))
  | 5, _ => tm1 (List.mem_of_getElem? (i := 118) (by decide +kernel))
  | 6, _ => tm1 (List.mem_of_getElem? (i := 120) (by decide +kernel))
  | 7, _ => tm1 (List.mem_of_getElem? (i := 122) (by decide +kernel))
  | 8, _ => tm1 (List.mem_of_getElem? (i := 124) (by decide +kernel))
  | k + 9, hk => absurd hk (by omega))
def RX7 : String := "ChosenRelays$Reader"
def TX7 : u_T := fun k => match k with
  | 0 => ("ChosenRelays$Reader", "faultKind", "I", false)
  | 1 => ("ChosenRelays$Reader", "faultPlace", "I", false)
  | 2 => ("ChosenRelays$Reader", "text", "[B", true)
  | 3 => ("ChosenRelays$Reader", "length", "I", false)
  | 4 => ("ChosenRelays$Reader", "kind", "I", false)
  | 5 => ("ChosenRelays$Reader", "start", "I", false)
  | 6 => ("ChosenRelays$Reader", "end", "I", false)
  | 7 => ("ChosenRelays$Reader", "numbers", "[I", true)
  | _ => ("ChosenRelays$Reader", "lines", "I", false)
def tyX7 : Nat → FieldType := fun k => match k with
  | 0 => .int
  | 1 => .int
  | 2 => .array .byte
  | 3 => .int
  | 4 => .int
  | 5 => .int
  | 6 => .int
  | 7 => .array .int
  | _ => .int
theorem nmX7 : ∀ a, a < 9 → ∀ b, b < 9 → a ≠ b → (TX7 a).2.1 ≠ (TX7 b).2.1 := by decide +kernel
theorem okX7 : ∀ k, k < 9 → parseFieldDescriptor (TX7 k).2.2.1 = some (tyX7 k) := by decide +kernel
theorem inX7 : ∀ w ∈ u_ws RX7 TX7 9, w ∈ lw_tbl := in_of (fun k hk => match k, hk with
  | 0, _ => tm1 (List.mem_of_getElem? (i := 236) (by decide +kernel))
  | 1, _ => tm1 (List.mem_of_getElem? (i := 238) (by decide +kernel))
  | 2, _ => tm2 (List.mem_of_getElem? (i := 0) (by decide +kernel))
  | 3, _ => tm2 (List.mem_of_getElem? (i := 2) (by decide +kernel))
  | 4, _ => tm2 (List.mem_of_getElem? (i := 4) (by decide +kernel))
  | 5, _ => tm2 (List.mem_of_getElem? (i := 6) (by decide +kernel))
  | 6, _ => tm2 (List.mem_of_getElem? (i := 8) (by decide +kernel))
  | 7, _ => tm2 (List.mem_of_getElem? (i := 10) (by decide +kernel))
  | 8, _ => tm2 (List.mem_of_getElem? (i := 12) (by decide +kernel))
  | k + 9, hk => absurd hk (by omega))
def RX8 : String := "ChosenRelays$Routes"
def TX8 : u_T := fun k => match k with
  | 0 => ("ChosenRelays$Routes", "steps", "[I", true)
  | _ => ("ChosenRelays$Routes", "nexts", "[I", true)
def tyX8 : Nat → FieldType := fun k => match k with
  | 0 => .array .int
  | _ => .array .int
theorem nmX8 : ∀ a, a < 2 → ∀ b, b < 2 → a ≠ b → (TX8 a).2.1 ≠ (TX8 b).2.1 := by decide +kernel
theorem okX8 : ∀ k, k < 2 → parseFieldDescriptor (TX8 k).2.2.1 = some (tyX8 k) := by decide +kernel
theorem inX8 : ∀ w ∈ u_ws RX8 TX8 2, w ∈ lw_tbl := in_of (fun k hk => match k, hk with
  | 0, _ => tm2 (List.mem_of_getElem? (i := 41) (by decide +kernel))
  | 1, _ => tm2 (List.mem_of_getElem? (i := 43) (by decide +kernel))
  | k + 2, hk => absurd hk (by omega))
def RX9 : String := "ChosenRelays$Ticker"
def TX9 : u_T := fun k => match k with
  | 0 => ("ChosenRelays$Ticker", "choice", "LChosenRelays$Choice;", true)
  | 1 => ("ChosenRelays$Ticker", "spread", "LChosenRelays$Flood;", true)
  | 2 => ("ChosenRelays$Ticker", "toldUps", "[I", true)
  | 3 => ("ChosenRelays$Ticker", "toldNeighbours", "[I", true)
  | _ => ("ChosenRelays$Ticker", "toldRelays", "[I", true)
def tyX9 : Nat → FieldType := fun k => match k with
  | 0 => .object "ChosenRelays$Choice"
  | 1 => .object "ChosenRelays$Flood"
  | 2 => .array .int
  | 3 => .array .int
  | _ => .array .int
theorem nmX9 : ∀ a, a < 5 → ∀ b, b < 5 → a ≠ b → (TX9 a).2.1 ≠ (TX9 b).2.1 := by decide +kernel
theorem okX9 : ∀ k, k < 5 → parseFieldDescriptor (TX9 k).2.2.1 = some (tyX9 k) := by decide +kernel
theorem inX9 : ∀ w ∈ u_ws RX9 TX9 5, w ∈ lw_tbl := in_of (fun k hk => match k, hk with
  | 0, _ => tm2 (List.mem_of_getElem? (i := 140) (by decide +kernel))
  | 1, _ => tm2 (List.mem_of_getElem? (i := 142) (by decide +kernel))
  | 2, _ => tm2 (List.mem_of_getElem? (i := 144) (by decide +kernel))
  | 3, _ => tm2 (List.mem_of_getElem? (i := 146) (by decide +kernel))
  | 4, _ => tm2 (List.mem_of_getElem? (i := 148) (by decide +kernel))
  | k + 5, hk => absurd hk (by omega))
def RX10 : String := "ChosenRelays$Truth"
def TX10 : u_T := fun k => match k with
  | 0 => ("ChosenRelays$Truth", "on", "I", false)
  | 1 => ("ChosenRelays$Truth", "pairs", "[I", true)
  | _ => ("ChosenRelays$Truth", "steps", "[I", true)
def tyX10 : Nat → FieldType := fun k => match k with
  | 0 => .int
  | 1 => .array .int
  | _ => .array .int
theorem nmX10 : ∀ a, a < 3 → ∀ b, b < 3 → a ≠ b → (TX10 a).2.1 ≠ (TX10 b).2.1 := by decide +kernel
theorem okX10 : ∀ k, k < 3 → parseFieldDescriptor (TX10 k).2.2.1 = some (tyX10 k) := by decide +kernel
theorem inX10 : ∀ w ∈ u_ws RX10 TX10 3, w ∈ lw_tbl := in_of (fun k hk => match k, hk with
  | 0, _ => tm2 (List.mem_of_getElem? (i := 79) (by decide +kernel))
  | 1, _ => tm2 (List.mem_of_getElem? (i := 81) (by decide +kernel))
  | 2, _ => tm2 (List.mem_of_getElem? (i := 83) (by decide +kernel))
  | k + 3, hk => absurd hk (by omega))
def RX11 : String := "ChosenRelays"
def TX11 : u_T := fun k => match k with
  | 0 => ("ChosenRelays", "tape", "[B", true)
  | 1 => ("ChosenRelays", "taped", "I", false)
  | 2 => ("ChosenRelays", "status", "I", false)
  | 3 => ("ChosenRelays", "faultKind", "I", false)
  | 4 => ("ChosenRelays", "faultPlace", "I", false)
  | 5 => ("ChosenRelays", "mesh", "LChosenRelays$Mesh;", true)
  | 6 => ("ChosenRelays", "paper", "LChosenRelays$Mesh;", true)
  | 7 => ("ChosenRelays", "marks", "[LChosenRelays$Mesh;", true)
  | 8 => ("ChosenRelays", "marked", "I", false)
  | 9 => ("ChosenRelays", "reader", "LChosenRelays$Reader;", true)
  | 10 => ("ChosenRelays", "choice", "LChosenRelays$Choice;", true)
  | 11 => ("ChosenRelays", "routes", "LChosenRelays$Routes;", true)
  | 12 => ("ChosenRelays", "going", "LChosenRelays$Going;", true)
  | 13 => ("ChosenRelays", "truth", "LChosenRelays$Truth;", true)
  | 14 => ("ChosenRelays", "spread", "LChosenRelays$Flood;", true)
  | 15 => ("ChosenRelays", "losses", "LChosenRelays$Losses;", true)
  | _ => ("ChosenRelays", "ticker", "LChosenRelays$Ticker;", true)
def tyX11 : Nat → FieldType := fun k => match k with
  | 0 => .array .byte
  | 1 => .int
  | 2 => .int
  | 3 => .int
  | 4 => .int
  | 5 => .object "ChosenRelays$Mesh"
  | 6 => .object "ChosenRelays$Mesh"
  | 7 => .array (.object "ChosenRelays$Mesh")
  | 8 => .int
  | 9 => .object "ChosenRelays$Reader"
  | 10 => .object "ChosenRelays$Choice"
  | 11 => .object "ChosenRelays$Routes"
  | 12 => .object "ChosenRelays$Going"
  | 13 => .object "ChosenRelays$Truth"
  | 14 => .object "ChosenRelays$Flood"
  | 15 => .object "ChosenRelays$Losses"
  | _ => .object "ChosenRelays$Ticker"
theorem nmX11 : ∀ a, a < 17 → ∀ b, b < 17 → a ≠ b → (TX11 a).2.1 ≠ (TX11 b).2.1 := by decide +kernel
theorem okX11 : ∀ k, k < 17 → parseFieldDescriptor (TX11 k).2.2.1 = some (tyX11 k) := by decide +kernel
theorem inX11 : ∀ w ∈ u_ws RX11 TX11 17, w ∈ lw_tbl := in_of (fun k hk => match k, hk with
  | 0, _ => tm2 (List.mem_of_getElem? (i := 168) (by decide +kernel))
  | 1, _ => tm2 (List.mem_of_getElem? (i := 170) (by decide +kernel))
  | 2, _ => tm2 (List.mem_of_getElem? (i := 172) (by decide +kernel))
  | 3, _ => tm2 (List.mem_of_getElem? (i := 174) (by decide +kernel))
  | 4, _ => tm2 (List.mem_of_getElem? (i := 176) (by decide +kernel))
  | 5, _ => tm2 (List.mem_of_getElem? (i := 178) (by decide +kernel))
  | 6, _ => tm2 (List.mem_of_getElem? (i := 180) (by decide +kernel))
  | 7, _ => tm2 (List.mem_of_getElem? (i := 182) (by decide +kernel))
  | 8, _ => tm2 (List.mem_of_getElem? (i := 184) (by decide +kernel))
  | 9, _ => tm2 (List.mem_of_getElem? (i := 186) (by decide +kernel))
  | 10, _ => tm2 (List.mem_of_getElem? (i := 188) (by decide +kernel))
  | 11, _ => tm2 (List.mem_of_getElem? (i := 190) (by decide +kernel))
  | 12, _ => tm2 (List.mem_of_getElem? (i := 192) (by decide +kernel))
  | 13, _ => tm2 (List.mem_of_getElem? (i := 194) (by decide +kernel))
  | 14, _ => tm2 (List.mem_of_getElem? (i := 196) (by decide +kernel))
  | 15, _ => tm2 (List.mem_of_getElem? (i := 198) (by decide +kernel))
  | 16, _ => tm2 (List.mem_of_getElem? (i := 200) (by decide +kernel))
  | k + 17, hk => absurd hk (by omega))
def RX12 : String := "ChosenRelaysModel"
def TX12 : u_T := fun k => match k with
  | 0 => ("ChosenRelaysModel", "all", "[I", true)
  | 1 => ("ChosenRelaysModel", "status", "I", false)
  | 2 => ("ChosenRelaysModel", "marks", "I", false)
  | 3 => ("ChosenRelaysModel", "picked", "[I", true)
  | 4 => ("ChosenRelaysModel", "picks", "I", false)
  | 5 => ("ChosenRelaysModel", "drawn", "I", false)
  | 6 => ("ChosenRelaysModel", "loss", "I", false)
  | 7 => ("ChosenRelaysModel", "lost", "I", false)
  | 8 => ("ChosenRelaysModel", "helloUp", "[I", true)
  | 9 => ("ChosenRelaysModel", "helloNear", "[I", true)
  | 10 => ("ChosenRelaysModel", "helloRelays", "[I", true)
  | 11 => ("ChosenRelaysModel", "row", "[I", true)
  | 12 => ("ChosenRelaysModel", "stood", "I", false)
  | 13 => ("ChosenRelaysModel", "got", "I", false)
  | 14 => ("ChosenRelaysModel", "sends", "I", false)
  | 15 => ("ChosenRelaysModel", "tape", "[B", true)
  | 16 => ("ChosenRelaysModel", "text", "[B", true)
  | 17 => ("ChosenRelaysModel", "taped", "I", false)
  | 18 => ("ChosenRelaysModel", "size", "I", false)
  | 19 => ("ChosenRelaysModel", "token", "I", false)
  | 20 => ("ChosenRelaysModel", "from", "I", false)
  | 21 => ("ChosenRelaysModel", "end", "I", false)
  | 22 => ("ChosenRelaysModel", "value", "I", false)
  | 23 => ("ChosenRelaysModel", "faults", "I", false)
  | 24 => ("ChosenRelaysModel", "faultPlace", "I", false)
  | 25 => ("ChosenRelaysModel", "faultKind", "I", false)
  | 26 => ("ChosenRelaysModel", "toldOnce", "I", false)
  | 27 => ("ChosenRelaysModel", "steps", "[I", true)
  | 28 => ("ChosenRelaysModel", "nexts", "[I", true)
  | 29 => ("ChosenRelaysModel", "gone", "[I", true)
  | _ => ("ChosenRelaysModel", "goneMany", "I", false)
def tyX12 : Nat → FieldType := fun k => match k with
  | 0 => .array .int
  | 1 => .int
  | 2 => .int
  | 3 => .array .int
  | 4 => .int
  | 5 => .int
  | 6 => .int
  | 7 => .int
  | 8 => .array .int
  | 9 => .array .int
  | 10 => .array .int
  | 11 => .array .int
  | 12 => .int
  | 13 => .int
  | 14 => .int
  | 15 => .array .byte
  | 16 => .array .byte
  | 17 => .int
  | 18 => .int
  | 19 => .int
  | 20 => .int
  | 21 => .int
  | 22 => .int
  | 23 => .int
  | 24 => .int
  | 25 => .int
  | 26 => .int
  | 27 => .array .int
  | 28 => .array .int
  | 29 => .array .int
  | _ => .int
theorem nmX12 : ∀ a, a < 31 → ∀ b, b < 31 → a ≠ b → (TX12 a).2.1 ≠ (TX12 b).2.1 := by decide +kernel
theorem okX12 : ∀ k, k < 31 → parseFieldDescriptor (TX12 k).2.2.1 = some (tyX12 k) := by decide +kernel
theorem inX12 : ∀ w ∈ u_ws RX12 TX12 31, w ∈ lw_tbl := in_of (fun k hk => match k, hk with
  | 0, _ => tm5 (List.mem_of_getElem? (i := 171) (by decide +kernel))
  | 1, _ => tm5 (List.mem_of_getElem? (i := 173) (by decide +kernel))
  | 2, _ => tm5 (List.mem_of_getElem? (i := 175) (by decide +kernel))
  | 3, _ => tm5 (List.mem_of_getElem? (i := 177) (by decide +kernel))
  | 4, _ => tm5 (List.mem_of_getElem? (i := 179) (by decide +kernel))
  | 5, _ => tm5 (List.mem_of_getElem? (i := 181) (by decide +kernel))
  | 6, _ => tm5 (List.mem_of_getElem? (i := 183) (by decide +kernel))
  | 7, _ => tm5 (List.mem_of_getElem? (i := 185) (by decide +kernel))
  | 8, _ => tm5 (List.mem_of_getElem? (i := 187) (by decide +kernel))
  | 9, _ => tm5 (List.mem_of_getElem? (i := 189) (by decide +kernel))
  | 10, _ => tm5 (List.mem_of_getElem? (i := 191) (by decide +kernel))
  | 11, _ => tm5 (List.mem_of_getElem? (i := 193) (by decide +kernel))
  | 12, _ => tm5 (List.mem_of_getElem? (i := 195) (by decide +kernel))
  | 13, _ => tm5 (List.mem_of_getElem? (i := 197) (by decide +kernel))
  | 14, _ => tm5 (List.mem_of_getElem? (i := 199) (by decide +kernel))
  | 15, _ => tm5 (List.mem_of_getElem? (i := 201) (by decide +kernel))
  | 16, _ => tm5 (List.mem_of_getElem? (i := 203) (by decide +kernel))
  | 17, _ => tm5 (List.mem_of_getElem? (i := 205) (by decide +kernel))
  | 18, _ => tm5 (List.mem_of_getElem? (i := 207) (by decide +kernel))
  | 19, _ => tm5 (List.mem_of_getElem? (i := 209) (by decide +kernel))
  | 20, _ => tm5 (List.mem_of_getElem? (i := 211) (by decide +kernel))
  | 21, _ => tm5 (List.mem_of_getElem? (i := 213) (by decide +kernel))
  | 22, _ => tm5 (List.mem_of_getElem? (i := 215) (by decide +kernel))
  | 23, _ => tm5 (List.mem_of_getElem? (i := 217) (by decide +kernel))
  | 24, _ => tm5 (List.mem_of_getElem? (i := 219) (by decide +kernel))
  | 25, _ => tm5 (List.mem_of_getElem? (i := 221) (by decide +kernel))
  | 26, _ => tm5 (List.mem_of_getElem? (i := 223) (by decide +kernel))
  | 27, _ => tm5 (List.mem_of_getElem? (i := 225) (by decide +kernel))
  | 28, _ => tm5 (List.mem_of_getElem? (i := 227) (by decide +kernel))
  | 29, _ => tm5 (List.mem_of_getElem? (i := 229) (by decide +kernel))
  | 30, _ => tm5 (List.mem_of_getElem? (i := 231) (by decide +kernel))
  | k + 31, hk => absurd hk (by omega))
def RJ6 : String := "java/lang/Integer"
def RJ9 : String := "java/lang/Math"
def RJ0 : String := "java/lang/String"
def RJ1 : String := "java/lang/StringLatin1"
def RJ2 : String := "java/lang/StringUTF16"
def RJ10 : String := "java/lang/System"
def RJ7 : String := "java/util/Arrays"
def RJ3 : String := "jdk/internal/util/Preconditions"
def RL : String := "ChosenRelaysLaw"
abbrev cL_law : ByteArray := code
abbrev vwCl : List vw_C := [(RX0, TX0, 2), (RX1, TX1, 5), (RX2, TX2, 4), (RX3, TX3, 6), (RX4, TX4, 3), (RX5, TX5, 12), (RX6, TX6, 9), (RX7, TX7, 9), (RX8, TX8, 2), (RX9, TX9, 5), (RX10, TX10, 3), (RX11, TX11, 17), (RX12, TX12, 31)]
/-- a method: its name, its code, how many locals, what it returns -/
abbrev Mq : Type := MethodName × ByteArray × Nat × Option FieldType
def LmV (q : Mq) (np : Nat) : Prop := Cond.code q.1 q.2.1 q.2.2.1 q.2.2.2 ∈ lw_tbl ∧ Cond.instanceMethod q.1 ∈ lw_tbl ∧ Cond.selects q.1.cls q.1 q.1 ∈ lw_tbl ∧ Cond.initialized q.1.cls ∈ lw_tbl ∧ q.1.cls ≠ "java/lang/invoke/MethodHandle" ∧ q.1.cls ≠ "java/lang/invoke/VarHandle" ∧ (parseMethodDescriptor q.1.desc).map (fun d => d.parameters.length) = some np
def LmS (q : Mq) (np : Nat) : Prop := Cond.code q.1 q.2.1 q.2.2.1 q.2.2.2 ∈ lw_tbl ∧ Cond.static q.1 ∈ lw_tbl ∧ Cond.initialized q.1.cls ∈ lw_tbl ∧ q.1.cls ≠ "java/lang/invoke/MethodHandle" ∧ q.1.cls ≠ "java/lang/invoke/VarHandle" ∧ (parseMethodDescriptor q.1.desc).map (fun d => d.parameters.length) = some np
def LmI (q : Mq) (np : Nat) : Prop := Cond.code q.1 q.2.1 q.2.2.1 q.2.2.2 ∈ lw_tbl ∧ Cond.instanceMethod q.1 ∈ lw_tbl ∧ q.1.name = "<init>" ∧ Cond.initialized q.1.cls ∈ lw_tbl ∧ q.1.cls ≠ "java/lang/invoke/MethodHandle" ∧ q.1.cls ≠ "java/lang/invoke/VarHandle" ∧ (parseMethodDescriptor q.1.desc).map (fun d => d.parameters.length) = some np
abbrev cX0_init : ByteArray := prog_2_method_1_code
def qX0_init : Mq := (⟨RX0, "<init>", "()V"⟩, cX0_init, 1, none)
theorem lX0_init : LmI qX0_init 0 := ⟨tm2 (List.mem_of_getElem? (i := 19) (by decide +kernel)), tm2 (List.mem_of_getElem? (i := 18) (by decide +kernel)), rfl, tm1 (List.mem_of_getElem? (i := 7) (by decide +kernel)), by decide +kernel, by decide +kernel, by decide +kernel⟩
abbrev cX0_willing : ByteArray := prog_2_method_2_code
def qX0_willing : Mq := (⟨RX0, "willing", "(LChosenRelays$Mesh;I)I"⟩, cX0_willing, 5, some .int)
theorem lX0_willing : LmS qX0_willing 2 := ⟨tm3 (List.mem_of_getElem? (i := 182) (by decide +kernel)), tm3 (List.mem_of_getElem? (i := 181) (by decide +kernel)), tm1 (List.mem_of_getElem? (i := 7) (by decide +kernel)), by decide +kernel, by decide +kernel, by decide +kernel⟩
abbrev cX0_behind : ByteArray := prog_2_method_3_code
def qX0_behind : Mq := (⟨RX0, "behind", "(LChosenRelays$Mesh;I)I"⟩, cX0_behind, 3, some .int)
theorem lX0_behind : LmS qX0_behind 2 := ⟨tm3 (List.mem_of_getElem? (i := 179) (by decide +kernel)), tm3 (List.mem_of_getElem? (i := 178) (by decide +kernel)), tm1 (List.mem_of_getElem? (i := 7) (by decide +kernel)), by decide +kernel, by decide +kernel, by decide +kernel⟩
abbrev cX0_knownOf : ByteArray := prog_2_method_4_code
def qX0_knownOf : Mq := (⟨RX0, "knownOf", "(LChosenRelays$Mesh;II)I"⟩, cX0_knownOf, 5, some .int)
theorem lX0_knownOf : LmS qX0_knownOf 3 := ⟨tm3 (List.mem_of_getElem? (i := 187) (by decide +kernel)), tm3 (List.mem_of_getElem? (i := 186) (by decide +kernel)), tm1 (List.mem_of_getElem? (i := 7) (by decide +kernel)), by decide +kernel, by decide +kernel, by decide +kernel⟩
abbrev cX0_onlyWays : ByteArray := prog_2_method_5_code
def qX0_onlyWays : Mq := (⟨RX0, "onlyWays", "(LChosenRelays$Mesh;III)I"⟩, cX0_onlyWays, 8, some .int)
theorem lX0_onlyWays : LmS qX0_onlyWays 4 := ⟨tm3 (List.mem_of_getElem? (i := 215) (by decide +kernel)), tm3 (List.mem_of_getElem? (i := 214) (by decide +kernel)), tm1 (List.mem_of_getElem? (i := 7) (by decide +kernel)), by decide +kernel, by decide +kernel, by decide +kernel⟩
abbrev cX0_fewest : ByteArray := prog_2_method_6_code
def qX0_fewest : Mq := (⟨RX0, "fewest", "(LChosenRelays$Mesh;I)I"⟩, cX0_fewest, 7, some .int)
theorem lX0_fewest : LmS qX0_fewest 2 := ⟨tm4 (List.mem_of_getElem? (i := 12) (by decide +kernel)), tm4 (List.mem_of_getElem? (i := 11) (by decide +kernel)), tm1 (List.mem_of_getElem? (i := 7) (by decide +kernel)), by decide +kernel, by decide +kernel, by decide +kernel⟩
abbrev cX0_isFewer : ByteArray := prog_2_method_7_code
def qX0_isFewer : Mq := (⟨RX0, "isFewer", "(II)Z"⟩, cX0_isFewer, 3, some .boolean)
theorem lX0_isFewer : LmS qX0_isFewer 2 := ⟨tm4 (List.mem_of_getElem? (i := 15) (by decide +kernel)), tm4 (List.mem_of_getElem? (i := 14) (by decide +kernel)), tm1 (List.mem_of_getElem? (i := 7) (by decide +kernel)), by decide +kernel, by decide +kernel, by decide +kernel⟩
abbrev cX0_chosenByAll : ByteArray := prog_2_method_8_code
def qX0_chosenByAll : Mq := (⟨RX0, "chosenByAll", "(LChosenRelays$Mesh;)I"⟩, cX0_chosenByAll, 4, some .int)
theorem lX0_chosenByAll : LmV qX0_chosenByAll 1 := ⟨tm4 (List.mem_of_getElem? (i := 3) (by decide +kernel)), tm4 (List.mem_of_getElem? (i := 1) (by decide +kernel)), tm4 (List.mem_of_getElem? (i := 2) (by decide +kernel)), tm1 (List.mem_of_getElem? (i := 7) (by decide +kernel)), by decide +kernel, by decide +kernel, by decide +kernel⟩
abbrev cX0_chosen : ByteArray := prog_2_method_9_code
def qX0_chosen : Mq := (⟨RX0, "chosen", "(LChosenRelays$Mesh;I)I"⟩, cX0_chosen, 7, some .int)
theorem lX0_chosen : LmV qX0_chosen 2 := ⟨tm3 (List.mem_of_getElem? (i := 211) (by decide +kernel)), tm3 (List.mem_of_getElem? (i := 209) (by decide +kernel)), tm3 (List.mem_of_getElem? (i := 210) (by decide +kernel)), tm1 (List.mem_of_getElem? (i := 7) (by decide +kernel)), by decide +kernel, by decide +kernel, by decide +kernel⟩
abbrev cX0_pickMore : ByteArray := prog_2_method_10_code
def qX0_pickMore : Mq := (⟨RX0, "pickMore", "(LChosenRelays$Mesh;III)I"⟩, cX0_pickMore, 10, some .int)
theorem lX0_pickMore : LmV qX0_pickMore 4 := ⟨tm3 (List.mem_of_getElem? (i := 219) (by decide +kernel)), tm3 (List.mem_of_getElem? (i := 218) (by decide +kernel)), tm0 (List.mem_of_getElem? (i := 15) (by decide +kernel)), tm1 (List.mem_of_getElem? (i := 7) (by decide +kernel)), by decide +kernel, by decide +kernel, by decide +kernel⟩
abbrev cX0_best : ByteArray := prog_2_method_11_code
def qX0_best : Mq := (⟨RX0, "best", "(LChosenRelays$Mesh;III)I"⟩, cX0_best, 9, some .int)
theorem lX0_best : LmS qX0_best 4 := ⟨tm3 (List.mem_of_getElem? (i := 222) (by decide +kernel)), tm3 (List.mem_of_getElem? (i := 221) (by decide +kernel)), tm1 (List.mem_of_getElem? (i := 7) (by decide +kernel)), by decide +kernel, by decide +kernel, by decide +kernel⟩
abbrev cX0_dropSpare : ByteArray := prog_2_method_12_code
def qX0_dropSpare : Mq := (⟨RX0, "dropSpare", "(LChosenRelays$Mesh;III)I"⟩, cX0_dropSpare, 9, some .int)
theorem lX0_dropSpare : LmS qX0_dropSpare 4 := ⟨tm3 (List.mem_of_getElem? (i := 231) (by decide +kernel)), tm3 (List.mem_of_getElem? (i := 230) (by decide +kernel)), tm1 (List.mem_of_getElem? (i := 7) (by decide +kernel)), by decide +kernel, by decide +kernel, by decide +kernel⟩
abbrev cX1_init : ByteArray := prog_3_method_1_code
def qX1_init : Mq := (⟨RX1, "<init>", "()V"⟩, cX1_init, 1, none)
theorem lX1_init : LmI qX1_init 0 := ⟨tm2 (List.mem_of_getElem? (i := 90) (by decide +kernel)), tm2 (List.mem_of_getElem? (i := 89) (by decide +kernel)), rfl, tm1 (List.mem_of_getElem? (i := 11) (by decide +kernel)), by decide +kernel, by decide +kernel, by decide +kernel⟩
abbrev cX1_send : ByteArray := prog_3_method_2_code
def qX1_send : Mq := (⟨RX1, "send", "(LChosenRelays$Mesh;IILChosenRelays$Losses;)V"⟩, cX1_send, 8, none)
theorem lX1_send : LmV qX1_send 4 := ⟨tm4 (List.mem_of_getElem? (i := 198) (by decide +kernel)), tm4 (List.mem_of_getElem? (i := 196) (by decide +kernel)), tm4 (List.mem_of_getElem? (i := 197) (by decide +kernel)), tm1 (List.mem_of_getElem? (i := 11) (by decide +kernel)), by decide +kernel, by decide +kernel, by decide +kernel⟩
abbrev cX1_hand : ByteArray := prog_3_method_3_code
def qX1_hand : Mq := (⟨RX1, "hand", "(LChosenRelays$Mesh;III)V"⟩, cX1_hand, 6, none)
theorem lX1_hand : LmV qX1_hand 4 := ⟨tm4 (List.mem_of_getElem? (i := 210) (by decide +kernel)), tm4 (List.mem_of_getElem? (i := 209) (by decide +kernel)), tm0 (List.mem_of_getElem? (i := 32) (by decide +kernel)), tm1 (List.mem_of_getElem? (i := 11) (by decide +kernel)), by decide +kernel, by decide +kernel, by decide +kernel⟩
abbrev cX1_stand : ByteArray := prog_3_method_4_code
def qX1_stand : Mq := (⟨RX1, "stand", "(I)V"⟩, cX1_stand, 2, none)
theorem lX1_stand : LmV qX1_stand 1 := ⟨tm4 (List.mem_of_getElem? (i := 202) (by decide +kernel)), tm4 (List.mem_of_getElem? (i := 201) (by decide +kernel)), tm0 (List.mem_of_getElem? (i := 31) (by decide +kernel)), tm1 (List.mem_of_getElem? (i := 11) (by decide +kernel)), by decide +kernel, by decide +kernel, by decide +kernel⟩
abbrev cX2_init : ByteArray := prog_4_method_1_code
def qX2_init : Mq := (⟨RX2, "<init>", "()V"⟩, cX2_init, 1, none)
theorem lX2_init : LmI qX2_init 0 := ⟨tm2 (List.mem_of_getElem? (i := 50) (by decide +kernel)), tm2 (List.mem_of_getElem? (i := 49) (by decide +kernel)), rfl, tm1 (List.mem_of_getElem? (i := 9) (by decide +kernel)), by decide +kernel, by decide +kernel, by decide +kernel⟩
abbrev cX2_end : ByteArray := prog_4_method_2_code
def qX2_end : Mq := (⟨RX2, "end", "()I"⟩, cX2_end, 1, some .int)
theorem lX2_end : LmV qX2_end 0 := ⟨tm4 (List.mem_of_getElem? (i := 86) (by decide +kernel)), tm4 (List.mem_of_getElem? (i := 84) (by decide +kernel)), tm4 (List.mem_of_getElem? (i := 85) (by decide +kernel)), tm1 (List.mem_of_getElem? (i := 9) (by decide +kernel)), by decide +kernel, by decide +kernel, by decide +kernel⟩
abbrev cX2_follow : ByteArray := prog_4_method_3_code
def qX2_follow : Mq := (⟨RX2, "follow", "(LChosenRelays$Mesh;LChosenRelays$Routes;II)V"⟩, cX2_follow, 8, none)
theorem lX2_follow : LmV qX2_follow 4 := ⟨tm4 (List.mem_of_getElem? (i := 78) (by decide +kernel)), tm4 (List.mem_of_getElem? (i := 76) (by decide +kernel)), tm4 (List.mem_of_getElem? (i := 77) (by decide +kernel)), tm1 (List.mem_of_getElem? (i := 9) (by decide +kernel)), by decide +kernel, by decide +kernel, by decide +kernel⟩
abbrev cX3_init : ByteArray := prog_5_method_1_code
def qX3_init : Mq := (⟨RX3, "<init>", "()V"⟩, cX3_init, 1, none)
theorem lX3_init : LmI qX3_init 0 := ⟨tm1 (List.mem_of_getElem? (i := 40) (by decide +kernel)), tm1 (List.mem_of_getElem? (i := 39) (by decide +kernel)), rfl, tm1 (List.mem_of_getElem? (i := 3) (by decide +kernel)), by decide +kernel, by decide +kernel, by decide +kernel⟩
abbrev cX3_qualityAfter : ByteArray := prog_5_method_2_code
def qX3_qualityAfter : Mq := (⟨RX3, "qualityAfter", "(IZ)I"⟩, cX3_qualityAfter, 2, some .int)
theorem lX3_qualityAfter : LmS qX3_qualityAfter 2 := ⟨tm4 (List.mem_of_getElem? (i := 167) (by decide +kernel)), tm4 (List.mem_of_getElem? (i := 166) (by decide +kernel)), tm1 (List.mem_of_getElem? (i := 3) (by decide +kernel)), by decide +kernel, by decide +kernel, by decide +kernel⟩
abbrev cX3_clear : ByteArray := prog_5_method_3_code
def qX3_clear : Mq := (⟨RX3, "clear", "()V"⟩, cX3_clear, 1, none)
theorem lX3_clear : LmV qX3_clear 0 := ⟨tm1 (List.mem_of_getElem? (i := 137) (by decide +kernel)), tm1 (List.mem_of_getElem? (i := 135) (by decide +kernel)), tm1 (List.mem_of_getElem? (i := 136) (by decide +kernel)), tm1 (List.mem_of_getElem? (i := 3) (by decide +kernel)), by decide +kernel, by decide +kernel, by decide +kernel⟩
abbrev cX3_become : ByteArray := prog_5_method_4_code
def qX3_become : Mq := (⟨RX3, "become", "(LChosenRelays$Links;)V"⟩, cX3_become, 2, none)
theorem lX3_become : LmV qX3_become 1 := ⟨tm3 (List.mem_of_getElem? (i := 146) (by decide +kernel)), tm3 (List.mem_of_getElem? (i := 144) (by decide +kernel)), tm3 (List.mem_of_getElem? (i := 145) (by decide +kernel)), tm1 (List.mem_of_getElem? (i := 3) (by decide +kernel)), by decide +kernel, by decide +kernel, by decide +kernel⟩
abbrev cX4_init : ByteArray := prog_6_method_1_code
def qX4_init : Mq := (⟨RX4, "<init>", "()V"⟩, cX4_init, 1, none)
theorem lX4_init : LmI qX4_init 0 := ⟨tm2 (List.mem_of_getElem? (i := 116) (by decide +kernel)), tm2 (List.mem_of_getElem? (i := 115) (by decide +kernel)), rfl, tm1 (List.mem_of_getElem? (i := 12) (by decide +kernel)), by decide +kernel, by decide +kernel, by decide +kernel⟩
abbrev cX4_begin : ByteArray := prog_6_method_2_code
def qX4_begin : Mq := (⟨RX4, "begin", "(II)V"⟩, cX4_begin, 3, none)
theorem lX4_begin : LmV qX4_begin 2 := ⟨tm4 (List.mem_of_getElem? (i := 134) (by decide +kernel)), tm4 (List.mem_of_getElem? (i := 132) (by decide +kernel)), tm4 (List.mem_of_getElem? (i := 133) (by decide +kernel)), tm1 (List.mem_of_getElem? (i := 12) (by decide +kernel)), by decide +kernel, by decide +kernel, by decide +kernel⟩
abbrev cX4_loses : ByteArray := prog_6_method_3_code
def qX4_loses : Mq := (⟨RX4, "loses", "()Z"⟩, cX4_loses, 2, some .boolean)
theorem lX4_loses : LmV qX4_loses 0 := ⟨tm4 (List.mem_of_getElem? (i := 157) (by decide +kernel)), tm4 (List.mem_of_getElem? (i := 155) (by decide +kernel)), tm4 (List.mem_of_getElem? (i := 156) (by decide +kernel)), tm1 (List.mem_of_getElem? (i := 12) (by decide +kernel)), by decide +kernel, by decide +kernel, by decide +kernel⟩
abbrev cX5_init : ByteArray := prog_7_method_1_code
def qX5_init : Mq := (⟨RX5, "<init>", "()V"⟩, cX5_init, 1, none)
theorem lX5_init : LmI qX5_init 0 := ⟨tm1 (List.mem_of_getElem? (i := 34) (by decide +kernel)), tm1 (List.mem_of_getElem? (i := 33) (by decide +kernel)), rfl, tm1 (List.mem_of_getElem? (i := 2) (by decide +kernel)), by decide +kernel, by decide +kernel, by decide +kernel⟩
abbrev cX5_at : ByteArray := prog_7_method_2_code
def qX5_at : Mq := (⟨RX5, "at", "(II)I"⟩, cX5_at, 2, some .int)
theorem lX5_at : LmS qX5_at 2 := ⟨tm3 (List.mem_of_getElem? (i := 137) (by decide +kernel)), tm3 (List.mem_of_getElem? (i := 136) (by decide +kernel)), tm1 (List.mem_of_getElem? (i := 2) (by decide +kernel)), by decide +kernel, by decide +kernel, by decide +kernel⟩
abbrev cX5_bit : ByteArray := prog_7_method_3_code
def qX5_bit : Mq := (⟨RX5, "bit", "(I)I"⟩, cX5_bit, 1, some .int)
theorem lX5_bit : LmS qX5_bit 1 := ⟨tm3 (List.mem_of_getElem? (i := 134) (by decide +kernel)), tm3 (List.mem_of_getElem? (i := 133) (by decide +kernel)), tm1 (List.mem_of_getElem? (i := 2) (by decide +kernel)), by decide +kernel, by decide +kernel, by decide +kernel⟩
abbrev cX5_has : ByteArray := prog_7_method_4_code
def qX5_has : Mq := (⟨RX5, "has", "(II)Z"⟩, cX5_has, 2, some .boolean)
theorem lX5_has : LmS qX5_has 2 := ⟨tm3 (List.mem_of_getElem? (i := 81) (by decide +kernel)), tm3 (List.mem_of_getElem? (i := 80) (by decide +kernel)), tm1 (List.mem_of_getElem? (i := 2) (by decide +kernel)), by decide +kernel, by decide +kernel, by decide +kernel⟩
abbrev cX5_with : ByteArray := prog_7_method_5_code
def qX5_with : Mq := (⟨RX5, "with", "(IIZ)I"⟩, cX5_with, 3, some .int)
theorem lX5_with : LmS qX5_with 3 := ⟨tm3 (List.mem_of_getElem? (i := 84) (by decide +kernel)), tm3 (List.mem_of_getElem? (i := 83) (by decide +kernel)), tm1 (List.mem_of_getElem? (i := 2) (by decide +kernel)), by decide +kernel, by decide +kernel, by decide +kernel⟩
abbrev cX5_clear : ByteArray := prog_7_method_6_code
def qX5_clear : Mq := (⟨RX5, "clear", "()V"⟩, cX5_clear, 1, none)
theorem lX5_clear : LmV qX5_clear 0 := ⟨tm1 (List.mem_of_getElem? (i := 130) (by decide +kernel)), tm1 (List.mem_of_getElem? (i := 128) (by decide +kernel)), tm1 (List.mem_of_getElem? (i := 129) (by decide +kernel)), tm1 (List.mem_of_getElem? (i := 2) (by decide +kernel)), by decide +kernel, by decide +kernel, by decide +kernel⟩
abbrev cX5_become : ByteArray := prog_7_method_7_code
def qX5_become : Mq := (⟨RX5, "become", "(LChosenRelays$Mesh;)V"⟩, cX5_become, 2, none)
theorem lX5_become : LmV qX5_become 1 := ⟨tm3 (List.mem_of_getElem? (i := 141) (by decide +kernel)), tm3 (List.mem_of_getElem? (i := 139) (by decide +kernel)), tm3 (List.mem_of_getElem? (i := 140) (by decide +kernel)), tm1 (List.mem_of_getElem? (i := 2) (by decide +kernel)), by decide +kernel, by decide +kernel, by decide +kernel⟩
abbrev cX5_isNode : ByteArray := prog_7_method_8_code
def qX5_isNode : Mq := (⟨RX5, "isNode", "(I)Z"⟩, cX5_isNode, 2, some .boolean)
theorem lX5_isNode : LmV qX5_isNode 1 := ⟨tm3 (List.mem_of_getElem? (i := 110) (by decide +kernel)), tm3 (List.mem_of_getElem? (i := 108) (by decide +kernel)), tm3 (List.mem_of_getElem? (i := 109) (by decide +kernel)), tm1 (List.mem_of_getElem? (i := 2) (by decide +kernel)), by decide +kernel, by decide +kernel, by decide +kernel⟩
abbrev cX5_isOn : ByteArray := prog_7_method_9_code
def qX5_isOn : Mq := (⟨RX5, "isOn", "(I)Z"⟩, cX5_isOn, 2, some .boolean)
theorem lX5_isOn : LmV qX5_isOn 1 := ⟨tm3 (List.mem_of_getElem? (i := 114) (by decide +kernel)), tm3 (List.mem_of_getElem? (i := 112) (by decide +kernel)), tm3 (List.mem_of_getElem? (i := 113) (by decide +kernel)), tm1 (List.mem_of_getElem? (i := 2) (by decide +kernel)), by decide +kernel, by decide +kernel, by decide +kernel⟩
abbrev cX5_addNode : ByteArray := prog_7_method_10_code
def qX5_addNode : Mq := (⟨RX5, "addNode", "(I)V"⟩, cX5_addNode, 2, none)
theorem lX5_addNode : LmV qX5_addNode 1 := ⟨tm3 (List.mem_of_getElem? (i := 131) (by decide +kernel)), tm3 (List.mem_of_getElem? (i := 129) (by decide +kernel)), tm3 (List.mem_of_getElem? (i := 130) (by decide +kernel)), tm1 (List.mem_of_getElem? (i := 2) (by decide +kernel)), by decide +kernel, by decide +kernel, by decide +kernel⟩
abbrev cX5_comesTo : ByteArray := prog_7_method_11_code
def qX5_comesTo : Mq := (⟨RX5, "comesTo", "(II)Z"⟩, cX5_comesTo, 3, some .boolean)
theorem lX5_comesTo : LmV qX5_comesTo 2 := ⟨tm4 (List.mem_of_getElem? (i := 152) (by decide +kernel)), tm4 (List.mem_of_getElem? (i := 150) (by decide +kernel)), tm4 (List.mem_of_getElem? (i := 151) (by decide +kernel)), tm1 (List.mem_of_getElem? (i := 2) (by decide +kernel)), by decide +kernel, by decide +kernel, by decide +kernel⟩
abbrev cX5_isUpAt : ByteArray := prog_7_method_12_code
def qX5_isUpAt : Mq := (⟨RX5, "isUpAt", "(IZ)Z"⟩, cX5_isUpAt, 3, some .boolean)
theorem lX5_isUpAt : LmV qX5_isUpAt 2 := ⟨tm4 (List.mem_of_getElem? (i := 172) (by decide +kernel)), tm4 (List.mem_of_getElem? (i := 170) (by decide +kernel)), tm4 (List.mem_of_getElem? (i := 171) (by decide +kernel)), tm1 (List.mem_of_getElem? (i := 2) (by decide +kernel)), by decide +kernel, by decide +kernel, by decide +kernel⟩
abbrev cX5_easeJams : ByteArray := prog_7_method_13_code
def qX5_easeJams : Mq := (⟨RX5, "easeJams", "()V"⟩, cX5_easeJams, 2, none)
theorem lX5_easeJams : LmV qX5_easeJams 0 := ⟨tm4 (List.mem_of_getElem? (i := 227) (by decide +kernel)), tm4 (List.mem_of_getElem? (i := 225) (by decide +kernel)), tm4 (List.mem_of_getElem? (i := 226) (by decide +kernel)), tm1 (List.mem_of_getElem? (i := 2) (by decide +kernel)), by decide +kernel, by decide +kernel, by decide +kernel⟩
abbrev cX6_init : ByteArray := prog_8_method_1_code
def qX6_init : Mq := (⟨RX6, "<init>", "()V"⟩, cX6_init, 1, none)
theorem lX6_init : LmI qX6_init 0 := ⟨tm1 (List.mem_of_getElem? (i := 85) (by decide +kernel)), tm1 (List.mem_of_getElem? (i := 84) (by decide +kernel)), rfl, tm1 (List.mem_of_getElem? (i := 4) (by decide +kernel)), by decide +kernel, by decide +kernel, by decide +kernel⟩
abbrev cX6_isOlder : ByteArray := prog_8_method_2_code
def qX6_isOlder : Mq := (⟨RX6, "isOlder", "(II)Z"⟩, cX6_isOlder, 3, some .boolean)
theorem lX6_isOlder : LmS qX6_isOlder 2 := ⟨tm4 (List.mem_of_getElem? (i := 218) (by decide +kernel)), tm4 (List.mem_of_getElem? (i := 217) (by decide +kernel)), tm1 (List.mem_of_getElem? (i := 4) (by decide +kernel)), by decide +kernel, by decide +kernel, by decide +kernel⟩
abbrev cX6_clear : ByteArray := prog_8_method_3_code
def qX6_clear : Mq := (⟨RX6, "clear", "()V"⟩, cX6_clear, 1, none)
theorem lX6_clear : LmV qX6_clear 0 := ⟨tm1 (List.mem_of_getElem? (i := 142) (by decide +kernel)), tm1 (List.mem_of_getElem? (i := 140) (by decide +kernel)), tm1 (List.mem_of_getElem? (i := 141) (by decide +kernel)), tm1 (List.mem_of_getElem? (i := 4) (by decide +kernel)), by decide +kernel, by decide +kernel, by decide +kernel⟩
abbrev cX6_become : ByteArray := prog_8_method_4_code
def qX6_become : Mq := (⟨RX6, "become", "(LChosenRelays$News;)V"⟩, cX6_become, 2, none)
theorem lX6_become : LmV qX6_become 1 := ⟨tm3 (List.mem_of_getElem? (i := 151) (by decide +kernel)), tm3 (List.mem_of_getElem? (i := 149) (by decide +kernel)), tm3 (List.mem_of_getElem? (i := 150) (by decide +kernel)), tm1 (List.mem_of_getElem? (i := 4) (by decide +kernel)), by decide +kernel, by decide +kernel, by decide +kernel⟩
abbrev cX6_takeIn : ByteArray := prog_8_method_5_code
def qX6_takeIn : Mq := (⟨RX6, "takeIn", "(IIII)Z"⟩, cX6_takeIn, 5, some .boolean)
theorem lX6_takeIn : LmV qX6_takeIn 4 := ⟨tm4 (List.mem_of_getElem? (i := 215) (by decide +kernel)), tm4 (List.mem_of_getElem? (i := 213) (by decide +kernel)), tm4 (List.mem_of_getElem? (i := 214) (by decide +kernel)), tm1 (List.mem_of_getElem? (i := 4) (by decide +kernel)), by decide +kernel, by decide +kernel, by decide +kernel⟩
abbrev cX6_age : ByteArray := prog_8_method_6_code
def qX6_age : Mq := (⟨RX6, "age", "(I)V"⟩, cX6_age, 4, none)
theorem lX6_age : LmV qX6_age 1 := ⟨tm4 (List.mem_of_getElem? (i := 182) (by decide +kernel)), tm4 (List.mem_of_getElem? (i := 180) (by decide +kernel)), tm4 (List.mem_of_getElem? (i := 181) (by decide +kernel)), tm1 (List.mem_of_getElem? (i := 4) (by decide +kernel)), by decide +kernel, by decide +kernel, by decide +kernel⟩
abbrev cX6_renew : ByteArray := prog_8_method_7_code
def qX6_renew : Mq := (⟨RX6, "renew", "(II)V"⟩, cX6_renew, 3, none)
theorem lX6_renew : LmV qX6_renew 2 := ⟨tm4 (List.mem_of_getElem? (i := 194) (by decide +kernel)), tm4 (List.mem_of_getElem? (i := 192) (by decide +kernel)), tm4 (List.mem_of_getElem? (i := 193) (by decide +kernel)), tm1 (List.mem_of_getElem? (i := 4) (by decide +kernel)), by decide +kernel, by decide +kernel, by decide +kernel⟩
abbrev cX6_write : ByteArray := prog_8_method_8_code
def qX6_write : Mq := (⟨RX6, "write", "(IIII)V"⟩, cX6_write, 6, none)
theorem lX6_write : LmV qX6_write 4 := ⟨tm4 (List.mem_of_getElem? (i := 223) (by decide +kernel)), tm4 (List.mem_of_getElem? (i := 221) (by decide +kernel)), tm4 (List.mem_of_getElem? (i := 222) (by decide +kernel)), tm1 (List.mem_of_getElem? (i := 4) (by decide +kernel)), by decide +kernel, by decide +kernel, by decide +kernel⟩
abbrev cX6_written : ByteArray := prog_8_method_9_code
def qX6_written : Mq := (⟨RX6, "written", "(II)I"⟩, cX6_written, 4, some .int)
theorem lX6_written : LmV qX6_written 2 := ⟨tm5 (List.mem_of_getElem? (i := 66) (by decide +kernel)), tm5 (List.mem_of_getElem? (i := 64) (by decide +kernel)), tm5 (List.mem_of_getElem? (i := 65) (by decide +kernel)), tm1 (List.mem_of_getElem? (i := 4) (by decide +kernel)), by decide +kernel, by decide +kernel, by decide +kernel⟩
abbrev cX7_init : ByteArray := prog_9_method_1_code
def qX7_init : Mq := (⟨RX7, "<init>", "()V"⟩, cX7_init, 1, none)
theorem lX7_init : LmI qX7_init 0 := ⟨tm1 (List.mem_of_getElem? (i := 223) (by decide +kernel)), tm1 (List.mem_of_getElem? (i := 222) (by decide +kernel)), rfl, tm1 (List.mem_of_getElem? (i := 6) (by decide +kernel)), by decide +kernel, by decide +kernel, by decide +kernel⟩
abbrev cX7_read : ByteArray := prog_9_method_2_code
def qX7_read : Mq := (⟨RX7, "read", "([BILChosenRelays$Mesh;)V"⟩, cX7_read, 5, none)
theorem lX7_read : LmV qX7_read 3 := ⟨tm2 (List.mem_of_getElem? (i := 229) (by decide +kernel)), tm2 (List.mem_of_getElem? (i := 227) (by decide +kernel)), tm2 (List.mem_of_getElem? (i := 228) (by decide +kernel)), tm1 (List.mem_of_getElem? (i := 6) (by decide +kernel)), by decide +kernel, by decide +kernel, by decide +kernel⟩
abbrev cX7_readLine : ByteArray := prog_9_method_3_code
def qX7_readLine : Mq := (⟨RX7, "readLine", "(LChosenRelays$Mesh;)V"⟩, cX7_readLine, 4, none)
theorem lX7_readLine : LmV qX7_readLine 1 := ⟨tm3 (List.mem_of_getElem? (i := 10) (by decide +kernel)), tm3 (List.mem_of_getElem? (i := 9) (by decide +kernel)), tm0 (List.mem_of_getElem? (i := 3) (by decide +kernel)), tm1 (List.mem_of_getElem? (i := 6) (by decide +kernel)), by decide +kernel, by decide +kernel, by decide +kernel⟩
abbrev cX7_readNumber : ByteArray := prog_9_method_4_code
def qX7_readNumber : Mq := (⟨RX7, "readNumber", "(LChosenRelays$Mesh;II)V"⟩, cX7_readNumber, 4, none)
theorem lX7_readNumber : LmV qX7_readNumber 3 := ⟨tm3 (List.mem_of_getElem? (i := 91) (by decide +kernel)), tm3 (List.mem_of_getElem? (i := 90) (by decide +kernel)), tm0 (List.mem_of_getElem? (i := 7) (by decide +kernel)), tm1 (List.mem_of_getElem? (i := 6) (by decide +kernel)), by decide +kernel, by decide +kernel, by decide +kernel⟩
abbrev cX7_expect : ByteArray := prog_9_method_5_code
def qX7_expect : Mq := (⟨RX7, "expect", "(I)V"⟩, cX7_expect, 2, none)
theorem lX7_expect : LmV qX7_expect 1 := ⟨tm3 (List.mem_of_getElem? (i := 95) (by decide +kernel)), tm3 (List.mem_of_getElem? (i := 94) (by decide +kernel)), tm0 (List.mem_of_getElem? (i := 8) (by decide +kernel)), tm1 (List.mem_of_getElem? (i := 6) (by decide +kernel)), by decide +kernel, by decide +kernel, by decide +kernel⟩
abbrev cX7_finds : ByteArray := prog_9_method_6_code
def qX7_finds : Mq := (⟨RX7, "finds", "(I)V"⟩, cX7_finds, 2, none)
theorem lX7_finds : LmV qX7_finds 1 := ⟨tm3 (List.mem_of_getElem? (i := 78) (by decide +kernel)), tm3 (List.mem_of_getElem? (i := 77) (by decide +kernel)), tm0 (List.mem_of_getElem? (i := 6) (by decide +kernel)), tm1 (List.mem_of_getElem? (i := 6) (by decide +kernel)), by decide +kernel, by decide +kernel, by decide +kernel⟩
abbrev cX7_advance : ByteArray := prog_9_method_7_code
def qX7_advance : Mq := (⟨RX7, "advance", "()V"⟩, cX7_advance, 1, none)
theorem lX7_advance : LmV qX7_advance 0 := ⟨tm3 (List.mem_of_getElem? (i := 0) (by decide +kernel)), tm2 (List.mem_of_getElem? (i := 239) (by decide +kernel)), tm0 (List.mem_of_getElem? (i := 2) (by decide +kernel)), tm1 (List.mem_of_getElem? (i := 6) (by decide +kernel)), by decide +kernel, by decide +kernel, by decide +kernel⟩
abbrev cX7_isLetter : ByteArray := prog_9_method_8_code
def qX7_isLetter : Mq := (⟨RX7, "isLetter", "(I)Z"⟩, cX7_isLetter, 1, some .boolean)
theorem lX7_isLetter : LmS qX7_isLetter 1 := ⟨tm3 (List.mem_of_getElem? (i := 3) (by decide +kernel)), tm3 (List.mem_of_getElem? (i := 2) (by decide +kernel)), tm1 (List.mem_of_getElem? (i := 6) (by decide +kernel)), by decide +kernel, by decide +kernel, by decide +kernel⟩
abbrev cX7_isDigit : ByteArray := prog_9_method_9_code
def qX7_isDigit : Mq := (⟨RX7, "isDigit", "(I)Z"⟩, cX7_isDigit, 1, some .boolean)
theorem lX7_isDigit : LmS qX7_isDigit 1 := ⟨tm3 (List.mem_of_getElem? (i := 6) (by decide +kernel)), tm3 (List.mem_of_getElem? (i := 5) (by decide +kernel)), tm1 (List.mem_of_getElem? (i := 6) (by decide +kernel)), by decide +kernel, by decide +kernel, by decide +kernel⟩
abbrev cX7_numberHere : ByteArray := prog_9_method_10_code
def qX7_numberHere : Mq := (⟨RX7, "numberHere", "()I"⟩, cX7_numberHere, 3, some .int)
theorem lX7_numberHere : LmV qX7_numberHere 0 := ⟨tm3 (List.mem_of_getElem? (i := 99) (by decide +kernel)), tm3 (List.mem_of_getElem? (i := 98) (by decide +kernel)), tm0 (List.mem_of_getElem? (i := 9) (by decide +kernel)), tm1 (List.mem_of_getElem? (i := 6) (by decide +kernel)), by decide +kernel, by decide +kernel, by decide +kernel⟩
abbrev cX7_spells : ByteArray := prog_9_method_11_code
def qX7_spells : Mq := (⟨RX7, "spells", "(Ljava/lang/String;)Z"⟩, cX7_spells, 3, some .boolean)
theorem lX7_spells : LmV qX7_spells 1 := ⟨tm3 (List.mem_of_getElem? (i := 19) (by decide +kernel)), tm3 (List.mem_of_getElem? (i := 18) (by decide +kernel)), tm0 (List.mem_of_getElem? (i := 5) (by decide +kernel)), tm1 (List.mem_of_getElem? (i := 6) (by decide +kernel)), by decide +kernel, by decide +kernel, by decide +kernel⟩
abbrev cX7_lineKind : ByteArray := prog_9_method_12_code
def qX7_lineKind : Mq := (⟨RX7, "lineKind", "()I"⟩, cX7_lineKind, 1, some .int)
theorem lX7_lineKind : LmV qX7_lineKind 0 := ⟨tm3 (List.mem_of_getElem? (i := 14) (by decide +kernel)), tm3 (List.mem_of_getElem? (i := 13) (by decide +kernel)), tm0 (List.mem_of_getElem? (i := 4) (by decide +kernel)), tm1 (List.mem_of_getElem? (i := 6) (by decide +kernel)), by decide +kernel, by decide +kernel, by decide +kernel⟩
abbrev cX7_numbersOf : ByteArray := prog_9_method_13_code
def qX7_numbersOf : Mq := (⟨RX7, "numbersOf", "(I)I"⟩, cX7_numbersOf, 1, some .int)
theorem lX7_numbersOf : LmS qX7_numbersOf 1 := ⟨tm3 (List.mem_of_getElem? (i := 87) (by decide +kernel)), tm3 (List.mem_of_getElem? (i := 86) (by decide +kernel)), tm1 (List.mem_of_getElem? (i := 6) (by decide +kernel)), by decide +kernel, by decide +kernel, by decide +kernel⟩
abbrev cX7_numberFault : ByteArray := prog_9_method_14_code
def qX7_numberFault : Mq := (⟨RX7, "numberFault", "(LChosenRelays$Mesh;II)I"⟩, cX7_numberFault, 5, some .int)
theorem lX7_numberFault : LmV qX7_numberFault 3 := ⟨tm3 (List.mem_of_getElem? (i := 103) (by decide +kernel)), tm3 (List.mem_of_getElem? (i := 102) (by decide +kernel)), tm0 (List.mem_of_getElem? (i := 10) (by decide +kernel)), tm1 (List.mem_of_getElem? (i := 6) (by decide +kernel)), by decide +kernel, by decide +kernel, by decide +kernel⟩
abbrev cX7_rangeFault : ByteArray := prog_9_method_15_code
def qX7_rangeFault : Mq := (⟨RX7, "rangeFault", "(III)I"⟩, cX7_rangeFault, 3, some .int)
theorem lX7_rangeFault : LmS qX7_rangeFault 3 := ⟨tm3 (List.mem_of_getElem? (i := 106) (by decide +kernel)), tm3 (List.mem_of_getElem? (i := 105) (by decide +kernel)), tm1 (List.mem_of_getElem? (i := 6) (by decide +kernel)), by decide +kernel, by decide +kernel, by decide +kernel⟩
abbrev cX7_nodeFault : ByteArray := prog_9_method_16_code
def qX7_nodeFault : Mq := (⟨RX7, "nodeFault", "(LChosenRelays$Mesh;I)I"⟩, cX7_nodeFault, 2, some .int)
theorem lX7_nodeFault : LmS qX7_nodeFault 2 := ⟨tm3 (List.mem_of_getElem? (i := 119) (by decide +kernel)), tm3 (List.mem_of_getElem? (i := 118) (by decide +kernel)), tm1 (List.mem_of_getElem? (i := 6) (by decide +kernel)), by decide +kernel, by decide +kernel, by decide +kernel⟩
abbrev cX7_placeFault : ByteArray := prog_9_method_17_code
def qX7_placeFault : Mq := (⟨RX7, "placeFault", "(LChosenRelays$Mesh;I)I"⟩, cX7_placeFault, 4, some .int)
theorem lX7_placeFault : LmV qX7_placeFault 2 := ⟨tm3 (List.mem_of_getElem? (i := 123) (by decide +kernel)), tm3 (List.mem_of_getElem? (i := 122) (by decide +kernel)), tm0 (List.mem_of_getElem? (i := 11) (by decide +kernel)), tm1 (List.mem_of_getElem? (i := 6) (by decide +kernel)), by decide +kernel, by decide +kernel, by decide +kernel⟩
abbrev cX7_carryOut : ByteArray := prog_9_method_18_code
def qX7_carryOut : Mq := (⟨RX7, "carryOut", "(LChosenRelays$Mesh;I)V"⟩, cX7_carryOut, 6, none)
theorem lX7_carryOut : LmV qX7_carryOut 2 := ⟨tm3 (List.mem_of_getElem? (i := 127) (by decide +kernel)), tm3 (List.mem_of_getElem? (i := 126) (by decide +kernel)), tm0 (List.mem_of_getElem? (i := 12) (by decide +kernel)), tm1 (List.mem_of_getElem? (i := 6) (by decide +kernel)), by decide +kernel, by decide +kernel, by decide +kernel⟩
abbrev cX8_init : ByteArray := prog_10_method_1_code
def qX8_init : Mq := (⟨RX8, "<init>", "()V"⟩, cX8_init, 1, none)
theorem lX8_init : LmI qX8_init 0 := ⟨tm2 (List.mem_of_getElem? (i := 34) (by decide +kernel)), tm2 (List.mem_of_getElem? (i := 33) (by decide +kernel)), rfl, tm1 (List.mem_of_getElem? (i := 8) (by decide +kernel)), by decide +kernel, by decide +kernel, by decide +kernel⟩
abbrev cX8_findAll : ByteArray := prog_10_method_2_code
def qX8_findAll : Mq := (⟨RX8, "findAll", "(LChosenRelays$Mesh;)V"⟩, cX8_findAll, 3, none)
theorem lX8_findAll : LmV qX8_findAll 1 := ⟨tm4 (List.mem_of_getElem? (i := 73) (by decide +kernel)), tm4 (List.mem_of_getElem? (i := 71) (by decide +kernel)), tm4 (List.mem_of_getElem? (i := 72) (by decide +kernel)), tm1 (List.mem_of_getElem? (i := 8) (by decide +kernel)), by decide +kernel, by decide +kernel, by decide +kernel⟩
abbrev cX8_find : ByteArray := prog_10_method_3_code
def qX8_find : Mq := (⟨RX8, "find", "(LChosenRelays$Mesh;I)V"⟩, cX8_find, 7, none)
theorem lX8_find : LmV qX8_find 2 := ⟨tm4 (List.mem_of_getElem? (i := 42) (by decide +kernel)), tm4 (List.mem_of_getElem? (i := 40) (by decide +kernel)), tm4 (List.mem_of_getElem? (i := 41) (by decide +kernel)), tm1 (List.mem_of_getElem? (i := 8) (by decide +kernel)), by decide +kernel, by decide +kernel, by decide +kernel⟩
abbrev cX8_reachBehind : ByteArray := prog_10_method_4_code
def qX8_reachBehind : Mq := (⟨RX8, "reachBehind", "(LChosenRelays$Mesh;II)V"⟩, cX8_reachBehind, 6, none)
theorem lX8_reachBehind : LmV qX8_reachBehind 3 := ⟨tm4 (List.mem_of_getElem? (i := 48) (by decide +kernel)), tm4 (List.mem_of_getElem? (i := 47) (by decide +kernel)), tm0 (List.mem_of_getElem? (i := 17) (by decide +kernel)), tm1 (List.mem_of_getElem? (i := 8) (by decide +kernel)), by decide +kernel, by decide +kernel, by decide +kernel⟩
abbrev cX8_reachFurther : ByteArray := prog_10_method_5_code
def qX8_reachFurther : Mq := (⟨RX8, "reachFurther", "(LChosenRelays$Mesh;III)V"⟩, cX8_reachFurther, 9, none)
theorem lX8_reachFurther : LmV qX8_reachFurther 4 := ⟨tm4 (List.mem_of_getElem? (i := 52) (by decide +kernel)), tm4 (List.mem_of_getElem? (i := 51) (by decide +kernel)), tm0 (List.mem_of_getElem? (i := 18) (by decide +kernel)), tm1 (List.mem_of_getElem? (i := 8) (by decide +kernel)), by decide +kernel, by decide +kernel, by decide +kernel⟩
abbrev cX9_init : ByteArray := prog_11_method_1_code
def qX9_init : Mq := (⟨RX9, "<init>", "(LChosenRelays$Choice;LChosenRelays$Flood;)V"⟩, cX9_init, 3, none)
theorem lX9_init : LmI qX9_init 2 := ⟨tm2 (List.mem_of_getElem? (i := 133) (by decide +kernel)), tm2 (List.mem_of_getElem? (i := 132) (by decide +kernel)), rfl, tm1 (List.mem_of_getElem? (i := 13) (by decide +kernel)), by decide +kernel, by decide +kernel, by decide +kernel⟩
abbrev cX9_step : ByteArray := prog_11_method_2_code
def qX9_step : Mq := (⟨RX9, "step", "(LChosenRelays$Mesh;LChosenRelays$Losses;)V"⟩, cX9_step, 4, none)
theorem lX9_step : LmV qX9_step 2 := ⟨tm4 (List.mem_of_getElem? (i := 138) (by decide +kernel)), tm4 (List.mem_of_getElem? (i := 136) (by decide +kernel)), tm4 (List.mem_of_getElem? (i := 137) (by decide +kernel)), tm1 (List.mem_of_getElem? (i := 13) (by decide +kernel)), by decide +kernel, by decide +kernel, by decide +kernel⟩
abbrev cX9_sayHellos : ByteArray := prog_11_method_3_code
def qX9_sayHellos : Mq := (⟨RX9, "sayHellos", "(LChosenRelays$Links;)V"⟩, cX9_sayHellos, 2, none)
theorem lX9_sayHellos : LmV qX9_sayHellos 1 := ⟨tm4 (List.mem_of_getElem? (i := 142) (by decide +kernel)), tm4 (List.mem_of_getElem? (i := 141) (by decide +kernel)), tm0 (List.mem_of_getElem? (i := 26) (by decide +kernel)), tm1 (List.mem_of_getElem? (i := 13) (by decide +kernel)), by decide +kernel, by decide +kernel, by decide +kernel⟩
abbrev cX9_hearHellos : ByteArray := prog_11_method_4_code
def qX9_hearHellos : Mq := (⟨RX9, "hearHellos", "(LChosenRelays$Mesh;LChosenRelays$Losses;)V"⟩, cX9_hearHellos, 6, none)
theorem lX9_hearHellos : LmV qX9_hearHellos 2 := ⟨tm4 (List.mem_of_getElem? (i := 147) (by decide +kernel)), tm4 (List.mem_of_getElem? (i := 146) (by decide +kernel)), tm0 (List.mem_of_getElem? (i := 27) (by decide +kernel)), tm1 (List.mem_of_getElem? (i := 13) (by decide +kernel)), by decide +kernel, by decide +kernel, by decide +kernel⟩
abbrev cX9_prove : ByteArray := prog_11_method_5_code
def qX9_prove : Mq := (⟨RX9, "prove", "(LChosenRelays$Mesh;IIZ)V"⟩, cX9_prove, 9, none)
theorem lX9_prove : LmV qX9_prove 4 := ⟨tm4 (List.mem_of_getElem? (i := 163) (by decide +kernel)), tm4 (List.mem_of_getElem? (i := 162) (by decide +kernel)), tm0 (List.mem_of_getElem? (i := 28) (by decide +kernel)), tm1 (List.mem_of_getElem? (i := 13) (by decide +kernel)), by decide +kernel, by decide +kernel, by decide +kernel⟩
abbrev cX9_learn : ByteArray := prog_11_method_6_code
def qX9_learn : Mq := (⟨RX9, "learn", "(LChosenRelays$Links;IIZ)V"⟩, cX9_learn, 10, none)
theorem lX9_learn : LmV qX9_learn 4 := ⟨tm4 (List.mem_of_getElem? (i := 177) (by decide +kernel)), tm4 (List.mem_of_getElem? (i := 176) (by decide +kernel)), tm0 (List.mem_of_getElem? (i := 29) (by decide +kernel)), tm1 (List.mem_of_getElem? (i := 13) (by decide +kernel)), by decide +kernel, by decide +kernel, by decide +kernel⟩
abbrev cX9_sendNotices : ByteArray := prog_11_method_7_code
def qX9_sendNotices : Mq := (⟨RX9, "sendNotices", "(LChosenRelays$Mesh;LChosenRelays$Losses;)V"⟩, cX9_sendNotices, 5, none)
theorem lX9_sendNotices : LmV qX9_sendNotices 2 := ⟨tm4 (List.mem_of_getElem? (i := 190) (by decide +kernel)), tm4 (List.mem_of_getElem? (i := 189) (by decide +kernel)), tm0 (List.mem_of_getElem? (i := 30) (by decide +kernel)), tm1 (List.mem_of_getElem? (i := 13) (by decide +kernel)), by decide +kernel, by decide +kernel, by decide +kernel⟩
abbrev cX10_init : ByteArray := prog_12_method_1_code
def qX10_init : Mq := (⟨RX10, "<init>", "()V"⟩, cX10_init, 1, none)
theorem lX10_init : LmI qX10_init 0 := ⟨tm2 (List.mem_of_getElem? (i := 73) (by decide +kernel)), tm2 (List.mem_of_getElem? (i := 72) (by decide +kernel)), rfl, tm1 (List.mem_of_getElem? (i := 10) (by decide +kernel)), by decide +kernel, by decide +kernel, by decide +kernel⟩
abbrev cX10_see : ByteArray := prog_12_method_2_code
def qX10_see : Mq := (⟨RX10, "see", "(LChosenRelays$Mesh;)V"⟩, cX10_see, 5, none)
theorem lX10_see : LmV qX10_see 1 := ⟨tm4 (List.mem_of_getElem? (i := 94) (by decide +kernel)), tm4 (List.mem_of_getElem? (i := 92) (by decide +kernel)), tm4 (List.mem_of_getElem? (i := 93) (by decide +kernel)), tm1 (List.mem_of_getElem? (i := 10) (by decide +kernel)), by decide +kernel, by decide +kernel, by decide +kernel⟩
abbrev cX10_measure : ByteArray := prog_12_method_3_code
def qX10_measure : Mq := (⟨RX10, "measure", "(I)V"⟩, cX10_measure, 6, none)
theorem lX10_measure : LmV qX10_measure 1 := ⟨tm4 (List.mem_of_getElem? (i := 100) (by decide +kernel)), tm4 (List.mem_of_getElem? (i := 99) (by decide +kernel)), tm0 (List.mem_of_getElem? (i := 21) (by decide +kernel)), tm1 (List.mem_of_getElem? (i := 10) (by decide +kernel)), by decide +kernel, by decide +kernel, by decide +kernel⟩
abbrev cX10_pairsOf : ByteArray := prog_12_method_4_code
def qX10_pairsOf : Mq := (⟨RX10, "pairsOf", "(I)I"⟩, cX10_pairsOf, 4, some .int)
theorem lX10_pairsOf : LmV qX10_pairsOf 1 := ⟨tm4 (List.mem_of_getElem? (i := 106) (by decide +kernel)), tm4 (List.mem_of_getElem? (i := 105) (by decide +kernel)), tm0 (List.mem_of_getElem? (i := 22) (by decide +kernel)), tm1 (List.mem_of_getElem? (i := 10) (by decide +kernel)), by decide +kernel, by decide +kernel, by decide +kernel⟩
abbrev cX10_joinedTo : ByteArray := prog_12_method_5_code
def qX10_joinedTo : Mq := (⟨RX10, "joinedTo", "(II)I"⟩, cX10_joinedTo, 5, some .int)
theorem lX10_joinedTo : LmV qX10_joinedTo 2 := ⟨tm5 (List.mem_of_getElem? (i := 35) (by decide +kernel)), tm5 (List.mem_of_getElem? (i := 34) (by decide +kernel)), tm0 (List.mem_of_getElem? (i := 36) (by decide +kernel)), tm1 (List.mem_of_getElem? (i := 10) (by decide +kernel)), by decide +kernel, by decide +kernel, by decide +kernel⟩
abbrev cX10_isJoined : ByteArray := prog_12_method_6_code
def qX10_isJoined : Mq := (⟨RX10, "isJoined", "(I)Z"⟩, cX10_isJoined, 3, some .boolean)
theorem lX10_isJoined : LmV qX10_isJoined 1 := ⟨tm5 (List.mem_of_getElem? (i := 31) (by decide +kernel)), tm5 (List.mem_of_getElem? (i := 30) (by decide +kernel)), tm0 (List.mem_of_getElem? (i := 35) (by decide +kernel)), tm1 (List.mem_of_getElem? (i := 10) (by decide +kernel)), by decide +kernel, by decide +kernel, by decide +kernel⟩
abbrev cX10_isBack : ByteArray := prog_12_method_7_code
def qX10_isBack : Mq := (⟨RX10, "isBack", "(I)Z"⟩, cX10_isBack, 2, some .boolean)
theorem lX10_isBack : LmV qX10_isBack 1 := ⟨tm5 (List.mem_of_getElem? (i := 27) (by decide +kernel)), tm5 (List.mem_of_getElem? (i := 25) (by decide +kernel)), tm5 (List.mem_of_getElem? (i := 26) (by decide +kernel)), tm1 (List.mem_of_getElem? (i := 10) (by decide +kernel)), by decide +kernel, by decide +kernel, by decide +kernel⟩
abbrev cX10_smallestBack : ByteArray := prog_12_method_8_code
def qX10_smallestBack : Mq := (⟨RX10, "smallestBack", "()I"⟩, cX10_smallestBack, 4, some .int)
theorem lX10_smallestBack : LmV qX10_smallestBack 0 := ⟨tm5 (List.mem_of_getElem? (i := 39) (by decide +kernel)), tm5 (List.mem_of_getElem? (i := 37) (by decide +kernel)), tm5 (List.mem_of_getElem? (i := 38) (by decide +kernel)), tm1 (List.mem_of_getElem? (i := 10) (by decide +kernel)), by decide +kernel, by decide +kernel, by decide +kernel⟩
abbrev cX10_isCut : ByteArray := prog_12_method_9_code
def qX10_isCut : Mq := (⟨RX10, "isCut", "(I)Z"⟩, cX10_isCut, 5, some .boolean)
theorem lX10_isCut : LmV qX10_isCut 1 := ⟨tm5 (List.mem_of_getElem? (i := 49) (by decide +kernel)), tm5 (List.mem_of_getElem? (i := 47) (by decide +kernel)), tm5 (List.mem_of_getElem? (i := 48) (by decide +kernel)), tm1 (List.mem_of_getElem? (i := 10) (by decide +kernel)), by decide +kernel, by decide +kernel, by decide +kernel⟩
abbrev cX11_init : ByteArray := prog_1_method_1_code
def qX11_init : Mq := (⟨RX11, "<init>", "()V"⟩, cX11_init, 2, none)
theorem lX11_init : LmI qX11_init 0 := ⟨tm1 (List.mem_of_getElem? (i := 26) (by decide +kernel)), tm1 (List.mem_of_getElem? (i := 25) (by decide +kernel)), rfl, tm1 (List.mem_of_getElem? (i := 1) (by decide +kernel)), by decide +kernel, by decide +kernel, by decide +kernel⟩
abbrev cX11_status : ByteArray := prog_1_method_2_code
def qX11_status : Mq := (⟨RX11, "status", "()I"⟩, cX11_status, 1, some .int)
theorem lX11_status : LmV qX11_status 0 := ⟨tm2 (List.mem_of_getElem? (i := 206) (by decide +kernel)), tm2 (List.mem_of_getElem? (i := 204) (by decide +kernel)), tm2 (List.mem_of_getElem? (i := 205) (by decide +kernel)), tm1 (List.mem_of_getElem? (i := 1) (by decide +kernel)), by decide +kernel, by decide +kernel, by decide +kernel⟩
abbrev cX11_feed : ByteArray := prog_1_method_3_code
def qX11_feed : Mq := (⟨RX11, "feed", "(IIIII)I"⟩, cX11_feed, 6, some .int)
theorem lX11_feed : LmV qX11_feed 5 := ⟨tm2 (List.mem_of_getElem? (i := 210) (by decide +kernel)), tm2 (List.mem_of_getElem? (i := 208) (by decide +kernel)), tm2 (List.mem_of_getElem? (i := 209) (by decide +kernel)), tm1 (List.mem_of_getElem? (i := 1) (by decide +kernel)), by decide +kernel, by decide +kernel, by decide +kernel⟩
abbrev cX11_load : ByteArray := prog_1_method_4_code
def qX11_load : Mq := (⟨RX11, "load", "(I)I"⟩, cX11_load, 2, some .int)
theorem lX11_load : LmV qX11_load 1 := ⟨tm2 (List.mem_of_getElem? (i := 218) (by decide +kernel)), tm2 (List.mem_of_getElem? (i := 216) (by decide +kernel)), tm2 (List.mem_of_getElem? (i := 217) (by decide +kernel)), tm1 (List.mem_of_getElem? (i := 1) (by decide +kernel)), by decide +kernel, by decide +kernel, by decide +kernel⟩
abbrev cX11_fault : ByteArray := prog_1_method_5_code
def qX11_fault : Mq := (⟨RX11, "fault", "(I)I"⟩, cX11_fault, 2, some .int)
theorem lX11_fault : LmV qX11_fault 1 := ⟨tm3 (List.mem_of_getElem? (i := 156) (by decide +kernel)), tm3 (List.mem_of_getElem? (i := 154) (by decide +kernel)), tm3 (List.mem_of_getElem? (i := 155) (by decide +kernel)), tm1 (List.mem_of_getElem? (i := 1) (by decide +kernel)), by decide +kernel, by decide +kernel, by decide +kernel⟩
abbrev cX11_many : ByteArray := prog_1_method_6_code
def qX11_many : Mq := (⟨RX11, "many", "(I)I"⟩, cX11_many, 2, some .int)
theorem lX11_many : LmV qX11_many 1 := ⟨tm3 (List.mem_of_getElem? (i := 160) (by decide +kernel)), tm3 (List.mem_of_getElem? (i := 158) (by decide +kernel)), tm3 (List.mem_of_getElem? (i := 159) (by decide +kernel)), tm1 (List.mem_of_getElem? (i := 1) (by decide +kernel)), by decide +kernel, by decide +kernel, by decide +kernel⟩
abbrev cX11_node : ByteArray := prog_1_method_7_code
def qX11_node : Mq := (⟨RX11, "node", "(II)I"⟩, cX11_node, 3, some .int)
theorem lX11_node : LmV qX11_node 2 := ⟨tm3 (List.mem_of_getElem? (i := 164) (by decide +kernel)), tm3 (List.mem_of_getElem? (i := 162) (by decide +kernel)), tm3 (List.mem_of_getElem? (i := 163) (by decide +kernel)), tm1 (List.mem_of_getElem? (i := 1) (by decide +kernel)), by decide +kernel, by decide +kernel, by decide +kernel⟩
abbrev cX11_link : ByteArray := prog_1_method_8_code
def qX11_link : Mq := (⟨RX11, "link", "(III)I"⟩, cX11_link, 4, some .int)
theorem lX11_link : LmV qX11_link 3 := ⟨tm3 (List.mem_of_getElem? (i := 193) (by decide +kernel)), tm3 (List.mem_of_getElem? (i := 191) (by decide +kernel)), tm3 (List.mem_of_getElem? (i := 192) (by decide +kernel)), tm1 (List.mem_of_getElem? (i := 1) (by decide +kernel)), by decide +kernel, by decide +kernel, by decide +kernel⟩
abbrev cX11_topology : ByteArray := prog_1_method_9_code
def qX11_topology : Mq := (⟨RX11, "topology", "(III)I"⟩, cX11_topology, 5, some .int)
theorem lX11_topology : LmV qX11_topology 3 := ⟨tm3 (List.mem_of_getElem? (i := 203) (by decide +kernel)), tm3 (List.mem_of_getElem? (i := 201) (by decide +kernel)), tm3 (List.mem_of_getElem? (i := 202) (by decide +kernel)), tm1 (List.mem_of_getElem? (i := 1) (by decide +kernel)), by decide +kernel, by decide +kernel, by decide +kernel⟩
abbrev cX11_would : ByteArray := prog_1_method_10_code
def qX11_would : Mq := (⟨RX11, "would", "(I)I"⟩, cX11_would, 2, some .int)
theorem lX11_would : LmV qX11_would 1 := ⟨tm3 (List.mem_of_getElem? (i := 207) (by decide +kernel)), tm3 (List.mem_of_getElem? (i := 205) (by decide +kernel)), tm3 (List.mem_of_getElem? (i := 206) (by decide +kernel)), tm1 (List.mem_of_getElem? (i := 1) (by decide +kernel)), by decide +kernel, by decide +kernel, by decide +kernel⟩
abbrev cX11_pick : ByteArray := prog_1_method_11_code
def qX11_pick : Mq := (⟨RX11, "pick", "(II)I"⟩, cX11_pick, 3, some .int)
theorem lX11_pick : LmV qX11_pick 2 := ⟨tm3 (List.mem_of_getElem? (i := 235) (by decide +kernel)), tm3 (List.mem_of_getElem? (i := 233) (by decide +kernel)), tm3 (List.mem_of_getElem? (i := 234) (by decide +kernel)), tm1 (List.mem_of_getElem? (i := 1) (by decide +kernel)), by decide +kernel, by decide +kernel, by decide +kernel⟩
abbrev cX11_bestWill : ByteArray := prog_1_method_12_code
def qX11_bestWill : Mq := (⟨RX11, "bestWill", "(I)I"⟩, cX11_bestWill, 6, some .int)
theorem lX11_bestWill : LmV qX11_bestWill 1 := ⟨tm3 (List.mem_of_getElem? (i := 239) (by decide +kernel)), tm3 (List.mem_of_getElem? (i := 237) (by decide +kernel)), tm3 (List.mem_of_getElem? (i := 238) (by decide +kernel)), tm1 (List.mem_of_getElem? (i := 1) (by decide +kernel)), by decide +kernel, by decide +kernel, by decide +kernel⟩
abbrev cX11_least : ByteArray := prog_1_method_13_code
def qX11_least : Mq := (⟨RX11, "least", "(I)I"⟩, cX11_least, 2, some .int)
theorem lX11_least : LmV qX11_least 1 := ⟨tm4 (List.mem_of_getElem? (i := 9) (by decide +kernel)), tm4 (List.mem_of_getElem? (i := 7) (by decide +kernel)), tm4 (List.mem_of_getElem? (i := 8) (by decide +kernel)), tm1 (List.mem_of_getElem? (i := 1) (by decide +kernel)), by decide +kernel, by decide +kernel, by decide +kernel⟩
abbrev cX11_covers : ByteArray := prog_1_method_14_code
def qX11_covers : Mq := (⟨RX11, "covers", "(II)I"⟩, cX11_covers, 4, some .int)
theorem lX11_covers : LmV qX11_covers 2 := ⟨tm4 (List.mem_of_getElem? (i := 19) (by decide +kernel)), tm4 (List.mem_of_getElem? (i := 17) (by decide +kernel)), tm4 (List.mem_of_getElem? (i := 18) (by decide +kernel)), tm1 (List.mem_of_getElem? (i := 1) (by decide +kernel)), by decide +kernel, by decide +kernel, by decide +kernel⟩
abbrev cX11_needed : ByteArray := prog_1_method_15_code
def qX11_needed : Mq := (⟨RX11, "needed", "(I)I"⟩, cX11_needed, 2, some .int)
theorem lX11_needed : LmV qX11_needed 1 := ⟨tm4 (List.mem_of_getElem? (i := 28) (by decide +kernel)), tm4 (List.mem_of_getElem? (i := 26) (by decide +kernel)), tm4 (List.mem_of_getElem? (i := 27) (by decide +kernel)), tm1 (List.mem_of_getElem? (i := 1) (by decide +kernel)), by decide +kernel, by decide +kernel, by decide +kernel⟩
abbrev cX11_waste : ByteArray := prog_1_method_16_code
def qX11_waste : Mq := (⟨RX11, "waste", "()I"⟩, cX11_waste, 3, some .int)
theorem lX11_waste : LmV qX11_waste 0 := ⟨tm4 (List.mem_of_getElem? (i := 33) (by decide +kernel)), tm4 (List.mem_of_getElem? (i := 31) (by decide +kernel)), tm4 (List.mem_of_getElem? (i := 32) (by decide +kernel)), tm1 (List.mem_of_getElem? (i := 1) (by decide +kernel)), by decide +kernel, by decide +kernel, by decide +kernel⟩
abbrev cX11_route : ByteArray := prog_1_method_17_code
def qX11_route : Mq := (⟨RX11, "route", "(III)I"⟩, cX11_route, 5, some .int)
theorem lX11_route : LmV qX11_route 3 := ⟨tm4 (List.mem_of_getElem? (i := 38) (by decide +kernel)), tm4 (List.mem_of_getElem? (i := 36) (by decide +kernel)), tm4 (List.mem_of_getElem? (i := 37) (by decide +kernel)), tm1 (List.mem_of_getElem? (i := 1) (by decide +kernel)), by decide +kernel, by decide +kernel, by decide +kernel⟩
abbrev cX11_table : ByteArray := prog_1_method_18_code
def qX11_table : Mq := (⟨RX11, "table", "(I)I"⟩, cX11_table, 4, some .int)
theorem lX11_table : LmV qX11_table 1 := ⟨tm4 (List.mem_of_getElem? (i := 56) (by decide +kernel)), tm4 (List.mem_of_getElem? (i := 54) (by decide +kernel)), tm4 (List.mem_of_getElem? (i := 55) (by decide +kernel)), tm1 (List.mem_of_getElem? (i := 1) (by decide +kernel)), by decide +kernel, by decide +kernel, by decide +kernel⟩
abbrev cX11_goes : ByteArray := prog_1_method_19_code
def qX11_goes : Mq := (⟨RX11, "goes", "(III)I"⟩, cX11_goes, 4, some .int)
theorem lX11_goes : LmV qX11_goes 3 := ⟨tm4 (List.mem_of_getElem? (i := 61) (by decide +kernel)), tm4 (List.mem_of_getElem? (i := 59) (by decide +kernel)), tm4 (List.mem_of_getElem? (i := 60) (by decide +kernel)), tm1 (List.mem_of_getElem? (i := 1) (by decide +kernel)), by decide +kernel, by decide +kernel, by decide +kernel⟩
abbrev cX11_far : ByteArray := prog_1_method_20_code
def qX11_far : Mq := (⟨RX11, "far", "(II)I"⟩, cX11_far, 5, some .int)
theorem lX11_far : LmV qX11_far 2 := ⟨tm4 (List.mem_of_getElem? (i := 90) (by decide +kernel)), tm4 (List.mem_of_getElem? (i := 88) (by decide +kernel)), tm4 (List.mem_of_getElem? (i := 89) (by decide +kernel)), tm1 (List.mem_of_getElem? (i := 1) (by decide +kernel)), by decide +kernel, by decide +kernel, by decide +kernel⟩
abbrev cX11_wrong : ByteArray := prog_1_method_21_code
def qX11_wrong : Mq := (⟨RX11, "wrong", "(II)I"⟩, cX11_wrong, 6, some .int)
theorem lX11_wrong : LmV qX11_wrong 2 := ⟨tm4 (List.mem_of_getElem? (i := 110) (by decide +kernel)), tm4 (List.mem_of_getElem? (i := 108) (by decide +kernel)), tm4 (List.mem_of_getElem? (i := 109) (by decide +kernel)), tm1 (List.mem_of_getElem? (i := 1) (by decide +kernel)), by decide +kernel, by decide +kernel, by decide +kernel⟩
abbrev cX11_told : ByteArray := prog_1_method_22_code
def qX11_told : Mq := (⟨RX11, "told", "()I"⟩, cX11_told, 1, some .int)
theorem lX11_told : LmV qX11_told 0 := ⟨tm4 (List.mem_of_getElem? (i := 118) (by decide +kernel)), tm4 (List.mem_of_getElem? (i := 116) (by decide +kernel)), tm4 (List.mem_of_getElem? (i := 117) (by decide +kernel)), tm1 (List.mem_of_getElem? (i := 1) (by decide +kernel)), by decide +kernel, by decide +kernel, by decide +kernel⟩
abbrev cX11_settles : ByteArray := prog_1_method_23_code
def qX11_settles : Mq := (⟨RX11, "settles", "()I"⟩, cX11_settles, 2, some .int)
theorem lX11_settles : LmV qX11_settles 0 := ⟨tm4 (List.mem_of_getElem? (i := 126) (by decide +kernel)), tm4 (List.mem_of_getElem? (i := 124) (by decide +kernel)), tm4 (List.mem_of_getElem? (i := 125) (by decide +kernel)), tm1 (List.mem_of_getElem? (i := 1) (by decide +kernel)), by decide +kernel, by decide +kernel, by decide +kernel⟩
abbrev cX11_path : ByteArray := prog_1_method_24_code
def qX11_path : Mq := (⟨RX11, "path", "(III)I"⟩, cX11_path, 4, some .int)
theorem lX11_path : LmV qX11_path 3 := ⟨tm4 (List.mem_of_getElem? (i := 232) (by decide +kernel)), tm4 (List.mem_of_getElem? (i := 230) (by decide +kernel)), tm4 (List.mem_of_getElem? (i := 231) (by decide +kernel)), tm1 (List.mem_of_getElem? (i := 1) (by decide +kernel)), by decide +kernel, by decide +kernel, by decide +kernel⟩
abbrev cX11_busy : ByteArray := prog_1_method_25_code
def qX11_busy : Mq := (⟨RX11, "busy", "(I)I"⟩, cX11_busy, 6, some .int)
theorem lX11_busy : LmV qX11_busy 1 := ⟨tm4 (List.mem_of_getElem? (i := 236) (by decide +kernel)), tm4 (List.mem_of_getElem? (i := 234) (by decide +kernel)), tm4 (List.mem_of_getElem? (i := 235) (by decide +kernel)), tm1 (List.mem_of_getElem? (i := 1) (by decide +kernel)), by decide +kernel, by decide +kernel, by decide +kernel⟩
abbrev cX11_sure : ByteArray := prog_1_method_26_code
def qX11_sure : Mq := (⟨RX11, "sure", "(II)I"⟩, cX11_sure, 6, some .int)
theorem lX11_sure : LmV qX11_sure 2 := ⟨tm5 (List.mem_of_getElem? (i := 0) (by decide +kernel)), tm4 (List.mem_of_getElem? (i := 238) (by decide +kernel)), tm4 (List.mem_of_getElem? (i := 239) (by decide +kernel)), tm1 (List.mem_of_getElem? (i := 1) (by decide +kernel)), by decide +kernel, by decide +kernel, by decide +kernel⟩
abbrev cX11_astray : ByteArray := prog_1_method_27_code
def qX11_astray : Mq := (⟨RX11, "astray", "(I)I"⟩, cX11_astray, 6, some .int)
theorem lX11_astray : LmV qX11_astray 1 := ⟨tm5 (List.mem_of_getElem? (i := 5) (by decide +kernel)), tm5 (List.mem_of_getElem? (i := 3) (by decide +kernel)), tm5 (List.mem_of_getElem? (i := 4) (by decide +kernel)), tm1 (List.mem_of_getElem? (i := 1) (by decide +kernel)), by decide +kernel, by decide +kernel, by decide +kernel⟩
abbrev cX11_proves : ByteArray := prog_1_method_28_code
def qX11_proves : Mq := (⟨RX11, "proves", "(IIIII)I"⟩, cX11_proves, 12, some .int)
theorem lX11_proves : LmV qX11_proves 5 := ⟨tm5 (List.mem_of_getElem? (i := 13) (by decide +kernel)), tm5 (List.mem_of_getElem? (i := 11) (by decide +kernel)), tm5 (List.mem_of_getElem? (i := 12) (by decide +kernel)), tm1 (List.mem_of_getElem? (i := 1) (by decide +kernel)), by decide +kernel, by decide +kernel, by decide +kernel⟩
abbrev cX11_spine : ByteArray := prog_1_method_29_code
def qX11_spine : Mq := (⟨RX11, "spine", "(I)I"⟩, cX11_spine, 2, some .int)
theorem lX11_spine : LmV qX11_spine 1 := ⟨tm5 (List.mem_of_getElem? (i := 19) (by decide +kernel)), tm5 (List.mem_of_getElem? (i := 17) (by decide +kernel)), tm5 (List.mem_of_getElem? (i := 18) (by decide +kernel)), tm1 (List.mem_of_getElem? (i := 1) (by decide +kernel)), by decide +kernel, by decide +kernel, by decide +kernel⟩
abbrev cX11_cuts : ByteArray := prog_1_method_30_code
def qX11_cuts : Mq := (⟨RX11, "cuts", "()I"⟩, cX11_cuts, 3, some .int)
theorem lX11_cuts : LmV qX11_cuts 0 := ⟨tm5 (List.mem_of_getElem? (i := 45) (by decide +kernel)), tm5 (List.mem_of_getElem? (i := 43) (by decide +kernel)), tm5 (List.mem_of_getElem? (i := 44) (by decide +kernel)), tm1 (List.mem_of_getElem? (i := 1) (by decide +kernel)), by decide +kernel, by decide +kernel, by decide +kernel⟩
abbrev cX11_mends : ByteArray := prog_1_method_31_code
def qX11_mends : Mq := (⟨RX11, "mends", "(I)I"⟩, cX11_mends, 3, some .int)
theorem lX11_mends : LmV qX11_mends 1 := ⟨tm5 (List.mem_of_getElem? (i := 53) (by decide +kernel)), tm5 (List.mem_of_getElem? (i := 51) (by decide +kernel)), tm5 (List.mem_of_getElem? (i := 52) (by decide +kernel)), tm1 (List.mem_of_getElem? (i := 1) (by decide +kernel)), by decide +kernel, by decide +kernel, by decide +kernel⟩
abbrev cX11_flood : ByteArray := prog_1_method_32_code
def qX11_flood : Mq := (⟨RX11, "flood", "(II)I"⟩, cX11_flood, 4, some .int)
theorem lX11_flood : LmV qX11_flood 2 := ⟨tm5 (List.mem_of_getElem? (i := 57) (by decide +kernel)), tm5 (List.mem_of_getElem? (i := 55) (by decide +kernel)), tm5 (List.mem_of_getElem? (i := 56) (by decide +kernel)), tm1 (List.mem_of_getElem? (i := 1) (by decide +kernel)), by decide +kernel, by decide +kernel, by decide +kernel⟩
abbrev cX11_notice : ByteArray := prog_1_method_33_code
def qX11_notice : Mq := (⟨RX11, "notice", "(II)I"⟩, cX11_notice, 3, some .int)
theorem lX11_notice : LmV qX11_notice 2 := ⟨tm5 (List.mem_of_getElem? (i := 62) (by decide +kernel)), tm5 (List.mem_of_getElem? (i := 60) (by decide +kernel)), tm5 (List.mem_of_getElem? (i := 61) (by decide +kernel)), tm1 (List.mem_of_getElem? (i := 1) (by decide +kernel)), by decide +kernel, by decide +kernel, by decide +kernel⟩
abbrev cX11_older : ByteArray := prog_1_method_34_code
def qX11_older : Mq := (⟨RX11, "older", "(II)I"⟩, cX11_older, 3, some .int)
theorem lX11_older : LmV qX11_older 2 := ⟨tm5 (List.mem_of_getElem? (i := 73) (by decide +kernel)), tm5 (List.mem_of_getElem? (i := 71) (by decide +kernel)), tm5 (List.mem_of_getElem? (i := 72) (by decide +kernel)), tm1 (List.mem_of_getElem? (i := 1) (by decide +kernel)), by decide +kernel, by decide +kernel, by decide +kernel⟩
abbrev cX11_echo : ByteArray := prog_1_method_35_code
def qX11_echo : Mq := (⟨RX11, "echo", "(IIII)I"⟩, cX11_echo, 7, some .int)
theorem lX11_echo : LmV qX11_echo 4 := ⟨tm5 (List.mem_of_getElem? (i := 78) (by decide +kernel)), tm5 (List.mem_of_getElem? (i := 76) (by decide +kernel)), tm5 (List.mem_of_getElem? (i := 77) (by decide +kernel)), tm1 (List.mem_of_getElem? (i := 1) (by decide +kernel)), by decide +kernel, by decide +kernel, by decide +kernel⟩
abbrev cX11_add : ByteArray := prog_1_method_36_code
def qX11_add : Mq := (⟨RX11, "add", "(I)I"⟩, cX11_add, 3, some .int)
theorem lX11_add : LmV qX11_add 1 := ⟨tm5 (List.mem_of_getElem? (i := 83) (by decide +kernel)), tm5 (List.mem_of_getElem? (i := 81) (by decide +kernel)), tm5 (List.mem_of_getElem? (i := 82) (by decide +kernel)), tm1 (List.mem_of_getElem? (i := 1) (by decide +kernel)), by decide +kernel, by decide +kernel, by decide +kernel⟩
abbrev cX11_turn : ByteArray := prog_1_method_37_code
def qX11_turn : Mq := (⟨RX11, "turn", "(IZ)Z"⟩, cX11_turn, 4, some .boolean)
theorem lX11_turn : LmV qX11_turn 2 := ⟨tm5 (List.mem_of_getElem? (i := 88) (by decide +kernel)), tm5 (List.mem_of_getElem? (i := 86) (by decide +kernel)), tm5 (List.mem_of_getElem? (i := 87) (by decide +kernel)), tm1 (List.mem_of_getElem? (i := 1) (by decide +kernel)), by decide +kernel, by decide +kernel, by decide +kernel⟩
abbrev cX11_will : ByteArray := prog_1_method_38_code
def qX11_will : Mq := (⟨RX11, "will", "(II)I"⟩, cX11_will, 4, some .int)
theorem lX11_will : LmV qX11_will 2 := ⟨tm5 (List.mem_of_getElem? (i := 92) (by decide +kernel)), tm5 (List.mem_of_getElem? (i := 90) (by decide +kernel)), tm5 (List.mem_of_getElem? (i := 91) (by decide +kernel)), tm1 (List.mem_of_getElem? (i := 1) (by decide +kernel)), by decide +kernel, by decide +kernel, by decide +kernel⟩
abbrev cX11_ear : ByteArray := prog_1_method_39_code
def qX11_ear : Mq := (⟨RX11, "ear", "(IIZ)Z"⟩, cX11_ear, 4, some .boolean)
theorem lX11_ear : LmV qX11_ear 3 := ⟨tm5 (List.mem_of_getElem? (i := 96) (by decide +kernel)), tm5 (List.mem_of_getElem? (i := 94) (by decide +kernel)), tm5 (List.mem_of_getElem? (i := 95) (by decide +kernel)), tm1 (List.mem_of_getElem? (i := 1) (by decide +kernel)), by decide +kernel, by decide +kernel, by decide +kernel⟩
abbrev cX11_set : ByteArray := prog_1_method_40_code
def qX11_set : Mq := (⟨RX11, "set", "(II)I"⟩, cX11_set, 4, some .int)
theorem lX11_set : LmV qX11_set 2 := ⟨tm5 (List.mem_of_getElem? (i := 100) (by decide +kernel)), tm5 (List.mem_of_getElem? (i := 98) (by decide +kernel)), tm5 (List.mem_of_getElem? (i := 99) (by decide +kernel)), tm1 (List.mem_of_getElem? (i := 1) (by decide +kernel)), by decide +kernel, by decide +kernel, by decide +kernel⟩
abbrev cX11_jam : ByteArray := prog_1_method_41_code
def qX11_jam : Mq := (⟨RX11, "jam", "(III)I"⟩, cX11_jam, 6, some .int)
theorem lX11_jam : LmV qX11_jam 3 := ⟨tm5 (List.mem_of_getElem? (i := 109) (by decide +kernel)), tm5 (List.mem_of_getElem? (i := 107) (by decide +kernel)), tm5 (List.mem_of_getElem? (i := 108) (by decide +kernel)), tm1 (List.mem_of_getElem? (i := 1) (by decide +kernel)), by decide +kernel, by decide +kernel, by decide +kernel⟩
abbrev cX11_tick : ByteArray := prog_1_method_42_code
def qX11_tick : Mq := (⟨RX11, "tick", "(I)I"⟩, cX11_tick, 3, some .int)
theorem lX11_tick : LmV qX11_tick 1 := ⟨tm5 (List.mem_of_getElem? (i := 113) (by decide +kernel)), tm5 (List.mem_of_getElem? (i := 111) (by decide +kernel)), tm5 (List.mem_of_getElem? (i := 112) (by decide +kernel)), tm1 (List.mem_of_getElem? (i := 1) (by decide +kernel)), by decide +kernel, by decide +kernel, by decide +kernel⟩
abbrev cX11_run : ByteArray := prog_1_method_43_code
def qX11_run : Mq := (⟨RX11, "run", "(III)I"⟩, cX11_run, 6, some .int)
theorem lX11_run : LmV qX11_run 3 := ⟨tm5 (List.mem_of_getElem? (i := 117) (by decide +kernel)), tm5 (List.mem_of_getElem? (i := 115) (by decide +kernel)), tm5 (List.mem_of_getElem? (i := 116) (by decide +kernel)), tm1 (List.mem_of_getElem? (i := 1) (by decide +kernel)), by decide +kernel, by decide +kernel, by decide +kernel⟩
abbrev cX11_mark : ByteArray := prog_1_method_44_code
def qX11_mark : Mq := (⟨RX11, "mark", "()I"⟩, cX11_mark, 1, some .int)
theorem lX11_mark : LmV qX11_mark 0 := ⟨tm5 (List.mem_of_getElem? (i := 121) (by decide +kernel)), tm5 (List.mem_of_getElem? (i := 119) (by decide +kernel)), tm5 (List.mem_of_getElem? (i := 120) (by decide +kernel)), tm1 (List.mem_of_getElem? (i := 1) (by decide +kernel)), by decide +kernel, by decide +kernel, by decide +kernel⟩
abbrev cX11_back : ByteArray := prog_1_method_45_code
def qX11_back : Mq := (⟨RX11, "back", "()I"⟩, cX11_back, 1, some .int)
theorem lX11_back : LmV qX11_back 0 := ⟨tm5 (List.mem_of_getElem? (i := 125) (by decide +kernel)), tm5 (List.mem_of_getElem? (i := 123) (by decide +kernel)), tm5 (List.mem_of_getElem? (i := 124) (by decide +kernel)), tm1 (List.mem_of_getElem? (i := 1) (by decide +kernel)), by decide +kernel, by decide +kernel, by decide +kernel⟩
abbrev cX11_fails : ByteArray := prog_1_method_46_code
def qX11_fails : Mq := (⟨RX11, "fails", "(I)Z"⟩, cX11_fails, 2, some .boolean)
theorem lX11_fails : LmV qX11_fails 1 := ⟨tm2 (List.mem_of_getElem? (i := 225) (by decide +kernel)), tm2 (List.mem_of_getElem? (i := 224) (by decide +kernel)), tm0 (List.mem_of_getElem? (i := 1) (by decide +kernel)), tm1 (List.mem_of_getElem? (i := 1) (by decide +kernel)), by decide +kernel, by decide +kernel, by decide +kernel⟩
abbrev cX11_firstOf : ByteArray := prog_1_method_47_code
def qX11_firstOf : Mq := (⟨RX11, "firstOf", "(II)I"⟩, cX11_firstOf, 2, some .int)
theorem lX11_firstOf : LmS qX11_firstOf 2 := ⟨tm3 (List.mem_of_getElem? (i := 172) (by decide +kernel)), tm3 (List.mem_of_getElem? (i := 171) (by decide +kernel)), tm1 (List.mem_of_getElem? (i := 1) (by decide +kernel)), by decide +kernel, by decide +kernel, by decide +kernel⟩
abbrev cX11_rangeStatus : ByteArray := prog_1_method_48_code
def qX11_rangeStatus : Mq := (⟨RX11, "rangeStatus", "(III)I"⟩, cX11_rangeStatus, 3, some .int)
theorem lX11_rangeStatus : LmS qX11_rangeStatus 3 := ⟨tm2 (List.mem_of_getElem? (i := 221) (by decide +kernel)), tm2 (List.mem_of_getElem? (i := 220) (by decide +kernel)), tm1 (List.mem_of_getElem? (i := 1) (by decide +kernel)), by decide +kernel, by decide +kernel, by decide +kernel⟩
abbrev cX11_nodeStatus : ByteArray := prog_1_method_49_code
def qX11_nodeStatus : Mq := (⟨RX11, "nodeStatus", "(I)I"⟩, cX11_nodeStatus, 2, some .int)
theorem lX11_nodeStatus : LmV qX11_nodeStatus 1 := ⟨tm3 (List.mem_of_getElem? (i := 168) (by decide +kernel)), tm3 (List.mem_of_getElem? (i := 167) (by decide +kernel)), tm0 (List.mem_of_getElem? (i := 13) (by decide +kernel)), tm1 (List.mem_of_getElem? (i := 1) (by decide +kernel)), by decide +kernel, by decide +kernel, by decide +kernel⟩
abbrev cX11_pairStatus : ByteArray := prog_1_method_50_code
def qX11_pairStatus : Mq := (⟨RX11, "pairStatus", "(II)I"⟩, cX11_pairStatus, 3, some .int)
theorem lX11_pairStatus : LmV qX11_pairStatus 2 := ⟨tm3 (List.mem_of_getElem? (i := 197) (by decide +kernel)), tm3 (List.mem_of_getElem? (i := 196) (by decide +kernel)), tm0 (List.mem_of_getElem? (i := 14) (by decide +kernel)), tm1 (List.mem_of_getElem? (i := 1) (by decide +kernel)), by decide +kernel, by decide +kernel, by decide +kernel⟩
abbrev cX11_goingStatus : ByteArray := prog_1_method_51_code
def qX11_goingStatus : Mq := (⟨RX11, "goingStatus", "(II)I"⟩, cX11_goingStatus, 3, some .int)
theorem lX11_goingStatus : LmV qX11_goingStatus 2 := ⟨tm4 (List.mem_of_getElem? (i := 65) (by decide +kernel)), tm4 (List.mem_of_getElem? (i := 64) (by decide +kernel)), tm0 (List.mem_of_getElem? (i := 19) (by decide +kernel)), tm1 (List.mem_of_getElem? (i := 1) (by decide +kernel)), by decide +kernel, by decide +kernel, by decide +kernel⟩
abbrev cX11_setStatus : ByteArray := prog_1_method_52_code
def qX11_setStatus : Mq := (⟨RX11, "setStatus", "(I)I"⟩, cX11_setStatus, 2, some .int)
theorem lX11_setStatus : LmV qX11_setStatus 1 := ⟨tm4 (List.mem_of_getElem? (i := 23) (by decide +kernel)), tm4 (List.mem_of_getElem? (i := 22) (by decide +kernel)), tm0 (List.mem_of_getElem? (i := 16) (by decide +kernel)), tm1 (List.mem_of_getElem? (i := 1) (by decide +kernel)), by decide +kernel, by decide +kernel, by decide +kernel⟩
abbrev cX11_settingStatus : ByteArray := prog_1_method_53_code
def qX11_settingStatus : Mq := (⟨RX11, "settingStatus", "(II)I"⟩, cX11_settingStatus, 3, some .int)
theorem lX11_settingStatus : LmV qX11_settingStatus 2 := ⟨tm5 (List.mem_of_getElem? (i := 104) (by decide +kernel)), tm5 (List.mem_of_getElem? (i := 103) (by decide +kernel)), tm0 (List.mem_of_getElem? (i := 37) (by decide +kernel)), tm1 (List.mem_of_getElem? (i := 1) (by decide +kernel)), by decide +kernel, by decide +kernel, by decide +kernel⟩
abbrev cX11_isOff : ByteArray := prog_1_method_54_code
def qX11_isOff : Mq := (⟨RX11, "isOff", "(I)Z"⟩, cX11_isOff, 2, some .boolean)
theorem lX11_isOff : LmV qX11_isOff 1 := ⟨tm4 (List.mem_of_getElem? (i := 69) (by decide +kernel)), tm4 (List.mem_of_getElem? (i := 68) (by decide +kernel)), tm0 (List.mem_of_getElem? (i := 20) (by decide +kernel)), tm1 (List.mem_of_getElem? (i := 1) (by decide +kernel)), by decide +kernel, by decide +kernel, by decide +kernel⟩
abbrev cX11_asNumber : ByteArray := prog_1_method_55_code
def qX11_asNumber : Mq := (⟨RX11, "asNumber", "(Z)I"⟩, cX11_asNumber, 1, some .int)
theorem lX11_asNumber : LmS qX11_asNumber 1 := ⟨tm3 (List.mem_of_getElem? (i := 176) (by decide +kernel)), tm3 (List.mem_of_getElem? (i := 175) (by decide +kernel)), tm1 (List.mem_of_getElem? (i := 1) (by decide +kernel)), by decide +kernel, by decide +kernel, by decide +kernel⟩
abbrev cX11_putOnTape : ByteArray := prog_1_method_56_code
def qX11_putOnTape : Mq := (⟨RX11, "putOnTape", "(I)V"⟩, cX11_putOnTape, 3, none)
theorem lX11_putOnTape : LmV qX11_putOnTape 1 := ⟨tm2 (List.mem_of_getElem? (i := 214) (by decide +kernel)), tm2 (List.mem_of_getElem? (i := 213) (by decide +kernel)), tm0 (List.mem_of_getElem? (i := 0) (by decide +kernel)), tm1 (List.mem_of_getElem? (i := 1) (by decide +kernel)), by decide +kernel, by decide +kernel, by decide +kernel⟩
abbrev cX11_isWrong : ByteArray := prog_1_method_57_code
def qX11_isWrong : Mq := (⟨RX11, "isWrong", "(II)Z"⟩, cX11_isWrong, 5, some .boolean)
theorem lX11_isWrong : LmV qX11_isWrong 2 := ⟨tm4 (List.mem_of_getElem? (i := 114) (by decide +kernel)), tm4 (List.mem_of_getElem? (i := 113) (by decide +kernel)), tm0 (List.mem_of_getElem? (i := 23) (by decide +kernel)), tm1 (List.mem_of_getElem? (i := 1) (by decide +kernel)), by decide +kernel, by decide +kernel, by decide +kernel⟩
abbrev cX11_isAstray : ByteArray := prog_1_method_58_code
def qX11_isAstray : Mq := (⟨RX11, "isAstray", "(II)Z"⟩, cX11_isAstray, 3, some .boolean)
theorem lX11_isAstray : LmV qX11_isAstray 2 := ⟨tm5 (List.mem_of_getElem? (i := 9) (by decide +kernel)), tm5 (List.mem_of_getElem? (i := 8) (by decide +kernel)), tm0 (List.mem_of_getElem? (i := 33) (by decide +kernel)), tm1 (List.mem_of_getElem? (i := 1) (by decide +kernel)), by decide +kernel, by decide +kernel, by decide +kernel⟩
abbrev cX11_allIsTold : ByteArray := prog_1_method_59_code
def qX11_allIsTold : Mq := (⟨RX11, "allIsTold", "(LChosenRelays$Mesh;)Z"⟩, cX11_allIsTold, 4, some .boolean)
theorem lX11_allIsTold : LmV qX11_allIsTold 1 := ⟨tm4 (List.mem_of_getElem? (i := 122) (by decide +kernel)), tm4 (List.mem_of_getElem? (i := 121) (by decide +kernel)), tm0 (List.mem_of_getElem? (i := 24) (by decide +kernel)), tm1 (List.mem_of_getElem? (i := 1) (by decide +kernel)), by decide +kernel, by decide +kernel, by decide +kernel⟩
abbrev cX11_ticksTillTold : ByteArray := prog_1_method_60_code
def qX11_ticksTillTold : Mq := (⟨RX11, "ticksTillTold", "()I"⟩, cX11_ticksTillTold, 2, some .int)
theorem lX11_ticksTillTold : LmV qX11_ticksTillTold 0 := ⟨tm4 (List.mem_of_getElem? (i := 130) (by decide +kernel)), tm4 (List.mem_of_getElem? (i := 129) (by decide +kernel)), tm0 (List.mem_of_getElem? (i := 25) (by decide +kernel)), tm1 (List.mem_of_getElem? (i := 1) (by decide +kernel)), by decide +kernel, by decide +kernel, by decide +kernel⟩
abbrev cX11_relaysOfAll : ByteArray := prog_1_method_61_code
def qX11_relaysOfAll : Mq := (⟨RX11, "relaysOfAll", "()I"⟩, cX11_relaysOfAll, 3, some .int)
theorem lX11_relaysOfAll : LmV qX11_relaysOfAll 0 := ⟨tm5 (List.mem_of_getElem? (i := 23) (by decide +kernel)), tm5 (List.mem_of_getElem? (i := 22) (by decide +kernel)), tm0 (List.mem_of_getElem? (i := 34) (by decide +kernel)), tm1 (List.mem_of_getElem? (i := 1) (by decide +kernel)), by decide +kernel, by decide +kernel, by decide +kernel⟩
abbrev cX12_init : ByteArray := prog_14_method_1_code
def qX12_init : Mq := (⟨RX12, "<init>", "()V"⟩, cX12_init, 1, none)
theorem lX12_init : LmI qX12_init 0 := ⟨tm5 (List.mem_of_getElem? (i := 130) (by decide +kernel)), tm5 (List.mem_of_getElem? (i := 129) (by decide +kernel)), rfl, tm1 (List.mem_of_getElem? (i := 14) (by decide +kernel)), by decide +kernel, by decide +kernel, by decide +kernel⟩
abbrev cX12_status : ByteArray := prog_14_method_2_code
def qX12_status : Mq := (⟨RX12, "status", "()I"⟩, cX12_status, 1, some .int)
theorem lX12_status : LmV qX12_status 0 := ⟨tm5 (List.mem_of_getElem? (i := 237) (by decide +kernel)), tm5 (List.mem_of_getElem? (i := 235) (by decide +kernel)), tm5 (List.mem_of_getElem? (i := 236) (by decide +kernel)), tm1 (List.mem_of_getElem? (i := 14) (by decide +kernel)), by decide +kernel, by decide +kernel, by decide +kernel⟩
abbrev cX12_refuse : ByteArray := prog_14_method_3_code
def qX12_refuse : Mq := (⟨RX12, "refuse", "(I)I"⟩, cX12_refuse, 2, some .int)
theorem lX12_refuse : LmV qX12_refuse 1 := ⟨tm6 (List.mem_of_getElem? (i := 16) (by decide +kernel)), tm6 (List.mem_of_getElem? (i := 15) (by decide +kernel)), tm0 (List.mem_of_getElem? (i := 41) (by decide +kernel)), tm1 (List.mem_of_getElem? (i := 14) (by decide +kernel)), by decide +kernel, by decide +kernel, by decide +kernel⟩
abbrev cX12_isSo : ByteArray := prog_14_method_4_code
def qX12_isSo : Mq := (⟨RX12, "isSo", "(I)Z"⟩, cX12_isSo, 2, some .boolean)
theorem lX12_isSo : LmV qX12_isSo 1 := ⟨tm7 (List.mem_of_getElem? (i := 163) (by decide +kernel)), tm7 (List.mem_of_getElem? (i := 162) (by decide +kernel)), tm0 (List.mem_of_getElem? (i := 97) (by decide +kernel)), tm1 (List.mem_of_getElem? (i := 14) (by decide +kernel)), by decide +kernel, by decide +kernel, by decide +kernel⟩
abbrev cX12_gives : ByteArray := prog_14_method_5_code
def qX12_gives : Mq := (⟨RX12, "gives", "(I)I"⟩, cX12_gives, 2, some .int)
theorem lX12_gives : LmV qX12_gives 1 := ⟨tm6 (List.mem_of_getElem? (i := 116) (by decide +kernel)), tm6 (List.mem_of_getElem? (i := 115) (by decide +kernel)), tm0 (List.mem_of_getElem? (i := 62) (by decide +kernel)), tm1 (List.mem_of_getElem? (i := 14) (by decide +kernel)), by decide +kernel, by decide +kernel, by decide +kernel⟩
abbrev cX12_isFrom : ByteArray := prog_14_method_6_code
def qX12_isFrom : Mq := (⟨RX12, "isFrom", "(III)Z"⟩, cX12_isFrom, 3, some .boolean)
theorem lX12_isFrom : LmS qX12_isFrom 3 := ⟨tm6 (List.mem_of_getElem? (i := 12) (by decide +kernel)), tm6 (List.mem_of_getElem? (i := 11) (by decide +kernel)), tm1 (List.mem_of_getElem? (i := 14) (by decide +kernel)), by decide +kernel, by decide +kernel, by decide +kernel⟩
abbrev cX12_has : ByteArray := prog_14_method_7_code
def qX12_has : Mq := (⟨RX12, "has", "(II)Z"⟩, cX12_has, 2, some .boolean)
theorem lX12_has : LmS qX12_has 2 := ⟨tm6 (List.mem_of_getElem? (i := 53) (by decide +kernel)), tm6 (List.mem_of_getElem? (i := 52) (by decide +kernel)), tm1 (List.mem_of_getElem? (i := 14) (by decide +kernel)), by decide +kernel, by decide +kernel, by decide +kernel⟩
abbrev cX12_bits : ByteArray := prog_14_method_8_code
def qX12_bits : Mq := (⟨RX12, "bits", "(I)I"⟩, cX12_bits, 3, some .int)
theorem lX12_bits : LmS qX12_bits 1 := ⟨tm6 (List.mem_of_getElem? (i := 175) (by decide +kernel)), tm6 (List.mem_of_getElem? (i := 174) (by decide +kernel)), tm1 (List.mem_of_getElem? (i := 14) (by decide +kernel)), by decide +kernel, by decide +kernel, by decide +kernel⟩
abbrev cX12_of : ByteArray := prog_14_method_9_code
def qX12_of : Mq := (⟨RX12, "of", "(I)I"⟩, cX12_of, 2, some .int)
theorem lX12_of : LmV qX12_of 1 := ⟨tm6 (List.mem_of_getElem? (i := 65) (by decide +kernel)), tm6 (List.mem_of_getElem? (i := 64) (by decide +kernel)), tm0 (List.mem_of_getElem? (i := 50) (by decide +kernel)), tm1 (List.mem_of_getElem? (i := 14) (by decide +kernel)), by decide +kernel, by decide +kernel, by decide +kernel⟩
abbrev cX12_puts : ByteArray := prog_14_method_10_code
def qX12_puts : Mq := (⟨RX12, "puts", "(II)V"⟩, cX12_puts, 3, none)
theorem lX12_puts : LmV qX12_puts 2 := ⟨tm5 (List.mem_of_getElem? (i := 139) (by decide +kernel)), tm5 (List.mem_of_getElem? (i := 138) (by decide +kernel)), tm0 (List.mem_of_getElem? (i := 39) (by decide +kernel)), tm1 (List.mem_of_getElem? (i := 14) (by decide +kernel)), by decide +kernel, by decide +kernel, by decide +kernel⟩
abbrev cX12_adds : ByteArray := prog_14_method_11_code
def qX12_adds : Mq := (⟨RX12, "adds", "(II)V"⟩, cX12_adds, 3, none)
theorem lX12_adds : LmV qX12_adds 2 := ⟨tm6 (List.mem_of_getElem? (i := 73) (by decide +kernel)), tm6 (List.mem_of_getElem? (i := 72) (by decide +kernel)), tm0 (List.mem_of_getElem? (i := 52) (by decide +kernel)), tm1 (List.mem_of_getElem? (i := 14) (by decide +kernel)), by decide +kernel, by decide +kernel, by decide +kernel⟩
abbrev cX12_copies : ByteArray := prog_14_method_12_code
def qX12_copies : Mq := (⟨RX12, "copies", "(II)V"⟩, cX12_copies, 4, none)
theorem lX12_copies : LmV qX12_copies 2 := ⟨tm6 (List.mem_of_getElem? (i := 20) (by decide +kernel)), tm6 (List.mem_of_getElem? (i := 19) (by decide +kernel)), tm0 (List.mem_of_getElem? (i := 42) (by decide +kernel)), tm1 (List.mem_of_getElem? (i := 14) (by decide +kernel)), by decide +kernel, by decide +kernel, by decide +kernel⟩
abbrev cX12_begins : ByteArray := prog_14_method_13_code
def qX12_begins : Mq := (⟨RX12, "begins", "()V"⟩, cX12_begins, 2, none)
theorem lX12_begins : LmV qX12_begins 0 := ⟨tm5 (List.mem_of_getElem? (i := 135) (by decide +kernel)), tm5 (List.mem_of_getElem? (i := 134) (by decide +kernel)), tm0 (List.mem_of_getElem? (i := 38) (by decide +kernel)), tm1 (List.mem_of_getElem? (i := 14) (by decide +kernel)), by decide +kernel, by decide +kernel, by decide +kernel⟩
abbrev cX12_isNode : ByteArray := prog_14_method_14_code
def qX12_isNode : Mq := (⟨RX12, "isNode", "(I)Z"⟩, cX12_isNode, 2, some .boolean)
theorem lX12_isNode : LmV qX12_isNode 1 := ⟨tm6 (List.mem_of_getElem? (i := 132) (by decide +kernel)), tm6 (List.mem_of_getElem? (i := 131) (by decide +kernel)), tm0 (List.mem_of_getElem? (i := 63) (by decide +kernel)), tm1 (List.mem_of_getElem? (i := 14) (by decide +kernel)), by decide +kernel, by decide +kernel, by decide +kernel⟩
abbrev cX12_isOn : ByteArray := prog_14_method_15_code
def qX12_isOn : Mq := (⟨RX12, "isOn", "(I)Z"⟩, cX12_isOn, 2, some .boolean)
theorem lX12_isOn : LmV qX12_isOn 1 := ⟨tm6 (List.mem_of_getElem? (i := 101) (by decide +kernel)), tm6 (List.mem_of_getElem? (i := 100) (by decide +kernel)), tm0 (List.mem_of_getElem? (i := 59) (by decide +kernel)), tm1 (List.mem_of_getElem? (i := 14) (by decide +kernel)), by decide +kernel, by decide +kernel, by decide +kernel⟩
abbrev cX12_two : ByteArray := prog_14_method_16_code
def qX12_two : Mq := (⟨RX12, "two", "(III)I"⟩, cX12_two, 3, some .int)
theorem lX12_two : LmS qX12_two 3 := ⟨tm6 (List.mem_of_getElem? (i := 112) (by decide +kernel)), tm6 (List.mem_of_getElem? (i := 111) (by decide +kernel)), tm1 (List.mem_of_getElem? (i := 14) (by decide +kernel)), by decide +kernel, by decide +kernel, by decide +kernel⟩
abbrev cX12_willing : ByteArray := prog_14_method_17_code
def qX12_willing : Mq := (⟨RX12, "willing", "(I)I"⟩, cX12_willing, 4, some .int)
theorem lX12_willing : LmV qX12_willing 1 := ⟨tm6 (List.mem_of_getElem? (i := 140) (by decide +kernel)), tm6 (List.mem_of_getElem? (i := 139) (by decide +kernel)), tm0 (List.mem_of_getElem? (i := 65) (by decide +kernel)), tm1 (List.mem_of_getElem? (i := 14) (by decide +kernel)), by decide +kernel, by decide +kernel, by decide +kernel⟩
abbrev cX12_knownOf : ByteArray := prog_14_method_18_code
def qX12_knownOf : Mq := (⟨RX12, "knownOf", "(II)I"⟩, cX12_knownOf, 5, some .int)
theorem lX12_knownOf : LmV qX12_knownOf 2 := ⟨tm6 (List.mem_of_getElem? (i := 144) (by decide +kernel)), tm6 (List.mem_of_getElem? (i := 143) (by decide +kernel)), tm0 (List.mem_of_getElem? (i := 66) (by decide +kernel)), tm1 (List.mem_of_getElem? (i := 14) (by decide +kernel)), by decide +kernel, by decide +kernel, by decide +kernel⟩
abbrev cX12_behind : ByteArray := prog_14_method_19_code
def qX12_behind : Mq := (⟨RX12, "behind", "(I)I"⟩, cX12_behind, 2, some .int)
theorem lX12_behind : LmV qX12_behind 1 := ⟨tm6 (List.mem_of_getElem? (i := 136) (by decide +kernel)), tm6 (List.mem_of_getElem? (i := 135) (by decide +kernel)), tm0 (List.mem_of_getElem? (i := 64) (by decide +kernel)), tm1 (List.mem_of_getElem? (i := 14) (by decide +kernel)), by decide +kernel, by decide +kernel, by decide +kernel⟩
abbrev cX12_aloneOf : ByteArray := prog_14_method_20_code
def qX12_aloneOf : Mq := (⟨RX12, "aloneOf", "(II)I"⟩, cX12_aloneOf, 5, some .int)
theorem lX12_aloneOf : LmV qX12_aloneOf 2 := ⟨tm6 (List.mem_of_getElem? (i := 168) (by decide +kernel)), tm6 (List.mem_of_getElem? (i := 167) (by decide +kernel)), tm0 (List.mem_of_getElem? (i := 69) (by decide +kernel)), tm1 (List.mem_of_getElem? (i := 14) (by decide +kernel)), by decide +kernel, by decide +kernel, by decide +kernel⟩
abbrev cX12_isBetter : ByteArray := prog_14_method_21_code
def qX12_isBetter : Mq := (⟨RX12, "isBetter", "(IIII)Z"⟩, cX12_isBetter, 7, some .boolean)
theorem lX12_isBetter : LmV qX12_isBetter 4 := ⟨tm6 (List.mem_of_getElem? (i := 172) (by decide +kernel)), tm6 (List.mem_of_getElem? (i := 171) (by decide +kernel)), tm0 (List.mem_of_getElem? (i := 70) (by decide +kernel)), tm1 (List.mem_of_getElem? (i := 14) (by decide +kernel)), by decide +kernel, by decide +kernel, by decide +kernel⟩
abbrev cX12_chosen : ByteArray := prog_14_method_22_code
def qX12_chosen : Mq := (⟨RX12, "chosen", "(I)I"⟩, cX12_chosen, 7, some .int)
theorem lX12_chosen : LmV qX12_chosen 1 := ⟨tm6 (List.mem_of_getElem? (i := 164) (by decide +kernel)), tm6 (List.mem_of_getElem? (i := 163) (by decide +kernel)), tm0 (List.mem_of_getElem? (i := 68) (by decide +kernel)), tm1 (List.mem_of_getElem? (i := 14) (by decide +kernel)), by decide +kernel, by decide +kernel, by decide +kernel⟩
abbrev cX12_leastOf : ByteArray := prog_14_method_23_code
def qX12_leastOf : Mq := (⟨RX12, "leastOf", "(I)I"⟩, cX12_leastOf, 5, some .int)
theorem lX12_leastOf : LmV qX12_leastOf 1 := ⟨tm6 (List.mem_of_getElem? (i := 191) (by decide +kernel)), tm6 (List.mem_of_getElem? (i := 190) (by decide +kernel)), tm0 (List.mem_of_getElem? (i := 71) (by decide +kernel)), tm1 (List.mem_of_getElem? (i := 14) (by decide +kernel)), by decide +kernel, by decide +kernel, by decide +kernel⟩
abbrev cX12_drawBy : ByteArray := prog_14_method_24_code
def qX12_drawBy : Mq := (⟨RX12, "drawBy", "(I)I"⟩, cX12_drawBy, 2, some .int)
theorem lX12_drawBy : LmV qX12_drawBy 1 := ⟨tm7 (List.mem_of_getElem? (i := 63) (by decide +kernel)), tm7 (List.mem_of_getElem? (i := 62) (by decide +kernel)), tm0 (List.mem_of_getElem? (i := 88) (by decide +kernel)), tm1 (List.mem_of_getElem? (i := 14) (by decide +kernel)), by decide +kernel, by decide +kernel, by decide +kernel⟩
abbrev cX12_isLost : ByteArray := prog_14_method_25_code
def qX12_isLost : Mq := (⟨RX12, "isLost", "()Z"⟩, cX12_isLost, 1, some .boolean)
theorem lX12_isLost : LmV qX12_isLost 0 := ⟨tm7 (List.mem_of_getElem? (i := 59) (by decide +kernel)), tm7 (List.mem_of_getElem? (i := 58) (by decide +kernel)), tm0 (List.mem_of_getElem? (i := 87) (by decide +kernel)), tm1 (List.mem_of_getElem? (i := 14) (by decide +kernel)), by decide +kernel, by decide +kernel, by decide +kernel⟩
abbrev cX12_proved : ByteArray := prog_14_method_26_code
def qX12_proved : Mq := (⟨RX12, "proved", "(IZ)I"⟩, cX12_proved, 2, some .int)
theorem lX12_proved : LmS qX12_proved 2 := ⟨tm7 (List.mem_of_getElem? (i := 69) (by decide +kernel)), tm7 (List.mem_of_getElem? (i := 68) (by decide +kernel)), tm1 (List.mem_of_getElem? (i := 14) (by decide +kernel)), by decide +kernel, by decide +kernel, by decide +kernel⟩
abbrev cX12_isUp : ByteArray := prog_14_method_27_code
def qX12_isUp : Mq := (⟨RX12, "isUp", "(IZ)Z"⟩, cX12_isUp, 3, some .boolean)
theorem lX12_isUp : LmV qX12_isUp 2 := ⟨tm7 (List.mem_of_getElem? (i := 73) (by decide +kernel)), tm7 (List.mem_of_getElem? (i := 72) (by decide +kernel)), tm0 (List.mem_of_getElem? (i := 89) (by decide +kernel)), tm1 (List.mem_of_getElem? (i := 14) (by decide +kernel)), by decide +kernel, by decide +kernel, by decide +kernel⟩
abbrev cX12_with : ByteArray := prog_14_method_28_code
def qX12_with : Mq := (⟨RX12, "with", "(IIZ)I"⟩, cX12_with, 3, some .int)
theorem lX12_with : LmS qX12_with 3 := ⟨tm7 (List.mem_of_getElem? (i := 76) (by decide +kernel)), tm7 (List.mem_of_getElem? (i := 75) (by decide +kernel)), tm1 (List.mem_of_getElem? (i := 14) (by decide +kernel)), by decide +kernel, by decide +kernel, by decide +kernel⟩
abbrev cX12_hears : ByteArray := prog_14_method_29_code
def qX12_hears : Mq := (⟨RX12, "hears", "(II)V"⟩, cX12_hears, 7, none)
theorem lX12_hears : LmV qX12_hears 2 := ⟨tm7 (List.mem_of_getElem? (i := 55) (by decide +kernel)), tm7 (List.mem_of_getElem? (i := 54) (by decide +kernel)), tm0 (List.mem_of_getElem? (i := 86) (by decide +kernel)), tm1 (List.mem_of_getElem? (i := 14) (by decide +kernel)), by decide +kernel, by decide +kernel, by decide +kernel⟩
abbrev cX12_isOlder : ByteArray := prog_14_method_30_code
def qX12_isOlder : Mq := (⟨RX12, "isOlder", "(II)Z"⟩, cX12_isOlder, 3, some .boolean)
theorem lX12_isOlder : LmV qX12_isOlder 2 := ⟨tm7 (List.mem_of_getElem? (i := 96) (by decide +kernel)), tm7 (List.mem_of_getElem? (i := 95) (by decide +kernel)), tm0 (List.mem_of_getElem? (i := 94) (by decide +kernel)), tm1 (List.mem_of_getElem? (i := 14) (by decide +kernel)), by decide +kernel, by decide +kernel, by decide +kernel⟩
abbrev cX12_takesIn : ByteArray := prog_14_method_31_code
def qX12_takesIn : Mq := (⟨RX12, "takesIn", "(IIII)Z"⟩, cX12_takesIn, 6, some .boolean)
theorem lX12_takesIn : LmV qX12_takesIn 4 := ⟨tm7 (List.mem_of_getElem? (i := 92) (by decide +kernel)), tm7 (List.mem_of_getElem? (i := 91) (by decide +kernel)), tm0 (List.mem_of_getElem? (i := 93) (by decide +kernel)), tm1 (List.mem_of_getElem? (i := 14) (by decide +kernel)), by decide +kernel, by decide +kernel, by decide +kernel⟩
abbrev cX12_mayGet : ByteArray := prog_14_method_32_code
def qX12_mayGet : Mq := (⟨RX12, "mayGet", "(II)Z"⟩, cX12_mayGet, 3, some .boolean)
theorem lX12_mayGet : LmV qX12_mayGet 2 := ⟨tm7 (List.mem_of_getElem? (i := 88) (by decide +kernel)), tm7 (List.mem_of_getElem? (i := 87) (by decide +kernel)), tm0 (List.mem_of_getElem? (i := 92) (by decide +kernel)), tm1 (List.mem_of_getElem? (i := 14) (by decide +kernel)), by decide +kernel, by decide +kernel, by decide +kernel⟩
abbrev cX12_floods : ByteArray := prog_14_method_33_code
def qX12_floods : Mq := (⟨RX12, "floods", "(IZZ)V"⟩, cX12_floods, 7, none)
theorem lX12_floods : LmV qX12_floods 3 := ⟨tm7 (List.mem_of_getElem? (i := 84) (by decide +kernel)), tm7 (List.mem_of_getElem? (i := 83) (by decide +kernel)), tm0 (List.mem_of_getElem? (i := 91) (by decide +kernel)), tm1 (List.mem_of_getElem? (i := 14) (by decide +kernel)), by decide +kernel, by decide +kernel, by decide +kernel⟩
abbrev cX12_notices : ByteArray := prog_14_method_34_code
def qX12_notices : Mq := (⟨RX12, "notices", "(I)V"⟩, cX12_notices, 3, none)
theorem lX12_notices : LmV qX12_notices 1 := ⟨tm7 (List.mem_of_getElem? (i := 80) (by decide +kernel)), tm7 (List.mem_of_getElem? (i := 79) (by decide +kernel)), tm0 (List.mem_of_getElem? (i := 90) (by decide +kernel)), tm1 (List.mem_of_getElem? (i := 14) (by decide +kernel)), by decide +kernel, by decide +kernel, by decide +kernel⟩
abbrev cX12_ticks : ByteArray := prog_14_method_35_code
def qX12_ticks : Mq := (⟨RX12, "ticks", "()V"⟩, cX12_ticks, 3, none)
theorem lX12_ticks : LmV qX12_ticks 0 := ⟨tm7 (List.mem_of_getElem? (i := 51) (by decide +kernel)), tm7 (List.mem_of_getElem? (i := 50) (by decide +kernel)), tm0 (List.mem_of_getElem? (i := 85) (by decide +kernel)), tm1 (List.mem_of_getElem? (i := 14) (by decide +kernel)), by decide +kernel, by decide +kernel, by decide +kernel⟩
abbrev cX12_feed : ByteArray := prog_14_method_36_code
def qX12_feed : Mq := (⟨RX12, "feed", "(IIIII)I"⟩, cX12_feed, 6, some .int)
theorem lX12_feed : LmV qX12_feed 5 := ⟨tm6 (List.mem_of_getElem? (i := 1) (by decide +kernel)), tm5 (List.mem_of_getElem? (i := 239) (by decide +kernel)), tm6 (List.mem_of_getElem? (i := 0) (by decide +kernel)), tm1 (List.mem_of_getElem? (i := 14) (by decide +kernel)), by decide +kernel, by decide +kernel, by decide +kernel⟩
abbrev cX12_four : ByteArray := prog_14_method_37_code
def qX12_four : Mq := (⟨RX12, "four", "(I)V"⟩, cX12_four, 3, none)
theorem lX12_four : LmV qX12_four 1 := ⟨tm6 (List.mem_of_getElem? (i := 5) (by decide +kernel)), tm6 (List.mem_of_getElem? (i := 4) (by decide +kernel)), tm0 (List.mem_of_getElem? (i := 40) (by decide +kernel)), tm1 (List.mem_of_getElem? (i := 14) (by decide +kernel)), by decide +kernel, by decide +kernel, by decide +kernel⟩
abbrev cX12_byteAt : ByteArray := prog_14_method_38_code
def qX12_byteAt : Mq := (⟨RX12, "byteAt", "(I)I"⟩, cX12_byteAt, 2, some .int)
theorem lX12_byteAt : LmV qX12_byteAt 1 := ⟨tm6 (List.mem_of_getElem? (i := 28) (by decide +kernel)), tm6 (List.mem_of_getElem? (i := 27) (by decide +kernel)), tm0 (List.mem_of_getElem? (i := 44) (by decide +kernel)), tm1 (List.mem_of_getElem? (i := 14) (by decide +kernel)), by decide +kernel, by decide +kernel, by decide +kernel⟩
abbrev cX12_isSmall : ByteArray := prog_14_method_39_code
def qX12_isSmall : Mq := (⟨RX12, "isSmall", "(I)Z"⟩, cX12_isSmall, 1, some .boolean)
theorem lX12_isSmall : LmS qX12_isSmall 1 := ⟨tm6 (List.mem_of_getElem? (i := 31) (by decide +kernel)), tm6 (List.mem_of_getElem? (i := 30) (by decide +kernel)), tm1 (List.mem_of_getElem? (i := 14) (by decide +kernel)), by decide +kernel, by decide +kernel, by decide +kernel⟩
abbrev cX12_isDigit : ByteArray := prog_14_method_40_code
def qX12_isDigit : Mq := (⟨RX12, "isDigit", "(I)Z"⟩, cX12_isDigit, 1, some .boolean)
theorem lX12_isDigit : LmS qX12_isDigit 1 := ⟨tm6 (List.mem_of_getElem? (i := 34) (by decide +kernel)), tm6 (List.mem_of_getElem? (i := 33) (by decide +kernel)), tm1 (List.mem_of_getElem? (i := 14) (by decide +kernel)), by decide +kernel, by decide +kernel, by decide +kernel⟩
abbrev cX12_ahead : ByteArray := prog_14_method_41_code
def qX12_ahead : Mq := (⟨RX12, "ahead", "()V"⟩, cX12_ahead, 2, none)
theorem lX12_ahead : LmV qX12_ahead 0 := ⟨tm6 (List.mem_of_getElem? (i := 24) (by decide +kernel)), tm6 (List.mem_of_getElem? (i := 23) (by decide +kernel)), tm0 (List.mem_of_getElem? (i := 43) (by decide +kernel)), tm1 (List.mem_of_getElem? (i := 14) (by decide +kernel)), by decide +kernel, by decide +kernel, by decide +kernel⟩
abbrev cX12_key : ByteArray := prog_14_method_42_code
def qX12_key : Mq := (⟨RX12, "key", "()I"⟩, cX12_key, 6, some .int)
theorem lX12_key : LmV qX12_key 0 := ⟨tm6 (List.mem_of_getElem? (i := 43) (by decide +kernel)), tm6 (List.mem_of_getElem? (i := 42) (by decide +kernel)), tm0 (List.mem_of_getElem? (i := 46) (by decide +kernel)), tm1 (List.mem_of_getElem? (i := 14) (by decide +kernel)), by decide +kernel, by decide +kernel, by decide +kernel⟩
abbrev cX12_fails : ByteArray := prog_14_method_43_code
def qX12_fails : Mq := (⟨RX12, "fails", "(I)Z"⟩, cX12_fails, 2, some .boolean)
theorem lX12_fails : LmV qX12_fails 1 := ⟨tm6 (List.mem_of_getElem? (i := 50) (by decide +kernel)), tm6 (List.mem_of_getElem? (i := 49) (by decide +kernel)), tm0 (List.mem_of_getElem? (i := 47) (by decide +kernel)), tm1 (List.mem_of_getElem? (i := 14) (by decide +kernel)), by decide +kernel, by decide +kernel, by decide +kernel⟩
abbrev cX12_isNumber : ByteArray := prog_14_method_44_code
def qX12_isNumber : Mq := (⟨RX12, "isNumber", "(II)Z"⟩, cX12_isNumber, 3, some .boolean)
theorem lX12_isNumber : LmV qX12_isNumber 2 := ⟨tm6 (List.mem_of_getElem? (i := 61) (by decide +kernel)), tm6 (List.mem_of_getElem? (i := 60) (by decide +kernel)), tm0 (List.mem_of_getElem? (i := 49) (by decide +kernel)), tm1 (List.mem_of_getElem? (i := 14) (by decide +kernel)), by decide +kernel, by decide +kernel, by decide +kernel⟩
abbrev cX12_takes : ByteArray := prog_14_method_45_code
def qX12_takes : Mq := (⟨RX12, "takes", "()Z"⟩, cX12_takes, 1, some .boolean)
theorem lX12_takes : LmV qX12_takes 0 := ⟨tm6 (List.mem_of_getElem? (i := 77) (by decide +kernel)), tm6 (List.mem_of_getElem? (i := 76) (by decide +kernel)), tm0 (List.mem_of_getElem? (i := 53) (by decide +kernel)), tm1 (List.mem_of_getElem? (i := 14) (by decide +kernel)), by decide +kernel, by decide +kernel, by decide +kernel⟩
abbrev cX12_closes : ByteArray := prog_14_method_46_code
def qX12_closes : Mq := (⟨RX12, "closes", "()Z"⟩, cX12_closes, 1, some .boolean)
theorem lX12_closes : LmV qX12_closes 0 := ⟨tm6 (List.mem_of_getElem? (i := 81) (by decide +kernel)), tm6 (List.mem_of_getElem? (i := 80) (by decide +kernel)), tm0 (List.mem_of_getElem? (i := 54) (by decide +kernel)), tm1 (List.mem_of_getElem? (i := 14) (by decide +kernel)), by decide +kernel, by decide +kernel, by decide +kernel⟩
abbrev cX12_isNodeHere : ByteArray := prog_14_method_47_code
def qX12_isNodeHere : Mq := (⟨RX12, "isNodeHere", "(I)Z"⟩, cX12_isNodeHere, 2, some .boolean)
theorem lX12_isNodeHere : LmV qX12_isNodeHere 1 := ⟨tm6 (List.mem_of_getElem? (i := 89) (by decide +kernel)), tm6 (List.mem_of_getElem? (i := 88) (by decide +kernel)), tm0 (List.mem_of_getElem? (i := 56) (by decide +kernel)), tm1 (List.mem_of_getElem? (i := 14) (by decide +kernel)), by decide +kernel, by decide +kernel, by decide +kernel⟩
abbrev cX12_comes : ByteArray := prog_14_method_48_code
def qX12_comes : Mq := (⟨RX12, "comes", "(I)I"⟩, cX12_comes, 3, some .int)
theorem lX12_comes : LmV qX12_comes 1 := ⟨tm6 (List.mem_of_getElem? (i := 69) (by decide +kernel)), tm6 (List.mem_of_getElem? (i := 68) (by decide +kernel)), tm0 (List.mem_of_getElem? (i := 51) (by decide +kernel)), tm1 (List.mem_of_getElem? (i := 14) (by decide +kernel)), by decide +kernel, by decide +kernel, by decide +kernel⟩
abbrev cX12_moreNodes : ByteArray := prog_14_method_49_code
def qX12_moreNodes : Mq := (⟨RX12, "moreNodes", "()Z"⟩, cX12_moreNodes, 2, some .boolean)
theorem lX12_moreNodes : LmV qX12_moreNodes 0 := ⟨tm6 (List.mem_of_getElem? (i := 57) (by decide +kernel)), tm6 (List.mem_of_getElem? (i := 56) (by decide +kernel)), tm0 (List.mem_of_getElem? (i := 48) (by decide +kernel)), tm1 (List.mem_of_getElem? (i := 14) (by decide +kernel)), by decide +kernel, by decide +kernel, by decide +kernel⟩
abbrev cX12_aWill : ByteArray := prog_14_method_50_code
def qX12_aWill : Mq := (⟨RX12, "aWill", "()Z"⟩, cX12_aWill, 2, some .boolean)
theorem lX12_aWill : LmV qX12_aWill 0 := ⟨tm6 (List.mem_of_getElem? (i := 85) (by decide +kernel)), tm6 (List.mem_of_getElem? (i := 84) (by decide +kernel)), tm0 (List.mem_of_getElem? (i := 55) (by decide +kernel)), tm1 (List.mem_of_getElem? (i := 14) (by decide +kernel)), by decide +kernel, by decide +kernel, by decide +kernel⟩
abbrev cX12_anAir : ByteArray := prog_14_method_51_code
def qX12_anAir : Mq := (⟨RX12, "anAir", "(Z)Z"⟩, cX12_anAir, 3, some .boolean)
theorem lX12_anAir : LmV qX12_anAir 1 := ⟨tm6 (List.mem_of_getElem? (i := 93) (by decide +kernel)), tm6 (List.mem_of_getElem? (i := 92) (by decide +kernel)), tm0 (List.mem_of_getElem? (i := 57) (by decide +kernel)), tm1 (List.mem_of_getElem? (i := 14) (by decide +kernel)), by decide +kernel, by decide +kernel, by decide +kernel⟩
abbrev cX12_anOff : ByteArray := prog_14_method_52_code
def qX12_anOff : Mq := (⟨RX12, "anOff", "()Z"⟩, cX12_anOff, 1, some .boolean)
theorem lX12_anOff : LmV qX12_anOff 0 := ⟨tm6 (List.mem_of_getElem? (i := 97) (by decide +kernel)), tm6 (List.mem_of_getElem? (i := 96) (by decide +kernel)), tm0 (List.mem_of_getElem? (i := 58) (by decide +kernel)), tm1 (List.mem_of_getElem? (i := 14) (by decide +kernel)), by decide +kernel, by decide +kernel, by decide +kernel⟩
abbrev cX12_aJam : ByteArray := prog_14_method_53_code
def qX12_aJam : Mq := (⟨RX12, "aJam", "()Z"⟩, cX12_aJam, 3, some .boolean)
theorem lX12_aJam : LmV qX12_aJam 0 := ⟨tm6 (List.mem_of_getElem? (i := 109) (by decide +kernel)), tm6 (List.mem_of_getElem? (i := 108) (by decide +kernel)), tm0 (List.mem_of_getElem? (i := 61) (by decide +kernel)), tm1 (List.mem_of_getElem? (i := 14) (by decide +kernel)), by decide +kernel, by decide +kernel, by decide +kernel⟩
abbrev cX12_aTime : ByteArray := prog_14_method_54_code
def qX12_aTime : Mq := (⟨RX12, "aTime", "(II)Z"⟩, cX12_aTime, 3, some .boolean)
theorem lX12_aTime : LmV qX12_aTime 2 := ⟨tm6 (List.mem_of_getElem? (i := 105) (by decide +kernel)), tm6 (List.mem_of_getElem? (i := 104) (by decide +kernel)), tm0 (List.mem_of_getElem? (i := 60) (by decide +kernel)), tm1 (List.mem_of_getElem? (i := 14) (by decide +kernel)), by decide +kernel, by decide +kernel, by decide +kernel⟩
abbrev cX12_aLine : ByteArray := prog_14_method_55_code
def qX12_aLine : Mq := (⟨RX12, "aLine", "()Z"⟩, cX12_aLine, 2, some .boolean)
theorem lX12_aLine : LmV qX12_aLine 0 := ⟨tm6 (List.mem_of_getElem? (i := 39) (by decide +kernel)), tm6 (List.mem_of_getElem? (i := 38) (by decide +kernel)), tm0 (List.mem_of_getElem? (i := 45) (by decide +kernel)), tm1 (List.mem_of_getElem? (i := 14) (by decide +kernel)), by decide +kernel, by decide +kernel, by decide +kernel⟩
abbrev cX12_load : ByteArray := prog_14_method_56_code
def qX12_load : Mq := (⟨RX12, "load", "(I)I"⟩, cX12_load, 3, some .int)
theorem lX12_load : LmV qX12_load 1 := ⟨tm6 (List.mem_of_getElem? (i := 9) (by decide +kernel)), tm6 (List.mem_of_getElem? (i := 7) (by decide +kernel)), tm6 (List.mem_of_getElem? (i := 8) (by decide +kernel)), tm1 (List.mem_of_getElem? (i := 14) (by decide +kernel)), by decide +kernel, by decide +kernel, by decide +kernel⟩
abbrev cX12_fault : ByteArray := prog_14_method_57_code
def qX12_fault : Mq := (⟨RX12, "fault", "(I)I"⟩, cX12_fault, 2, some .int)
theorem lX12_fault : LmV qX12_fault 1 := ⟨tm6 (List.mem_of_getElem? (i := 120) (by decide +kernel)), tm6 (List.mem_of_getElem? (i := 118) (by decide +kernel)), tm6 (List.mem_of_getElem? (i := 119) (by decide +kernel)), tm1 (List.mem_of_getElem? (i := 14) (by decide +kernel)), by decide +kernel, by decide +kernel, by decide +kernel⟩
abbrev cX12_many : ByteArray := prog_14_method_58_code
def qX12_many : Mq := (⟨RX12, "many", "(I)I"⟩, cX12_many, 2, some .int)
theorem lX12_many : LmV qX12_many 1 := ⟨tm6 (List.mem_of_getElem? (i := 124) (by decide +kernel)), tm6 (List.mem_of_getElem? (i := 122) (by decide +kernel)), tm6 (List.mem_of_getElem? (i := 123) (by decide +kernel)), tm1 (List.mem_of_getElem? (i := 14) (by decide +kernel)), by decide +kernel, by decide +kernel, by decide +kernel⟩
abbrev cX12_node : ByteArray := prog_14_method_59_code
def qX12_node : Mq := (⟨RX12, "node", "(II)I"⟩, cX12_node, 3, some .int)
theorem lX12_node : LmV qX12_node 2 := ⟨tm6 (List.mem_of_getElem? (i := 128) (by decide +kernel)), tm6 (List.mem_of_getElem? (i := 126) (by decide +kernel)), tm6 (List.mem_of_getElem? (i := 127) (by decide +kernel)), tm1 (List.mem_of_getElem? (i := 14) (by decide +kernel)), by decide +kernel, by decide +kernel, by decide +kernel⟩
abbrev cX12_wrongTwo : ByteArray := prog_14_method_60_code
def qX12_wrongTwo : Mq := (⟨RX12, "wrongTwo", "(II)I"⟩, cX12_wrongTwo, 3, some .int)
theorem lX12_wrongTwo : LmV qX12_wrongTwo 2 := ⟨tm6 (List.mem_of_getElem? (i := 152) (by decide +kernel)), tm6 (List.mem_of_getElem? (i := 151) (by decide +kernel)), tm0 (List.mem_of_getElem? (i := 67) (by decide +kernel)), tm1 (List.mem_of_getElem? (i := 14) (by decide +kernel)), by decide +kernel, by decide +kernel, by decide +kernel⟩
abbrev cX12_link : ByteArray := prog_14_method_61_code
def qX12_link : Mq := (⟨RX12, "link", "(III)I"⟩, cX12_link, 5, some .int)
theorem lX12_link : LmV qX12_link 3 := ⟨tm6 (List.mem_of_getElem? (i := 148) (by decide +kernel)), tm6 (List.mem_of_getElem? (i := 146) (by decide +kernel)), tm6 (List.mem_of_getElem? (i := 147) (by decide +kernel)), tm1 (List.mem_of_getElem? (i := 14) (by decide +kernel)), by decide +kernel, by decide +kernel, by decide +kernel⟩
abbrev cX12_topology : ByteArray := prog_14_method_62_code
def qX12_topology : Mq := (⟨RX12, "topology", "(III)I"⟩, cX12_topology, 5, some .int)
theorem lX12_topology : LmV qX12_topology 3 := ⟨tm6 (List.mem_of_getElem? (i := 156) (by decide +kernel)), tm6 (List.mem_of_getElem? (i := 154) (by decide +kernel)), tm6 (List.mem_of_getElem? (i := 155) (by decide +kernel)), tm1 (List.mem_of_getElem? (i := 14) (by decide +kernel)), by decide +kernel, by decide +kernel, by decide +kernel⟩
abbrev cX12_would : ByteArray := prog_14_method_63_code
def qX12_would : Mq := (⟨RX12, "would", "(I)I"⟩, cX12_would, 2, some .int)
theorem lX12_would : LmV qX12_would 1 := ⟨tm6 (List.mem_of_getElem? (i := 160) (by decide +kernel)), tm6 (List.mem_of_getElem? (i := 158) (by decide +kernel)), tm6 (List.mem_of_getElem? (i := 159) (by decide +kernel)), tm1 (List.mem_of_getElem? (i := 14) (by decide +kernel)), by decide +kernel, by decide +kernel, by decide +kernel⟩
abbrev cX12_pick : ByteArray := prog_14_method_64_code
def qX12_pick : Mq := (⟨RX12, "pick", "(II)I"⟩, cX12_pick, 3, some .int)
theorem lX12_pick : LmV qX12_pick 2 := ⟨tm6 (List.mem_of_getElem? (i := 179) (by decide +kernel)), tm6 (List.mem_of_getElem? (i := 177) (by decide +kernel)), tm6 (List.mem_of_getElem? (i := 178) (by decide +kernel)), tm1 (List.mem_of_getElem? (i := 14) (by decide +kernel)), by decide +kernel, by decide +kernel, by decide +kernel⟩
abbrev cX12_bestWill : ByteArray := prog_14_method_65_code
def qX12_bestWill : Mq := (⟨RX12, "bestWill", "(I)I"⟩, cX12_bestWill, 8, some .int)
theorem lX12_bestWill : LmV qX12_bestWill 1 := ⟨tm6 (List.mem_of_getElem? (i := 183) (by decide +kernel)), tm6 (List.mem_of_getElem? (i := 181) (by decide +kernel)), tm6 (List.mem_of_getElem? (i := 182) (by decide +kernel)), tm1 (List.mem_of_getElem? (i := 14) (by decide +kernel)), by decide +kernel, by decide +kernel, by decide +kernel⟩
abbrev cX12_least : ByteArray := prog_14_method_66_code
def qX12_least : Mq := (⟨RX12, "least", "(I)I"⟩, cX12_least, 2, some .int)
theorem lX12_least : LmV qX12_least 1 := ⟨tm6 (List.mem_of_getElem? (i := 187) (by decide +kernel)), tm6 (List.mem_of_getElem? (i := 185) (by decide +kernel)), tm6 (List.mem_of_getElem? (i := 186) (by decide +kernel)), tm1 (List.mem_of_getElem? (i := 14) (by decide +kernel)), by decide +kernel, by decide +kernel, by decide +kernel⟩
abbrev cX12_isSet : ByteArray := prog_14_method_67_code
def qX12_isSet : Mq := (⟨RX12, "isSet", "(I)Z"⟩, cX12_isSet, 2, some .boolean)
theorem lX12_isSet : LmV qX12_isSet 1 := ⟨tm6 (List.mem_of_getElem? (i := 199) (by decide +kernel)), tm6 (List.mem_of_getElem? (i := 198) (by decide +kernel)), tm0 (List.mem_of_getElem? (i := 72) (by decide +kernel)), tm1 (List.mem_of_getElem? (i := 14) (by decide +kernel)), by decide +kernel, by decide +kernel, by decide +kernel⟩
abbrev cX12_covers : ByteArray := prog_14_method_68_code
def qX12_covers : Mq := (⟨RX12, "covers", "(II)I"⟩, cX12_covers, 3, some .int)
theorem lX12_covers : LmV qX12_covers 2 := ⟨tm6 (List.mem_of_getElem? (i := 195) (by decide +kernel)), tm6 (List.mem_of_getElem? (i := 193) (by decide +kernel)), tm6 (List.mem_of_getElem? (i := 194) (by decide +kernel)), tm1 (List.mem_of_getElem? (i := 14) (by decide +kernel)), by decide +kernel, by decide +kernel, by decide +kernel⟩
abbrev cX12_needed : ByteArray := prog_14_method_69_code
def qX12_needed : Mq := (⟨RX12, "needed", "(I)I"⟩, cX12_needed, 2, some .int)
theorem lX12_needed : LmV qX12_needed 1 := ⟨tm6 (List.mem_of_getElem? (i := 203) (by decide +kernel)), tm6 (List.mem_of_getElem? (i := 201) (by decide +kernel)), tm6 (List.mem_of_getElem? (i := 202) (by decide +kernel)), tm1 (List.mem_of_getElem? (i := 14) (by decide +kernel)), by decide +kernel, by decide +kernel, by decide +kernel⟩
abbrev cX12_waste : ByteArray := prog_14_method_70_code
def qX12_waste : Mq := (⟨RX12, "waste", "()I"⟩, cX12_waste, 3, some .int)
theorem lX12_waste : LmV qX12_waste 0 := ⟨tm6 (List.mem_of_getElem? (i := 207) (by decide +kernel)), tm6 (List.mem_of_getElem? (i := 205) (by decide +kernel)), tm6 (List.mem_of_getElem? (i := 206) (by decide +kernel)), tm1 (List.mem_of_getElem? (i := 14) (by decide +kernel)), by decide +kernel, by decide +kernel, by decide +kernel⟩
abbrev cX12_laysRoutes : ByteArray := prog_14_method_71_code
def qX12_laysRoutes : Mq := (⟨RX12, "laysRoutes", "(I)V"⟩, cX12_laysRoutes, 5, none)
theorem lX12_laysRoutes : LmV qX12_laysRoutes 1 := ⟨tm6 (List.mem_of_getElem? (i := 215) (by decide +kernel)), tm6 (List.mem_of_getElem? (i := 214) (by decide +kernel)), tm0 (List.mem_of_getElem? (i := 73) (by decide +kernel)), tm1 (List.mem_of_getElem? (i := 14) (by decide +kernel)), by decide +kernel, by decide +kernel, by decide +kernel⟩
abbrev cX12_isKnown : ByteArray := prog_14_method_72_code
def qX12_isKnown : Mq := (⟨RX12, "isKnown", "(II)Z"⟩, cX12_isKnown, 3, some .boolean)
theorem lX12_isKnown : LmV qX12_isKnown 2 := ⟨tm6 (List.mem_of_getElem? (i := 223) (by decide +kernel)), tm6 (List.mem_of_getElem? (i := 222) (by decide +kernel)), tm0 (List.mem_of_getElem? (i := 75) (by decide +kernel)), tm1 (List.mem_of_getElem? (i := 14) (by decide +kernel)), by decide +kernel, by decide +kernel, by decide +kernel⟩
abbrev cX12_goesOn : ByteArray := prog_14_method_73_code
def qX12_goesOn : Mq := (⟨RX12, "goesOn", "(III)V"⟩, cX12_goesOn, 5, none)
theorem lX12_goesOn : LmV qX12_goesOn 3 := ⟨tm6 (List.mem_of_getElem? (i := 219) (by decide +kernel)), tm6 (List.mem_of_getElem? (i := 218) (by decide +kernel)), tm0 (List.mem_of_getElem? (i := 74) (by decide +kernel)), tm1 (List.mem_of_getElem? (i := 14) (by decide +kernel)), by decide +kernel, by decide +kernel, by decide +kernel⟩
abbrev cX12_route : ByteArray := prog_14_method_74_code
def qX12_route : Mq := (⟨RX12, "route", "(III)I"⟩, cX12_route, 5, some .int)
theorem lX12_route : LmV qX12_route 3 := ⟨tm6 (List.mem_of_getElem? (i := 211) (by decide +kernel)), tm6 (List.mem_of_getElem? (i := 209) (by decide +kernel)), tm6 (List.mem_of_getElem? (i := 210) (by decide +kernel)), tm1 (List.mem_of_getElem? (i := 14) (by decide +kernel)), by decide +kernel, by decide +kernel, by decide +kernel⟩
abbrev cX12_tableOf : ByteArray := prog_14_method_75_code
def qX12_tableOf : Mq := (⟨RX12, "tableOf", "(I)I"⟩, cX12_tableOf, 4, some .int)
theorem lX12_tableOf : LmV qX12_tableOf 1 := ⟨tm6 (List.mem_of_getElem? (i := 231) (by decide +kernel)), tm6 (List.mem_of_getElem? (i := 230) (by decide +kernel)), tm0 (List.mem_of_getElem? (i := 76) (by decide +kernel)), tm1 (List.mem_of_getElem? (i := 14) (by decide +kernel)), by decide +kernel, by decide +kernel, by decide +kernel⟩
abbrev cX12_table : ByteArray := prog_14_method_76_code
def qX12_table : Mq := (⟨RX12, "table", "(I)I"⟩, cX12_table, 2, some .int)
theorem lX12_table : LmV qX12_table 1 := ⟨tm6 (List.mem_of_getElem? (i := 227) (by decide +kernel)), tm6 (List.mem_of_getElem? (i := 225) (by decide +kernel)), tm6 (List.mem_of_getElem? (i := 226) (by decide +kernel)), tm1 (List.mem_of_getElem? (i := 14) (by decide +kernel)), by decide +kernel, by decide +kernel, by decide +kernel⟩
abbrev cX12_going : ByteArray := prog_14_method_77_code
def qX12_going : Mq := (⟨RX12, "going", "(II)I"⟩, cX12_going, 6, some .int)
theorem lX12_going : LmV qX12_going 2 := ⟨tm7 (List.mem_of_getElem? (i := 3) (by decide +kernel)), tm7 (List.mem_of_getElem? (i := 2) (by decide +kernel)), tm0 (List.mem_of_getElem? (i := 78) (by decide +kernel)), tm1 (List.mem_of_getElem? (i := 14) (by decide +kernel)), by decide +kernel, by decide +kernel, by decide +kernel⟩
abbrev cX12_wrongGoing : ByteArray := prog_14_method_78_code
def qX12_wrongGoing : Mq := (⟨RX12, "wrongGoing", "(II)I"⟩, cX12_wrongGoing, 3, some .int)
theorem lX12_wrongGoing : LmV qX12_wrongGoing 2 := ⟨tm6 (List.mem_of_getElem? (i := 239) (by decide +kernel)), tm6 (List.mem_of_getElem? (i := 238) (by decide +kernel)), tm0 (List.mem_of_getElem? (i := 77) (by decide +kernel)), tm1 (List.mem_of_getElem? (i := 14) (by decide +kernel)), by decide +kernel, by decide +kernel, by decide +kernel⟩
abbrev cX12_goes : ByteArray := prog_14_method_79_code
def qX12_goes : Mq := (⟨RX12, "goes", "(III)I"⟩, cX12_goes, 6, some .int)
theorem lX12_goes : LmV qX12_goes 3 := ⟨tm6 (List.mem_of_getElem? (i := 235) (by decide +kernel)), tm6 (List.mem_of_getElem? (i := 233) (by decide +kernel)), tm6 (List.mem_of_getElem? (i := 234) (by decide +kernel)), tm1 (List.mem_of_getElem? (i := 14) (by decide +kernel)), by decide +kernel, by decide +kernel, by decide +kernel⟩
abbrev cX12_path : ByteArray := prog_14_method_80_code
def qX12_path : Mq := (⟨RX12, "path", "(III)I"⟩, cX12_path, 5, some .int)
theorem lX12_path : LmV qX12_path 3 := ⟨tm7 (List.mem_of_getElem? (i := 7) (by decide +kernel)), tm7 (List.mem_of_getElem? (i := 5) (by decide +kernel)), tm7 (List.mem_of_getElem? (i := 6) (by decide +kernel)), tm1 (List.mem_of_getElem? (i := 14) (by decide +kernel)), by decide +kernel, by decide +kernel, by decide +kernel⟩
abbrev cX12_isPair : ByteArray := prog_14_method_81_code
def qX12_isPair : Mq := (⟨RX12, "isPair", "(II)Z"⟩, cX12_isPair, 3, some .boolean)
theorem lX12_isPair : LmV qX12_isPair 2 := ⟨tm7 (List.mem_of_getElem? (i := 23) (by decide +kernel)), tm7 (List.mem_of_getElem? (i := 22) (by decide +kernel)), tm0 (List.mem_of_getElem? (i := 81) (by decide +kernel)), tm1 (List.mem_of_getElem? (i := 14) (by decide +kernel)), by decide +kernel, by decide +kernel, by decide +kernel⟩
abbrev cX12_farBy : ByteArray := prog_14_method_82_code
def qX12_farBy : Mq := (⟨RX12, "farBy", "(III)I"⟩, cX12_farBy, 9, some .int)
theorem lX12_farBy : LmV qX12_farBy 3 := ⟨tm7 (List.mem_of_getElem? (i := 19) (by decide +kernel)), tm7 (List.mem_of_getElem? (i := 18) (by decide +kernel)), tm0 (List.mem_of_getElem? (i := 80) (by decide +kernel)), tm1 (List.mem_of_getElem? (i := 14) (by decide +kernel)), by decide +kernel, by decide +kernel, by decide +kernel⟩
abbrev cX12_farOf : ByteArray := prog_14_method_83_code
def qX12_farOf : Mq := (⟨RX12, "farOf", "(II)I"⟩, cX12_farOf, 3, some .int)
theorem lX12_farOf : LmV qX12_farOf 2 := ⟨tm7 (List.mem_of_getElem? (i := 15) (by decide +kernel)), tm7 (List.mem_of_getElem? (i := 14) (by decide +kernel)), tm0 (List.mem_of_getElem? (i := 79) (by decide +kernel)), tm1 (List.mem_of_getElem? (i := 14) (by decide +kernel)), by decide +kernel, by decide +kernel, by decide +kernel⟩
abbrev cX12_far : ByteArray := prog_14_method_84_code
def qX12_far : Mq := (⟨RX12, "far", "(II)I"⟩, cX12_far, 4, some .int)
theorem lX12_far : LmV qX12_far 2 := ⟨tm7 (List.mem_of_getElem? (i := 11) (by decide +kernel)), tm7 (List.mem_of_getElem? (i := 9) (by decide +kernel)), tm7 (List.mem_of_getElem? (i := 10) (by decide +kernel)), tm1 (List.mem_of_getElem? (i := 14) (by decide +kernel)), by decide +kernel, by decide +kernel, by decide +kernel⟩
abbrev cX12_wrongOf : ByteArray := prog_14_method_85_code
def qX12_wrongOf : Mq := (⟨RX12, "wrongOf", "(II)I"⟩, cX12_wrongOf, 7, some .int)
theorem lX12_wrongOf : LmV qX12_wrongOf 2 := ⟨tm7 (List.mem_of_getElem? (i := 31) (by decide +kernel)), tm7 (List.mem_of_getElem? (i := 30) (by decide +kernel)), tm0 (List.mem_of_getElem? (i := 82) (by decide +kernel)), tm1 (List.mem_of_getElem? (i := 14) (by decide +kernel)), by decide +kernel, by decide +kernel, by decide +kernel⟩
abbrev cX12_wrong : ByteArray := prog_14_method_86_code
def qX12_wrong : Mq := (⟨RX12, "wrong", "(II)I"⟩, cX12_wrong, 3, some .int)
theorem lX12_wrong : LmV qX12_wrong 2 := ⟨tm7 (List.mem_of_getElem? (i := 27) (by decide +kernel)), tm7 (List.mem_of_getElem? (i := 25) (by decide +kernel)), tm7 (List.mem_of_getElem? (i := 26) (by decide +kernel)), tm1 (List.mem_of_getElem? (i := 14) (by decide +kernel)), by decide +kernel, by decide +kernel, by decide +kernel⟩
abbrev cX12_isTold : ByteArray := prog_14_method_87_code
def qX12_isTold : Mq := (⟨RX12, "isTold", "()Z"⟩, cX12_isTold, 2, some .boolean)
theorem lX12_isTold : LmV qX12_isTold 0 := ⟨tm7 (List.mem_of_getElem? (i := 39) (by decide +kernel)), tm7 (List.mem_of_getElem? (i := 38) (by decide +kernel)), tm0 (List.mem_of_getElem? (i := 83) (by decide +kernel)), tm1 (List.mem_of_getElem? (i := 14) (by decide +kernel)), by decide +kernel, by decide +kernel, by decide +kernel⟩
abbrev cX12_told : ByteArray := prog_14_method_88_code
def qX12_told : Mq := (⟨RX12, "told", "()I"⟩, cX12_told, 1, some .int)
theorem lX12_told : LmV qX12_told 0 := ⟨tm7 (List.mem_of_getElem? (i := 35) (by decide +kernel)), tm7 (List.mem_of_getElem? (i := 33) (by decide +kernel)), tm7 (List.mem_of_getElem? (i := 34) (by decide +kernel)), tm1 (List.mem_of_getElem? (i := 14) (by decide +kernel)), by decide +kernel, by decide +kernel, by decide +kernel⟩
abbrev cX12_settlesNow : ByteArray := prog_14_method_89_code
def qX12_settlesNow : Mq := (⟨RX12, "settlesNow", "()I"⟩, cX12_settlesNow, 2, some .int)
theorem lX12_settlesNow : LmV qX12_settlesNow 0 := ⟨tm7 (List.mem_of_getElem? (i := 47) (by decide +kernel)), tm7 (List.mem_of_getElem? (i := 46) (by decide +kernel)), tm0 (List.mem_of_getElem? (i := 84) (by decide +kernel)), tm1 (List.mem_of_getElem? (i := 14) (by decide +kernel)), by decide +kernel, by decide +kernel, by decide +kernel⟩
abbrev cX12_settles : ByteArray := prog_14_method_90_code
def qX12_settles : Mq := (⟨RX12, "settles", "()I"⟩, cX12_settles, 2, some .int)
theorem lX12_settles : LmV qX12_settles 0 := ⟨tm7 (List.mem_of_getElem? (i := 43) (by decide +kernel)), tm7 (List.mem_of_getElem? (i := 41) (by decide +kernel)), tm7 (List.mem_of_getElem? (i := 42) (by decide +kernel)), tm1 (List.mem_of_getElem? (i := 14) (by decide +kernel)), by decide +kernel, by decide +kernel, by decide +kernel⟩
abbrev cX12_mends : ByteArray := prog_14_method_91_code
def qX12_mends : Mq := (⟨RX12, "mends", "(I)I"⟩, cX12_mends, 3, some .int)
theorem lX12_mends : LmV qX12_mends 1 := ⟨tm7 (List.mem_of_getElem? (i := 101) (by decide +kernel)), tm7 (List.mem_of_getElem? (i := 99) (by decide +kernel)), tm7 (List.mem_of_getElem? (i := 100) (by decide +kernel)), tm1 (List.mem_of_getElem? (i := 14) (by decide +kernel)), by decide +kernel, by decide +kernel, by decide +kernel⟩
abbrev cX12_busy : ByteArray := prog_14_method_92_code
def qX12_busy : Mq := (⟨RX12, "busy", "(I)I"⟩, cX12_busy, 6, some .int)
theorem lX12_busy : LmV qX12_busy 1 := ⟨tm7 (List.mem_of_getElem? (i := 105) (by decide +kernel)), tm7 (List.mem_of_getElem? (i := 103) (by decide +kernel)), tm7 (List.mem_of_getElem? (i := 104) (by decide +kernel)), tm1 (List.mem_of_getElem? (i := 14) (by decide +kernel)), by decide +kernel, by decide +kernel, by decide +kernel⟩
abbrev cX12_sure : ByteArray := prog_14_method_93_code
def qX12_sure : Mq := (⟨RX12, "sure", "(II)I"⟩, cX12_sure, 6, some .int)
theorem lX12_sure : LmV qX12_sure 2 := ⟨tm7 (List.mem_of_getElem? (i := 109) (by decide +kernel)), tm7 (List.mem_of_getElem? (i := 107) (by decide +kernel)), tm7 (List.mem_of_getElem? (i := 108) (by decide +kernel)), tm1 (List.mem_of_getElem? (i := 14) (by decide +kernel)), by decide +kernel, by decide +kernel, by decide +kernel⟩
abbrev cX12_astray : ByteArray := prog_14_method_94_code
def qX12_astray : Mq := (⟨RX12, "astray", "(I)I"⟩, cX12_astray, 7, some .int)
theorem lX12_astray : LmV qX12_astray 1 := ⟨tm7 (List.mem_of_getElem? (i := 115) (by decide +kernel)), tm7 (List.mem_of_getElem? (i := 113) (by decide +kernel)), tm7 (List.mem_of_getElem? (i := 114) (by decide +kernel)), tm1 (List.mem_of_getElem? (i := 14) (by decide +kernel)), by decide +kernel, by decide +kernel, by decide +kernel⟩
abbrev cX12_proves : ByteArray := prog_14_method_95_code
def qX12_proves : Mq := (⟨RX12, "proves", "(IIIII)I"⟩, cX12_proves, 12, some .int)
theorem lX12_proves : LmV qX12_proves 5 := ⟨tm7 (List.mem_of_getElem? (i := 119) (by decide +kernel)), tm7 (List.mem_of_getElem? (i := 117) (by decide +kernel)), tm7 (List.mem_of_getElem? (i := 118) (by decide +kernel)), tm1 (List.mem_of_getElem? (i := 14) (by decide +kernel)), by decide +kernel, by decide +kernel, by decide +kernel⟩
abbrev cX12_spineNow : ByteArray := prog_14_method_96_code
def qX12_spineNow : Mq := (⟨RX12, "spineNow", "()I"⟩, cX12_spineNow, 3, some .int)
theorem lX12_spineNow : LmV qX12_spineNow 0 := ⟨tm7 (List.mem_of_getElem? (i := 127) (by decide +kernel)), tm7 (List.mem_of_getElem? (i := 126) (by decide +kernel)), tm0 (List.mem_of_getElem? (i := 95) (by decide +kernel)), tm1 (List.mem_of_getElem? (i := 14) (by decide +kernel)), by decide +kernel, by decide +kernel, by decide +kernel⟩
abbrev cX12_isBack : ByteArray := prog_14_method_97_code
def qX12_isBack : Mq := (⟨RX12, "isBack", "(I)Z"⟩, cX12_isBack, 6, some .boolean)
theorem lX12_isBack : LmV qX12_isBack 1 := ⟨tm7 (List.mem_of_getElem? (i := 131) (by decide +kernel)), tm7 (List.mem_of_getElem? (i := 130) (by decide +kernel)), tm0 (List.mem_of_getElem? (i := 96) (by decide +kernel)), tm1 (List.mem_of_getElem? (i := 14) (by decide +kernel)), by decide +kernel, by decide +kernel, by decide +kernel⟩
abbrev cX12_spine : ByteArray := prog_14_method_98_code
def qX12_spine : Mq := (⟨RX12, "spine", "(I)I"⟩, cX12_spine, 4, some .int)
theorem lX12_spine : LmV qX12_spine 1 := ⟨tm7 (List.mem_of_getElem? (i := 123) (by decide +kernel)), tm7 (List.mem_of_getElem? (i := 121) (by decide +kernel)), tm7 (List.mem_of_getElem? (i := 122) (by decide +kernel)), tm1 (List.mem_of_getElem? (i := 14) (by decide +kernel)), by decide +kernel, by decide +kernel, by decide +kernel⟩
abbrev cX12_cuts : ByteArray := prog_14_method_99_code
def qX12_cuts : Mq := (⟨RX12, "cuts", "()I"⟩, cX12_cuts, 6, some .int)
theorem lX12_cuts : LmV qX12_cuts 0 := ⟨tm7 (List.mem_of_getElem? (i := 135) (by decide +kernel)), tm7 (List.mem_of_getElem? (i := 133) (by decide +kernel)), tm7 (List.mem_of_getElem? (i := 134) (by decide +kernel)), tm1 (List.mem_of_getElem? (i := 14) (by decide +kernel)), by decide +kernel, by decide +kernel, by decide +kernel⟩
abbrev cX12_flood : ByteArray := prog_14_method_100_code
def qX12_flood : Mq := (⟨RX12, "flood", "(II)I"⟩, cX12_flood, 3, some .int)
theorem lX12_flood : LmV qX12_flood 2 := ⟨tm7 (List.mem_of_getElem? (i := 139) (by decide +kernel)), tm7 (List.mem_of_getElem? (i := 137) (by decide +kernel)), tm7 (List.mem_of_getElem? (i := 138) (by decide +kernel)), tm1 (List.mem_of_getElem? (i := 14) (by decide +kernel)), by decide +kernel, by decide +kernel, by decide +kernel⟩
abbrev cX12_notice : ByteArray := prog_14_method_101_code
def qX12_notice : Mq := (⟨RX12, "notice", "(II)I"⟩, cX12_notice, 3, some .int)
theorem lX12_notice : LmV qX12_notice 2 := ⟨tm7 (List.mem_of_getElem? (i := 143) (by decide +kernel)), tm7 (List.mem_of_getElem? (i := 141) (by decide +kernel)), tm7 (List.mem_of_getElem? (i := 142) (by decide +kernel)), tm1 (List.mem_of_getElem? (i := 14) (by decide +kernel)), by decide +kernel, by decide +kernel, by decide +kernel⟩
abbrev cX12_older : ByteArray := prog_14_method_102_code
def qX12_older : Mq := (⟨RX12, "older", "(II)I"⟩, cX12_older, 3, some .int)
theorem lX12_older : LmV qX12_older 2 := ⟨tm7 (List.mem_of_getElem? (i := 147) (by decide +kernel)), tm7 (List.mem_of_getElem? (i := 145) (by decide +kernel)), tm7 (List.mem_of_getElem? (i := 146) (by decide +kernel)), tm1 (List.mem_of_getElem? (i := 14) (by decide +kernel)), by decide +kernel, by decide +kernel, by decide +kernel⟩
abbrev cX12_echo : ByteArray := prog_14_method_103_code
def qX12_echo : Mq := (⟨RX12, "echo", "(IIII)I"⟩, cX12_echo, 6, some .int)
theorem lX12_echo : LmV qX12_echo 4 := ⟨tm7 (List.mem_of_getElem? (i := 151) (by decide +kernel)), tm7 (List.mem_of_getElem? (i := 149) (by decide +kernel)), tm7 (List.mem_of_getElem? (i := 150) (by decide +kernel)), tm1 (List.mem_of_getElem? (i := 14) (by decide +kernel)), by decide +kernel, by decide +kernel, by decide +kernel⟩
abbrev cX12_add : ByteArray := prog_14_method_104_code
def qX12_add : Mq := (⟨RX12, "add", "(I)I"⟩, cX12_add, 2, some .int)
theorem lX12_add : LmV qX12_add 1 := ⟨tm7 (List.mem_of_getElem? (i := 155) (by decide +kernel)), tm7 (List.mem_of_getElem? (i := 153) (by decide +kernel)), tm7 (List.mem_of_getElem? (i := 154) (by decide +kernel)), tm1 (List.mem_of_getElem? (i := 14) (by decide +kernel)), by decide +kernel, by decide +kernel, by decide +kernel⟩
abbrev cX12_turn : ByteArray := prog_14_method_105_code
def qX12_turn : Mq := (⟨RX12, "turn", "(IZ)Z"⟩, cX12_turn, 3, some .boolean)
theorem lX12_turn : LmV qX12_turn 2 := ⟨tm7 (List.mem_of_getElem? (i := 159) (by decide +kernel)), tm7 (List.mem_of_getElem? (i := 157) (by decide +kernel)), tm7 (List.mem_of_getElem? (i := 158) (by decide +kernel)), tm1 (List.mem_of_getElem? (i := 14) (by decide +kernel)), by decide +kernel, by decide +kernel, by decide +kernel⟩
abbrev cX12_will : ByteArray := prog_14_method_106_code
def qX12_will : Mq := (⟨RX12, "will", "(II)I"⟩, cX12_will, 4, some .int)
theorem lX12_will : LmV qX12_will 2 := ⟨tm7 (List.mem_of_getElem? (i := 167) (by decide +kernel)), tm7 (List.mem_of_getElem? (i := 165) (by decide +kernel)), tm7 (List.mem_of_getElem? (i := 166) (by decide +kernel)), tm1 (List.mem_of_getElem? (i := 14) (by decide +kernel)), by decide +kernel, by decide +kernel, by decide +kernel⟩
abbrev cX12_ear : ByteArray := prog_14_method_107_code
def qX12_ear : Mq := (⟨RX12, "ear", "(IIZ)Z"⟩, cX12_ear, 5, some .boolean)
theorem lX12_ear : LmV qX12_ear 3 := ⟨tm7 (List.mem_of_getElem? (i := 171) (by decide +kernel)), tm7 (List.mem_of_getElem? (i := 169) (by decide +kernel)), tm7 (List.mem_of_getElem? (i := 170) (by decide +kernel)), tm1 (List.mem_of_getElem? (i := 14) (by decide +kernel)), by decide +kernel, by decide +kernel, by decide +kernel⟩
abbrev cX12_set : ByteArray := prog_14_method_108_code
def qX12_set : Mq := (⟨RX12, "set", "(II)I"⟩, cX12_set, 5, some .int)
theorem lX12_set : LmV qX12_set 2 := ⟨tm7 (List.mem_of_getElem? (i := 175) (by decide +kernel)), tm7 (List.mem_of_getElem? (i := 173) (by decide +kernel)), tm7 (List.mem_of_getElem? (i := 174) (by decide +kernel)), tm1 (List.mem_of_getElem? (i := 14) (by decide +kernel)), by decide +kernel, by decide +kernel, by decide +kernel⟩
abbrev cX12_jam : ByteArray := prog_14_method_109_code
def qX12_jam : Mq := (⟨RX12, "jam", "(III)I"⟩, cX12_jam, 6, some .int)
theorem lX12_jam : LmV qX12_jam 3 := ⟨tm7 (List.mem_of_getElem? (i := 179) (by decide +kernel)), tm7 (List.mem_of_getElem? (i := 177) (by decide +kernel)), tm7 (List.mem_of_getElem? (i := 178) (by decide +kernel)), tm1 (List.mem_of_getElem? (i := 14) (by decide +kernel)), by decide +kernel, by decide +kernel, by decide +kernel⟩
abbrev cX12_tickBy : ByteArray := prog_14_method_110_code
def qX12_tickBy : Mq := (⟨RX12, "tickBy", "(I)V"⟩, cX12_tickBy, 3, none)
theorem lX12_tickBy : LmV qX12_tickBy 1 := ⟨tm7 (List.mem_of_getElem? (i := 187) (by decide +kernel)), tm7 (List.mem_of_getElem? (i := 186) (by decide +kernel)), tm0 (List.mem_of_getElem? (i := 98) (by decide +kernel)), tm1 (List.mem_of_getElem? (i := 14) (by decide +kernel)), by decide +kernel, by decide +kernel, by decide +kernel⟩
abbrev cX12_tick : ByteArray := prog_14_method_111_code
def qX12_tick : Mq := (⟨RX12, "tick", "(I)I"⟩, cX12_tick, 2, some .int)
theorem lX12_tick : LmV qX12_tick 1 := ⟨tm7 (List.mem_of_getElem? (i := 183) (by decide +kernel)), tm7 (List.mem_of_getElem? (i := 181) (by decide +kernel)), tm7 (List.mem_of_getElem? (i := 182) (by decide +kernel)), tm1 (List.mem_of_getElem? (i := 14) (by decide +kernel)), by decide +kernel, by decide +kernel, by decide +kernel⟩
abbrev cX12_run : ByteArray := prog_14_method_112_code
def qX12_run : Mq := (⟨RX12, "run", "(III)I"⟩, cX12_run, 4, some .int)
theorem lX12_run : LmV qX12_run 3 := ⟨tm7 (List.mem_of_getElem? (i := 191) (by decide +kernel)), tm7 (List.mem_of_getElem? (i := 189) (by decide +kernel)), tm7 (List.mem_of_getElem? (i := 190) (by decide +kernel)), tm1 (List.mem_of_getElem? (i := 14) (by decide +kernel)), by decide +kernel, by decide +kernel, by decide +kernel⟩
abbrev cX12_mark : ByteArray := prog_14_method_113_code
def qX12_mark : Mq := (⟨RX12, "mark", "()I"⟩, cX12_mark, 1, some .int)
theorem lX12_mark : LmV qX12_mark 0 := ⟨tm7 (List.mem_of_getElem? (i := 195) (by decide +kernel)), tm7 (List.mem_of_getElem? (i := 193) (by decide +kernel)), tm7 (List.mem_of_getElem? (i := 194) (by decide +kernel)), tm1 (List.mem_of_getElem? (i := 14) (by decide +kernel)), by decide +kernel, by decide +kernel, by decide +kernel⟩
abbrev cX12_back : ByteArray := prog_14_method_114_code
def qX12_back : Mq := (⟨RX12, "back", "()I"⟩, cX12_back, 1, some .int)
theorem lX12_back : LmV qX12_back 0 := ⟨tm7 (List.mem_of_getElem? (i := 199) (by decide +kernel)), tm7 (List.mem_of_getElem? (i := 197) (by decide +kernel)), tm7 (List.mem_of_getElem? (i := 198) (by decide +kernel)), tm1 (List.mem_of_getElem? (i := 14) (by decide +kernel)), by decide +kernel, by decide +kernel, by decide +kernel⟩
abbrev cJ6_bitCount_0f7a4 : ByteArray := prog_15_method_49_code
def qJ6_bitCount_0f7a4 : Mq := (⟨RJ6, "bitCount", "(I)I"⟩, cJ6_bitCount_0f7a4, 1, some .int)
theorem lJ6_bitCount_0f7a4 : LmS qJ6_bitCount_0f7a4 1 := ⟨tm3 (List.mem_of_getElem? (i := 225) (by decide +kernel)), tm3 (List.mem_of_getElem? (i := 224) (by decide +kernel)), tm1 (List.mem_of_getElem? (i := 21) (by decide +kernel)), by decide +kernel, by decide +kernel, by decide +kernel⟩
abbrev cJ9_floorMod_7cf53 : ByteArray := prog_16_method_50_code
def qJ9_floorMod_7cf53 : Mq := (⟨RJ9, "floorMod", "(II)I"⟩, cJ9_floorMod_7cf53, 3, some .int)
theorem lJ9_floorMod_7cf53 : LmS qJ9_floorMod_7cf53 2 := ⟨tm5 (List.mem_of_getElem? (i := 69) (by decide +kernel)), tm5 (List.mem_of_getElem? (i := 68) (by decide +kernel)), tm1 (List.mem_of_getElem? (i := 15) (by decide +kernel)), by decide +kernel, by decide +kernel, by decide +kernel⟩
abbrev cJ9_max_7cf53 : ByteArray := prog_16_method_65_code
def qJ9_max_7cf53 : Mq := (⟨RJ9, "max", "(II)I"⟩, cJ9_max_7cf53, 2, some .int)
theorem lJ9_max_7cf53 : LmS qJ9_max_7cf53 2 := ⟨tm4 (List.mem_of_getElem? (i := 186) (by decide +kernel)), tm4 (List.mem_of_getElem? (i := 185) (by decide +kernel)), tm1 (List.mem_of_getElem? (i := 15) (by decide +kernel)), by decide +kernel, by decide +kernel, by decide +kernel⟩
abbrev cJ9_min_7cf53 : ByteArray := prog_16_method_69_code
def qJ9_min_7cf53 : Mq := (⟨RJ9, "min", "(II)I"⟩, cJ9_min_7cf53, 2, some .int)
theorem lJ9_min_7cf53 : LmS qJ9_min_7cf53 2 := ⟨tm2 (List.mem_of_getElem? (i := 232) (by decide +kernel)), tm2 (List.mem_of_getElem? (i := 231) (by decide +kernel)), tm1 (List.mem_of_getElem? (i := 15) (by decide +kernel)), by decide +kernel, by decide +kernel, by decide +kernel⟩
abbrev cJ0_length_8abf5 : ByteArray := prog_17_method_54_code
def qJ0_length_8abf5 : Mq := (⟨RJ0, "length", "()I"⟩, cJ0_length_8abf5, 1, some .int)
theorem lJ0_length_8abf5 : LmV qJ0_length_8abf5 0 := ⟨tm3 (List.mem_of_getElem? (i := 23) (by decide +kernel)), tm3 (List.mem_of_getElem? (i := 21) (by decide +kernel)), tm3 (List.mem_of_getElem? (i := 22) (by decide +kernel)), tm1 (List.mem_of_getElem? (i := 17) (by decide +kernel)), by decide +kernel, by decide +kernel, by decide +kernel⟩
abbrev cJ0_charAt_5068e : ByteArray := prog_17_method_56_code
def qJ0_charAt_5068e : Mq := (⟨RJ0, "charAt", "(I)C"⟩, cJ0_charAt_5068e, 2, some .char)
theorem lJ0_charAt_5068e : LmV qJ0_charAt_5068e 1 := ⟨tm3 (List.mem_of_getElem? (i := 33) (by decide +kernel)), tm3 (List.mem_of_getElem? (i := 31) (by decide +kernel)), tm3 (List.mem_of_getElem? (i := 32) (by decide +kernel)), tm1 (List.mem_of_getElem? (i := 17) (by decide +kernel)), by decide +kernel, by decide +kernel, by decide +kernel⟩
abbrev cJ0_coder_7d493 : ByteArray := prog_17_method_152_code
def qJ0_coder_7d493 : Mq := (⟨RJ0, "coder", "()B"⟩, cJ0_coder_7d493, 1, some .byte)
theorem lJ0_coder_7d493 : LmV qJ0_coder_7d493 0 := ⟨tm3 (List.mem_of_getElem? (i := 27) (by decide +kernel)), tm3 (List.mem_of_getElem? (i := 25) (by decide +kernel)), tm3 (List.mem_of_getElem? (i := 26) (by decide +kernel)), tm1 (List.mem_of_getElem? (i := 17) (by decide +kernel)), by decide +kernel, by decide +kernel, by decide +kernel⟩
abbrev cJ0_isLatin1_aae02 : ByteArray := prog_17_method_154_code
def qJ0_isLatin1_aae02 : Mq := (⟨RJ0, "isLatin1", "()Z"⟩, cJ0_isLatin1_aae02, 1, some .boolean)
theorem lJ0_isLatin1_aae02 : LmV qJ0_isLatin1_aae02 0 := ⟨tm3 (List.mem_of_getElem? (i := 37) (by decide +kernel)), tm3 (List.mem_of_getElem? (i := 35) (by decide +kernel)), tm3 (List.mem_of_getElem? (i := 36) (by decide +kernel)), tm1 (List.mem_of_getElem? (i := 17) (by decide +kernel)), by decide +kernel, by decide +kernel, by decide +kernel⟩
abbrev cJ0_checkIndex_df160 : ByteArray := prog_17_method_155_code
def qJ0_checkIndex_df160 : Mq := (⟨RJ0, "checkIndex", "(II)V"⟩, cJ0_checkIndex_df160, 2, none)
theorem lJ0_checkIndex_df160 : LmS qJ0_checkIndex_df160 2 := ⟨tm3 (List.mem_of_getElem? (i := 43) (by decide +kernel)), tm3 (List.mem_of_getElem? (i := 42) (by decide +kernel)), tm1 (List.mem_of_getElem? (i := 17) (by decide +kernel)), by decide +kernel, by decide +kernel, by decide +kernel⟩
abbrev cJ1_charAt_3b067 : ByteArray := prog_18_method_2_code
def qJ1_charAt_3b067 : Mq := (⟨RJ1, "charAt", "([BI)C"⟩, cJ1_charAt_3b067, 2, some .char)
theorem lJ1_charAt_3b067 : LmS qJ1_charAt_3b067 2 := ⟨tm3 (List.mem_of_getElem? (i := 40) (by decide +kernel)), tm3 (List.mem_of_getElem? (i := 39) (by decide +kernel)), tm1 (List.mem_of_getElem? (i := 18) (by decide +kernel)), by decide +kernel, by decide +kernel, by decide +kernel⟩
abbrev cJ2_getChar_3b067 : ByteArray := prog_19_method_5_code
def qJ2_getChar_3b067 : Mq := (⟨RJ2, "getChar", "([BI)C"⟩, cJ2_getChar_3b067, 2, some .char)
theorem lJ2_getChar_3b067 : LmS qJ2_getChar_3b067 2 := ⟨tm3 (List.mem_of_getElem? (i := 61) (by decide +kernel)), tm3 (List.mem_of_getElem? (i := 60) (by decide +kernel)), tm1 (List.mem_of_getElem? (i := 20) (by decide +kernel)), by decide +kernel, by decide +kernel, by decide +kernel⟩
abbrev cJ2_length_9d52b : ByteArray := prog_19_method_6_code
def qJ2_length_9d52b : Mq := (⟨RJ2, "length", "([B)I"⟩, cJ2_length_9d52b, 1, some .int)
theorem lJ2_length_9d52b : LmS qJ2_length_9d52b 1 := ⟨tm3 (List.mem_of_getElem? (i := 57) (by decide +kernel)), tm3 (List.mem_of_getElem? (i := 56) (by decide +kernel)), tm1 (List.mem_of_getElem? (i := 20) (by decide +kernel)), by decide +kernel, by decide +kernel, by decide +kernel⟩
abbrev cJ2_charAt_3b067 : ByteArray := prog_19_method_83_code
def qJ2_charAt_3b067 : Mq := (⟨RJ2, "charAt", "([BI)C"⟩, cJ2_charAt_3b067, 2, some .char)
theorem lJ2_charAt_3b067 : LmS qJ2_charAt_3b067 2 := ⟨tm3 (List.mem_of_getElem? (i := 51) (by decide +kernel)), tm3 (List.mem_of_getElem? (i := 50) (by decide +kernel)), tm1 (List.mem_of_getElem? (i := 20) (by decide +kernel)), by decide +kernel, by decide +kernel, by decide +kernel⟩
abbrev cJ2_checkIndex_2214a : ByteArray := prog_19_method_91_code
def qJ2_checkIndex_2214a : Mq := (⟨RJ2, "checkIndex", "(I[B)V"⟩, cJ2_checkIndex_2214a, 2, none)
theorem lJ2_checkIndex_2214a : LmS qJ2_checkIndex_2214a 2 := ⟨tm3 (List.mem_of_getElem? (i := 54) (by decide +kernel)), tm3 (List.mem_of_getElem? (i := 53) (by decide +kernel)), tm1 (List.mem_of_getElem? (i := 20) (by decide +kernel)), by decide +kernel, by decide +kernel, by decide +kernel⟩
abbrev cJ7_fill_53178 : ByteArray := prog_21_method_103_code
def qJ7_fill_53178 : Mq := (⟨RJ7, "fill", "([II)V"⟩, cJ7_fill_53178, 4, none)
theorem lJ7_fill_53178 : LmS qJ7_fill_53178 2 := ⟨tm1 (List.mem_of_getElem? (i := 133) (by decide +kernel)), tm1 (List.mem_of_getElem? (i := 132) (by decide +kernel)), tm1 (List.mem_of_getElem? (i := 5) (by decide +kernel)), by decide +kernel, by decide +kernel, by decide +kernel⟩
abbrev cJ3_checkIndex_8e157 : ByteArray := prog_22_method_11_code
def qJ3_checkIndex_8e157 : Mq := (⟨RJ3, "checkIndex", "(IILjava/util/function/BiFunction;)I"⟩, cJ3_checkIndex_8e157, 3, some .int)
theorem lJ3_checkIndex_8e157 : LmS qJ3_checkIndex_8e157 3 := ⟨tm3 (List.mem_of_getElem? (i := 48) (by decide +kernel)), tm3 (List.mem_of_getElem? (i := 47) (by decide +kernel)), tm1 (List.mem_of_getElem? (i := 19) (by decide +kernel)), by decide +kernel, by decide +kernel, by decide +kernel⟩
def Fl (own : String) (idx : Nat) (C : String) (T : u_T) (N k : Nat) : Prop := Cond.fieldLink own idx C (T k).2.1 (T k).2.2.1 ∈ lw_tbl ∧ (∀ w ∈ u_ws C T N, w ∈ lw_tbl)
theorem nL_7 : Cond.classLink RL 7 RX11 ∈ lw_tbl ∧ Cond.instantiable RX11 17 ∈ lw_tbl ∧ Cond.initialized RX11 ∈ lw_tbl := ⟨tm1 (List.mem_of_getElem? (i := 22) (by decide +kernel)), tm1 (List.mem_of_getElem? (i := 23) (by decide +kernel)), tm1 (List.mem_of_getElem? (i := 1) (by decide +kernel))⟩
theorem mL_9 : Cond.methodLink RL 9 qX11_init.1 ∈ lw_tbl := tm1 (List.mem_of_getElem? (i := 24) (by decide +kernel))
theorem mX11_3 : Cond.methodLink RX11 3 ⟨"java/lang/Object", "<init>", "()V"⟩ ∈ lw_tbl := tm1 (List.mem_of_getElem? (i := 27) (by decide +kernel))
theorem nX11_20 : Cond.classLink RX11 20 RX5 ∈ lw_tbl ∧ Cond.instantiable RX5 12 ∈ lw_tbl ∧ Cond.initialized RX5 ∈ lw_tbl := ⟨tm1 (List.mem_of_getElem? (i := 30) (by decide +kernel)), tm1 (List.mem_of_getElem? (i := 31) (by decide +kernel)), tm1 (List.mem_of_getElem? (i := 2) (by decide +kernel))⟩
theorem mX11_22 : Cond.methodLink RX11 22 qX5_init.1 ∈ lw_tbl := tm1 (List.mem_of_getElem? (i := 32) (by decide +kernel))
theorem mX5_3 : Cond.methodLink RX5 3 ⟨"java/lang/Object", "<init>", "()V"⟩ ∈ lw_tbl := tm1 (List.mem_of_getElem? (i := 35) (by decide +kernel))
theorem nX5_21 : Cond.classLink RX5 21 RX3 ∈ lw_tbl ∧ Cond.instantiable RX3 6 ∈ lw_tbl ∧ Cond.initialized RX3 ∈ lw_tbl := ⟨tm1 (List.mem_of_getElem? (i := 36) (by decide +kernel)), tm1 (List.mem_of_getElem? (i := 37) (by decide +kernel)), tm1 (List.mem_of_getElem? (i := 3) (by decide +kernel))⟩
theorem mX5_23 : Cond.methodLink RX5 23 qX3_init.1 ∈ lw_tbl := tm1 (List.mem_of_getElem? (i := 38) (by decide +kernel))
theorem mX3_3 : Cond.methodLink RX3 3 ⟨"java/lang/Object", "<init>", "()V"⟩ ∈ lw_tbl := tm1 (List.mem_of_getElem? (i := 41) (by decide +kernel))
theorem fX3_9 : Fl RX3 9 RX3 TX3 6 0 := ⟨tm1 (List.mem_of_getElem? (i := 42) (by decide +kernel)), inX3⟩
theorem fX9_118 : Fl RX9 118 RX3 TX3 6 0 := ⟨tm1 (List.mem_of_getElem? (i := 43) (by decide +kernel)), inX3⟩
theorem fX11_212 : Fl RX11 212 RX3 TX3 6 0 := ⟨tm1 (List.mem_of_getElem? (i := 44) (by decide +kernel)), inX3⟩
theorem fX3_15 : Fl RX3 15 RX3 TX3 6 1 := ⟨tm1 (List.mem_of_getElem? (i := 45) (by decide +kernel)), inX3⟩
theorem fX0_53 : Fl RX0 53 RX3 TX3 6 1 := ⟨tm1 (List.mem_of_getElem? (i := 46) (by decide +kernel)), inX3⟩
theorem fX8_53 : Fl RX8 53 RX3 TX3 6 1 := ⟨tm1 (List.mem_of_getElem? (i := 47) (by decide +kernel)), inX3⟩
theorem fX9_139 : Fl RX9 139 RX3 TX3 6 1 := ⟨tm1 (List.mem_of_getElem? (i := 48) (by decide +kernel)), inX3⟩
theorem fX11_222 : Fl RX11 222 RX3 TX3 6 1 := ⟨tm1 (List.mem_of_getElem? (i := 49) (by decide +kernel)), inX3⟩
theorem fX3_18 : Fl RX3 18 RX3 TX3 6 2 := ⟨tm1 (List.mem_of_getElem? (i := 50) (by decide +kernel)), inX3⟩
theorem fX9_84 : Fl RX9 84 RX3 TX3 6 2 := ⟨tm1 (List.mem_of_getElem? (i := 51) (by decide +kernel)), inX3⟩
theorem fX11_185 : Fl RX11 185 RX3 TX3 6 2 := ⟨tm1 (List.mem_of_getElem? (i := 52) (by decide +kernel)), inX3⟩
theorem fX3_21 : Fl RX3 21 RX3 TX3 6 3 := ⟨tm1 (List.mem_of_getElem? (i := 53) (by decide +kernel)), inX3⟩
theorem fX0_25 : Fl RX0 25 RX3 TX3 6 3 := ⟨tm1 (List.mem_of_getElem? (i := 54) (by decide +kernel)), inX3⟩
theorem fX1_41 : Fl RX1 41 RX3 TX3 6 3 := ⟨tm1 (List.mem_of_getElem? (i := 55) (by decide +kernel)), inX3⟩
theorem fX8_32 : Fl RX8 32 RX3 TX3 6 3 := ⟨tm1 (List.mem_of_getElem? (i := 56) (by decide +kernel)), inX3⟩
theorem fX9_93 : Fl RX9 93 RX3 TX3 6 3 := ⟨tm1 (List.mem_of_getElem? (i := 57) (by decide +kernel)), inX3⟩
theorem fX11_190 : Fl RX11 190 RX3 TX3 6 3 := ⟨tm1 (List.mem_of_getElem? (i := 58) (by decide +kernel)), inX3⟩
theorem fX3_24 : Fl RX3 24 RX3 TX3 6 4 := ⟨tm1 (List.mem_of_getElem? (i := 59) (by decide +kernel)), inX3⟩
theorem fX1_63 : Fl RX1 63 RX3 TX3 6 4 := ⟨tm1 (List.mem_of_getElem? (i := 60) (by decide +kernel)), inX3⟩
theorem fX9_136 : Fl RX9 136 RX3 TX3 6 4 := ⟨tm1 (List.mem_of_getElem? (i := 61) (by decide +kernel)), inX3⟩
theorem fX11_200 : Fl RX11 200 RX3 TX3 6 4 := ⟨tm1 (List.mem_of_getElem? (i := 62) (by decide +kernel)), inX3⟩
theorem fX3_27 : Fl RX3 27 RX3 TX3 6 5 := ⟨tm1 (List.mem_of_getElem? (i := 63) (by decide +kernel)), inX3⟩
theorem fX9_54 : Fl RX9 54 RX3 TX3 6 5 := ⟨tm1 (List.mem_of_getElem? (i := 64) (by decide +kernel)), inX3⟩
theorem fX11_197 : Fl RX11 197 RX3 TX3 6 5 := ⟨tm1 (List.mem_of_getElem? (i := 65) (by decide +kernel)), inX3⟩
theorem nX5_28 : Cond.classLink RX5 28 RX6 ∈ lw_tbl ∧ Cond.instantiable RX6 9 ∈ lw_tbl ∧ Cond.initialized RX6 ∈ lw_tbl := ⟨tm1 (List.mem_of_getElem? (i := 81) (by decide +kernel)), tm1 (List.mem_of_getElem? (i := 82) (by decide +kernel)), tm1 (List.mem_of_getElem? (i := 4) (by decide +kernel))⟩
theorem mX5_30 : Cond.methodLink RX5 30 qX6_init.1 ∈ lw_tbl := tm1 (List.mem_of_getElem? (i := 83) (by decide +kernel))
theorem mX6_3 : Cond.methodLink RX6 3 ⟨"java/lang/Object", "<init>", "()V"⟩ ∈ lw_tbl := tm1 (List.mem_of_getElem? (i := 86) (by decide +kernel))
theorem fX6_9 : Fl RX6 9 RX6 TX6 9 0 := ⟨tm1 (List.mem_of_getElem? (i := 87) (by decide +kernel)), inX6⟩
theorem fX8_65 : Fl RX8 65 RX6 TX6 9 0 := ⟨tm1 (List.mem_of_getElem? (i := 88) (by decide +kernel)), inX6⟩
theorem fX11_231 : Fl RX11 231 RX6 TX6 9 0 := ⟨tm1 (List.mem_of_getElem? (i := 89) (by decide +kernel)), inX6⟩
theorem fX6_15 : Fl RX6 15 RX6 TX6 9 1 := ⟨tm1 (List.mem_of_getElem? (i := 90) (by decide +kernel)), inX6⟩
theorem fX11_234 : Fl RX11 234 RX6 TX6 9 1 := ⟨tm1 (List.mem_of_getElem? (i := 91) (by decide +kernel)), inX6⟩
theorem fX6_18 : Fl RX6 18 RX6 TX6 9 2 := ⟨tm1 (List.mem_of_getElem? (i := 92) (by decide +kernel)), inX6⟩
theorem fX8_60 : Fl RX8 60 RX6 TX6 9 2 := ⟨tm1 (List.mem_of_getElem? (i := 93) (by decide +kernel)), inX6⟩
theorem fX11_228 : Fl RX11 228 RX6 TX6 9 2 := ⟨tm1 (List.mem_of_getElem? (i := 94) (by decide +kernel)), inX6⟩
theorem fX6_21 : Fl RX6 21 RX6 TX6 9 3 := ⟨tm1 (List.mem_of_getElem? (i := 95) (by decide +kernel)), inX6⟩
theorem fX1_78 : Fl RX1 78 RX6 TX6 9 3 := ⟨tm1 (List.mem_of_getElem? (i := 96) (by decide +kernel)), inX6⟩
theorem fX11_178 : Fl RX11 178 RX6 TX6 9 3 := ⟨tm1 (List.mem_of_getElem? (i := 97) (by decide +kernel)), inX6⟩
theorem fX6_24 : Fl RX6 24 RX6 TX6 9 4 := ⟨tm1 (List.mem_of_getElem? (i := 98) (by decide +kernel)), inX6⟩
theorem fX1_83 : Fl RX1 83 RX6 TX6 9 4 := ⟨tm1 (List.mem_of_getElem? (i := 99) (by decide +kernel)), inX6⟩
theorem fX11_203 : Fl RX11 203 RX6 TX6 9 4 := ⟨tm1 (List.mem_of_getElem? (i := 100) (by decide +kernel)), inX6⟩
theorem fX6_27 : Fl RX6 27 RX6 TX6 9 5 := ⟨tm1 (List.mem_of_getElem? (i := 101) (by decide +kernel)), inX6⟩
theorem fX6_36 : Fl RX6 36 RX6 TX6 9 6 := ⟨tm1 (List.mem_of_getElem? (i := 102) (by decide +kernel)), inX6⟩
theorem fX11_139 : Fl RX11 139 RX6 TX6 9 6 := ⟨tm1 (List.mem_of_getElem? (i := 103) (by decide +kernel)), inX6⟩
theorem fX6_40 : Fl RX6 40 RX6 TX6 9 7 := ⟨tm1 (List.mem_of_getElem? (i := 104) (by decide +kernel)), inX6⟩
theorem fX11_144 : Fl RX11 144 RX6 TX6 9 7 := ⟨tm1 (List.mem_of_getElem? (i := 105) (by decide +kernel)), inX6⟩
theorem fX6_43 : Fl RX6 43 RX6 TX6 9 8 := ⟨tm1 (List.mem_of_getElem? (i := 106) (by decide +kernel)), inX6⟩
theorem fX11_147 : Fl RX11 147 RX6 TX6 9 8 := ⟨tm1 (List.mem_of_getElem? (i := 107) (by decide +kernel)), inX6⟩
theorem mX5_35 : Cond.methodLink RX5 35 qX5_clear.1 ∈ lw_tbl := tm1 (List.mem_of_getElem? (i := 127) (by decide +kernel))
theorem mX5_60 : Cond.methodLink RX5 60 qJ7_fill_53178.1 ∈ lw_tbl := tm1 (List.mem_of_getElem? (i := 131) (by decide +kernel))
theorem mX5_66 : Cond.methodLink RX5 66 qX3_clear.1 ∈ lw_tbl := tm1 (List.mem_of_getElem? (i := 134) (by decide +kernel))
theorem mX3_30 : Cond.methodLink RX3 30 qJ7_fill_53178.1 ∈ lw_tbl := tm1 (List.mem_of_getElem? (i := 138) (by decide +kernel))
theorem mX5_67 : Cond.methodLink RX5 67 qX6_clear.1 ∈ lw_tbl := tm1 (List.mem_of_getElem? (i := 139) (by decide +kernel))
theorem mX6_30 : Cond.methodLink RX6 30 qJ7_fill_53178.1 ∈ lw_tbl := tm1 (List.mem_of_getElem? (i := 143) (by decide +kernel))
theorem fX8_18 : Fl RX8 18 RX5 TX5 12 0 := ⟨tm1 (List.mem_of_getElem? (i := 144) (by decide +kernel)), inX5⟩
theorem fX0_15 : Fl RX0 15 RX5 TX5 12 0 := ⟨tm1 (List.mem_of_getElem? (i := 145) (by decide +kernel)), inX5⟩
theorem fX9_47 : Fl RX9 47 RX5 TX5 12 0 := ⟨tm1 (List.mem_of_getElem? (i := 146) (by decide +kernel)), inX5⟩
theorem fX1_32 : Fl RX1 32 RX5 TX5 12 0 := ⟨tm1 (List.mem_of_getElem? (i := 147) (by decide +kernel)), inX5⟩
theorem fX11_120 : Fl RX11 120 RX5 TX5 12 0 := ⟨tm1 (List.mem_of_getElem? (i := 148) (by decide +kernel)), inX5⟩
theorem fX5_38 : Fl RX5 38 RX5 TX5 12 0 := ⟨tm1 (List.mem_of_getElem? (i := 149) (by decide +kernel)), inX5⟩
theorem fX7_138 : Fl RX7 138 RX5 TX5 12 0 := ⟨tm1 (List.mem_of_getElem? (i := 150) (by decide +kernel)), inX5⟩
theorem fX10_18 : Fl RX10 18 RX5 TX5 12 1 := ⟨tm1 (List.mem_of_getElem? (i := 151) (by decide +kernel)), inX5⟩
theorem fX5_42 : Fl RX5 42 RX5 TX5 12 1 := ⟨tm1 (List.mem_of_getElem? (i := 152) (by decide +kernel)), inX5⟩
theorem fX11_123 : Fl RX11 123 RX5 TX5 12 1 := ⟨tm1 (List.mem_of_getElem? (i := 153) (by decide +kernel)), inX5⟩
theorem fX7_167 : Fl RX7 167 RX5 TX5 12 1 := ⟨tm1 (List.mem_of_getElem? (i := 154) (by decide +kernel)), inX5⟩
theorem fX9_29 : Fl RX9 29 RX5 TX5 12 2 := ⟨tm1 (List.mem_of_getElem? (i := 155) (by decide +kernel)), inX5⟩
theorem fX5_45 : Fl RX5 45 RX5 TX5 12 2 := ⟨tm1 (List.mem_of_getElem? (i := 156) (by decide +kernel)), inX5⟩
theorem fX11_126 : Fl RX11 126 RX5 TX5 12 2 := ⟨tm1 (List.mem_of_getElem? (i := 157) (by decide +kernel)), inX5⟩
theorem fX9_75 : Fl RX9 75 RX5 TX5 12 3 := ⟨tm1 (List.mem_of_getElem? (i := 158) (by decide +kernel)), inX5⟩
theorem fX5_48 : Fl RX5 48 RX5 TX5 12 3 := ⟨tm1 (List.mem_of_getElem? (i := 159) (by decide +kernel)), inX5⟩
theorem fX11_129 : Fl RX11 129 RX5 TX5 12 3 := ⟨tm1 (List.mem_of_getElem? (i := 160) (by decide +kernel)), inX5⟩
theorem fX7_170 : Fl RX7 170 RX5 TX5 12 3 := ⟨tm1 (List.mem_of_getElem? (i := 161) (by decide +kernel)), inX5⟩
theorem fX1_86 : Fl RX1 86 RX5 TX5 12 4 := ⟨tm1 (List.mem_of_getElem? (i := 162) (by decide +kernel)), inX5⟩
theorem fX5_51 : Fl RX5 51 RX5 TX5 12 4 := ⟨tm1 (List.mem_of_getElem? (i := 163) (by decide +kernel)), inX5⟩
theorem fX11_132 : Fl RX11 132 RX5 TX5 12 4 := ⟨tm1 (List.mem_of_getElem? (i := 164) (by decide +kernel)), inX5⟩
theorem fX7_172 : Fl RX7 172 RX5 TX5 12 4 := ⟨tm1 (List.mem_of_getElem? (i := 165) (by decide +kernel)), inX5⟩
theorem fX5_54 : Fl RX5 54 RX5 TX5 12 5 := ⟨tm1 (List.mem_of_getElem? (i := 166) (by decide +kernel)), inX5⟩
theorem fX11_153 : Fl RX11 153 RX5 TX5 12 5 := ⟨tm1 (List.mem_of_getElem? (i := 167) (by decide +kernel)), inX5⟩
theorem fX5_57 : Fl RX5 57 RX5 TX5 12 6 := ⟨tm1 (List.mem_of_getElem? (i := 168) (by decide +kernel)), inX5⟩
theorem fX11_156 : Fl RX11 156 RX5 TX5 12 6 := ⟨tm1 (List.mem_of_getElem? (i := 169) (by decide +kernel)), inX5⟩
theorem fX5_9 : Fl RX5 9 RX5 TX5 12 7 := ⟨tm1 (List.mem_of_getElem? (i := 170) (by decide +kernel)), inX5⟩
theorem fX0_34 : Fl RX0 34 RX5 TX5 12 7 := ⟨tm1 (List.mem_of_getElem? (i := 171) (by decide +kernel)), inX5⟩
theorem fX11_174 : Fl RX11 174 RX5 TX5 12 7 := ⟨tm1 (List.mem_of_getElem? (i := 172) (by decide +kernel)), inX5⟩
theorem fX7_161 : Fl RX7 161 RX5 TX5 12 7 := ⟨tm1 (List.mem_of_getElem? (i := 173) (by decide +kernel)), inX5⟩
theorem fX5_15 : Fl RX5 15 RX5 TX5 12 8 := ⟨tm1 (List.mem_of_getElem? (i := 174) (by decide +kernel)), inX5⟩
theorem fX10_25 : Fl RX10 25 RX5 TX5 12 8 := ⟨tm1 (List.mem_of_getElem? (i := 175) (by decide +kernel)), inX5⟩
theorem fX2_44 : Fl RX2 44 RX5 TX5 12 8 := ⟨tm1 (List.mem_of_getElem? (i := 176) (by decide +kernel)), inX5⟩
theorem fX11_206 : Fl RX11 206 RX5 TX5 12 8 := ⟨tm1 (List.mem_of_getElem? (i := 177) (by decide +kernel)), inX5⟩
theorem fX7_164 : Fl RX7 164 RX5 TX5 12 8 := ⟨tm1 (List.mem_of_getElem? (i := 178) (by decide +kernel)), inX5⟩
theorem fX5_18 : Fl RX5 18 RX5 TX5 12 9 := ⟨tm1 (List.mem_of_getElem? (i := 179) (by decide +kernel)), inX5⟩
theorem fX11_225 : Fl RX11 225 RX5 TX5 12 9 := ⟨tm1 (List.mem_of_getElem? (i := 180) (by decide +kernel)), inX5⟩
theorem fX7_174 : Fl RX7 174 RX5 TX5 12 9 := ⟨tm1 (List.mem_of_getElem? (i := 181) (by decide +kernel)), inX5⟩
theorem fX5_24 : Fl RX5 24 RX5 TX5 12 10 := ⟨tm1 (List.mem_of_getElem? (i := 182) (by decide +kernel)), inX5⟩
theorem fX9_35 : Fl RX9 35 RX5 TX5 12 10 := ⟨tm1 (List.mem_of_getElem? (i := 183) (by decide +kernel)), inX5⟩
theorem fX0_21 : Fl RX0 21 RX5 TX5 12 10 := ⟨tm1 (List.mem_of_getElem? (i := 184) (by decide +kernel)), inX5⟩
theorem fX1_37 : Fl RX1 37 RX5 TX5 12 10 := ⟨tm1 (List.mem_of_getElem? (i := 185) (by decide +kernel)), inX5⟩
theorem fX8_28 : Fl RX8 28 RX5 TX5 12 10 := ⟨tm1 (List.mem_of_getElem? (i := 186) (by decide +kernel)), inX5⟩
theorem fX11_181 : Fl RX11 181 RX5 TX5 12 10 := ⟨tm1 (List.mem_of_getElem? (i := 187) (by decide +kernel)), inX5⟩
theorem fX5_31 : Fl RX5 31 RX5 TX5 12 11 := ⟨tm1 (List.mem_of_getElem? (i := 188) (by decide +kernel)), inX5⟩
theorem fX9_65 : Fl RX9 65 RX5 TX5 12 11 := ⟨tm1 (List.mem_of_getElem? (i := 189) (by decide +kernel)), inX5⟩
theorem fX1_70 : Fl RX1 70 RX5 TX5 12 11 := ⟨tm1 (List.mem_of_getElem? (i := 190) (by decide +kernel)), inX5⟩
theorem fX8_56 : Fl RX8 56 RX5 TX5 12 11 := ⟨tm1 (List.mem_of_getElem? (i := 191) (by decide +kernel)), inX5⟩
theorem fX11_135 : Fl RX11 135 RX5 TX5 12 11 := ⟨tm1 (List.mem_of_getElem? (i := 192) (by decide +kernel)), inX5⟩
theorem nX11_34 : Cond.classLink RX11 34 RX7 ∈ lw_tbl ∧ Cond.instantiable RX7 9 ∈ lw_tbl ∧ Cond.initialized RX7 ∈ lw_tbl := ⟨tm1 (List.mem_of_getElem? (i := 219) (by decide +kernel)), tm1 (List.mem_of_getElem? (i := 220) (by decide +kernel)), tm1 (List.mem_of_getElem? (i := 6) (by decide +kernel))⟩
theorem mX11_36 : Cond.methodLink RX11 36 qX7_init.1 ∈ lw_tbl := tm1 (List.mem_of_getElem? (i := 221) (by decide +kernel))
theorem mX7_3 : Cond.methodLink RX7 3 ⟨"java/lang/Object", "<init>", "()V"⟩ ∈ lw_tbl := tm1 (List.mem_of_getElem? (i := 224) (by decide +kernel))
theorem fX7_46 : Fl RX7 46 RX7 TX7 9 0 := ⟨tm1 (List.mem_of_getElem? (i := 225) (by decide +kernel)), inX7⟩
theorem fX11_114 : Fl RX11 114 RX7 TX7 9 0 := ⟨tm1 (List.mem_of_getElem? (i := 226) (by decide +kernel)), inX7⟩
theorem fX7_49 : Fl RX7 49 RX7 TX7 9 1 := ⟨tm1 (List.mem_of_getElem? (i := 227) (by decide +kernel)), inX7⟩
theorem fX11_115 : Fl RX11 115 RX7 TX7 9 1 := ⟨tm1 (List.mem_of_getElem? (i := 228) (by decide +kernel)), inX7⟩
theorem fX7_9 : Fl RX7 9 RX7 TX7 9 2 := ⟨tm1 (List.mem_of_getElem? (i := 229) (by decide +kernel)), inX7⟩
theorem fX7_25 : Fl RX7 25 RX7 TX7 9 3 := ⟨tm1 (List.mem_of_getElem? (i := 230) (by decide +kernel)), inX7⟩
theorem fX7_55 : Fl RX7 55 RX7 TX7 9 4 := ⟨tm1 (List.mem_of_getElem? (i := 231) (by decide +kernel)), inX7⟩
theorem fX7_100 : Fl RX7 100 RX7 TX7 9 5 := ⟨tm1 (List.mem_of_getElem? (i := 232) (by decide +kernel)), inX7⟩
theorem fX7_43 : Fl RX7 43 RX7 TX7 9 6 := ⟨tm1 (List.mem_of_getElem? (i := 233) (by decide +kernel)), inX7⟩
theorem fX7_15 : Fl RX7 15 RX7 TX7 9 7 := ⟨tm1 (List.mem_of_getElem? (i := 234) (by decide +kernel)), inX7⟩
theorem fX7_40 : Fl RX7 40 RX7 TX7 9 8 := ⟨tm1 (List.mem_of_getElem? (i := 235) (by decide +kernel)), inX7⟩
theorem nX11_41 : Cond.classLink RX11 41 RX0 ∈ lw_tbl ∧ Cond.instantiable RX0 2 ∈ lw_tbl ∧ Cond.initialized RX0 ∈ lw_tbl := ⟨tm2 (List.mem_of_getElem? (i := 15) (by decide +kernel)), tm2 (List.mem_of_getElem? (i := 16) (by decide +kernel)), tm1 (List.mem_of_getElem? (i := 7) (by decide +kernel))⟩
theorem mX11_43 : Cond.methodLink RX11 43 qX0_init.1 ∈ lw_tbl := tm2 (List.mem_of_getElem? (i := 17) (by decide +kernel))
theorem mX0_3 : Cond.methodLink RX0 3 ⟨"java/lang/Object", "<init>", "()V"⟩ ∈ lw_tbl := tm2 (List.mem_of_getElem? (i := 20) (by decide +kernel))
theorem fX0_9 : Fl RX0 9 RX0 TX0 2 0 := ⟨tm2 (List.mem_of_getElem? (i := 21) (by decide +kernel)), inX0⟩
theorem fX11_243 : Fl RX11 243 RX0 TX0 2 0 := ⟨tm2 (List.mem_of_getElem? (i := 22) (by decide +kernel)), inX0⟩
theorem fX0_88 : Fl RX0 88 RX0 TX0 2 1 := ⟨tm2 (List.mem_of_getElem? (i := 23) (by decide +kernel)), inX0⟩
theorem fX11_240 : Fl RX11 240 RX0 TX0 2 1 := ⟨tm2 (List.mem_of_getElem? (i := 24) (by decide +kernel)), inX0⟩
theorem nX11_48 : Cond.classLink RX11 48 RX8 ∈ lw_tbl ∧ Cond.instantiable RX8 2 ∈ lw_tbl ∧ Cond.initialized RX8 ∈ lw_tbl := ⟨tm2 (List.mem_of_getElem? (i := 30) (by decide +kernel)), tm2 (List.mem_of_getElem? (i := 31) (by decide +kernel)), tm1 (List.mem_of_getElem? (i := 8) (by decide +kernel))⟩
theorem mX11_50 : Cond.methodLink RX11 50 qX8_init.1 ∈ lw_tbl := tm2 (List.mem_of_getElem? (i := 32) (by decide +kernel))
theorem mX8_3 : Cond.methodLink RX8 3 ⟨"java/lang/Object", "<init>", "()V"⟩ ∈ lw_tbl := tm2 (List.mem_of_getElem? (i := 35) (by decide +kernel))
theorem fX8_9 : Fl RX8 9 RX8 TX8 2 0 := ⟨tm2 (List.mem_of_getElem? (i := 36) (by decide +kernel)), inX8⟩
theorem fX11_273 : Fl RX11 273 RX8 TX8 2 0 := ⟨tm2 (List.mem_of_getElem? (i := 37) (by decide +kernel)), inX8⟩
theorem fX8_15 : Fl RX8 15 RX8 TX8 2 1 := ⟨tm2 (List.mem_of_getElem? (i := 38) (by decide +kernel)), inX8⟩
theorem fX2_31 : Fl RX2 31 RX8 TX8 2 1 := ⟨tm2 (List.mem_of_getElem? (i := 39) (by decide +kernel)), inX8⟩
theorem fX11_276 : Fl RX11 276 RX8 TX8 2 1 := ⟨tm2 (List.mem_of_getElem? (i := 40) (by decide +kernel)), inX8⟩
theorem nX11_55 : Cond.classLink RX11 55 RX2 ∈ lw_tbl ∧ Cond.instantiable RX2 4 ∈ lw_tbl ∧ Cond.initialized RX2 ∈ lw_tbl := ⟨tm2 (List.mem_of_getElem? (i := 46) (by decide +kernel)), tm2 (List.mem_of_getElem? (i := 47) (by decide +kernel)), tm1 (List.mem_of_getElem? (i := 9) (by decide +kernel))⟩
theorem mX11_57 : Cond.methodLink RX11 57 qX2_init.1 ∈ lw_tbl := tm2 (List.mem_of_getElem? (i := 48) (by decide +kernel))
theorem mX2_3 : Cond.methodLink RX2 3 ⟨"java/lang/Object", "<init>", "()V"⟩ ∈ lw_tbl := tm2 (List.mem_of_getElem? (i := 51) (by decide +kernel))
theorem fX2_9 : Fl RX2 9 RX2 TX2 4 0 := ⟨tm2 (List.mem_of_getElem? (i := 52) (by decide +kernel)), inX2⟩
theorem fX11_319 : Fl RX11 319 RX2 TX2 4 0 := ⟨tm2 (List.mem_of_getElem? (i := 53) (by decide +kernel)), inX2⟩
theorem fX2_15 : Fl RX2 15 RX2 TX2 4 1 := ⟨tm2 (List.mem_of_getElem? (i := 54) (by decide +kernel)), inX2⟩
theorem fX11_296 : Fl RX11 296 RX2 TX2 4 1 := ⟨tm2 (List.mem_of_getElem? (i := 55) (by decide +kernel)), inX2⟩
theorem fX2_19 : Fl RX2 19 RX2 TX2 4 2 := ⟨tm2 (List.mem_of_getElem? (i := 56) (by decide +kernel)), inX2⟩
theorem fX11_293 : Fl RX11 293 RX2 TX2 4 2 := ⟨tm2 (List.mem_of_getElem? (i := 57) (by decide +kernel)), inX2⟩
theorem fX2_28 : Fl RX2 28 RX2 TX2 4 3 := ⟨tm2 (List.mem_of_getElem? (i := 58) (by decide +kernel)), inX2⟩
theorem fX11_322 : Fl RX11 322 RX2 TX2 4 3 := ⟨tm2 (List.mem_of_getElem? (i := 59) (by decide +kernel)), inX2⟩
theorem nX11_62 : Cond.classLink RX11 62 RX10 ∈ lw_tbl ∧ Cond.instantiable RX10 3 ∈ lw_tbl ∧ Cond.initialized RX10 ∈ lw_tbl := ⟨tm2 (List.mem_of_getElem? (i := 69) (by decide +kernel)), tm2 (List.mem_of_getElem? (i := 70) (by decide +kernel)), tm1 (List.mem_of_getElem? (i := 10) (by decide +kernel))⟩
theorem mX11_64 : Cond.methodLink RX11 64 qX10_init.1 ∈ lw_tbl := tm2 (List.mem_of_getElem? (i := 71) (by decide +kernel))
theorem mX10_3 : Cond.methodLink RX10 3 ⟨"java/lang/Object", "<init>", "()V"⟩ ∈ lw_tbl := tm2 (List.mem_of_getElem? (i := 74) (by decide +kernel))
theorem fX10_24 : Fl RX10 24 RX10 TX10 3 0 := ⟨tm2 (List.mem_of_getElem? (i := 75) (by decide +kernel)), inX10⟩
theorem fX10_9 : Fl RX10 9 RX10 TX10 3 1 := ⟨tm2 (List.mem_of_getElem? (i := 76) (by decide +kernel)), inX10⟩
theorem fX10_15 : Fl RX10 15 RX10 TX10 3 2 := ⟨tm2 (List.mem_of_getElem? (i := 77) (by decide +kernel)), inX10⟩
theorem fX11_308 : Fl RX11 308 RX10 TX10 3 2 := ⟨tm2 (List.mem_of_getElem? (i := 78) (by decide +kernel)), inX10⟩
theorem nX11_69 : Cond.classLink RX11 69 RX1 ∈ lw_tbl ∧ Cond.instantiable RX1 5 ∈ lw_tbl ∧ Cond.initialized RX1 ∈ lw_tbl := ⟨tm2 (List.mem_of_getElem? (i := 86) (by decide +kernel)), tm2 (List.mem_of_getElem? (i := 87) (by decide +kernel)), tm1 (List.mem_of_getElem? (i := 11) (by decide +kernel))⟩
theorem mX11_71 : Cond.methodLink RX11 71 qX1_init.1 ∈ lw_tbl := tm2 (List.mem_of_getElem? (i := 88) (by decide +kernel))
theorem mX1_3 : Cond.methodLink RX1 3 ⟨"java/lang/Object", "<init>", "()V"⟩ ∈ lw_tbl := tm2 (List.mem_of_getElem? (i := 91) (by decide +kernel))
theorem fX1_15 : Fl RX1 15 RX1 TX1 5 0 := ⟨tm2 (List.mem_of_getElem? (i := 92) (by decide +kernel)), inX1⟩
theorem fX9_152 : Fl RX9 152 RX1 TX1 5 0 := ⟨tm2 (List.mem_of_getElem? (i := 93) (by decide +kernel)), inX1⟩
theorem fX11_357 : Fl RX11 357 RX1 TX1 5 0 := ⟨tm2 (List.mem_of_getElem? (i := 94) (by decide +kernel)), inX1⟩
theorem fX1_29 : Fl RX1 29 RX1 TX1 5 1 := ⟨tm2 (List.mem_of_getElem? (i := 95) (by decide +kernel)), inX1⟩
theorem fX9_161 : Fl RX9 161 RX1 TX1 5 1 := ⟨tm2 (List.mem_of_getElem? (i := 96) (by decide +kernel)), inX1⟩
theorem fX11_360 : Fl RX11 360 RX1 TX1 5 1 := ⟨tm2 (List.mem_of_getElem? (i := 97) (by decide +kernel)), inX1⟩
theorem fX1_9 : Fl RX1 9 RX1 TX1 5 2 := ⟨tm2 (List.mem_of_getElem? (i := 98) (by decide +kernel)), inX1⟩
theorem fX1_22 : Fl RX1 22 RX1 TX1 5 3 := ⟨tm2 (List.mem_of_getElem? (i := 99) (by decide +kernel)), inX1⟩
theorem fX1_19 : Fl RX1 19 RX1 TX1 5 4 := ⟨tm2 (List.mem_of_getElem? (i := 100) (by decide +kernel)), inX1⟩
theorem nX11_76 : Cond.classLink RX11 76 RX4 ∈ lw_tbl ∧ Cond.instantiable RX4 3 ∈ lw_tbl ∧ Cond.initialized RX4 ∈ lw_tbl := ⟨tm2 (List.mem_of_getElem? (i := 112) (by decide +kernel)), tm2 (List.mem_of_getElem? (i := 113) (by decide +kernel)), tm1 (List.mem_of_getElem? (i := 12) (by decide +kernel))⟩
theorem mX11_78 : Cond.methodLink RX11 78 qX4_init.1 ∈ lw_tbl := tm2 (List.mem_of_getElem? (i := 114) (by decide +kernel))
theorem mX4_1 : Cond.methodLink RX4 1 ⟨"java/lang/Object", "<init>", "()V"⟩ ∈ lw_tbl := tm2 (List.mem_of_getElem? (i := 117) (by decide +kernel))
theorem fX4_7 : Fl RX4 7 RX4 TX4 3 0 := ⟨tm2 (List.mem_of_getElem? (i := 118) (by decide +kernel)), inX4⟩
theorem fX11_383 : Fl RX11 383 RX4 TX4 3 0 := ⟨tm2 (List.mem_of_getElem? (i := 119) (by decide +kernel)), inX4⟩
theorem fX4_13 : Fl RX4 13 RX4 TX4 3 1 := ⟨tm2 (List.mem_of_getElem? (i := 120) (by decide +kernel)), inX4⟩
theorem fX4_16 : Fl RX4 16 RX4 TX4 3 2 := ⟨tm2 (List.mem_of_getElem? (i := 121) (by decide +kernel)), inX4⟩
theorem nX11_83 : Cond.classLink RX11 83 RX9 ∈ lw_tbl ∧ Cond.instantiable RX9 5 ∈ lw_tbl ∧ Cond.initialized RX9 ∈ lw_tbl := ⟨tm2 (List.mem_of_getElem? (i := 129) (by decide +kernel)), tm2 (List.mem_of_getElem? (i := 130) (by decide +kernel)), tm1 (List.mem_of_getElem? (i := 13) (by decide +kernel))⟩
theorem mX11_85 : Cond.methodLink RX11 85 qX9_init.1 ∈ lw_tbl := tm2 (List.mem_of_getElem? (i := 131) (by decide +kernel))
theorem mX9_3 : Cond.methodLink RX9 3 ⟨"java/lang/Object", "<init>", "()V"⟩ ∈ lw_tbl := tm2 (List.mem_of_getElem? (i := 134) (by decide +kernel))
theorem fX9_9 : Fl RX9 9 RX9 TX9 5 0 := ⟨tm2 (List.mem_of_getElem? (i := 135) (by decide +kernel)), inX9⟩
theorem fX9_15 : Fl RX9 15 RX9 TX9 5 1 := ⟨tm2 (List.mem_of_getElem? (i := 136) (by decide +kernel)), inX9⟩
theorem fX9_19 : Fl RX9 19 RX9 TX9 5 2 := ⟨tm2 (List.mem_of_getElem? (i := 137) (by decide +kernel)), inX9⟩
theorem fX9_23 : Fl RX9 23 RX9 TX9 5 3 := ⟨tm2 (List.mem_of_getElem? (i := 138) (by decide +kernel)), inX9⟩
theorem fX9_26 : Fl RX9 26 RX9 TX9 5 4 := ⟨tm2 (List.mem_of_getElem? (i := 139) (by decide +kernel)), inX9⟩
theorem fX11_9 : Fl RX11 9 RX11 TX11 17 0 := ⟨tm2 (List.mem_of_getElem? (i := 151) (by decide +kernel)), inX11⟩
theorem fX11_95 : Fl RX11 95 RX11 TX11 17 1 := ⟨tm2 (List.mem_of_getElem? (i := 152) (by decide +kernel)), inX11⟩
theorem fX11_92 : Fl RX11 92 RX11 TX11 17 2 := ⟨tm2 (List.mem_of_getElem? (i := 153) (by decide +kernel)), inX11⟩
theorem fX11_13 : Fl RX11 13 RX11 TX11 17 3 := ⟨tm2 (List.mem_of_getElem? (i := 154) (by decide +kernel)), inX11⟩
theorem fX11_17 : Fl RX11 17 RX11 TX11 17 4 := ⟨tm2 (List.mem_of_getElem? (i := 155) (by decide +kernel)), inX11⟩
theorem fX11_23 : Fl RX11 23 RX11 TX11 17 5 := ⟨tm2 (List.mem_of_getElem? (i := 156) (by decide +kernel)), inX11⟩
theorem fX11_27 : Fl RX11 27 RX11 TX11 17 6 := ⟨tm2 (List.mem_of_getElem? (i := 157) (by decide +kernel)), inX11⟩
theorem fX11_30 : Fl RX11 30 RX11 TX11 17 7 := ⟨tm2 (List.mem_of_getElem? (i := 158) (by decide +kernel)), inX11⟩
theorem fX11_150 : Fl RX11 150 RX11 TX11 17 8 := ⟨tm2 (List.mem_of_getElem? (i := 159) (by decide +kernel)), inX11⟩
theorem fX11_37 : Fl RX11 37 RX11 TX11 17 9 := ⟨tm2 (List.mem_of_getElem? (i := 160) (by decide +kernel)), inX11⟩
theorem fX11_44 : Fl RX11 44 RX11 TX11 17 10 := ⟨tm2 (List.mem_of_getElem? (i := 161) (by decide +kernel)), inX11⟩
theorem fX11_51 : Fl RX11 51 RX11 TX11 17 11 := ⟨tm2 (List.mem_of_getElem? (i := 162) (by decide +kernel)), inX11⟩
theorem fX11_58 : Fl RX11 58 RX11 TX11 17 12 := ⟨tm2 (List.mem_of_getElem? (i := 163) (by decide +kernel)), inX11⟩
theorem fX11_65 : Fl RX11 65 RX11 TX11 17 13 := ⟨tm2 (List.mem_of_getElem? (i := 164) (by decide +kernel)), inX11⟩
theorem fX11_72 : Fl RX11 72 RX11 TX11 17 14 := ⟨tm2 (List.mem_of_getElem? (i := 165) (by decide +kernel)), inX11⟩
theorem fX11_79 : Fl RX11 79 RX11 TX11 17 15 := ⟨tm2 (List.mem_of_getElem? (i := 166) (by decide +kernel)), inX11⟩
theorem fX11_88 : Fl RX11 88 RX11 TX11 17 16 := ⟨tm2 (List.mem_of_getElem? (i := 167) (by decide +kernel)), inX11⟩
theorem mL_13 : Cond.methodLink RL 13 qX11_status.1 ∈ lw_tbl := tm2 (List.mem_of_getElem? (i := 203) (by decide +kernel))
theorem mL_18 : Cond.methodLink RL 18 qX11_feed.1 ∈ lw_tbl := tm2 (List.mem_of_getElem? (i := 207) (by decide +kernel))
theorem mX11_98 : Cond.methodLink RX11 98 qX11_putOnTape.1 ∈ lw_tbl := tm2 (List.mem_of_getElem? (i := 211) (by decide +kernel))
theorem mL_23 : Cond.methodLink RL 23 qX11_load.1 ∈ lw_tbl := tm2 (List.mem_of_getElem? (i := 215) (by decide +kernel))
theorem mX11_102 : Cond.methodLink RX11 102 qX11_rangeStatus.1 ∈ lw_tbl := tm2 (List.mem_of_getElem? (i := 219) (by decide +kernel))
theorem mX11_106 : Cond.methodLink RX11 106 qX11_fails.1 ∈ lw_tbl := tm2 (List.mem_of_getElem? (i := 222) (by decide +kernel))
theorem mX11_110 : Cond.methodLink RX11 110 qX7_read.1 ∈ lw_tbl := tm2 (List.mem_of_getElem? (i := 226) (by decide +kernel))
theorem mX7_19 : Cond.methodLink RX7 19 qJ9_min_7cf53.1 ∈ lw_tbl := tm2 (List.mem_of_getElem? (i := 230) (by decide +kernel))
theorem mX7_29 : Cond.methodLink RX7 29 ⟨"java/lang/System", "arraycopy", "(Ljava/lang/Object;ILjava/lang/Object;II)V"⟩ ∈ lw_tbl := tm2 (List.mem_of_getElem? (i := 233) (by decide +kernel))
theorem mX7_35 : Cond.methodLink RX7 35 qX5_clear.1 ∈ lw_tbl := tm2 (List.mem_of_getElem? (i := 236) (by decide +kernel))
theorem mX7_52 : Cond.methodLink RX7 52 qX7_advance.1 ∈ lw_tbl := tm2 (List.mem_of_getElem? (i := 237) (by decide +kernel))
theorem mX7_103 : Cond.methodLink RX7 103 qX7_isLetter.1 ∈ lw_tbl := tm3 (List.mem_of_getElem? (i := 1) (by decide +kernel))
theorem mX7_107 : Cond.methodLink RX7 107 qX7_isDigit.1 ∈ lw_tbl := tm3 (List.mem_of_getElem? (i := 4) (by decide +kernel))
theorem mX7_58 : Cond.methodLink RX7 58 qX7_readLine.1 ∈ lw_tbl := tm3 (List.mem_of_getElem? (i := 7) (by decide +kernel))
theorem mX7_62 : Cond.methodLink RX7 62 qX7_lineKind.1 ∈ lw_tbl := tm3 (List.mem_of_getElem? (i := 11) (by decide +kernel))
theorem mX7_120 : Cond.methodLink RX7 120 qX7_spells.1 ∈ lw_tbl := tm3 (List.mem_of_getElem? (i := 16) (by decide +kernel))
theorem mX7_110 : Cond.methodLink RX7 110 qJ0_length_8abf5.1 ∈ lw_tbl := tm3 (List.mem_of_getElem? (i := 20) (by decide +kernel))
theorem mJ0_335 : Cond.methodLink RJ0 335 qJ0_coder_7d493.1 ∈ lw_tbl := tm3 (List.mem_of_getElem? (i := 24) (by decide +kernel))
theorem fJ0_38 : Cond.fieldLink RJ0 38 "java/lang/String" "COMPACT_STRINGS" "Z" ∈ lw_tbl := tm3 (List.mem_of_getElem? (i := 28) (by decide +kernel))
theorem mX7_114 : Cond.methodLink RX7 114 qJ0_charAt_5068e.1 ∈ lw_tbl := tm3 (List.mem_of_getElem? (i := 30) (by decide +kernel))
theorem mJ0_492 : Cond.methodLink RJ0 492 qJ0_isLatin1_aae02.1 ∈ lw_tbl := tm3 (List.mem_of_getElem? (i := 34) (by decide +kernel))
theorem mJ0_495 : Cond.methodLink RJ0 495 qJ1_charAt_3b067.1 ∈ lw_tbl := tm3 (List.mem_of_getElem? (i := 38) (by decide +kernel))
theorem mJ1_9 : Cond.methodLink RJ1 9 qJ0_checkIndex_df160.1 ∈ lw_tbl := tm3 (List.mem_of_getElem? (i := 41) (by decide +kernel))
theorem fJ0_1053 : Cond.fieldLink RJ0 1053 "jdk/internal/util/Preconditions" "SIOOBE_FORMATTER" "Ljava/util/function/BiFunction;" ∈ lw_tbl := tm3 (List.mem_of_getElem? (i := 44) (by decide +kernel))
theorem mJ0_1059 : Cond.methodLink RJ0 1059 qJ3_checkIndex_8e157.1 ∈ lw_tbl := tm3 (List.mem_of_getElem? (i := 46) (by decide +kernel))
theorem mJ0_498 : Cond.methodLink RJ0 498 qJ2_charAt_3b067.1 ∈ lw_tbl := tm3 (List.mem_of_getElem? (i := 49) (by decide +kernel))
theorem mJ2_67 : Cond.methodLink RJ2 67 qJ2_checkIndex_2214a.1 ∈ lw_tbl := tm3 (List.mem_of_getElem? (i := 52) (by decide +kernel))
theorem mJ2_48 : Cond.methodLink RJ2 48 qJ2_length_9d52b.1 ∈ lw_tbl := tm3 (List.mem_of_getElem? (i := 55) (by decide +kernel))
theorem mJ2_414 : Cond.methodLink RJ2 414 qJ0_checkIndex_df160.1 ∈ lw_tbl := tm3 (List.mem_of_getElem? (i := 58) (by decide +kernel))
theorem mJ2_71 : Cond.methodLink RJ2 71 qJ2_getChar_3b067.1 ∈ lw_tbl := tm3 (List.mem_of_getElem? (i := 59) (by decide +kernel))
theorem fJ2_44 : Cond.fieldLink RJ2 44 "java/lang/StringUTF16" "$assertionsDisabled" "Z" ∈ lw_tbl := tm3 (List.mem_of_getElem? (i := 62) (by decide +kernel))
theorem fJ2_59 : Cond.fieldLink RJ2 59 "java/lang/StringUTF16" "HI_BYTE_SHIFT" "I" ∈ lw_tbl := tm3 (List.mem_of_getElem? (i := 64) (by decide +kernel))
theorem fJ2_63 : Cond.fieldLink RJ2 63 "java/lang/StringUTF16" "LO_BYTE_SHIFT" "I" ∈ lw_tbl := tm3 (List.mem_of_getElem? (i := 66) (by decide +kernel))
theorem mX7_66 : Cond.methodLink RX7 66 qX7_finds.1 ∈ lw_tbl := tm3 (List.mem_of_getElem? (i := 75) (by decide +kernel))
theorem mX7_70 : Cond.methodLink RX7 70 qX5_has.1 ∈ lw_tbl := tm3 (List.mem_of_getElem? (i := 79) (by decide +kernel))
theorem mX7_74 : Cond.methodLink RX7 74 qX5_with.1 ∈ lw_tbl := tm3 (List.mem_of_getElem? (i := 82) (by decide +kernel))
theorem mX7_78 : Cond.methodLink RX7 78 qX7_numbersOf.1 ∈ lw_tbl := tm3 (List.mem_of_getElem? (i := 85) (by decide +kernel))
theorem mX7_82 : Cond.methodLink RX7 82 qX7_readNumber.1 ∈ lw_tbl := tm3 (List.mem_of_getElem? (i := 88) (by decide +kernel))
theorem mX7_86 : Cond.methodLink RX7 86 qX7_expect.1 ∈ lw_tbl := tm3 (List.mem_of_getElem? (i := 92) (by decide +kernel))
theorem mX7_93 : Cond.methodLink RX7 93 qX7_numberHere.1 ∈ lw_tbl := tm3 (List.mem_of_getElem? (i := 96) (by decide +kernel))
theorem mX7_96 : Cond.methodLink RX7 96 qX7_numberFault.1 ∈ lw_tbl := tm3 (List.mem_of_getElem? (i := 100) (by decide +kernel))
theorem mX7_141 : Cond.methodLink RX7 141 qX7_rangeFault.1 ∈ lw_tbl := tm3 (List.mem_of_getElem? (i := 104) (by decide +kernel))
theorem mX7_145 : Cond.methodLink RX7 145 qX5_isNode.1 ∈ lw_tbl := tm3 (List.mem_of_getElem? (i := 107) (by decide +kernel))
theorem mX7_148 : Cond.methodLink RX7 148 qX5_isOn.1 ∈ lw_tbl := tm3 (List.mem_of_getElem? (i := 111) (by decide +kernel))
theorem mX5_81 : Cond.methodLink RX5 81 qX5_isNode.1 ∈ lw_tbl := tm3 (List.mem_of_getElem? (i := 115) (by decide +kernel))
theorem mX5_85 : Cond.methodLink RX5 85 qX5_has.1 ∈ lw_tbl := tm3 (List.mem_of_getElem? (i := 116) (by decide +kernel))
theorem mX7_151 : Cond.methodLink RX7 151 qX7_nodeFault.1 ∈ lw_tbl := tm3 (List.mem_of_getElem? (i := 117) (by decide +kernel))
theorem mX7_155 : Cond.methodLink RX7 155 qX7_placeFault.1 ∈ lw_tbl := tm3 (List.mem_of_getElem? (i := 120) (by decide +kernel))
theorem mX7_89 : Cond.methodLink RX7 89 qX7_carryOut.1 ∈ lw_tbl := tm3 (List.mem_of_getElem? (i := 124) (by decide +kernel))
theorem mX7_158 : Cond.methodLink RX7 158 qX5_addNode.1 ∈ lw_tbl := tm3 (List.mem_of_getElem? (i := 128) (by decide +kernel))
theorem mX5_89 : Cond.methodLink RX5 89 qX5_bit.1 ∈ lw_tbl := tm3 (List.mem_of_getElem? (i := 132) (by decide +kernel))
theorem mX7_177 : Cond.methodLink RX7 177 qX5_at.1 ∈ lw_tbl := tm3 (List.mem_of_getElem? (i := 135) (by decide +kernel))
theorem mX11_116 : Cond.methodLink RX11 116 qX5_become.1 ∈ lw_tbl := tm3 (List.mem_of_getElem? (i := 138) (by decide +kernel))
theorem mX5_68 : Cond.methodLink RX5 68 ⟨"java/lang/System", "arraycopy", "(Ljava/lang/Object;ILjava/lang/Object;II)V"⟩ ∈ lw_tbl := tm3 (List.mem_of_getElem? (i := 142) (by decide +kernel))
theorem mX5_74 : Cond.methodLink RX5 74 qX3_become.1 ∈ lw_tbl := tm3 (List.mem_of_getElem? (i := 143) (by decide +kernel))
theorem mX3_36 : Cond.methodLink RX3 36 ⟨"java/lang/System", "arraycopy", "(Ljava/lang/Object;ILjava/lang/Object;II)V"⟩ ∈ lw_tbl := tm3 (List.mem_of_getElem? (i := 147) (by decide +kernel))
theorem mX5_78 : Cond.methodLink RX5 78 qX6_become.1 ∈ lw_tbl := tm3 (List.mem_of_getElem? (i := 148) (by decide +kernel))
theorem mX6_46 : Cond.methodLink RX6 46 ⟨"java/lang/System", "arraycopy", "(Ljava/lang/Object;ILjava/lang/Object;II)V"⟩ ∈ lw_tbl := tm3 (List.mem_of_getElem? (i := 152) (by decide +kernel))
theorem mL_28 : Cond.methodLink RL 28 qX11_fault.1 ∈ lw_tbl := tm3 (List.mem_of_getElem? (i := 153) (by decide +kernel))
theorem mL_32 : Cond.methodLink RL 32 qX11_many.1 ∈ lw_tbl := tm3 (List.mem_of_getElem? (i := 157) (by decide +kernel))
theorem mL_36 : Cond.methodLink RL 36 qX11_node.1 ∈ lw_tbl := tm3 (List.mem_of_getElem? (i := 161) (by decide +kernel))
theorem mX11_159 : Cond.methodLink RX11 159 qX11_nodeStatus.1 ∈ lw_tbl := tm3 (List.mem_of_getElem? (i := 165) (by decide +kernel))
theorem mX11_386 : Cond.methodLink RX11 386 qX5_isNode.1 ∈ lw_tbl := tm3 (List.mem_of_getElem? (i := 169) (by decide +kernel))
theorem mX11_163 : Cond.methodLink RX11 163 qX11_firstOf.1 ∈ lw_tbl := tm3 (List.mem_of_getElem? (i := 170) (by decide +kernel))
theorem mX11_167 : Cond.methodLink RX11 167 qX5_isOn.1 ∈ lw_tbl := tm3 (List.mem_of_getElem? (i := 173) (by decide +kernel))
theorem mX11_170 : Cond.methodLink RX11 170 qX11_asNumber.1 ∈ lw_tbl := tm3 (List.mem_of_getElem? (i := 174) (by decide +kernel))
theorem mX11_193 : Cond.methodLink RX11 193 qX0_behind.1 ∈ lw_tbl := tm3 (List.mem_of_getElem? (i := 177) (by decide +kernel))
theorem mX0_41 : Cond.methodLink RX0 41 qX0_willing.1 ∈ lw_tbl := tm3 (List.mem_of_getElem? (i := 180) (by decide +kernel))
theorem mX0_30 : Cond.methodLink RX0 30 qX5_has.1 ∈ lw_tbl := tm3 (List.mem_of_getElem? (i := 183) (by decide +kernel))
theorem mX0_37 : Cond.methodLink RX0 37 qX5_with.1 ∈ lw_tbl := tm3 (List.mem_of_getElem? (i := 184) (by decide +kernel))
theorem mX0_45 : Cond.methodLink RX0 45 qX0_knownOf.1 ∈ lw_tbl := tm3 (List.mem_of_getElem? (i := 185) (by decide +kernel))
theorem mX0_56 : Cond.methodLink RX0 56 qX5_at.1 ∈ lw_tbl := tm3 (List.mem_of_getElem? (i := 188) (by decide +kernel))
theorem mX0_49 : Cond.methodLink RX0 49 qX5_bit.1 ∈ lw_tbl := tm3 (List.mem_of_getElem? (i := 189) (by decide +kernel))
theorem mL_41 : Cond.methodLink RL 41 qX11_link.1 ∈ lw_tbl := tm3 (List.mem_of_getElem? (i := 190) (by decide +kernel))
theorem mX11_209 : Cond.methodLink RX11 209 qX11_pairStatus.1 ∈ lw_tbl := tm3 (List.mem_of_getElem? (i := 194) (by decide +kernel))
theorem mX11_215 : Cond.methodLink RX11 215 qX5_at.1 ∈ lw_tbl := tm3 (List.mem_of_getElem? (i := 198) (by decide +kernel))
theorem mX11_218 : Cond.methodLink RX11 218 qX5_has.1 ∈ lw_tbl := tm3 (List.mem_of_getElem? (i := 199) (by decide +kernel))
theorem mL_46 : Cond.methodLink RL 46 qX11_topology.1 ∈ lw_tbl := tm3 (List.mem_of_getElem? (i := 200) (by decide +kernel))
theorem mL_50 : Cond.methodLink RL 50 qX11_would.1 ∈ lw_tbl := tm3 (List.mem_of_getElem? (i := 204) (by decide +kernel))
theorem mX11_237 : Cond.methodLink RX11 237 qX0_chosen.1 ∈ lw_tbl := tm3 (List.mem_of_getElem? (i := 208) (by decide +kernel))
theorem mX0_60 : Cond.methodLink RX0 60 qX0_behind.1 ∈ lw_tbl := tm3 (List.mem_of_getElem? (i := 212) (by decide +kernel))
theorem mX0_78 : Cond.methodLink RX0 78 qX0_onlyWays.1 ∈ lw_tbl := tm3 (List.mem_of_getElem? (i := 213) (by decide +kernel))
theorem mX0_82 : Cond.methodLink RX0 82 qX0_pickMore.1 ∈ lw_tbl := tm3 (List.mem_of_getElem? (i := 216) (by decide +kernel))
theorem mX0_91 : Cond.methodLink RX0 91 qX0_best.1 ∈ lw_tbl := tm3 (List.mem_of_getElem? (i := 220) (by decide +kernel))
theorem mX0_66 : Cond.methodLink RX0 66 qJ6_bitCount_0f7a4.1 ∈ lw_tbl := tm3 (List.mem_of_getElem? (i := 223) (by decide +kernel))
theorem kJ6_265 : Cond.constant RJ6 265 (nI 1431655765) ∈ lw_tbl := tm3 (List.mem_of_getElem? (i := 226) (by decide +kernel))
theorem kJ6_266 : Cond.constant RJ6 266 (nI 858993459) ∈ lw_tbl := tm3 (List.mem_of_getElem? (i := 227) (by decide +kernel))
theorem kJ6_267 : Cond.constant RJ6 267 (nI 252645135) ∈ lw_tbl := tm3 (List.mem_of_getElem? (i := 228) (by decide +kernel))
theorem mX0_85 : Cond.methodLink RX0 85 qX0_dropSpare.1 ∈ lw_tbl := tm3 (List.mem_of_getElem? (i := 229) (by decide +kernel))
theorem mL_54 : Cond.methodLink RL 54 qX11_pick.1 ∈ lw_tbl := tm3 (List.mem_of_getElem? (i := 232) (by decide +kernel))
theorem mL_58 : Cond.methodLink RL 58 qX11_bestWill.1 ∈ lw_tbl := tm3 (List.mem_of_getElem? (i := 236) (by decide +kernel))
theorem mX11_246 : Cond.methodLink RX11 246 qX0_chosenByAll.1 ∈ lw_tbl := tm4 (List.mem_of_getElem? (i := 0) (by decide +kernel))
theorem mX0_71 : Cond.methodLink RX0 71 qX5_isOn.1 ∈ lw_tbl := tm4 (List.mem_of_getElem? (i := 4) (by decide +kernel))
theorem mX0_75 : Cond.methodLink RX0 75 qX0_chosen.1 ∈ lw_tbl := tm4 (List.mem_of_getElem? (i := 5) (by decide +kernel))
theorem mL_62 : Cond.methodLink RL 62 qX11_least.1 ∈ lw_tbl := tm4 (List.mem_of_getElem? (i := 6) (by decide +kernel))
theorem mX11_250 : Cond.methodLink RX11 250 qX0_fewest.1 ∈ lw_tbl := tm4 (List.mem_of_getElem? (i := 10) (by decide +kernel))
theorem mX0_63 : Cond.methodLink RX0 63 qX0_isFewer.1 ∈ lw_tbl := tm4 (List.mem_of_getElem? (i := 13) (by decide +kernel))
theorem mL_66 : Cond.methodLink RL 66 qX11_covers.1 ∈ lw_tbl := tm4 (List.mem_of_getElem? (i := 16) (by decide +kernel))
theorem mX11_253 : Cond.methodLink RX11 253 qX11_setStatus.1 ∈ lw_tbl := tm4 (List.mem_of_getElem? (i := 20) (by decide +kernel))
theorem mX11_256 : Cond.methodLink RX11 256 qX0_knownOf.1 ∈ lw_tbl := tm4 (List.mem_of_getElem? (i := 24) (by decide +kernel))
theorem mL_70 : Cond.methodLink RL 70 qX11_needed.1 ∈ lw_tbl := tm4 (List.mem_of_getElem? (i := 25) (by decide +kernel))
theorem mX11_260 : Cond.methodLink RX11 260 qX0_onlyWays.1 ∈ lw_tbl := tm4 (List.mem_of_getElem? (i := 29) (by decide +kernel))
theorem mL_74 : Cond.methodLink RL 74 qX11_waste.1 ∈ lw_tbl := tm4 (List.mem_of_getElem? (i := 30) (by decide +kernel))
theorem mX11_264 : Cond.methodLink RX11 264 qJ6_bitCount_0f7a4.1 ∈ lw_tbl := tm4 (List.mem_of_getElem? (i := 34) (by decide +kernel))
theorem mL_78 : Cond.methodLink RL 78 qX11_route.1 ∈ lw_tbl := tm4 (List.mem_of_getElem? (i := 35) (by decide +kernel))
theorem mX11_269 : Cond.methodLink RX11 269 qX8_find.1 ∈ lw_tbl := tm4 (List.mem_of_getElem? (i := 39) (by decide +kernel))
theorem mX8_37 : Cond.methodLink RX8 37 qX5_at.1 ∈ lw_tbl := tm4 (List.mem_of_getElem? (i := 43) (by decide +kernel))
theorem mX8_41 : Cond.methodLink RX8 41 qX5_has.1 ∈ lw_tbl := tm4 (List.mem_of_getElem? (i := 44) (by decide +kernel))
theorem mX8_45 : Cond.methodLink RX8 45 qX8_reachBehind.1 ∈ lw_tbl := tm4 (List.mem_of_getElem? (i := 45) (by decide +kernel))
theorem mX8_49 : Cond.methodLink RX8 49 qX8_reachFurther.1 ∈ lw_tbl := tm4 (List.mem_of_getElem? (i := 49) (by decide +kernel))
theorem mL_82 : Cond.methodLink RL 82 qX11_table.1 ∈ lw_tbl := tm4 (List.mem_of_getElem? (i := 53) (by decide +kernel))
theorem mX11_279 : Cond.methodLink RX11 279 qX5_with.1 ∈ lw_tbl := tm4 (List.mem_of_getElem? (i := 57) (by decide +kernel))
theorem mL_86 : Cond.methodLink RL 86 qX11_goes.1 ∈ lw_tbl := tm4 (List.mem_of_getElem? (i := 58) (by decide +kernel))
theorem mX11_283 : Cond.methodLink RX11 283 qX11_goingStatus.1 ∈ lw_tbl := tm4 (List.mem_of_getElem? (i := 62) (by decide +kernel))
theorem mX11_302 : Cond.methodLink RX11 302 qX11_isOff.1 ∈ lw_tbl := tm4 (List.mem_of_getElem? (i := 66) (by decide +kernel))
theorem mX11_286 : Cond.methodLink RX11 286 qX8_findAll.1 ∈ lw_tbl := tm4 (List.mem_of_getElem? (i := 70) (by decide +kernel))
theorem mX8_24 : Cond.methodLink RX8 24 qX8_find.1 ∈ lw_tbl := tm4 (List.mem_of_getElem? (i := 74) (by decide +kernel))
theorem mX11_289 : Cond.methodLink RX11 289 qX2_follow.1 ∈ lw_tbl := tm4 (List.mem_of_getElem? (i := 75) (by decide +kernel))
theorem mX2_22 : Cond.methodLink RX2 22 qX5_bit.1 ∈ lw_tbl := tm4 (List.mem_of_getElem? (i := 79) (by decide +kernel))
theorem mX2_36 : Cond.methodLink RX2 36 qX5_at.1 ∈ lw_tbl := tm4 (List.mem_of_getElem? (i := 80) (by decide +kernel))
theorem mX2_40 : Cond.methodLink RX2 40 qX5_isOn.1 ∈ lw_tbl := tm4 (List.mem_of_getElem? (i := 81) (by decide +kernel))
theorem mX2_47 : Cond.methodLink RX2 47 qX5_has.1 ∈ lw_tbl := tm4 (List.mem_of_getElem? (i := 82) (by decide +kernel))
theorem mX11_298 : Cond.methodLink RX11 298 qX2_end.1 ∈ lw_tbl := tm4 (List.mem_of_getElem? (i := 83) (by decide +kernel))
theorem mL_90 : Cond.methodLink RL 90 qX11_far.1 ∈ lw_tbl := tm4 (List.mem_of_getElem? (i := 87) (by decide +kernel))
theorem mX11_305 : Cond.methodLink RX11 305 qX10_see.1 ∈ lw_tbl := tm4 (List.mem_of_getElem? (i := 91) (by decide +kernel))
theorem mX10_28 : Cond.methodLink RX10 28 qX5_has.1 ∈ lw_tbl := tm4 (List.mem_of_getElem? (i := 95) (by decide +kernel))
theorem mX10_32 : Cond.methodLink RX10 32 qX5_with.1 ∈ lw_tbl := tm4 (List.mem_of_getElem? (i := 96) (by decide +kernel))
theorem mX10_36 : Cond.methodLink RX10 36 qX10_measure.1 ∈ lw_tbl := tm4 (List.mem_of_getElem? (i := 97) (by decide +kernel))
theorem mX10_40 : Cond.methodLink RX10 40 qX5_bit.1 ∈ lw_tbl := tm4 (List.mem_of_getElem? (i := 101) (by decide +kernel))
theorem mX10_44 : Cond.methodLink RX10 44 qX5_at.1 ∈ lw_tbl := tm4 (List.mem_of_getElem? (i := 102) (by decide +kernel))
theorem mX10_48 : Cond.methodLink RX10 48 qX10_pairsOf.1 ∈ lw_tbl := tm4 (List.mem_of_getElem? (i := 103) (by decide +kernel))
theorem mL_94 : Cond.methodLink RL 94 qX11_wrong.1 ∈ lw_tbl := tm4 (List.mem_of_getElem? (i := 107) (by decide +kernel))
theorem mX11_309 : Cond.methodLink RX11 309 qX11_isWrong.1 ∈ lw_tbl := tm4 (List.mem_of_getElem? (i := 111) (by decide +kernel))
theorem mL_98 : Cond.methodLink RL 98 qX11_told.1 ∈ lw_tbl := tm4 (List.mem_of_getElem? (i := 115) (by decide +kernel))
theorem mX11_312 : Cond.methodLink RX11 312 qX11_allIsTold.1 ∈ lw_tbl := tm4 (List.mem_of_getElem? (i := 119) (by decide +kernel))
theorem mL_102 : Cond.methodLink RL 102 qX11_settles.1 ∈ lw_tbl := tm4 (List.mem_of_getElem? (i := 123) (by decide +kernel))
theorem mX11_316 : Cond.methodLink RX11 316 qX11_ticksTillTold.1 ∈ lw_tbl := tm4 (List.mem_of_getElem? (i := 127) (by decide +kernel))
theorem mX11_349 : Cond.methodLink RX11 349 qX4_begin.1 ∈ lw_tbl := tm4 (List.mem_of_getElem? (i := 131) (by decide +kernel))
theorem mX11_379 : Cond.methodLink RX11 379 qX9_step.1 ∈ lw_tbl := tm4 (List.mem_of_getElem? (i := 135) (by decide +kernel))
theorem mX9_39 : Cond.methodLink RX9 39 qX9_sayHellos.1 ∈ lw_tbl := tm4 (List.mem_of_getElem? (i := 139) (by decide +kernel))
theorem mX9_87 : Cond.methodLink RX9 87 ⟨"java/lang/System", "arraycopy", "(Ljava/lang/Object;ILjava/lang/Object;II)V"⟩ ∈ lw_tbl := tm4 (List.mem_of_getElem? (i := 143) (by decide +kernel))
theorem mX9_43 : Cond.methodLink RX9 43 qX9_hearHellos.1 ∈ lw_tbl := tm4 (List.mem_of_getElem? (i := 144) (by decide +kernel))
theorem mX9_50 : Cond.methodLink RX9 50 qX5_isOn.1 ∈ lw_tbl := tm4 (List.mem_of_getElem? (i := 148) (by decide +kernel))
theorem mX9_96 : Cond.methodLink RX9 96 qX5_comesTo.1 ∈ lw_tbl := tm4 (List.mem_of_getElem? (i := 149) (by decide +kernel))
theorem mX5_93 : Cond.methodLink RX5 93 qX5_at.1 ∈ lw_tbl := tm4 (List.mem_of_getElem? (i := 153) (by decide +kernel))
theorem mX9_100 : Cond.methodLink RX9 100 qX4_loses.1 ∈ lw_tbl := tm4 (List.mem_of_getElem? (i := 154) (by decide +kernel))
theorem kX4_19 : Cond.constant RX4 19 (nI 51349) ∈ lw_tbl := tm4 (List.mem_of_getElem? (i := 158) (by decide +kernel))
theorem kX4_20 : Cond.constant RX4 20 (nI 243000) ∈ lw_tbl := tm4 (List.mem_of_getElem? (i := 159) (by decide +kernel))
theorem mX9_106 : Cond.methodLink RX9 106 qX9_prove.1 ∈ lw_tbl := tm4 (List.mem_of_getElem? (i := 160) (by decide +kernel))
theorem mX9_114 : Cond.methodLink RX9 114 qX5_at.1 ∈ lw_tbl := tm4 (List.mem_of_getElem? (i := 164) (by decide +kernel))
theorem mX9_121 : Cond.methodLink RX9 121 qX3_qualityAfter.1 ∈ lw_tbl := tm4 (List.mem_of_getElem? (i := 165) (by decide +kernel))
theorem mX9_125 : Cond.methodLink RX9 125 qX5_has.1 ∈ lw_tbl := tm4 (List.mem_of_getElem? (i := 168) (by decide +kernel))
theorem mX9_128 : Cond.methodLink RX9 128 qX5_isUpAt.1 ∈ lw_tbl := tm4 (List.mem_of_getElem? (i := 169) (by decide +kernel))
theorem mX9_132 : Cond.methodLink RX9 132 qX5_with.1 ∈ lw_tbl := tm4 (List.mem_of_getElem? (i := 173) (by decide +kernel))
theorem mX9_110 : Cond.methodLink RX9 110 qX9_learn.1 ∈ lw_tbl := tm4 (List.mem_of_getElem? (i := 174) (by decide +kernel))
theorem mX9_59 : Cond.methodLink RX9 59 qX0_chosen.1 ∈ lw_tbl := tm4 (List.mem_of_getElem? (i := 178) (by decide +kernel))
theorem mX9_69 : Cond.methodLink RX9 69 qX6_age.1 ∈ lw_tbl := tm4 (List.mem_of_getElem? (i := 179) (by decide +kernel))
theorem mX6_56 : Cond.methodLink RX6 56 qX5_at.1 ∈ lw_tbl := tm4 (List.mem_of_getElem? (i := 183) (by decide +kernel))
theorem mX6_62 : Cond.methodLink RX6 62 qJ9_max_7cf53.1 ∈ lw_tbl := tm4 (List.mem_of_getElem? (i := 184) (by decide +kernel))
theorem mX9_78 : Cond.methodLink RX9 78 qX9_sendNotices.1 ∈ lw_tbl := tm4 (List.mem_of_getElem? (i := 187) (by decide +kernel))
theorem mX9_142 : Cond.methodLink RX9 142 qX6_renew.1 ∈ lw_tbl := tm4 (List.mem_of_getElem? (i := 191) (by decide +kernel))
theorem mX9_148 : Cond.methodLink RX9 148 qX1_send.1 ∈ lw_tbl := tm4 (List.mem_of_getElem? (i := 195) (by decide +kernel))
theorem mX1_25 : Cond.methodLink RX1 25 qX1_stand.1 ∈ lw_tbl := tm4 (List.mem_of_getElem? (i := 199) (by decide +kernel))
theorem mX1_46 : Cond.methodLink RX1 46 qX5_has.1 ∈ lw_tbl := tm4 (List.mem_of_getElem? (i := 203) (by decide +kernel))
theorem mX1_66 : Cond.methodLink RX1 66 qX5_with.1 ∈ lw_tbl := tm4 (List.mem_of_getElem? (i := 204) (by decide +kernel))
theorem mX1_50 : Cond.methodLink RX1 50 qX5_comesTo.1 ∈ lw_tbl := tm4 (List.mem_of_getElem? (i := 205) (by decide +kernel))
theorem mX1_53 : Cond.methodLink RX1 53 qX4_loses.1 ∈ lw_tbl := tm4 (List.mem_of_getElem? (i := 206) (by decide +kernel))
theorem mX1_59 : Cond.methodLink RX1 59 qX1_hand.1 ∈ lw_tbl := tm4 (List.mem_of_getElem? (i := 207) (by decide +kernel))
theorem mX1_74 : Cond.methodLink RX1 74 qX5_at.1 ∈ lw_tbl := tm4 (List.mem_of_getElem? (i := 211) (by decide +kernel))
theorem mX1_89 : Cond.methodLink RX1 89 qX6_takeIn.1 ∈ lw_tbl := tm4 (List.mem_of_getElem? (i := 212) (by decide +kernel))
theorem mX6_52 : Cond.methodLink RX6 52 qX6_isOlder.1 ∈ lw_tbl := tm4 (List.mem_of_getElem? (i := 216) (by decide +kernel))
theorem mX9_155 : Cond.methodLink RX9 155 qJ6_bitCount_0f7a4.1 ∈ lw_tbl := tm4 (List.mem_of_getElem? (i := 219) (by decide +kernel))
theorem mX9_164 : Cond.methodLink RX9 164 qX6_write.1 ∈ lw_tbl := tm4 (List.mem_of_getElem? (i := 220) (by decide +kernel))
theorem mX9_81 : Cond.methodLink RX9 81 qX5_easeJams.1 ∈ lw_tbl := tm4 (List.mem_of_getElem? (i := 224) (by decide +kernel))
theorem mX5_97 : Cond.methodLink RX5 97 qJ9_max_7cf53.1 ∈ lw_tbl := tm4 (List.mem_of_getElem? (i := 228) (by decide +kernel))
theorem mL_106 : Cond.methodLink RL 106 qX11_path.1 ∈ lw_tbl := tm4 (List.mem_of_getElem? (i := 229) (by decide +kernel))
theorem mL_110 : Cond.methodLink RL 110 qX11_busy.1 ∈ lw_tbl := tm4 (List.mem_of_getElem? (i := 233) (by decide +kernel))
theorem mL_114 : Cond.methodLink RL 114 qX11_sure.1 ∈ lw_tbl := tm4 (List.mem_of_getElem? (i := 237) (by decide +kernel))
theorem kX11_325 : Cond.constant RX11 325 (nI 1000000) ∈ lw_tbl := tm5 (List.mem_of_getElem? (i := 1) (by decide +kernel))
theorem mL_118 : Cond.methodLink RL 118 qX11_astray.1 ∈ lw_tbl := tm5 (List.mem_of_getElem? (i := 2) (by decide +kernel))
theorem mX11_326 : Cond.methodLink RX11 326 qX11_isAstray.1 ∈ lw_tbl := tm5 (List.mem_of_getElem? (i := 6) (by decide +kernel))
theorem mL_122 : Cond.methodLink RL 122 qX11_proves.1 ∈ lw_tbl := tm5 (List.mem_of_getElem? (i := 10) (by decide +kernel))
theorem mX11_329 : Cond.methodLink RX11 329 qX3_qualityAfter.1 ∈ lw_tbl := tm5 (List.mem_of_getElem? (i := 14) (by decide +kernel))
theorem mX11_333 : Cond.methodLink RX11 333 qX5_isUpAt.1 ∈ lw_tbl := tm5 (List.mem_of_getElem? (i := 15) (by decide +kernel))
theorem mL_126 : Cond.methodLink RL 126 qX11_spine.1 ∈ lw_tbl := tm5 (List.mem_of_getElem? (i := 16) (by decide +kernel))
theorem mX11_337 : Cond.methodLink RX11 337 qX11_relaysOfAll.1 ∈ lw_tbl := tm5 (List.mem_of_getElem? (i := 20) (by decide +kernel))
theorem mX11_340 : Cond.methodLink RX11 340 qX10_isBack.1 ∈ lw_tbl := tm5 (List.mem_of_getElem? (i := 24) (by decide +kernel))
theorem mX10_54 : Cond.methodLink RX10 54 qX10_isJoined.1 ∈ lw_tbl := tm5 (List.mem_of_getElem? (i := 28) (by decide +kernel))
theorem mX10_51 : Cond.methodLink RX10 51 qX10_joinedTo.1 ∈ lw_tbl := tm5 (List.mem_of_getElem? (i := 32) (by decide +kernel))
theorem mX11_343 : Cond.methodLink RX11 343 qX10_smallestBack.1 ∈ lw_tbl := tm5 (List.mem_of_getElem? (i := 36) (by decide +kernel))
theorem mX10_58 : Cond.methodLink RX10 58 qJ6_bitCount_0f7a4.1 ∈ lw_tbl := tm5 (List.mem_of_getElem? (i := 40) (by decide +kernel))
theorem mX10_63 : Cond.methodLink RX10 63 qX10_isBack.1 ∈ lw_tbl := tm5 (List.mem_of_getElem? (i := 41) (by decide +kernel))
theorem mL_130 : Cond.methodLink RL 130 qX11_cuts.1 ∈ lw_tbl := tm5 (List.mem_of_getElem? (i := 42) (by decide +kernel))
theorem mX11_346 : Cond.methodLink RX11 346 qX10_isCut.1 ∈ lw_tbl := tm5 (List.mem_of_getElem? (i := 46) (by decide +kernel))
theorem mL_134 : Cond.methodLink RL 134 qX11_mends.1 ∈ lw_tbl := tm5 (List.mem_of_getElem? (i := 50) (by decide +kernel))
theorem mL_138 : Cond.methodLink RL 138 qX11_flood.1 ∈ lw_tbl := tm5 (List.mem_of_getElem? (i := 54) (by decide +kernel))
theorem mX11_353 : Cond.methodLink RX11 353 qX1_send.1 ∈ lw_tbl := tm5 (List.mem_of_getElem? (i := 58) (by decide +kernel))
theorem mL_142 : Cond.methodLink RL 142 qX11_notice.1 ∈ lw_tbl := tm5 (List.mem_of_getElem? (i := 59) (by decide +kernel))
theorem mX11_363 : Cond.methodLink RX11 363 qX6_written.1 ∈ lw_tbl := tm5 (List.mem_of_getElem? (i := 63) (by decide +kernel))
theorem mX6_67 : Cond.methodLink RX6 67 qJ9_floorMod_7cf53.1 ∈ lw_tbl := tm5 (List.mem_of_getElem? (i := 67) (by decide +kernel))
theorem mL_146 : Cond.methodLink RL 146 qX11_older.1 ∈ lw_tbl := tm5 (List.mem_of_getElem? (i := 70) (by decide +kernel))
theorem mX11_366 : Cond.methodLink RX11 366 qX6_isOlder.1 ∈ lw_tbl := tm5 (List.mem_of_getElem? (i := 74) (by decide +kernel))
theorem mL_150 : Cond.methodLink RL 150 qX11_echo.1 ∈ lw_tbl := tm5 (List.mem_of_getElem? (i := 75) (by decide +kernel))
theorem mX11_369 : Cond.methodLink RX11 369 qX6_takeIn.1 ∈ lw_tbl := tm5 (List.mem_of_getElem? (i := 79) (by decide +kernel))
theorem mL_155 : Cond.methodLink RL 155 qX11_add.1 ∈ lw_tbl := tm5 (List.mem_of_getElem? (i := 80) (by decide +kernel))
theorem mX11_373 : Cond.methodLink RX11 373 qX5_addNode.1 ∈ lw_tbl := tm5 (List.mem_of_getElem? (i := 84) (by decide +kernel))
theorem mL_159 : Cond.methodLink RL 159 qX11_turn.1 ∈ lw_tbl := tm5 (List.mem_of_getElem? (i := 85) (by decide +kernel))
theorem mL_164 : Cond.methodLink RL 164 qX11_will.1 ∈ lw_tbl := tm5 (List.mem_of_getElem? (i := 89) (by decide +kernel))
theorem mL_168 : Cond.methodLink RL 168 qX11_ear.1 ∈ lw_tbl := tm5 (List.mem_of_getElem? (i := 93) (by decide +kernel))
theorem mL_173 : Cond.methodLink RL 173 qX11_set.1 ∈ lw_tbl := tm5 (List.mem_of_getElem? (i := 97) (by decide +kernel))
theorem mX11_376 : Cond.methodLink RX11 376 qX11_settingStatus.1 ∈ lw_tbl := tm5 (List.mem_of_getElem? (i := 101) (by decide +kernel))
theorem mX11_389 : Cond.methodLink RX11 389 qJ9_max_7cf53.1 ∈ lw_tbl := tm5 (List.mem_of_getElem? (i := 105) (by decide +kernel))
theorem mL_177 : Cond.methodLink RL 177 qX11_jam.1 ∈ lw_tbl := tm5 (List.mem_of_getElem? (i := 106) (by decide +kernel))
theorem mL_181 : Cond.methodLink RL 181 qX11_tick.1 ∈ lw_tbl := tm5 (List.mem_of_getElem? (i := 110) (by decide +kernel))
theorem mL_185 : Cond.methodLink RL 185 qX11_run.1 ∈ lw_tbl := tm5 (List.mem_of_getElem? (i := 114) (by decide +kernel))
theorem mL_189 : Cond.methodLink RL 189 qX11_mark.1 ∈ lw_tbl := tm5 (List.mem_of_getElem? (i := 118) (by decide +kernel))
theorem mL_193 : Cond.methodLink RL 193 qX11_back.1 ∈ lw_tbl := tm5 (List.mem_of_getElem? (i := 122) (by decide +kernel))
theorem nL_10 : Cond.classLink RL 10 RX12 ∈ lw_tbl ∧ Cond.instantiable RX12 31 ∈ lw_tbl ∧ Cond.initialized RX12 ∈ lw_tbl := ⟨tm5 (List.mem_of_getElem? (i := 126) (by decide +kernel)), tm5 (List.mem_of_getElem? (i := 127) (by decide +kernel)), tm1 (List.mem_of_getElem? (i := 14) (by decide +kernel))⟩
theorem mL_12 : Cond.methodLink RL 12 qX12_init.1 ∈ lw_tbl := tm5 (List.mem_of_getElem? (i := 128) (by decide +kernel))
theorem mX12_1 : Cond.methodLink RX12 1 ⟨"java/lang/Object", "<init>", "()V"⟩ ∈ lw_tbl := tm5 (List.mem_of_getElem? (i := 131) (by decide +kernel))
theorem mX12_51 : Cond.methodLink RX12 51 qX12_begins.1 ∈ lw_tbl := tm5 (List.mem_of_getElem? (i := 132) (by decide +kernel))
theorem mX12_57 : Cond.methodLink RX12 57 qX12_puts.1 ∈ lw_tbl := tm5 (List.mem_of_getElem? (i := 136) (by decide +kernel))
theorem fX12_7 : Fl RX12 7 RX12 TX12 31 0 := ⟨tm5 (List.mem_of_getElem? (i := 140) (by decide +kernel)), inX12⟩
theorem fX12_54 : Fl RX12 54 RX12 TX12 31 1 := ⟨tm5 (List.mem_of_getElem? (i := 141) (by decide +kernel)), inX12⟩
theorem fX12_284 : Fl RX12 284 RX12 TX12 31 2 := ⟨tm5 (List.mem_of_getElem? (i := 142) (by decide +kernel)), inX12⟩
theorem fX12_13 : Fl RX12 13 RX12 TX12 31 3 := ⟨tm5 (List.mem_of_getElem? (i := 143) (by decide +kernel)), inX12⟩
theorem fX12_89 : Fl RX12 89 RX12 TX12 31 4 := ⟨tm5 (List.mem_of_getElem? (i := 144) (by decide +kernel)), inX12⟩
theorem fX12_96 : Fl RX12 96 RX12 TX12 31 5 := ⟨tm5 (List.mem_of_getElem? (i := 145) (by decide +kernel)), inX12⟩
theorem fX12_105 : Fl RX12 105 RX12 TX12 31 6 := ⟨tm5 (List.mem_of_getElem? (i := 146) (by decide +kernel)), inX12⟩
theorem fX12_111 : Fl RX12 111 RX12 TX12 31 7 := ⟨tm5 (List.mem_of_getElem? (i := 147) (by decide +kernel)), inX12⟩
theorem fX12_16 : Fl RX12 16 RX12 TX12 31 8 := ⟨tm5 (List.mem_of_getElem? (i := 148) (by decide +kernel)), inX12⟩
theorem fX12_19 : Fl RX12 19 RX12 TX12 31 9 := ⟨tm5 (List.mem_of_getElem? (i := 149) (by decide +kernel)), inX12⟩
theorem fX12_22 : Fl RX12 22 RX12 TX12 31 10 := ⟨tm5 (List.mem_of_getElem? (i := 150) (by decide +kernel)), inX12⟩
theorem fX12_25 : Fl RX12 25 RX12 TX12 31 11 := ⟨tm5 (List.mem_of_getElem? (i := 151) (by decide +kernel)), inX12⟩
theorem fX12_144 : Fl RX12 144 RX12 TX12 31 12 := ⟨tm5 (List.mem_of_getElem? (i := 152) (by decide +kernel)), inX12⟩
theorem fX12_147 : Fl RX12 147 RX12 TX12 31 13 := ⟨tm5 (List.mem_of_getElem? (i := 153) (by decide +kernel)), inX12⟩
theorem fX12_150 : Fl RX12 150 RX12 TX12 31 14 := ⟨tm5 (List.mem_of_getElem? (i := 154) (by decide +kernel)), inX12⟩
theorem fX12_28 : Fl RX12 28 RX12 TX12 31 15 := ⟨tm5 (List.mem_of_getElem? (i := 155) (by decide +kernel)), inX12⟩
theorem fX12_32 : Fl RX12 32 RX12 TX12 31 16 := ⟨tm5 (List.mem_of_getElem? (i := 156) (by decide +kernel)), inX12⟩
theorem fX12_178 : Fl RX12 178 RX12 TX12 31 17 := ⟨tm5 (List.mem_of_getElem? (i := 157) (by decide +kernel)), inX12⟩
theorem fX12_184 : Fl RX12 184 RX12 TX12 31 18 := ⟨tm5 (List.mem_of_getElem? (i := 158) (by decide +kernel)), inX12⟩
theorem fX12_196 : Fl RX12 196 RX12 TX12 31 19 := ⟨tm5 (List.mem_of_getElem? (i := 159) (by decide +kernel)), inX12⟩
theorem fX12_193 : Fl RX12 193 RX12 TX12 31 20 := ⟨tm5 (List.mem_of_getElem? (i := 160) (by decide +kernel)), inX12⟩
theorem fX12_187 : Fl RX12 187 RX12 TX12 31 21 := ⟨tm5 (List.mem_of_getElem? (i := 161) (by decide +kernel)), inX12⟩
theorem fX12_205 : Fl RX12 205 RX12 TX12 31 22 := ⟨tm5 (List.mem_of_getElem? (i := 162) (by decide +kernel)), inX12⟩
theorem fX12_223 : Fl RX12 223 RX12 TX12 31 23 := ⟨tm5 (List.mem_of_getElem? (i := 163) (by decide +kernel)), inX12⟩
theorem fX12_35 : Fl RX12 35 RX12 TX12 31 24 := ⟨tm5 (List.mem_of_getElem? (i := 164) (by decide +kernel)), inX12⟩
theorem fX12_39 : Fl RX12 39 RX12 TX12 31 25 := ⟨tm5 (List.mem_of_getElem? (i := 165) (by decide +kernel)), inX12⟩
theorem fX12_247 : Fl RX12 247 RX12 TX12 31 26 := ⟨tm5 (List.mem_of_getElem? (i := 166) (by decide +kernel)), inX12⟩
theorem fX12_42 : Fl RX12 42 RX12 TX12 31 27 := ⟨tm5 (List.mem_of_getElem? (i := 167) (by decide +kernel)), inX12⟩
theorem fX12_45 : Fl RX12 45 RX12 TX12 31 28 := ⟨tm5 (List.mem_of_getElem? (i := 168) (by decide +kernel)), inX12⟩
theorem fX12_48 : Fl RX12 48 RX12 TX12 31 29 := ⟨tm5 (List.mem_of_getElem? (i := 169) (by decide +kernel)), inX12⟩
theorem fX12_312 : Fl RX12 312 RX12 TX12 31 30 := ⟨tm5 (List.mem_of_getElem? (i := 170) (by decide +kernel)), inX12⟩
theorem mL_17 : Cond.methodLink RL 17 qX12_status.1 ∈ lw_tbl := tm5 (List.mem_of_getElem? (i := 234) (by decide +kernel))
theorem mL_22 : Cond.methodLink RL 22 qX12_feed.1 ∈ lw_tbl := tm5 (List.mem_of_getElem? (i := 238) (by decide +kernel))
theorem mX12_181 : Cond.methodLink RX12 181 qX12_four.1 ∈ lw_tbl := tm6 (List.mem_of_getElem? (i := 2) (by decide +kernel))
theorem mL_27 : Cond.methodLink RL 27 qX12_load.1 ∈ lw_tbl := tm6 (List.mem_of_getElem? (i := 6) (by decide +kernel))
theorem mX12_134 : Cond.methodLink RX12 134 qX12_isFrom.1 ∈ lw_tbl := tm6 (List.mem_of_getElem? (i := 10) (by decide +kernel))
theorem mX12_272 : Cond.methodLink RX12 272 qX12_refuse.1 ∈ lw_tbl := tm6 (List.mem_of_getElem? (i := 13) (by decide +kernel))
theorem mX12_275 : Cond.methodLink RX12 275 qX12_copies.1 ∈ lw_tbl := tm6 (List.mem_of_getElem? (i := 17) (by decide +kernel))
theorem mX12_229 : Cond.methodLink RX12 229 qX12_ahead.1 ∈ lw_tbl := tm6 (List.mem_of_getElem? (i := 21) (by decide +kernel))
theorem mX12_190 : Cond.methodLink RX12 190 qX12_byteAt.1 ∈ lw_tbl := tm6 (List.mem_of_getElem? (i := 25) (by decide +kernel))
theorem mX12_199 : Cond.methodLink RX12 199 qX12_isSmall.1 ∈ lw_tbl := tm6 (List.mem_of_getElem? (i := 29) (by decide +kernel))
theorem mX12_202 : Cond.methodLink RX12 202 qX12_isDigit.1 ∈ lw_tbl := tm6 (List.mem_of_getElem? (i := 32) (by decide +kernel))
theorem mX12_208 : Cond.methodLink RX12 208 qJ9_min_7cf53.1 ∈ lw_tbl := tm6 (List.mem_of_getElem? (i := 35) (by decide +kernel))
theorem mX12_278 : Cond.methodLink RX12 278 qX12_aLine.1 ∈ lw_tbl := tm6 (List.mem_of_getElem? (i := 36) (by decide +kernel))
theorem mX12_244 : Cond.methodLink RX12 244 qX12_key.1 ∈ lw_tbl := tm6 (List.mem_of_getElem? (i := 40) (by decide +kernel))
theorem mX12_213 : Cond.methodLink RX12 213 qJ0_length_8abf5.1 ∈ lw_tbl := tm6 (List.mem_of_getElem? (i := 45) (by decide +kernel))
theorem mX12_219 : Cond.methodLink RX12 219 qJ0_charAt_5068e.1 ∈ lw_tbl := tm6 (List.mem_of_getElem? (i := 46) (by decide +kernel))
theorem mX12_226 : Cond.methodLink RX12 226 qX12_fails.1 ∈ lw_tbl := tm6 (List.mem_of_getElem? (i := 47) (by decide +kernel))
theorem mX12_65 : Cond.methodLink RX12 65 qX12_has.1 ∈ lw_tbl := tm6 (List.mem_of_getElem? (i := 51) (by decide +kernel))
theorem mX12_250 : Cond.methodLink RX12 250 qX12_moreNodes.1 ∈ lw_tbl := tm6 (List.mem_of_getElem? (i := 54) (by decide +kernel))
theorem mX12_235 : Cond.methodLink RX12 235 qX12_isNumber.1 ∈ lw_tbl := tm6 (List.mem_of_getElem? (i := 58) (by decide +kernel))
theorem mX12_61 : Cond.methodLink RX12 61 qX12_of.1 ∈ lw_tbl := tm6 (List.mem_of_getElem? (i := 62) (by decide +kernel))
theorem mX12_238 : Cond.methodLink RX12 238 qX12_comes.1 ∈ lw_tbl := tm6 (List.mem_of_getElem? (i := 66) (by decide +kernel))
theorem mX12_141 : Cond.methodLink RX12 141 qX12_adds.1 ∈ lw_tbl := tm6 (List.mem_of_getElem? (i := 70) (by decide +kernel))
theorem mX12_232 : Cond.methodLink RX12 232 qX12_takes.1 ∈ lw_tbl := tm6 (List.mem_of_getElem? (i := 74) (by decide +kernel))
theorem mX12_253 : Cond.methodLink RX12 253 qX12_closes.1 ∈ lw_tbl := tm6 (List.mem_of_getElem? (i := 78) (by decide +kernel))
theorem mX12_256 : Cond.methodLink RX12 256 qX12_aWill.1 ∈ lw_tbl := tm6 (List.mem_of_getElem? (i := 82) (by decide +kernel))
theorem mX12_241 : Cond.methodLink RX12 241 qX12_isNodeHere.1 ∈ lw_tbl := tm6 (List.mem_of_getElem? (i := 86) (by decide +kernel))
theorem mX12_259 : Cond.methodLink RX12 259 qX12_anAir.1 ∈ lw_tbl := tm6 (List.mem_of_getElem? (i := 90) (by decide +kernel))
theorem mX12_263 : Cond.methodLink RX12 263 qX12_anOff.1 ∈ lw_tbl := tm6 (List.mem_of_getElem? (i := 94) (by decide +kernel))
theorem mX12_114 : Cond.methodLink RX12 114 qX12_isOn.1 ∈ lw_tbl := tm6 (List.mem_of_getElem? (i := 98) (by decide +kernel))
theorem mX12_266 : Cond.methodLink RX12 266 qX12_aTime.1 ∈ lw_tbl := tm6 (List.mem_of_getElem? (i := 102) (by decide +kernel))
theorem mX12_269 : Cond.methodLink RX12 269 qX12_aJam.1 ∈ lw_tbl := tm6 (List.mem_of_getElem? (i := 106) (by decide +kernel))
theorem mX12_69 : Cond.methodLink RX12 69 qX12_two.1 ∈ lw_tbl := tm6 (List.mem_of_getElem? (i := 110) (by decide +kernel))
theorem mX12_281 : Cond.methodLink RX12 281 qX12_gives.1 ∈ lw_tbl := tm6 (List.mem_of_getElem? (i := 113) (by decide +kernel))
theorem mL_31 : Cond.methodLink RL 31 qX12_fault.1 ∈ lw_tbl := tm6 (List.mem_of_getElem? (i := 117) (by decide +kernel))
theorem mL_35 : Cond.methodLink RL 35 qX12_many.1 ∈ lw_tbl := tm6 (List.mem_of_getElem? (i := 121) (by decide +kernel))
theorem mL_40 : Cond.methodLink RL 40 qX12_node.1 ∈ lw_tbl := tm6 (List.mem_of_getElem? (i := 125) (by decide +kernel))
theorem mX12_287 : Cond.methodLink RX12 287 qX12_isNode.1 ∈ lw_tbl := tm6 (List.mem_of_getElem? (i := 129) (by decide +kernel))
theorem mX12_80 : Cond.methodLink RX12 80 qX12_behind.1 ∈ lw_tbl := tm6 (List.mem_of_getElem? (i := 133) (by decide +kernel))
theorem mX12_73 : Cond.methodLink RX12 73 qX12_willing.1 ∈ lw_tbl := tm6 (List.mem_of_getElem? (i := 137) (by decide +kernel))
theorem mX12_76 : Cond.methodLink RX12 76 qX12_knownOf.1 ∈ lw_tbl := tm6 (List.mem_of_getElem? (i := 141) (by decide +kernel))
theorem mL_45 : Cond.methodLink RL 45 qX12_link.1 ∈ lw_tbl := tm6 (List.mem_of_getElem? (i := 145) (by decide +kernel))
theorem mX12_290 : Cond.methodLink RX12 290 qX12_wrongTwo.1 ∈ lw_tbl := tm6 (List.mem_of_getElem? (i := 149) (by decide +kernel))
theorem mL_49 : Cond.methodLink RL 49 qX12_topology.1 ∈ lw_tbl := tm6 (List.mem_of_getElem? (i := 153) (by decide +kernel))
theorem mL_53 : Cond.methodLink RL 53 qX12_would.1 ∈ lw_tbl := tm6 (List.mem_of_getElem? (i := 157) (by decide +kernel))
theorem mX12_166 : Cond.methodLink RX12 166 qX12_chosen.1 ∈ lw_tbl := tm6 (List.mem_of_getElem? (i := 161) (by decide +kernel))
theorem mX12_86 : Cond.methodLink RX12 86 qX12_aloneOf.1 ∈ lw_tbl := tm6 (List.mem_of_getElem? (i := 165) (by decide +kernel))
theorem mX12_92 : Cond.methodLink RX12 92 qX12_isBetter.1 ∈ lw_tbl := tm6 (List.mem_of_getElem? (i := 169) (by decide +kernel))
theorem mX12_83 : Cond.methodLink RX12 83 qX12_bits.1 ∈ lw_tbl := tm6 (List.mem_of_getElem? (i := 173) (by decide +kernel))
theorem mL_57 : Cond.methodLink RL 57 qX12_pick.1 ∈ lw_tbl := tm6 (List.mem_of_getElem? (i := 176) (by decide +kernel))
theorem mL_61 : Cond.methodLink RL 61 qX12_bestWill.1 ∈ lw_tbl := tm6 (List.mem_of_getElem? (i := 180) (by decide +kernel))
theorem mL_65 : Cond.methodLink RL 65 qX12_least.1 ∈ lw_tbl := tm6 (List.mem_of_getElem? (i := 184) (by decide +kernel))
theorem mX12_293 : Cond.methodLink RX12 293 qX12_leastOf.1 ∈ lw_tbl := tm6 (List.mem_of_getElem? (i := 188) (by decide +kernel))
theorem mL_69 : Cond.methodLink RL 69 qX12_covers.1 ∈ lw_tbl := tm6 (List.mem_of_getElem? (i := 192) (by decide +kernel))
theorem mX12_296 : Cond.methodLink RX12 296 qX12_isSet.1 ∈ lw_tbl := tm6 (List.mem_of_getElem? (i := 196) (by decide +kernel))
theorem mL_73 : Cond.methodLink RL 73 qX12_needed.1 ∈ lw_tbl := tm6 (List.mem_of_getElem? (i := 200) (by decide +kernel))
theorem mL_77 : Cond.methodLink RL 77 qX12_waste.1 ∈ lw_tbl := tm6 (List.mem_of_getElem? (i := 204) (by decide +kernel))
theorem mL_81 : Cond.methodLink RL 81 qX12_route.1 ∈ lw_tbl := tm6 (List.mem_of_getElem? (i := 208) (by decide +kernel))
theorem mX12_306 : Cond.methodLink RX12 306 qX12_laysRoutes.1 ∈ lw_tbl := tm6 (List.mem_of_getElem? (i := 212) (by decide +kernel))
theorem mX12_299 : Cond.methodLink RX12 299 qX12_goesOn.1 ∈ lw_tbl := tm6 (List.mem_of_getElem? (i := 216) (by decide +kernel))
theorem mX12_303 : Cond.methodLink RX12 303 qX12_isKnown.1 ∈ lw_tbl := tm6 (List.mem_of_getElem? (i := 220) (by decide +kernel))
theorem mL_85 : Cond.methodLink RL 85 qX12_table.1 ∈ lw_tbl := tm6 (List.mem_of_getElem? (i := 224) (by decide +kernel))
theorem mX12_309 : Cond.methodLink RX12 309 qX12_tableOf.1 ∈ lw_tbl := tm6 (List.mem_of_getElem? (i := 228) (by decide +kernel))
theorem mL_89 : Cond.methodLink RL 89 qX12_goes.1 ∈ lw_tbl := tm6 (List.mem_of_getElem? (i := 232) (by decide +kernel))
theorem mX12_315 : Cond.methodLink RX12 315 qX12_wrongGoing.1 ∈ lw_tbl := tm6 (List.mem_of_getElem? (i := 236) (by decide +kernel))
theorem mX12_318 : Cond.methodLink RX12 318 qX12_going.1 ∈ lw_tbl := tm7 (List.mem_of_getElem? (i := 0) (by decide +kernel))
theorem mL_109 : Cond.methodLink RL 109 qX12_path.1 ∈ lw_tbl := tm7 (List.mem_of_getElem? (i := 4) (by decide +kernel))
theorem mL_93 : Cond.methodLink RL 93 qX12_far.1 ∈ lw_tbl := tm7 (List.mem_of_getElem? (i := 8) (by decide +kernel))
theorem mX12_327 : Cond.methodLink RX12 327 qX12_farOf.1 ∈ lw_tbl := tm7 (List.mem_of_getElem? (i := 12) (by decide +kernel))
theorem mX12_324 : Cond.methodLink RX12 324 qX12_farBy.1 ∈ lw_tbl := tm7 (List.mem_of_getElem? (i := 16) (by decide +kernel))
theorem mX12_321 : Cond.methodLink RX12 321 qX12_isPair.1 ∈ lw_tbl := tm7 (List.mem_of_getElem? (i := 20) (by decide +kernel))
theorem mL_97 : Cond.methodLink RL 97 qX12_wrong.1 ∈ lw_tbl := tm7 (List.mem_of_getElem? (i := 24) (by decide +kernel))
theorem mX12_330 : Cond.methodLink RX12 330 qX12_wrongOf.1 ∈ lw_tbl := tm7 (List.mem_of_getElem? (i := 28) (by decide +kernel))
theorem mL_101 : Cond.methodLink RL 101 qX12_told.1 ∈ lw_tbl := tm7 (List.mem_of_getElem? (i := 32) (by decide +kernel))
theorem mX12_333 : Cond.methodLink RX12 333 qX12_isTold.1 ∈ lw_tbl := tm7 (List.mem_of_getElem? (i := 36) (by decide +kernel))
theorem mL_105 : Cond.methodLink RL 105 qX12_settles.1 ∈ lw_tbl := tm7 (List.mem_of_getElem? (i := 40) (by decide +kernel))
theorem mX12_339 : Cond.methodLink RX12 339 qX12_settlesNow.1 ∈ lw_tbl := tm7 (List.mem_of_getElem? (i := 44) (by decide +kernel))
theorem mX12_336 : Cond.methodLink RX12 336 qX12_ticks.1 ∈ lw_tbl := tm7 (List.mem_of_getElem? (i := 48) (by decide +kernel))
theorem mX12_163 : Cond.methodLink RX12 163 qX12_hears.1 ∈ lw_tbl := tm7 (List.mem_of_getElem? (i := 52) (by decide +kernel))
theorem mX12_118 : Cond.methodLink RX12 118 qX12_isLost.1 ∈ lw_tbl := tm7 (List.mem_of_getElem? (i := 56) (by decide +kernel))
theorem mX12_108 : Cond.methodLink RX12 108 qX12_drawBy.1 ∈ lw_tbl := tm7 (List.mem_of_getElem? (i := 60) (by decide +kernel))
theorem kX12_99 : Cond.constantLong RX12 99 (lN 4561) ∈ lw_tbl := tm7 (List.mem_of_getElem? (i := 64) (by decide +kernel))
theorem kX12_101 : Cond.constantLong RX12 101 (lN 51349) ∈ lw_tbl := tm7 (List.mem_of_getElem? (i := 65) (by decide +kernel))
theorem kX12_103 : Cond.constantLong RX12 103 (lN 243000) ∈ lw_tbl := tm7 (List.mem_of_getElem? (i := 66) (by decide +kernel))
theorem mX12_122 : Cond.methodLink RX12 122 qX12_proved.1 ∈ lw_tbl := tm7 (List.mem_of_getElem? (i := 67) (by decide +kernel))
theorem mX12_126 : Cond.methodLink RX12 126 qX12_isUp.1 ∈ lw_tbl := tm7 (List.mem_of_getElem? (i := 70) (by decide +kernel))
theorem mX12_130 : Cond.methodLink RX12 130 qX12_with.1 ∈ lw_tbl := tm7 (List.mem_of_getElem? (i := 74) (by decide +kernel))
theorem mX12_169 : Cond.methodLink RX12 169 qX12_notices.1 ∈ lw_tbl := tm7 (List.mem_of_getElem? (i := 77) (by decide +kernel))
theorem mX12_159 : Cond.methodLink RX12 159 qX12_floods.1 ∈ lw_tbl := tm7 (List.mem_of_getElem? (i := 81) (by decide +kernel))
theorem mX12_153 : Cond.methodLink RX12 153 qX12_mayGet.1 ∈ lw_tbl := tm7 (List.mem_of_getElem? (i := 85) (by decide +kernel))
theorem mX12_156 : Cond.methodLink RX12 156 qX12_takesIn.1 ∈ lw_tbl := tm7 (List.mem_of_getElem? (i := 89) (by decide +kernel))
theorem mX12_138 : Cond.methodLink RX12 138 qX12_isOlder.1 ∈ lw_tbl := tm7 (List.mem_of_getElem? (i := 93) (by decide +kernel))
theorem mX12_173 : Cond.methodLink RX12 173 qJ9_max_7cf53.1 ∈ lw_tbl := tm7 (List.mem_of_getElem? (i := 97) (by decide +kernel))
theorem mL_137 : Cond.methodLink RL 137 qX12_mends.1 ∈ lw_tbl := tm7 (List.mem_of_getElem? (i := 98) (by decide +kernel))
theorem mL_113 : Cond.methodLink RL 113 qX12_busy.1 ∈ lw_tbl := tm7 (List.mem_of_getElem? (i := 102) (by decide +kernel))
theorem mL_117 : Cond.methodLink RL 117 qX12_sure.1 ∈ lw_tbl := tm7 (List.mem_of_getElem? (i := 106) (by decide +kernel))
theorem kX12_342 : Cond.constant RX12 342 (nI 1000000) ∈ lw_tbl := tm7 (List.mem_of_getElem? (i := 110) (by decide +kernel))
theorem kX12_343 : Cond.constantLong RX12 343 (lN 999) ∈ lw_tbl := tm7 (List.mem_of_getElem? (i := 111) (by decide +kernel))
theorem mL_121 : Cond.methodLink RL 121 qX12_astray.1 ∈ lw_tbl := tm7 (List.mem_of_getElem? (i := 112) (by decide +kernel))
theorem mL_125 : Cond.methodLink RL 125 qX12_proves.1 ∈ lw_tbl := tm7 (List.mem_of_getElem? (i := 116) (by decide +kernel))
theorem mL_129 : Cond.methodLink RL 129 qX12_spine.1 ∈ lw_tbl := tm7 (List.mem_of_getElem? (i := 120) (by decide +kernel))
theorem mX12_345 : Cond.methodLink RX12 345 qX12_spineNow.1 ∈ lw_tbl := tm7 (List.mem_of_getElem? (i := 124) (by decide +kernel))
theorem mX12_348 : Cond.methodLink RX12 348 qX12_isBack.1 ∈ lw_tbl := tm7 (List.mem_of_getElem? (i := 128) (by decide +kernel))
theorem mL_133 : Cond.methodLink RL 133 qX12_cuts.1 ∈ lw_tbl := tm7 (List.mem_of_getElem? (i := 132) (by decide +kernel))
theorem mL_141 : Cond.methodLink RL 141 qX12_flood.1 ∈ lw_tbl := tm7 (List.mem_of_getElem? (i := 136) (by decide +kernel))
theorem mL_145 : Cond.methodLink RL 145 qX12_notice.1 ∈ lw_tbl := tm7 (List.mem_of_getElem? (i := 140) (by decide +kernel))
theorem mL_149 : Cond.methodLink RL 149 qX12_older.1 ∈ lw_tbl := tm7 (List.mem_of_getElem? (i := 144) (by decide +kernel))
theorem mL_154 : Cond.methodLink RL 154 qX12_echo.1 ∈ lw_tbl := tm7 (List.mem_of_getElem? (i := 148) (by decide +kernel))
theorem mL_158 : Cond.methodLink RL 158 qX12_add.1 ∈ lw_tbl := tm7 (List.mem_of_getElem? (i := 152) (by decide +kernel))
theorem mL_163 : Cond.methodLink RL 163 qX12_turn.1 ∈ lw_tbl := tm7 (List.mem_of_getElem? (i := 156) (by decide +kernel))
theorem mX12_351 : Cond.methodLink RX12 351 qX12_isSo.1 ∈ lw_tbl := tm7 (List.mem_of_getElem? (i := 160) (by decide +kernel))
theorem mL_167 : Cond.methodLink RL 167 qX12_will.1 ∈ lw_tbl := tm7 (List.mem_of_getElem? (i := 164) (by decide +kernel))
theorem mL_172 : Cond.methodLink RL 172 qX12_ear.1 ∈ lw_tbl := tm7 (List.mem_of_getElem? (i := 168) (by decide +kernel))
theorem mL_176 : Cond.methodLink RL 176 qX12_set.1 ∈ lw_tbl := tm7 (List.mem_of_getElem? (i := 172) (by decide +kernel))
theorem mL_180 : Cond.methodLink RL 180 qX12_jam.1 ∈ lw_tbl := tm7 (List.mem_of_getElem? (i := 176) (by decide +kernel))
theorem mL_184 : Cond.methodLink RL 184 qX12_tick.1 ∈ lw_tbl := tm7 (List.mem_of_getElem? (i := 180) (by decide +kernel))
theorem mX12_354 : Cond.methodLink RX12 354 qX12_tickBy.1 ∈ lw_tbl := tm7 (List.mem_of_getElem? (i := 184) (by decide +kernel))
theorem mL_188 : Cond.methodLink RL 188 qX12_run.1 ∈ lw_tbl := tm7 (List.mem_of_getElem? (i := 188) (by decide +kernel))
theorem mL_192 : Cond.methodLink RL 192 qX12_mark.1 ∈ lw_tbl := tm7 (List.mem_of_getElem? (i := 192) (by decide +kernel))
theorem mL_196 : Cond.methodLink RL 196 qX12_back.1 ∈ lw_tbl := tm7 (List.mem_of_getElem? (i := 196) (by decide +kernel))
theorem fJ0_9 : Cond.fieldLink RJ0 9 "java/lang/String" "value" "[B" ∈ lw_tbl := tm7 (List.mem_of_getElem? (i := 200) (by decide +kernel))
theorem fJ0_15 : Cond.fieldLink RJ0 15 "java/lang/String" "coder" "B" ∈ lw_tbl := tm7 (List.mem_of_getElem? (i := 201) (by decide +kernel))
