/-! names, printed by a program of ours out of what TURN printed: classes, fields, methods, and that the tables hold their words -/
theorem tm0 {w : Cond} (h : w ∈ k2_sels lw_privs) : w ∈ lw_tbl := List.mem_append_left _ h
theorem tm1 {w : Cond} (h : w ∈ tables_1_1) : w ∈ lw_tbl := List.mem_append_right _ (List.mem_append_left _ h)
theorem tm2 {w : Cond} (h : w ∈ tables_1_2) : w ∈ lw_tbl := List.mem_append_right _ (List.mem_append_right _ (List.mem_append_left _ h))
theorem tm3 {w : Cond} (h : w ∈ tables_1_3) : w ∈ lw_tbl := List.mem_append_right _ (List.mem_append_right _ (List.mem_append_right _ h))
theorem in_of {C : String} {T : u_T} {N : Nat} (h : ∀ k, k < N → u_lay C T k ∈ lw_tbl) : ∀ w ∈ u_ws C T N, w ∈ lw_tbl := by
  intro w hw
  obtain ⟨k, hk, rfl⟩ := List.mem_map.mp hw
  exact h k (List.mem_range.mp hk)
def RX0 : String := "ChosenRelays$Choice"
def TX0 : u_T := fun k => match k with
  | 0 => ("ChosenRelays$Choice", "picked", "[I", true)
  | _ => ("ChosenRelays$Choice", "pickedCount", "I", false)
def tyX0 : Nat → FieldType := fun k => match k with
  | 0 => .array .int
  | _ => .int
theorem nmX0 : ∀ a, a < 2 → ∀ b, b < 2 → a ≠ b → (TX0 a).2.1 ≠ (TX0 b).2.1 := by decide +kernel
theorem okX0 : ∀ k, k < 2 → parseFieldDescriptor (TX0 k).2.2.1 = some (tyX0 k) := by decide +kernel
theorem inX0 : ∀ w ∈ u_ws RX0 TX0 2, w ∈ lw_tbl := in_of (fun k hk => match k, hk with
  | 0, _ => tm1 (List.mem_of_getElem? (i := 224) (by decide +kernel))
  | 1, _ => tm1 (List.mem_of_getElem? (i := 226) (by decide +kernel))
  | k + 2, hk => absurd hk (by omega))
def RX1 : String := "ChosenRelays$Flood"
def TX1 : u_T := fun k => match k with
  | 0 => ("ChosenRelays$Flood", "got", "I", false)
  | 1 => ("ChosenRelays$Flood", "sent", "I", false)
  | 2 => ("ChosenRelays$Flood", "row", "[I", true)
  | 3 => ("ChosenRelays$Flood", "inRow", "I", false)
  | _ => ("ChosenRelays$Flood", "stood", "I", false)
def tyX1 : Nat → FieldType := fun k => match k with
  | 0 => .int
  | 1 => .int
  | 2 => .array .int
  | 3 => .int
  | _ => .int
theorem nmX1 : ∀ a, a < 5 → ∀ b, b < 5 → a ≠ b → (TX1 a).2.1 ≠ (TX1 b).2.1 := by decide +kernel
theorem okX1 : ∀ k, k < 5 → parseFieldDescriptor (TX1 k).2.2.1 = some (tyX1 k) := by decide +kernel
theorem inX1 : ∀ w ∈ u_ws RX1 TX1 5, w ∈ lw_tbl := in_of (fun k hk => match k, hk with
  | 0, _ => tm2 (List.mem_of_getElem? (i := 46) (by decide +kernel))
  | 1, _ => tm2 (List.mem_of_getElem? (i := 48) (by decide +kernel))
  | 2, _ => tm2 (List.mem_of_getElem? (i := 50) (by decide +kernel))
  | 3, _ => tm2 (List.mem_of_getElem? (i := 52) (by decide +kernel))
  | 4, _ => tm2 (List.mem_of_getElem? (i := 54) (by decide +kernel))
  | k + 5, hk => absurd hk (by omega))
def RX2 : String := "ChosenRelays$Going"
def TX2 : u_T := fun k => match k with
  | 0 => ("ChosenRelays$Going", "nodes", "[I", true)
  | 1 => ("ChosenRelays$Going", "steps", "I", false)
  | 2 => ("ChosenRelays$Going", "ending", "I", false)
  | _ => ("ChosenRelays$Going", "been", "I", false)
def tyX2 : Nat → FieldType := fun k => match k with
  | 0 => .array .int
  | 1 => .int
  | 2 => .int
  | _ => .int
theorem nmX2 : ∀ a, a < 4 → ∀ b, b < 4 → a ≠ b → (TX2 a).2.1 ≠ (TX2 b).2.1 := by decide +kernel
theorem okX2 : ∀ k, k < 4 → parseFieldDescriptor (TX2 k).2.2.1 = some (tyX2 k) := by decide +kernel
theorem inX2 : ∀ w ∈ u_ws RX2 TX2 4, w ∈ lw_tbl := in_of (fun k hk => match k, hk with
  | 0, _ => tm2 (List.mem_of_getElem? (i := 9) (by decide +kernel))
  | 1, _ => tm2 (List.mem_of_getElem? (i := 11) (by decide +kernel))
  | 2, _ => tm2 (List.mem_of_getElem? (i := 13) (by decide +kernel))
  | 3, _ => tm2 (List.mem_of_getElem? (i := 15) (by decide +kernel))
  | k + 4, hk => absurd hk (by omega))
def RX3 : String := "ChosenRelays$Links"
def TX3 : u_T := fun k => match k with
  | 0 => ("ChosenRelays$Links", "qualities", "[I", true)
  | 1 => ("ChosenRelays$Links", "knowns", "[I", true)
  | 2 => ("ChosenRelays$Links", "ups", "[I", true)
  | 3 => ("ChosenRelays$Links", "neighbours", "[I", true)
  | 4 => ("ChosenRelays$Links", "choosers", "[I", true)
  | _ => ("ChosenRelays$Links", "relays", "[I", true)
def tyX3 : Nat → FieldType := fun k => match k with
  | 0 => .array .int
  | 1 => .array .int
  | 2 => .array .int
  | 3 => .array .int
  | 4 => .array .int
  | _ => .array .int
theorem nmX3 : ∀ a, a < 6 → ∀ b, b < 6 → a ≠ b → (TX3 a).2.1 ≠ (TX3 b).2.1 := by decide +kernel
theorem okX3 : ∀ k, k < 6 → parseFieldDescriptor (TX3 k).2.2.1 = some (tyX3 k) := by decide +kernel
theorem inX3 : ∀ w ∈ u_ws RX3 TX3 6, w ∈ lw_tbl := in_of (fun k hk => match k, hk with
  | 0, _ => tm1 (List.mem_of_getElem? (i := 59) (by decide +kernel))
  | 1, _ => tm1 (List.mem_of_getElem? (i := 61) (by decide +kernel))
  | 2, _ => tm1 (List.mem_of_getElem? (i := 63) (by decide +kernel))
  | 3, _ => tm1 (List.mem_of_getElem? (i := 65) (by decide +kernel))
  | 4, _ => tm1 (List.mem_of_getElem? (i := 67) (by decide +kernel))
  | 5, _ => tm1 (List.mem_of_getElem? (i := 69) (by decide +kernel))
  | k + 6, hk => absurd hk (by omega))
def RX4 : String := "ChosenRelays$Losses"
def TX4 : u_T := fun k => match k with
  | 0 => ("ChosenRelays$Losses", "lost", "I", false)
  | 1 => ("ChosenRelays$Losses", "drawn", "I", false)
  | _ => ("ChosenRelays$Losses", "loss", "I", false)
def tyX4 : Nat → FieldType := fun k => match k with
  | 0 => .int
  | 1 => .int
  | _ => .int
theorem nmX4 : ∀ a, a < 3 → ∀ b, b < 3 → a ≠ b → (TX4 a).2.1 ≠ (TX4 b).2.1 := by decide +kernel
theorem okX4 : ∀ k, k < 3 → parseFieldDescriptor (TX4 k).2.2.1 = some (tyX4 k) := by decide +kernel
theorem inX4 : ∀ w ∈ u_ws RX4 TX4 3, w ∈ lw_tbl := in_of (fun k hk => match k, hk with
  | 0, _ => tm2 (List.mem_of_getElem? (i := 66) (by decide +kernel))
  | 1, _ => tm2 (List.mem_of_getElem? (i := 68) (by decide +kernel))
  | 2, _ => tm2 (List.mem_of_getElem? (i := 70) (by decide +kernel))
  | k + 3, hk => absurd hk (by omega))
def RX5 : String := "ChosenRelays$Mesh"
def TX5 : u_T := fun k => match k with
  | 0 => ("ChosenRelays$Mesh", "count", "I", false)
  | 1 => ("ChosenRelays$Mesh", "on", "I", false)
  | 2 => ("ChosenRelays$Mesh", "ticks", "I", false)
  | 3 => ("ChosenRelays$Mesh", "every", "I", false)
  | 4 => ("ChosenRelays$Mesh", "hold", "I", false)
  | 5 => ("ChosenRelays$Mesh", "rise", "I", false)
  | 6 => ("ChosenRelays$Mesh", "fall", "I", false)
  | 7 => ("ChosenRelays$Mesh", "wills", "[I", true)
  | 8 => ("ChosenRelays$Mesh", "hears", "[I", true)
  | 9 => ("ChosenRelays$Mesh", "jams", "[I", true)
  | 10 => ("ChosenRelays$Mesh", "links", "LChosenRelays$Links;", true)
  | _ => ("ChosenRelays$Mesh", "news", "LChosenRelays$News;", true)
def tyX5 : Nat → FieldType := fun k => match k with
  | 0 => .int
  | 1 => .int
  | 2 => .int
  | 3 => .int
  | 4 => .int
  | 5 => .int
  | 6 => .int
  | 7 => .array .int
  | 8 => .array .int
  | 9 => .array .int
  | 10 => .object "ChosenRelays$Links"
  | _ => .object "ChosenRelays$News"
theorem nmX5 : ∀ a, a < 12 → ∀ b, b < 12 → a ≠ b → (TX5 a).2.1 ≠ (TX5 b).2.1 := by decide +kernel
theorem okX5 : ∀ k, k < 12 → parseFieldDescriptor (TX5 k).2.2.1 = some (tyX5 k) := by decide +kernel
theorem inX5 : ∀ w ∈ u_ws RX5 TX5 12, w ∈ lw_tbl := in_of (fun k hk => match k, hk with
  | 0, _ => tm1 (List.mem_of_getElem? (i := 161) (by decide +kernel))
  | 1, _ => tm1 (List.mem_of_getElem? (i := 163) (by decide +kernel))
  | 2, _ => tm1 (List.mem_of_getElem? (i := 165) (by decide +kernel))
  | 3, _ => tm1 (List.mem_of_getElem? (i := 167) (by decide +kernel))
  | 4, _ => tm1 (List.mem_of_getElem? (i := 169) (by decide +kernel))
  | 5, _ => tm1 (List.mem_of_getElem? (i := 171) (by decide +kernel))
  | 6, _ => tm1 (List.mem_of_getElem? (i := 173) (by decide +kernel))
  | 7, _ => tm1 (List.mem_of_getElem? (i := 175) (by decide +kernel))
  | 8, _ => tm1 (List.mem_of_getElem? (i := 177) (by decide +kernel))
  | 9, _ => tm1 (List.mem_of_getElem? (i := 179) (by decide +kernel))
  | 10, _ => tm1 (List.mem_of_getElem? (i := 181) (by decide +kernel))
  | 11, _ => tm1 (List.mem_of_getElem? (i := 183) (by decide +kernel))
  | k + 12, hk => absurd hk (by omega))
def RX6 : String := "ChosenRelays$News"
def TX6 : u_T := fun k => match k with
  | 0 => ("ChosenRelays$News", "sets", "[I", true)
  | 1 => ("ChosenRelays$News", "numbers", "[I", true)
  | 2 => ("ChosenRelays$News", "lefts", "[I", true)
  | 3 => ("ChosenRelays$News", "ownNumbers", "[I", true)
  | 4 => ("ChosenRelays$News", "ownSets", "[I", true)
  | 5 => ("ChosenRelays$News", "written", "[I", true)
  | 6 => ("ChosenRelays$News", "notices", "I", false)
  | 7 => ("ChosenRelays$News", "sendings", "I", false)
  | _ => ("ChosenRelays$News", "olds", "I", false)
def tyX6 : Nat → FieldType := fun k => match k with
  | 0 => .array .int
  | 1 => .array .int
  | 2 => .array .int
  | 3 => .array .int
  | 4 => .array .int
  | 5 => .array .int
  | 6 => .int
  | 7 => .int
  | _ => .int
theorem nmX6 : ∀ a, a < 9 → ∀ b, b < 9 → a ≠ b → (TX6 a).2.1 ≠ (TX6 b).2.1 := by decide +kernel
theorem okX6 : ∀ k, k < 9 → parseFieldDescriptor (TX6 k).2.2.1 = some (tyX6 k) := by decide +kernel
theorem inX6 : ∀ w ∈ u_ws RX6 TX6 9, w ∈ lw_tbl := in_of (fun k hk => match k, hk with
  | 0, _ => tm1 (List.mem_of_getElem? (i := 93) (by decide +kernel))
  | 1, _ => tm1 (List.mem_of_getElem? (i := 95) (by decide +kernel))
  | 2, _ => tm1 (List.mem_of_getElem? (i := 97) (by decide +kernel))
  | 3, _ => tm1 (List.mem_of_getElem? (i := 99) (by decide +kernel))
  | 4, _ => tm1 (List.mem_of_getElem? (i := 101) (by decide +kernel))
  | 5, _ => tm1 (List.mem_of_getElem? (i := 103) (by decide +kernel))
  | 6, _ => tm1 (List.mem_of_getElem? (i := 105) (by decide +kernel))
  | 7, _ => tm1 (List.mem_of_getElem? (i := 107) (by decide +kernel))
  | 8, _ => tm1 (List.mem_of_getElem? (i := 109) (by decide +kernel))
  | k + 9, hk => absurd hk (by omega))
def RX7 : String := "ChosenRelays$Reader"
def TX7 : u_T := fun k => match k with
  | 0 => ("ChosenRelays$Reader", "faultKind", "I", false)
  | 1 => ("ChosenRelays$Reader", "faultPlace", "I", false)
  | 2 => ("ChosenRelays$Reader", "text", "[B", true)
  | 3 => ("ChosenRelays$Reader", "length", "I", false)
  | 4 => ("ChosenRelays$Reader", "kind", "I", false)
  | 5 => ("ChosenRelays$Reader", "start", "I", false)
  | 6 => ("ChosenRelays$Reader", "end", "I", false)
  | 7 => ("ChosenRelays$Reader", "numbers", "[I", true)
  | _ => ("ChosenRelays$Reader", "lines", "I", false)
def tyX7 : Nat → FieldType := fun k => match k with
  | 0 => .int
  | 1 => .int
  | 2 => .array .byte
  | 3 => .int
  | 4 => .int
  | 5 => .int
  | 6 => .int
  | 7 => .array .int
  | _ => .int
theorem nmX7 : ∀ a, a < 9 → ∀ b, b < 9 → a ≠ b → (TX7 a).2.1 ≠ (TX7 b).2.1 := by decide +kernel
theorem okX7 : ∀ k, k < 9 → parseFieldDescriptor (TX7 k).2.2.1 = some (tyX7 k) := by decide +kernel
theorem inX7 : ∀ w ∈ u_ws RX7 TX7 9, w ∈ lw_tbl := in_of (fun k hk => match k, hk with
  | 0, _ => tm1 (List.mem_of_getElem? (i := 195) (by decide +kernel))
  | 1, _ => tm1 (List.mem_of_getElem? (i := 197) (by decide +kernel))
  | 2, _ => tm1 (List.mem_of_getElem? (i := 199) (by decide +kernel))
  | 3, _ => tm1 (List.mem_of_getElem? (i := 201) (by decide +kernel))
  | 4, _ => tm1 (List.mem_of_getElem? (i := 203) (by decide +kernel))
  | 5, _ => tm1 (List.mem_of_getElem? (i := 205) (by decide +kernel))
  | 6, _ => tm1 (List.mem_of_getElem? (i := 207) (by decide +kernel))
  | 7, _ => tm1 (List.mem_of_getElem? (i := 209) (by decide +kernel))
  | 8, _ => tm1 (List.mem_of_getElem? (i := 211) (by decide +kernel))
  | k + 9, hk => absurd hk (by omega))
def RX8 : String := "ChosenRelays$Routes"
def TX8 : u_T := fun k => match k with
  | 0 => ("ChosenRelays$Routes", "steps", "[I", true)
  | _ => ("ChosenRelays$Routes", "nexts", "[I", true)
def tyX8 : Nat → FieldType := fun k => match k with
  | 0 => .array .int
  | _ => .array .int
theorem nmX8 : ∀ a, a < 2 → ∀ b, b < 2 → a ≠ b → (TX8 a).2.1 ≠ (TX8 b).2.1 := by decide +kernel
theorem okX8 : ∀ k, k < 2 → parseFieldDescriptor (TX8 k).2.2.1 = some (tyX8 k) := by decide +kernel
theorem inX8 : ∀ w ∈ u_ws RX8 TX8 2, w ∈ lw_tbl := in_of (fun k hk => match k, hk with
  | 0, _ => tm1 (List.mem_of_getElem? (i := 237) (by decide +kernel))
  | 1, _ => tm1 (List.mem_of_getElem? (i := 239) (by decide +kernel))
  | k + 2, hk => absurd hk (by omega))
def RX9 : String := "ChosenRelays$Ticker"
def TX9 : u_T := fun k => match k with
  | 0 => ("ChosenRelays$Ticker", "choice", "LChosenRelays$Choice;", true)
  | 1 => ("ChosenRelays$Ticker", "spread", "LChosenRelays$Flood;", true)
  | 2 => ("ChosenRelays$Ticker", "toldUps", "[I", true)
  | 3 => ("ChosenRelays$Ticker", "toldNeighbours", "[I", true)
  | _ => ("ChosenRelays$Ticker", "toldRelays", "[I", true)
def tyX9 : Nat → FieldType := fun k => match k with
  | 0 => .object "ChosenRelays$Choice"
  | 1 => .object "ChosenRelays$Flood"
  | 2 => .array .int
  | 3 => .array .int
  | _ => .array .int
theorem nmX9 : ∀ a, a < 5 → ∀ b, b < 5 → a ≠ b → (TX9 a).2.1 ≠ (TX9 b).2.1 := by decide +kernel
theorem okX9 : ∀ k, k < 5 → parseFieldDescriptor (TX9 k).2.2.1 = some (tyX9 k) := by decide +kernel
theorem inX9 : ∀ w ∈ u_ws RX9 TX9 5, w ∈ lw_tbl := in_of (fun k hk => match k, hk with
  | 0, _ => tm2 (List.mem_of_getElem? (i := 84) (by decide +kernel))
  | 1, _ => tm2 (List.mem_of_getElem? (i := 86) (by decide +kernel))
  | 2, _ => tm2 (List.mem_of_getElem? (i := 88) (by decide +kernel))
  | 3, _ => tm2 (List.mem_of_getElem? (i := 90) (by decide +kernel))
  | 4, _ => tm2 (List.mem_of_getElem? (i := 92) (by decide +kernel))
  | k + 5, hk => absurd hk (by omega))
def RX10 : String := "ChosenRelays$Truth"
def TX10 : u_T := fun k => match k with
  | 0 => ("ChosenRelays$Truth", "on", "I", false)
  | 1 => ("ChosenRelays$Truth", "pairs", "[I", true)
  | _ => ("ChosenRelays$Truth", "steps", "[I", true)
def tyX10 : Nat → FieldType := fun k => match k with
  | 0 => .int
  | 1 => .array .int
  | _ => .array .int
theorem nmX10 : ∀ a, a < 3 → ∀ b, b < 3 → a ≠ b → (TX10 a).2.1 ≠ (TX10 b).2.1 := by decide +kernel
theorem okX10 : ∀ k, k < 3 → parseFieldDescriptor (TX10 k).2.2.1 = some (tyX10 k) := by decide +kernel
theorem inX10 : ∀ w ∈ u_ws RX10 TX10 3, w ∈ lw_tbl := in_of (fun k hk => match k, hk with
  | 0, _ => tm2 (List.mem_of_getElem? (i := 26) (by decide +kernel))
  | 1, _ => tm2 (List.mem_of_getElem? (i := 28) (by decide +kernel))
  | 2, _ => tm2 (List.mem_of_getElem? (i := 30) (by decide +kernel))
  | k + 3, hk => absurd hk (by omega))
def RX11 : String := "ChosenRelays"
def TX11 : u_T := fun k => match k with
  | 0 => ("ChosenRelays", "tape", "[B", true)
  | 1 => ("ChosenRelays", "taped", "I", false)
  | 2 => ("ChosenRelays", "status", "I", false)
  | 3 => ("ChosenRelays", "faultKind", "I", false)
  | 4 => ("ChosenRelays", "faultPlace", "I", false)
  | 5 => ("ChosenRelays", "mesh", "LChosenRelays$Mesh;", true)
  | 6 => ("ChosenRelays", "paper", "LChosenRelays$Mesh;", true)
  | 7 => ("ChosenRelays", "marks", "[LChosenRelays$Mesh;", true)
  | 8 => ("ChosenRelays", "marked", "I", false)
  | 9 => ("ChosenRelays", "reader", "LChosenRelays$Reader;", true)
  | 10 => ("ChosenRelays", "choice", "LChosenRelays$Choice;", true)
  | 11 => ("ChosenRelays", "routes", "LChosenRelays$Routes;", true)
  | 12 => ("ChosenRelays", "going", "LChosenRelays$Going;", true)
  | 13 => ("ChosenRelays", "truth", "LChosenRelays$Truth;", true)
  | 14 => ("ChosenRelays", "spread", "LChosenRelays$Flood;", true)
  | 15 => ("ChosenRelays", "losses", "LChosenRelays$Losses;", true)
  | _ => ("ChosenRelays", "ticker", "LChosenRelays$Ticker;", true)
def tyX11 : Nat → FieldType := fun k => match k with
  | 0 => .array .byte
  | 1 => .int
  | 2 => .int
  | 3 => .int
  | 4 => .int
  | 5 => .object "ChosenRelays$Mesh"
  | 6 => .object "ChosenRelays$Mesh"
  | 7 => .array (.object "ChosenRelays$Mesh")
  | 8 => .int
  | 9 => .object "ChosenRelays$Reader"
  | 10 => .object "ChosenRelays$Choice"
  | 11 => .object "ChosenRelays$Routes"
  | 12 => .object "ChosenRelays$Going"
  | 13 => .object "ChosenRelays$Truth"
  | 14 => .object "ChosenRelays$Flood"
  | 15 => .object "ChosenRelays$Losses"
  | _ => .object "ChosenRelays$Ticker"
theorem nmX11 : ∀ a, a < 17 → ∀ b, b < 17 → a ≠ b → (TX11 a).2.1 ≠ (TX11 b).2.1 := by decide +kernel
theorem okX11 : ∀ k, k < 17 → parseFieldDescriptor (TX11 k).2.2.1 = some (tyX11 k) := by decide +kernel
theorem inX11 : ∀ w ∈ u_ws RX11 TX11 17, w ∈ lw_tbl := in_of (fun k hk => match k, hk with
  | 0, _ => tm2 (List.mem_of_getElem? (i := 110) (by decide +kernel))
  | 1, _ => tm2 (List.mem_of_getElem? (i := 112) (by decide +kernel))
  | 2, _ => tm2 (List.mem_of_getElem? (i := 114) (by decide +kernel))
  | 3, _ => tm2 (List.mem_of_getElem? (i := 116) (by decide +kernel))
  | 4, _ => tm2 (List.mem_of_getElem? (i := 118) (by decide +kernel))
  | 5, _ => tm2 (List.mem_of_getElem? (i := 120) (by decide +kernel))
  | 6, _ => tm2 (List.mem_of_getElem? (i := 122) (by decide +kernel))
  | 7, _ => tm2 (List.mem_of_getElem? (i := 124) (by decide +kernel))
  | 8, _ => tm2 (List.mem_of_getElem? (i := 126) (by decide +kernel))
  | 9, _ => tm2 (List.mem_of_getElem? (i := 128) (by decide +kernel))
  | 10, _ => tm2 (List.mem_of_getElem? (i := 130) (by decide +kernel))
  | 11, _ => tm2 (List.mem_of_getElem? (i := 132) (by decide +kernel))
  | 12, _ => tm2 (List.mem_of_getElem? (i := 134) (by decide +kernel))
  | 13, _ => tm2 (List.mem_of_getElem? (i := 136) (by decide +kernel))
  | 14, _ => tm2 (List.mem_of_getElem? (i := 138) (by decide +kernel))
  | 15, _ => tm2 (List.mem_of_getElem? (i := 140) (by decide +kernel))
  | 16, _ => tm2 (List.mem_of_getElem? (i := 142) (by decide +kernel))
  | k + 17, hk => absurd hk (by omega))
def RJ6 : String := "java/lang/Integer"
def RJ9 : String := "java/lang/Math"
def RJ10 : String := "java/lang/System"
def RJ7 : String := "java/util/Arrays"
def RL : String := "ChosenRelaysLaw"
abbrev vwCl : List vw_C := [(RX0, TX0, 2), (RX1, TX1, 5), (RX2, TX2, 4), (RX3, TX3, 6), (RX4, TX4, 3), (RX5, TX5, 12), (RX6, TX6, 9), (RX7, TX7, 9), (RX8, TX8, 2), (RX9, TX9, 5), (RX10, TX10, 3), (RX11, TX11, 17)]
/-- a method: its name, its code, how many locals, what it returns -/
abbrev Mq : Type := MethodName × ByteArray × Nat × Option FieldType
def LmV (q : Mq) (np : Nat) : Prop := Cond.code q.1 q.2.1 q.2.2.1 q.2.2.2 ∈ lw_tbl ∧ Cond.instanceMethod q.1 ∈ lw_tbl ∧ Cond.selects q.1.cls q.1 q.1 ∈ lw_tbl ∧ Cond.initialized q.1.cls ∈ lw_tbl ∧ q.1.cls ≠ "java/lang/invoke/MethodHandle" ∧ q.1.cls ≠ "java/lang/invoke/VarHandle" ∧ (parseMethodDescriptor q.1.desc).map (fun d => d.parameters.length) = some np
def LmS (q : Mq) (np : Nat) : Prop := Cond.code q.1 q.2.1 q.2.2.1 q.2.2.2 ∈ lw_tbl ∧ Cond.static q.1 ∈ lw_tbl ∧ Cond.initialized q.1.cls ∈ lw_tbl ∧ q.1.cls ≠ "java/lang/invoke/MethodHandle" ∧ q.1.cls ≠ "java/lang/invoke/VarHandle" ∧ (parseMethodDescriptor q.1.desc).map (fun d => d.parameters.length) = some np
def LmI (q : Mq) (np : Nat) : Prop := Cond.code q.1 q.2.1 q.2.2.1 q.2.2.2 ∈ lw_tbl ∧ Cond.instanceMethod q.1 ∈ lw_tbl ∧ q.1.name = "<init>" ∧ Cond.initialized q.1.cls ∈ lw_tbl ∧ q.1.cls ≠ "java/lang/invoke/MethodHandle" ∧ q.1.cls ≠ "java/lang/invoke/VarHandle" ∧ (parseMethodDescriptor q.1.desc).map (fun d => d.parameters.length) = some np
abbrev cX0_init : ByteArray := prog_2_method_1_code
def qX0_init : Mq := (⟨RX0, "<init>", "()V"⟩, cX0_init, 1, none)
theorem lX0_init : LmI qX0_init 0 := ⟨tm1 (List.mem_of_getElem? (i := 218) (by decide +kernel)), tm1 (List.mem_of_getElem? (i := 217) (by decide +kernel)), rfl, tm1 (List.mem_of_getElem? (i := 7) (by decide +kernel)), by decide +kernel, by decide +kernel, by decide +kernel⟩
abbrev cX0_willing : ByteArray := prog_2_method_2_code
def qX0_willing : Mq := (⟨RX0, "willing", "(LChosenRelays$Mesh;I)I"⟩, cX0_willing, 5, some .int)
theorem lX0_willing : LmS qX0_willing 2 := ⟨tm2 (List.mem_of_getElem? (i := 187) (by decide +kernel)), tm2 (List.mem_of_getElem? (i := 186) (by decide +kernel)), tm1 (List.mem_of_getElem? (i := 7) (by decide +kernel)), by decide +kernel, by decide +kernel, by decide +kernel⟩
abbrev cX0_behind : ByteArray := prog_2_method_3_code
def qX0_behind : Mq := (⟨RX0, "behind", "(LChosenRelays$Mesh;I)I"⟩, cX0_behind, 3, some .int)
theorem lX0_behind : LmS qX0_behind 2 := ⟨tm2 (List.mem_of_getElem? (i := 184) (by decide +kernel)), tm2 (List.mem_of_getElem? (i := 183) (by decide +kernel)), tm1 (List.mem_of_getElem? (i := 7) (by decide +kernel)), by decide +kernel, by decide +kernel, by decide +kernel⟩
abbrev cX0_knownOf : ByteArray := prog_2_method_4_code
def qX0_knownOf : Mq := (⟨RX0, "knownOf", "(LChosenRelays$Mesh;II)I"⟩, cX0_knownOf, 5, some .int)
theorem lX0_knownOf : LmS qX0_knownOf 3 := ⟨tm2 (List.mem_of_getElem? (i := 194) (by decide +kernel)), tm2 (List.mem_of_getElem? (i := 193) (by decide +kernel)), tm1 (List.mem_of_getElem? (i := 7) (by decide +kernel)), by decide +kernel, by decide +kernel, by decide +kernel⟩
abbrev cX0_onlyWays : ByteArray := prog_2_method_5_code
def qX0_onlyWays : Mq := (⟨RX0, "onlyWays", "(LChosenRelays$Mesh;III)I"⟩, cX0_onlyWays, 8, some .int)
theorem lX0_onlyWays : LmS qX0_onlyWays 4 := ⟨tm2 (List.mem_of_getElem? (i := 222) (by decide +kernel)), tm2 (List.mem_of_getElem? (i := 221) (by decide +kernel)), tm1 (List.mem_of_getElem? (i := 7) (by decide +kernel)), by decide +kernel, by decide +kernel, by decide +kernel⟩
abbrev cX0_fewest : ByteArray := prog_2_method_6_code
def qX0_fewest : Mq := (⟨RX0, "fewest", "(LChosenRelays$Mesh;I)I"⟩, cX0_fewest, 7, some .int)
theorem lX0_fewest : LmS qX0_fewest 2 := ⟨tm3 (List.mem_of_getElem? (i := 36) (by decide +kernel)), tm3 (List.mem_of_getElem? (i := 35) (by decide +kernel)), tm1 (List.mem_of_getElem? (i := 7) (by decide +kernel)), by decide +kernel, by decide +kernel, by decide +kernel⟩
abbrev cX0_isFewer : ByteArray := prog_2_method_7_code
def qX0_isFewer : Mq := (⟨RX0, "isFewer", "(II)Z"⟩, cX0_isFewer, 3, some .boolean)
theorem lX0_isFewer : LmS qX0_isFewer 2 := ⟨tm3 (List.mem_of_getElem? (i := 39) (by decide +kernel)), tm3 (List.mem_of_getElem? (i := 38) (by decide +kernel)), tm1 (List.mem_of_getElem? (i := 7) (by decide +kernel)), by decide +kernel, by decide +kernel, by decide +kernel⟩
abbrev cX0_chosenByAll : ByteArray := prog_2_method_8_code
def qX0_chosenByAll : Mq := (⟨RX0, "chosenByAll", "(LChosenRelays$Mesh;)I"⟩, cX0_chosenByAll, 4, some .int)
theorem lX0_chosenByAll : LmV qX0_chosenByAll 1 := ⟨tm3 (List.mem_of_getElem? (i := 27) (by decide +kernel)), tm3 (List.mem_of_getElem? (i := 25) (by decide +kernel)), tm3 (List.mem_of_getElem? (i := 26) (by decide +kernel)), tm1 (List.mem_of_getElem? (i := 7) (by decide +kernel)), by decide +kernel, by decide +kernel, by decide +kernel⟩
abbrev cX0_chosen : ByteArray := prog_2_method_9_code
def qX0_chosen : Mq := (⟨RX0, "chosen", "(LChosenRelays$Mesh;I)I"⟩, cX0_chosen, 7, some .int)
theorem lX0_chosen : LmV qX0_chosen 2 := ⟨tm2 (List.mem_of_getElem? (i := 218) (by decide +kernel)), tm2 (List.mem_of_getElem? (i := 216) (by decide +kernel)), tm2 (List.mem_of_getElem? (i := 217) (by decide +kernel)), tm1 (List.mem_of_getElem? (i := 7) (by decide +kernel)), by decide +kernel, by decide +kernel, by decide +kernel⟩
abbrev cX0_pickMore : ByteArray := prog_2_method_10_code
def qX0_pickMore : Mq := (⟨RX0, "pickMore", "(LChosenRelays$Mesh;III)I"⟩, cX0_pickMore, 10, some .int)
theorem lX0_pickMore : LmV qX0_pickMore 4 := ⟨tm2 (List.mem_of_getElem? (i := 226) (by decide +kernel)), tm2 (List.mem_of_getElem? (i := 225) (by decide +kernel)), tm0 (List.mem_of_getElem? (i := 3) (by decide +kernel)), tm1 (List.mem_of_getElem? (i := 7) (by decide +kernel)), by decide +kernel, by decide +kernel, by decide +kernel⟩
abbrev cX0_best : ByteArray := prog_2_method_11_code
def qX0_best : Mq := (⟨RX0, "best", "(LChosenRelays$Mesh;III)I"⟩, cX0_best, 9, some .int)
theorem lX0_best : LmS qX0_best 4 := ⟨tm2 (List.mem_of_getElem? (i := 229) (by decide +kernel)), tm2 (List.mem_of_getElem? (i := 228) (by decide +kernel)), tm1 (List.mem_of_getElem? (i := 7) (by decide +kernel)), by decide +kernel, by decide +kernel, by decide +kernel⟩
abbrev cX0_dropSpare : ByteArray := prog_2_method_12_code
def qX0_dropSpare : Mq := (⟨RX0, "dropSpare", "(LChosenRelays$Mesh;III)I"⟩, cX0_dropSpare, 9, some .int)
theorem lX0_dropSpare : LmS qX0_dropSpare 4 := ⟨tm2 (List.mem_of_getElem? (i := 238) (by decide +kernel)), tm2 (List.mem_of_getElem? (i := 237) (by decide +kernel)), tm1 (List.mem_of_getElem? (i := 7) (by decide +kernel)), by decide +kernel, by decide +kernel, by decide +kernel⟩
abbrev cX1_init : ByteArray := prog_3_method_1_code
def qX1_init : Mq := (⟨RX1, "<init>", "()V"⟩, cX1_init, 1, none)
theorem lX1_init : LmI qX1_init 0 := ⟨tm2 (List.mem_of_getElem? (i := 37) (by decide +kernel)), tm2 (List.mem_of_getElem? (i := 36) (by decide +kernel)), rfl, tm1 (List.mem_of_getElem? (i := 11) (by decide +kernel)), by decide +kernel, by decide +kernel, by decide +kernel⟩
abbrev cX1_send : ByteArray := prog_3_method_2_code
def qX1_send : Mq := (⟨RX1, "send", "(LChosenRelays$Mesh;IILChosenRelays$Losses;)V"⟩, cX1_send, 8, none)
theorem lX1_send : LmV qX1_send 4 := ⟨tm3 (List.mem_of_getElem? (i := 152) (by decide +kernel)), tm3 (List.mem_of_getElem? (i := 150) (by decide +kernel)), tm3 (List.mem_of_getElem? (i := 151) (by decide +kernel)), tm1 (List.mem_of_getElem? (i := 11) (by decide +kernel)), by decide +kernel, by decide +kernel, by decide +kernel⟩
abbrev cX1_hand : ByteArray := prog_3_method_3_code
def qX1_hand : Mq := (⟨RX1, "hand", "(LChosenRelays$Mesh;III)V"⟩, cX1_hand, 6, none)
theorem lX1_hand : LmV qX1_hand 4 := ⟨tm3 (List.mem_of_getElem? (i := 164) (by decide +kernel)), tm3 (List.mem_of_getElem? (i := 163) (by decide +kernel)), tm0 (List.mem_of_getElem? (i := 11) (by decide +kernel)), tm1 (List.mem_of_getElem? (i := 11) (by decide +kernel)), by decide +kernel, by decide +kernel, by decide +kernel⟩
abbrev cX1_stand : ByteArray := prog_3_method_4_code
def qX1_stand : Mq := (⟨RX1, "stand", "(I)V"⟩, cX1_stand, 2, none)
theorem lX1_stand : LmV qX1_stand 1 := ⟨tm3 (List.mem_of_getElem? (i := 156) (by decide +kernel)), tm3 (List.mem_of_getElem? (i := 155) (by decide +kernel)), tm0 (List.mem_of_getElem? (i := 10) (by decide +kernel)), tm1 (List.mem_of_getElem? (i := 11) (by decide +kernel)), by decide +kernel, by decide +kernel, by decide +kernel⟩
abbrev cX2_init : ByteArray := prog_4_method_1_code
def qX2_init : Mq := (⟨RX2, "<init>", "()V"⟩, cX2_init, 1, none)
theorem lX2_init : LmI qX2_init 0 := ⟨tm2 (List.mem_of_getElem? (i := 6) (by decide +kernel)), tm2 (List.mem_of_getElem? (i := 5) (by decide +kernel)), rfl, tm1 (List.mem_of_getElem? (i := 9) (by decide +kernel)), by decide +kernel, by decide +kernel, by decide +kernel⟩
abbrev cX3_init : ByteArray := prog_5_method_1_code
def qX3_init : Mq := (⟨RX3, "<init>", "()V"⟩, cX3_init, 1, none)
theorem lX3_init : LmI qX3_init 0 := ⟨tm1 (List.mem_of_getElem? (i := 35) (by decide +kernel)), tm1 (List.mem_of_getElem? (i := 34) (by decide +kernel)), rfl, tm1 (List.mem_of_getElem? (i := 3) (by decide +kernel)), by decide +kernel, by decide +kernel, by decide +kernel⟩
abbrev cX3_qualityAfter : ByteArray := prog_5_method_2_code
def qX3_qualityAfter : Mq := (⟨RX3, "qualityAfter", "(IZ)I"⟩, cX3_qualityAfter, 2, some .int)
theorem lX3_qualityAfter : LmS qX3_qualityAfter 2 := ⟨tm3 (List.mem_of_getElem? (i := 121) (by decide +kernel)), tm3 (List.mem_of_getElem? (i := 120) (by decide +kernel)), tm1 (List.mem_of_getElem? (i := 3) (by decide +kernel)), by decide +kernel, by decide +kernel, by decide +kernel⟩
abbrev cX3_clear : ByteArray := prog_5_method_3_code
def qX3_clear : Mq := (⟨RX3, "clear", "()V"⟩, cX3_clear, 1, none)
theorem lX3_clear : LmV qX3_clear 0 := ⟨tm1 (List.mem_of_getElem? (i := 122) (by decide +kernel)), tm1 (List.mem_of_getElem? (i := 120) (by decide +kernel)), tm1 (List.mem_of_getElem? (i := 121) (by decide +kernel)), tm1 (List.mem_of_getElem? (i := 3) (by decide +kernel)), by decide +kernel, by decide +kernel, by decide +kernel⟩
abbrev cX3_become : ByteArray := prog_5_method_4_code
def qX3_become : Mq := (⟨RX3, "become", "(LChosenRelays$Links;)V"⟩, cX3_become, 2, none)
theorem lX3_become : LmV qX3_become 1 := ⟨tm3 (List.mem_of_getElem? (i := 17) (by decide +kernel)), tm3 (List.mem_of_getElem? (i := 15) (by decide +kernel)), tm3 (List.mem_of_getElem? (i := 16) (by decide +kernel)), tm1 (List.mem_of_getElem? (i := 3) (by decide +kernel)), by decide +kernel, by decide +kernel, by decide +kernel⟩
abbrev cX4_init : ByteArray := prog_6_method_1_code
def qX4_init : Mq := (⟨RX4, "<init>", "()V"⟩, cX4_init, 1, none)
theorem lX4_init : LmI qX4_init 0 := ⟨tm2 (List.mem_of_getElem? (i := 61) (by decide +kernel)), tm2 (List.mem_of_getElem? (i := 60) (by decide +kernel)), rfl, tm1 (List.mem_of_getElem? (i := 12) (by decide +kernel)), by decide +kernel, by decide +kernel, by decide +kernel⟩
abbrev cX4_begin : ByteArray := prog_6_method_2_code
def qX4_begin : Mq := (⟨RX4, "begin", "(II)V"⟩, cX4_begin, 3, none)
theorem lX4_begin : LmV qX4_begin 2 := ⟨tm3 (List.mem_of_getElem? (i := 88) (by decide +kernel)), tm3 (List.mem_of_getElem? (i := 86) (by decide +kernel)), tm3 (List.mem_of_getElem? (i := 87) (by decide +kernel)), tm1 (List.mem_of_getElem? (i := 12) (by decide +kernel)), by decide +kernel, by decide +kernel, by decide +kernel⟩
abbrev cX4_loses : ByteArray := prog_6_method_3_code
def qX4_loses : Mq := (⟨RX4, "loses", "()Z"⟩, cX4_loses, 2, some .boolean)
theorem lX4_loses : LmV qX4_loses 0 := ⟨tm3 (List.mem_of_getElem? (i := 111) (by decide +kernel)), tm3 (List.mem_of_getElem? (i := 109) (by decide +kernel)), tm3 (List.mem_of_getElem? (i := 110) (by decide +kernel)), tm1 (List.mem_of_getElem? (i := 12) (by decide +kernel)), by decide +kernel, by decide +kernel, by decide +kernel⟩
abbrev cX5_init : ByteArray := prog_7_method_1_code
def qX5_init : Mq := (⟨RX5, "<init>", "()V"⟩, cX5_init, 1, none)
theorem lX5_init : LmI qX5_init 0 := ⟨tm1 (List.mem_of_getElem? (i := 29) (by decide +kernel)), tm1 (List.mem_of_getElem? (i := 28) (by decide +kernel)), rfl, tm1 (List.mem_of_getElem? (i := 2) (by decide +kernel)), by decide +kernel, by decide +kernel, by decide +kernel⟩
abbrev cX5_at : ByteArray := prog_7_method_2_code
def qX5_at : Mq := (⟨RX5, "at", "(II)I"⟩, cX5_at, 2, some .int)
theorem lX5_at : LmS qX5_at 2 := ⟨tm2 (List.mem_of_getElem? (i := 197) (by decide +kernel)), tm2 (List.mem_of_getElem? (i := 196) (by decide +kernel)), tm1 (List.mem_of_getElem? (i := 2) (by decide +kernel)), by decide +kernel, by decide +kernel, by decide +kernel⟩
abbrev cX5_bit : ByteArray := prog_7_method_3_code
def qX5_bit : Mq := (⟨RX5, "bit", "(I)I"⟩, cX5_bit, 1, some .int)
theorem lX5_bit : LmS qX5_bit 1 := ⟨tm2 (List.mem_of_getElem? (i := 200) (by decide +kernel)), tm2 (List.mem_of_getElem? (i := 199) (by decide +kernel)), tm1 (List.mem_of_getElem? (i := 2) (by decide +kernel)), by decide +kernel, by decide +kernel, by decide +kernel⟩
abbrev cX5_has : ByteArray := prog_7_method_4_code
def qX5_has : Mq := (⟨RX5, "has", "(II)Z"⟩, cX5_has, 2, some .boolean)
theorem lX5_has : LmS qX5_has 2 := ⟨tm2 (List.mem_of_getElem? (i := 178) (by decide +kernel)), tm2 (List.mem_of_getElem? (i := 177) (by decide +kernel)), tm1 (List.mem_of_getElem? (i := 2) (by decide +kernel)), by decide +kernel, by decide +kernel, by decide +kernel⟩
abbrev cX5_with : ByteArray := prog_7_method_5_code
def qX5_with : Mq := (⟨RX5, "with", "(IIZ)I"⟩, cX5_with, 3, some .int)
theorem lX5_with : LmS qX5_with 3 := ⟨tm2 (List.mem_of_getElem? (i := 191) (by decide +kernel)), tm2 (List.mem_of_getElem? (i := 190) (by decide +kernel)), tm1 (List.mem_of_getElem? (i := 2) (by decide +kernel)), by decide +kernel, by decide +kernel, by decide +kernel⟩
abbrev cX5_clear : ByteArray := prog_7_method_6_code
def qX5_clear : Mq := (⟨RX5, "clear", "()V"⟩, cX5_clear, 1, none)
theorem lX5_clear : LmV qX5_clear 0 := ⟨tm1 (List.mem_of_getElem? (i := 115) (by decide +kernel)), tm1 (List.mem_of_getElem? (i := 113) (by decide +kernel)), tm1 (List.mem_of_getElem? (i := 114) (by decide +kernel)), tm1 (List.mem_of_getElem? (i := 2) (by decide +kernel)), by decide +kernel, by decide +kernel, by decide +kernel⟩
abbrev cX5_become : ByteArray := prog_7_method_7_code
def qX5_become : Mq := (⟨RX5, "become", "(LChosenRelays$Mesh;)V"⟩, cX5_become, 2, none)
theorem lX5_become : LmV qX5_become 1 := ⟨tm3 (List.mem_of_getElem? (i := 10) (by decide +kernel)), tm3 (List.mem_of_getElem? (i := 8) (by decide +kernel)), tm3 (List.mem_of_getElem? (i := 9) (by decide +kernel)), tm1 (List.mem_of_getElem? (i := 2) (by decide +kernel)), by decide +kernel, by decide +kernel, by decide +kernel⟩
abbrev cX5_isNode : ByteArray := prog_7_method_8_code
def qX5_isNode : Mq := (⟨RX5, "isNode", "(I)Z"⟩, cX5_isNode, 2, some .boolean)
theorem lX5_isNode : LmV qX5_isNode 1 := ⟨tm2 (List.mem_of_getElem? (i := 163) (by decide +kernel)), tm2 (List.mem_of_getElem? (i := 161) (by decide +kernel)), tm2 (List.mem_of_getElem? (i := 162) (by decide +kernel)), tm1 (List.mem_of_getElem? (i := 2) (by decide +kernel)), by decide +kernel, by decide +kernel, by decide +kernel⟩
abbrev cX5_isOn : ByteArray := prog_7_method_9_code
def qX5_isOn : Mq := (⟨RX5, "isOn", "(I)Z"⟩, cX5_isOn, 2, some .boolean)
theorem lX5_isOn : LmV qX5_isOn 1 := ⟨tm2 (List.mem_of_getElem? (i := 174) (by decide +kernel)), tm2 (List.mem_of_getElem? (i := 172) (by decide +kernel)), tm2 (List.mem_of_getElem? (i := 173) (by decide +kernel)), tm1 (List.mem_of_getElem? (i := 2) (by decide +kernel)), by decide +kernel, by decide +kernel, by decide +kernel⟩
abbrev cX5_addNode : ByteArray := prog_7_method_10_code
def qX5_addNode : Mq := (⟨RX5, "addNode", "(I)V"⟩, cX5_addNode, 2, none)
theorem lX5_addNode : LmV qX5_addNode 1 := ⟨tm3 (List.mem_of_getElem? (i := 66) (by decide +kernel)), tm3 (List.mem_of_getElem? (i := 64) (by decide +kernel)), tm3 (List.mem_of_getElem? (i := 65) (by decide +kernel)), tm1 (List.mem_of_getElem? (i := 2) (by decide +kernel)), by decide +kernel, by decide +kernel, by decide +kernel⟩
abbrev cX5_comesTo : ByteArray := prog_7_method_11_code
def qX5_comesTo : Mq := (⟨RX5, "comesTo", "(II)Z"⟩, cX5_comesTo, 3, some .boolean)
theorem lX5_comesTo : LmV qX5_comesTo 2 := ⟨tm3 (List.mem_of_getElem? (i := 106) (by decide +kernel)), tm3 (List.mem_of_getElem? (i := 104) (by decide +kernel)), tm3 (List.mem_of_getElem? (i := 105) (by decide +kernel)), tm1 (List.mem_of_getElem? (i := 2) (by decide +kernel)), by decide +kernel, by decide +kernel, by decide +kernel⟩
abbrev cX5_isUpAt : ByteArray := prog_7_method_12_code
def qX5_isUpAt : Mq := (⟨RX5, "isUpAt", "(IZ)Z"⟩, cX5_isUpAt, 3, some .boolean)
theorem lX5_isUpAt : LmV qX5_isUpAt 2 := ⟨tm3 (List.mem_of_getElem? (i := 126) (by decide +kernel)), tm3 (List.mem_of_getElem? (i := 124) (by decide +kernel)), tm3 (List.mem_of_getElem? (i := 125) (by decide +kernel)), tm1 (List.mem_of_getElem? (i := 2) (by decide +kernel)), by decide +kernel, by decide +kernel, by decide +kernel⟩
abbrev cX5_easeJams : ByteArray := prog_7_method_13_code
def qX5_easeJams : Mq := (⟨RX5, "easeJams", "()V"⟩, cX5_easeJams, 2, none)
theorem lX5_easeJams : LmV qX5_easeJams 0 := ⟨tm3 (List.mem_of_getElem? (i := 181) (by decide +kernel)), tm3 (List.mem_of_getElem? (i := 179) (by decide +kernel)), tm3 (List.mem_of_getElem? (i := 180) (by decide +kernel)), tm1 (List.mem_of_getElem? (i := 2) (by decide +kernel)), by decide +kernel, by decide +kernel, by decide +kernel⟩
abbrev cX6_init : ByteArray := prog_8_method_1_code
def qX6_init : Mq := (⟨RX6, "<init>", "()V"⟩, cX6_init, 1, none)
theorem lX6_init : LmI qX6_init 0 := ⟨tm1 (List.mem_of_getElem? (i := 78) (by decide +kernel)), tm1 (List.mem_of_getElem? (i := 77) (by decide +kernel)), rfl, tm1 (List.mem_of_getElem? (i := 4) (by decide +kernel)), by decide +kernel, by decide +kernel, by decide +kernel⟩
abbrev cX6_isOlder : ByteArray := prog_8_method_2_code
def qX6_isOlder : Mq := (⟨RX6, "isOlder", "(II)Z"⟩, cX6_isOlder, 3, some .boolean)
theorem lX6_isOlder : LmS qX6_isOlder 2 := ⟨tm3 (List.mem_of_getElem? (i := 172) (by decide +kernel)), tm3 (List.mem_of_getElem? (i := 171) (by decide +kernel)), tm1 (List.mem_of_getElem? (i := 4) (by decide +kernel)), by decide +kernel, by decide +kernel, by decide +kernel⟩
abbrev cX6_clear : ByteArray := prog_8_method_3_code
def qX6_clear : Mq := (⟨RX6, "clear", "()V"⟩, cX6_clear, 1, none)
theorem lX6_clear : LmV qX6_clear 0 := ⟨tm1 (List.mem_of_getElem? (i := 127) (by decide +kernel)), tm1 (List.mem_of_getElem? (i := 125) (by decide +kernel)), tm1 (List.mem_of_getElem? (i := 126) (by decide +kernel)), tm1 (List.mem_of_getElem? (i := 4) (by decide +kernel)), by decide +kernel, by decide +kernel, by decide +kernel⟩
abbrev cX6_become : ByteArray := prog_8_method_4_code
def qX6_become : Mq := (⟨RX6, "become", "(LChosenRelays$News;)V"⟩, cX6_become, 2, none)
theorem lX6_become : LmV qX6_become 1 := ⟨tm3 (List.mem_of_getElem? (i := 22) (by decide +kernel)), tm3 (List.mem_of_getElem? (i := 20) (by decide +kernel)), tm3 (List.mem_of_getElem? (i := 21) (by decide +kernel)), tm1 (List.mem_of_getElem? (i := 4) (by decide +kernel)), by decide +kernel, by decide +kernel, by decide +kernel⟩
abbrev cX6_takeIn : ByteArray := prog_8_method_5_code
def qX6_takeIn : Mq := (⟨RX6, "takeIn", "(IIII)Z"⟩, cX6_takeIn, 5, some .boolean)
theorem lX6_takeIn : LmV qX6_takeIn 4 := ⟨tm3 (List.mem_of_getElem? (i := 169) (by decide +kernel)), tm3 (List.mem_of_getElem? (i := 167) (by decide +kernel)), tm3 (List.mem_of_getElem? (i := 168) (by decide +kernel)), tm1 (List.mem_of_getElem? (i := 4) (by decide +kernel)), by decide +kernel, by decide +kernel, by decide +kernel⟩
abbrev cX6_age : ByteArray := prog_8_method_6_code
def qX6_age : Mq := (⟨RX6, "age", "(I)V"⟩, cX6_age, 4, none)
theorem lX6_age : LmV qX6_age 1 := ⟨tm3 (List.mem_of_getElem? (i := 136) (by decide +kernel)), tm3 (List.mem_of_getElem? (i := 134) (by decide +kernel)), tm3 (List.mem_of_getElem? (i := 135) (by decide +kernel)), tm1 (List.mem_of_getElem? (i := 4) (by decide +kernel)), by decide +kernel, by decide +kernel, by decide +kernel⟩
abbrev cX6_renew : ByteArray := prog_8_method_7_code
def qX6_renew : Mq := (⟨RX6, "renew", "(II)V"⟩, cX6_renew, 3, none)
theorem lX6_renew : LmV qX6_renew 2 := ⟨tm3 (List.mem_of_getElem? (i := 148) (by decide +kernel)), tm3 (List.mem_of_getElem? (i := 146) (by decide +kernel)), tm3 (List.mem_of_getElem? (i := 147) (by decide +kernel)), tm1 (List.mem_of_getElem? (i := 4) (by decide +kernel)), by decide +kernel, by decide +kernel, by decide +kernel⟩
abbrev cX6_write : ByteArray := prog_8_method_8_code
def qX6_write : Mq := (⟨RX6, "write", "(IIII)V"⟩, cX6_write, 6, none)
theorem lX6_write : LmV qX6_write 4 := ⟨tm3 (List.mem_of_getElem? (i := 177) (by decide +kernel)), tm3 (List.mem_of_getElem? (i := 175) (by decide +kernel)), tm3 (List.mem_of_getElem? (i := 176) (by decide +kernel)), tm1 (List.mem_of_getElem? (i := 4) (by decide +kernel)), by decide +kernel, by decide +kernel, by decide +kernel⟩
abbrev cX7_init : ByteArray := prog_9_method_1_code
def qX7_init : Mq := (⟨RX7, "<init>", "()V"⟩, cX7_init, 1, none)
theorem lX7_init : LmI qX7_init 0 := ⟨tm1 (List.mem_of_getElem? (i := 191) (by decide +kernel)), tm1 (List.mem_of_getElem? (i := 190) (by decide +kernel)), rfl, tm1 (List.mem_of_getElem? (i := 6) (by decide +kernel)), by decide +kernel, by decide +kernel, by decide +kernel⟩
abbrev cX8_init : ByteArray := prog_10_method_1_code
def qX8_init : Mq := (⟨RX8, "<init>", "()V"⟩, cX8_init, 1, none)
theorem lX8_init : LmI qX8_init 0 := ⟨tm1 (List.mem_of_getElem? (i := 233) (by decide +kernel)), tm1 (List.mem_of_getElem? (i := 232) (by decide +kernel)), rfl, tm1 (List.mem_of_getElem? (i := 8) (by decide +kernel)), by decide +kernel, by decide +kernel, by decide +kernel⟩
abbrev cX9_init : ByteArray := prog_11_method_1_code
def qX9_init : Mq := (⟨RX9, "<init>", "(LChosenRelays$Choice;LChosenRelays$Flood;)V"⟩, cX9_init, 3, none)
theorem lX9_init : LmI qX9_init 2 := ⟨tm2 (List.mem_of_getElem? (i := 77) (by decide +kernel)), tm2 (List.mem_of_getElem? (i := 76) (by decide +kernel)), rfl, tm1 (List.mem_of_getElem? (i := 13) (by decide +kernel)), by decide +kernel, by decide +kernel, by decide +kernel⟩
abbrev cX9_step : ByteArray := prog_11_method_2_code
def qX9_step : Mq := (⟨RX9, "step", "(LChosenRelays$Mesh;LChosenRelays$Losses;)V"⟩, cX9_step, 4, none)
theorem lX9_step : LmV qX9_step 2 := ⟨tm3 (List.mem_of_getElem? (i := 92) (by decide +kernel)), tm3 (List.mem_of_getElem? (i := 90) (by decide +kernel)), tm3 (List.mem_of_getElem? (i := 91) (by decide +kernel)), tm1 (List.mem_of_getElem? (i := 13) (by decide +kernel)), by decide +kernel, by decide +kernel, by decide +kernel⟩
abbrev cX9_sayHellos : ByteArray := prog_11_method_3_code
def qX9_sayHellos : Mq := (⟨RX9, "sayHellos", "(LChosenRelays$Links;)V"⟩, cX9_sayHellos, 2, none)
theorem lX9_sayHellos : LmV qX9_sayHellos 1 := ⟨tm3 (List.mem_of_getElem? (i := 96) (by decide +kernel)), tm3 (List.mem_of_getElem? (i := 95) (by decide +kernel)), tm0 (List.mem_of_getElem? (i := 5) (by decide +kernel)), tm1 (List.mem_of_getElem? (i := 13) (by decide +kernel)), by decide +kernel, by decide +kernel, by decide +kernel⟩
abbrev cX9_hearHellos : ByteArray := prog_11_method_4_code
def qX9_hearHellos : Mq := (⟨RX9, "hearHellos", "(LChosenRelays$Mesh;LChosenRelays$Losses;)V"⟩, cX9_hearHellos, 6, none)
theorem lX9_hearHellos : LmV qX9_hearHellos 2 := ⟨tm3 (List.mem_of_getElem? (i := 101) (by decide +kernel)), tm3 (List.mem_of_getElem? (i := 100) (by decide +kernel)), tm0 (List.mem_of_getElem? (i := 6) (by decide +kernel)), tm1 (List.mem_of_getElem? (i := 13) (by decide +kernel)), by decide +kernel, by decide +kernel, by decide +kernel⟩
abbrev cX9_prove : ByteArray := prog_11_method_5_code
def qX9_prove : Mq := (⟨RX9, "prove", "(LChosenRelays$Mesh;IIZ)V"⟩, cX9_prove, 9, none)
theorem lX9_prove : LmV qX9_prove 4 := ⟨tm3 (List.mem_of_getElem? (i := 117) (by decide +kernel)), tm3 (List.mem_of_getElem? (i := 116) (by decide +kernel)), tm0 (List.mem_of_getElem? (i := 7) (by decide +kernel)), tm1 (List.mem_of_getElem? (i := 13) (by decide +kernel)), by decide +kernel, by decide +kernel, by decide +kernel⟩
abbrev cX9_learn : ByteArray := prog_11_method_6_code
def qX9_learn : Mq := (⟨RX9, "learn", "(LChosenRelays$Links;IIZ)V"⟩, cX9_learn, 10, none)
theorem lX9_learn : LmV qX9_learn 4 := ⟨tm3 (List.mem_of_getElem? (i := 131) (by decide +kernel)), tm3 (List.mem_of_getElem? (i := 130) (by decide +kernel)), tm0 (List.mem_of_getElem? (i := 8) (by decide +kernel)), tm1 (List.mem_of_getElem? (i := 13) (by decide +kernel)), by decide +kernel, by decide +kernel, by decide +kernel⟩
abbrev cX9_sendNotices : ByteArray := prog_11_method_7_code
def qX9_sendNotices : Mq := (⟨RX9, "sendNotices", "(LChosenRelays$Mesh;LChosenRelays$Losses;)V"⟩, cX9_sendNotices, 5, none)
theorem lX9_sendNotices : LmV qX9_sendNotices 2 := ⟨tm3 (List.mem_of_getElem? (i := 144) (by decide +kernel)), tm3 (List.mem_of_getElem? (i := 143) (by decide +kernel)), tm0 (List.mem_of_getElem? (i := 9) (by decide +kernel)), tm1 (List.mem_of_getElem? (i := 13) (by decide +kernel)), by decide +kernel, by decide +kernel, by decide +kernel⟩
abbrev cX10_init : ByteArray := prog_12_method_1_code
def qX10_init : Mq := (⟨RX10, "<init>", "()V"⟩, cX10_init, 1, none)
theorem lX10_init : LmI qX10_init 0 := ⟨tm2 (List.mem_of_getElem? (i := 22) (by decide +kernel)), tm2 (List.mem_of_getElem? (i := 21) (by decide +kernel)), rfl, tm1 (List.mem_of_getElem? (i := 10) (by decide +kernel)), by decide +kernel, by decide +kernel, by decide +kernel⟩
abbrev cX11_init : ByteArray := prog_1_method_1_code
def qX11_init : Mq := (⟨RX11, "<init>", "()V"⟩, cX11_init, 2, none)
theorem lX11_init : LmI qX11_init 0 := ⟨tm1 (List.mem_of_getElem? (i := 21) (by decide +kernel)), tm1 (List.mem_of_getElem? (i := 20) (by decide +kernel)), rfl, tm1 (List.mem_of_getElem? (i := 1) (by decide +kernel)), by decide +kernel, by decide +kernel, by decide +kernel⟩
abbrev cX11_status : ByteArray := prog_1_method_2_code
def qX11_status : Mq := (⟨RX11, "status", "()I"⟩, cX11_status, 1, some .int)
theorem lX11_status : LmV qX11_status 0 := ⟨tm2 (List.mem_of_getElem? (i := 148) (by decide +kernel)), tm2 (List.mem_of_getElem? (i := 146) (by decide +kernel)), tm2 (List.mem_of_getElem? (i := 147) (by decide +kernel)), tm1 (List.mem_of_getElem? (i := 1) (by decide +kernel)), by decide +kernel, by decide +kernel, by decide +kernel⟩
abbrev cX11_node : ByteArray := prog_1_method_7_code
def qX11_node : Mq := (⟨RX11, "node", "(II)I"⟩, cX11_node, 3, some .int)
theorem lX11_node : LmV qX11_node 2 := ⟨tm2 (List.mem_of_getElem? (i := 152) (by decide +kernel)), tm2 (List.mem_of_getElem? (i := 150) (by decide +kernel)), tm2 (List.mem_of_getElem? (i := 151) (by decide +kernel)), tm1 (List.mem_of_getElem? (i := 1) (by decide +kernel)), by decide +kernel, by decide +kernel, by decide +kernel⟩
abbrev cX11_link : ByteArray := prog_1_method_8_code
def qX11_link : Mq := (⟨RX11, "link", "(III)I"⟩, cX11_link, 4, some .int)
theorem lX11_link : LmV qX11_link 3 := ⟨tm2 (List.mem_of_getElem? (i := 204) (by decide +kernel)), tm2 (List.mem_of_getElem? (i := 202) (by decide +kernel)), tm2 (List.mem_of_getElem? (i := 203) (by decide +kernel)), tm1 (List.mem_of_getElem? (i := 1) (by decide +kernel)), by decide +kernel, by decide +kernel, by decide +kernel⟩
abbrev cX11_would : ByteArray := prog_1_method_10_code
def qX11_would : Mq := (⟨RX11, "would", "(I)I"⟩, cX11_would, 2, some .int)
theorem lX11_would : LmV qX11_would 1 := ⟨tm2 (List.mem_of_getElem? (i := 214) (by decide +kernel)), tm2 (List.mem_of_getElem? (i := 212) (by decide +kernel)), tm2 (List.mem_of_getElem? (i := 213) (by decide +kernel)), tm1 (List.mem_of_getElem? (i := 1) (by decide +kernel)), by decide +kernel, by decide +kernel, by decide +kernel⟩
abbrev cX11_pick : ByteArray := prog_1_method_11_code
def qX11_pick : Mq := (⟨RX11, "pick", "(II)I"⟩, cX11_pick, 3, some .int)
theorem lX11_pick : LmV qX11_pick 2 := ⟨tm3 (List.mem_of_getElem? (i := 2) (by decide +kernel)), tm3 (List.mem_of_getElem? (i := 0) (by decide +kernel)), tm3 (List.mem_of_getElem? (i := 1) (by decide +kernel)), tm1 (List.mem_of_getElem? (i := 1) (by decide +kernel)), by decide +kernel, by decide +kernel, by decide +kernel⟩
abbrev cX11_bestWill : ByteArray := prog_1_method_12_code
def qX11_bestWill : Mq := (⟨RX11, "bestWill", "(I)I"⟩, cX11_bestWill, 6, some .int)
theorem lX11_bestWill : LmV qX11_bestWill 1 := ⟨tm3 (List.mem_of_getElem? (i := 6) (by decide +kernel)), tm3 (List.mem_of_getElem? (i := 4) (by decide +kernel)), tm3 (List.mem_of_getElem? (i := 5) (by decide +kernel)), tm1 (List.mem_of_getElem? (i := 1) (by decide +kernel)), by decide +kernel, by decide +kernel, by decide +kernel⟩
abbrev cX11_least : ByteArray := prog_1_method_13_code
def qX11_least : Mq := (⟨RX11, "least", "(I)I"⟩, cX11_least, 2, some .int)
theorem lX11_least : LmV qX11_least 1 := ⟨tm3 (List.mem_of_getElem? (i := 33) (by decide +kernel)), tm3 (List.mem_of_getElem? (i := 31) (by decide +kernel)), tm3 (List.mem_of_getElem? (i := 32) (by decide +kernel)), tm1 (List.mem_of_getElem? (i := 1) (by decide +kernel)), by decide +kernel, by decide +kernel, by decide +kernel⟩
abbrev cX11_covers : ByteArray := prog_1_method_14_code
def qX11_covers : Mq := (⟨RX11, "covers", "(II)I"⟩, cX11_covers, 4, some .int)
theorem lX11_covers : LmV qX11_covers 2 := ⟨tm3 (List.mem_of_getElem? (i := 43) (by decide +kernel)), tm3 (List.mem_of_getElem? (i := 41) (by decide +kernel)), tm3 (List.mem_of_getElem? (i := 42) (by decide +kernel)), tm1 (List.mem_of_getElem? (i := 1) (by decide +kernel)), by decide +kernel, by decide +kernel, by decide +kernel⟩
abbrev cX11_needed : ByteArray := prog_1_method_15_code
def qX11_needed : Mq := (⟨RX11, "needed", "(I)I"⟩, cX11_needed, 2, some .int)
theorem lX11_needed : LmV qX11_needed 1 := ⟨tm3 (List.mem_of_getElem? (i := 52) (by decide +kernel)), tm3 (List.mem_of_getElem? (i := 50) (by decide +kernel)), tm3 (List.mem_of_getElem? (i := 51) (by decide +kernel)), tm1 (List.mem_of_getElem? (i := 1) (by decide +kernel)), by decide +kernel, by decide +kernel, by decide +kernel⟩
abbrev cX11_waste : ByteArray := prog_1_method_16_code
def qX11_waste : Mq := (⟨RX11, "waste", "()I"⟩, cX11_waste, 3, some .int)
theorem lX11_waste : LmV qX11_waste 0 := ⟨tm3 (List.mem_of_getElem? (i := 57) (by decide +kernel)), tm3 (List.mem_of_getElem? (i := 55) (by decide +kernel)), tm3 (List.mem_of_getElem? (i := 56) (by decide +kernel)), tm1 (List.mem_of_getElem? (i := 1) (by decide +kernel)), by decide +kernel, by decide +kernel, by decide +kernel⟩
abbrev cX11_add : ByteArray := prog_1_method_36_code
def qX11_add : Mq := (⟨RX11, "add", "(I)I"⟩, cX11_add, 3, some .int)
theorem lX11_add : LmV qX11_add 1 := ⟨tm3 (List.mem_of_getElem? (i := 62) (by decide +kernel)), tm3 (List.mem_of_getElem? (i := 60) (by decide +kernel)), tm3 (List.mem_of_getElem? (i := 61) (by decide +kernel)), tm1 (List.mem_of_getElem? (i := 1) (by decide +kernel)), by decide +kernel, by decide +kernel, by decide +kernel⟩
abbrev cX11_turn : ByteArray := prog_1_method_37_code
def qX11_turn : Mq := (⟨RX11, "turn", "(IZ)Z"⟩, cX11_turn, 4, some .boolean)
theorem lX11_turn : LmV qX11_turn 2 := ⟨tm3 (List.mem_of_getElem? (i := 71) (by decide +kernel)), tm3 (List.mem_of_getElem? (i := 69) (by decide +kernel)), tm3 (List.mem_of_getElem? (i := 70) (by decide +kernel)), tm1 (List.mem_of_getElem? (i := 1) (by decide +kernel)), by decide +kernel, by decide +kernel, by decide +kernel⟩
abbrev cX11_will : ByteArray := prog_1_method_38_code
def qX11_will : Mq := (⟨RX11, "will", "(II)I"⟩, cX11_will, 4, some .int)
theorem lX11_will : LmV qX11_will 2 := ⟨tm3 (List.mem_of_getElem? (i := 76) (by decide +kernel)), tm3 (List.mem_of_getElem? (i := 74) (by decide +kernel)), tm3 (List.mem_of_getElem? (i := 75) (by decide +kernel)), tm1 (List.mem_of_getElem? (i := 1) (by decide +kernel)), by decide +kernel, by decide +kernel, by decide +kernel⟩
abbrev cX11_ear : ByteArray := prog_1_method_39_code
def qX11_ear : Mq := (⟨RX11, "ear", "(IIZ)Z"⟩, cX11_ear, 4, some .boolean)
theorem lX11_ear : LmV qX11_ear 3 := ⟨tm3 (List.mem_of_getElem? (i := 80) (by decide +kernel)), tm3 (List.mem_of_getElem? (i := 78) (by decide +kernel)), tm3 (List.mem_of_getElem? (i := 79) (by decide +kernel)), tm1 (List.mem_of_getElem? (i := 1) (by decide +kernel)), by decide +kernel, by decide +kernel, by decide +kernel⟩
abbrev cX11_tick : ByteArray := prog_1_method_42_code
def qX11_tick : Mq := (⟨RX11, "tick", "(I)I"⟩, cX11_tick, 3, some .int)
theorem lX11_tick : LmV qX11_tick 1 := ⟨tm3 (List.mem_of_getElem? (i := 84) (by decide +kernel)), tm3 (List.mem_of_getElem? (i := 82) (by decide +kernel)), tm3 (List.mem_of_getElem? (i := 83) (by decide +kernel)), tm1 (List.mem_of_getElem? (i := 1) (by decide +kernel)), by decide +kernel, by decide +kernel, by decide +kernel⟩
abbrev cX11_fails : ByteArray := prog_1_method_46_code
def qX11_fails : Mq := (⟨RX11, "fails", "(I)Z"⟩, cX11_fails, 2, some .boolean)
theorem lX11_fails : LmV qX11_fails 1 := ⟨tm2 (List.mem_of_getElem? (i := 170) (by decide +kernel)), tm2 (List.mem_of_getElem? (i := 169) (by decide +kernel)), tm0 (List.mem_of_getElem? (i := 1) (by decide +kernel)), tm1 (List.mem_of_getElem? (i := 1) (by decide +kernel)), by decide +kernel, by decide +kernel, by decide +kernel⟩
abbrev cX11_firstOf : ByteArray := prog_1_method_47_code
def qX11_firstOf : Mq := (⟨RX11, "firstOf", "(II)I"⟩, cX11_firstOf, 2, some .int)
theorem lX11_firstOf : LmS qX11_firstOf 2 := ⟨tm2 (List.mem_of_getElem? (i := 166) (by decide +kernel)), tm2 (List.mem_of_getElem? (i := 165) (by decide +kernel)), tm1 (List.mem_of_getElem? (i := 1) (by decide +kernel)), by decide +kernel, by decide +kernel, by decide +kernel⟩
abbrev cX11_rangeStatus : ByteArray := prog_1_method_48_code
def qX11_rangeStatus : Mq := (⟨RX11, "rangeStatus", "(III)I"⟩, cX11_rangeStatus, 3, some .int)
theorem lX11_rangeStatus : LmS qX11_rangeStatus 3 := ⟨tm2 (List.mem_of_getElem? (i := 155) (by decide +kernel)), tm2 (List.mem_of_getElem? (i := 154) (by decide +kernel)), tm1 (List.mem_of_getElem? (i := 1) (by decide +kernel)), by decide +kernel, by decide +kernel, by decide +kernel⟩
abbrev cX11_nodeStatus : ByteArray := prog_1_method_49_code
def qX11_nodeStatus : Mq := (⟨RX11, "nodeStatus", "(I)I"⟩, cX11_nodeStatus, 2, some .int)
theorem lX11_nodeStatus : LmV qX11_nodeStatus 1 := ⟨tm2 (List.mem_of_getElem? (i := 159) (by decide +kernel)), tm2 (List.mem_of_getElem? (i := 158) (by decide +kernel)), tm0 (List.mem_of_getElem? (i := 0) (by decide +kernel)), tm1 (List.mem_of_getElem? (i := 1) (by decide +kernel)), by decide +kernel, by decide +kernel, by decide +kernel⟩
abbrev cX11_pairStatus : ByteArray := prog_1_method_50_code
def qX11_pairStatus : Mq := (⟨RX11, "pairStatus", "(II)I"⟩, cX11_pairStatus, 3, some .int)
theorem lX11_pairStatus : LmV qX11_pairStatus 2 := ⟨tm2 (List.mem_of_getElem? (i := 208) (by decide +kernel)), tm2 (List.mem_of_getElem? (i := 207) (by decide +kernel)), tm0 (List.mem_of_getElem? (i := 2) (by decide +kernel)), tm1 (List.mem_of_getElem? (i := 1) (by decide +kernel)), by decide +kernel, by decide +kernel, by decide +kernel⟩
abbrev cX11_setStatus : ByteArray := prog_1_method_52_code
def qX11_setStatus : Mq := (⟨RX11, "setStatus", "(I)I"⟩, cX11_setStatus, 2, some .int)
theorem lX11_setStatus : LmV qX11_setStatus 1 := ⟨tm3 (List.mem_of_getElem? (i := 47) (by decide +kernel)), tm3 (List.mem_of_getElem? (i := 46) (by decide +kernel)), tm0 (List.mem_of_getElem? (i := 4) (by decide +kernel)), tm1 (List.mem_of_getElem? (i := 1) (by decide +kernel)), by decide +kernel, by decide +kernel, by decide +kernel⟩
abbrev cX11_asNumber : ByteArray := prog_1_method_55_code
def qX11_asNumber : Mq := (⟨RX11, "asNumber", "(Z)I"⟩, cX11_asNumber, 1, some .int)
theorem lX11_asNumber : LmS qX11_asNumber 1 := ⟨tm2 (List.mem_of_getElem? (i := 181) (by decide +kernel)), tm2 (List.mem_of_getElem? (i := 180) (by decide +kernel)), tm1 (List.mem_of_getElem? (i := 1) (by decide +kernel)), by decide +kernel, by decide +kernel, by decide +kernel⟩
abbrev cJ6_bitCount_0f7a4 : ByteArray := prog_15_method_49_code
def qJ6_bitCount_0f7a4 : Mq := (⟨RJ6, "bitCount", "(I)I"⟩, cJ6_bitCount_0f7a4, 1, some .int)
theorem lJ6_bitCount_0f7a4 : LmS qJ6_bitCount_0f7a4 1 := ⟨tm2 (List.mem_of_getElem? (i := 232) (by decide +kernel)), tm2 (List.mem_of_getElem? (i := 231) (by decide +kernel)), tm1 (List.mem_of_getElem? (i := 15) (by decide +kernel)), by decide +kernel, by decide +kernel, by decide +kernel⟩
abbrev cJ9_max_7cf53 : ByteArray := prog_16_method_65_code
def qJ9_max_7cf53 : Mq := (⟨RJ9, "max", "(II)I"⟩, cJ9_max_7cf53, 2, some .int)
theorem lJ9_max_7cf53 : LmS qJ9_max_7cf53 2 := ⟨tm3 (List.mem_of_getElem? (i := 140) (by decide +kernel)), tm3 (List.mem_of_getElem? (i := 139) (by decide +kernel)), tm1 (List.mem_of_getElem? (i := 16) (by decide +kernel)), by decide +kernel, by decide +kernel, by decide +kernel⟩
abbrev cJ7_fill_53178 : ByteArray := prog_18_method_103_code
def qJ7_fill_53178 : Mq := (⟨RJ7, "fill", "([II)V"⟩, cJ7_fill_53178, 4, none)
theorem lJ7_fill_53178 : LmS qJ7_fill_53178 2 := ⟨tm1 (List.mem_of_getElem? (i := 118) (by decide +kernel)), tm1 (List.mem_of_getElem? (i := 117) (by decide +kernel)), tm1 (List.mem_of_getElem? (i := 5) (by decide +kernel)), by decide +kernel, by decide +kernel, by decide +kernel⟩
abbrev cL_among : ByteArray := method_2_code
def qL_among : Mq := (⟨RL, "among", "(II)I"⟩, cL_among, 3, some .int)
theorem lL_among : LmS qL_among 2 := ⟨tm3 (List.mem_of_getElem? (i := 185) (by decide +kernel)), tm3 (List.mem_of_getElem? (i := 184) (by decide +kernel)), tm1 (List.mem_of_getElem? (i := 0) (by decide +kernel)), by decide +kernel, by decide +kernel, by decide +kernel⟩
abbrev cL_bits : ByteArray := method_3_code
def qL_bits : Mq := (⟨RL, "bits", "(I)I"⟩, cL_bits, 3, some .int)
theorem lL_bits : LmS qL_bits 1 := ⟨tm3 (List.mem_of_getElem? (i := 188) (by decide +kernel)), tm3 (List.mem_of_getElem? (i := 187) (by decide +kernel)), tm1 (List.mem_of_getElem? (i := 0) (by decide +kernel)), by decide +kernel, by decide +kernel, by decide +kernel⟩
abbrev cL_has : ByteArray := method_4_code
def qL_has : Mq := (⟨RL, "has", "(II)Z"⟩, cL_has, 2, some .boolean)
theorem lL_has : LmS qL_has 2 := ⟨tm3 (List.mem_of_getElem? (i := 191) (by decide +kernel)), tm3 (List.mem_of_getElem? (i := 190) (by decide +kernel)), tm1 (List.mem_of_getElem? (i := 0) (by decide +kernel)), by decide +kernel, by decide +kernel, by decide +kernel⟩
abbrev cL_law : ByteArray := code
abbrev cL_of : ByteArray := method_6_code
def qL_of : Mq := (⟨RL, "of", "([II)I"⟩, cL_of, 4, some .int)
theorem lL_of : LmS qL_of 2 := ⟨tm3 (List.mem_of_getElem? (i := 194) (by decide +kernel)), tm3 (List.mem_of_getElem? (i := 193) (by decide +kernel)), tm1 (List.mem_of_getElem? (i := 0) (by decide +kernel)), by decide +kernel, by decide +kernel, by decide +kernel⟩
abbrev cL_sum : ByteArray := method_7_code
def qL_sum : Mq := (⟨RL, "sum", "(LChosenRelays;III)I"⟩, cL_sum, 6, some .int)
theorem lL_sum : LmS qL_sum 4 := ⟨tm3 (List.mem_of_getElem? (i := 197) (by decide +kernel)), tm3 (List.mem_of_getElem? (i := 196) (by decide +kernel)), tm1 (List.mem_of_getElem? (i := 0) (by decide +kernel)), by decide +kernel, by decide +kernel, by decide +kernel⟩
abbrev cL_chosen : ByteArray := method_8_code
def qL_chosen : Mq := (⟨RL, "chosen", "(LChosenRelays;I[I[III)I"⟩, cL_chosen, 13, some .int)
theorem lL_chosen : LmS qL_chosen 6 := ⟨tm3 (List.mem_of_getElem? (i := 200) (by decide +kernel)), tm3 (List.mem_of_getElem? (i := 199) (by decide +kernel)), tm1 (List.mem_of_getElem? (i := 0) (by decide +kernel)), by decide +kernel, by decide +kernel, by decide +kernel⟩
def Fl (own : String) (idx : Nat) (C : String) (T : u_T) (N k : Nat) : Prop := Cond.fieldLink own idx C (T k).2.1 (T k).2.2.1 ∈ lw_tbl ∧ (∀ w ∈ u_ws C T N, w ∈ lw_tbl)
theorem nL_7 : Cond.classLink RL 7 RX11 ∈ lw_tbl ∧ Cond.instantiable RX11 17 ∈ lw_tbl ∧ Cond.initialized RX11 ∈ lw_tbl := ⟨tm1 (List.mem_of_getElem? (i := 17) (by decide +kernel)), tm1 (List.mem_of_getElem? (i := 18) (by decide +kernel)), tm1 (List.mem_of_getElem? (i := 1) (by decide +kernel))⟩
theorem mL_9 : Cond.methodLink RL 9 qX11_init.1 ∈ lw_tbl := tm1 (List.mem_of_getElem? (i := 19) (by decide +kernel))
theorem mX11_3 : Cond.methodLink RX11 3 ⟨"java/lang/Object", "<init>", "()V"⟩ ∈ lw_tbl := tm1 (List.mem_of_getElem? (i := 22) (by decide +kernel))
theorem nX11_20 : Cond.classLink RX11 20 RX5 ∈ lw_tbl ∧ Cond.instantiable RX5 12 ∈ lw_tbl ∧ Cond.initialized RX5 ∈ lw_tbl := ⟨tm1 (List.mem_of_getElem? (i := 25) (by decide +kernel)), tm1 (List.mem_of_getElem? (i := 26) (by decide +kernel)), tm1 (List.mem_of_getElem? (i := 2) (by decide +kernel))⟩
theorem mX11_22 : Cond.methodLink RX11 22 qX5_init.1 ∈ lw_tbl := tm1 (List.mem_of_getElem? (i := 27) (by decide +kernel))
theorem mX5_3 : Cond.methodLink RX5 3 ⟨"java/lang/Object", "<init>", "()V"⟩ ∈ lw_tbl := tm1 (List.mem_of_getElem? (i := 30) (by decide +kernel))
theorem nX5_21 : Cond.classLink RX5 21 RX3 ∈ lw_tbl ∧ Cond.instantiable RX3 6 ∈ lw_tbl ∧ Cond.initialized RX3 ∈ lw_tbl := ⟨tm1 (List.mem_of_getElem? (i := 31) (by decide +kernel)), tm1 (List.mem_of_getElem? (i := 32) (by decide +kernel)), tm1 (List.mem_of_getElem? (i := 3) (by decide +kernel))⟩
theorem mX5_23 : Cond.methodLink RX5 23 qX3_init.1 ∈ lw_tbl := tm1 (List.mem_of_getElem? (i := 33) (by decide +kernel))
theorem mX3_3 : Cond.methodLink RX3 3 ⟨"java/lang/Object", "<init>", "()V"⟩ ∈ lw_tbl := tm1 (List.mem_of_getElem? (i := 36) (by decide +kernel))
theorem fX3_9 : Fl RX3 9 RX3 TX3 6 0 := ⟨tm1 (List.mem_of_getElem? (i := 37) (by decide +kernel)), inX3⟩
theorem fX9_118 : Fl RX9 118 RX3 TX3 6 0 := ⟨tm1 (List.mem_of_getElem? (i := 38) (by decide +kernel)), inX3⟩
theorem fX11_212 : Fl RX11 212 RX3 TX3 6 0 := ⟨tm1 (List.mem_of_getElem? (i := 39) (by decide +kernel)), inX3⟩
theorem fX3_15 : Fl RX3 15 RX3 TX3 6 1 := ⟨tm1 (List.mem_of_getElem? (i := 40) (by decide +kernel)), inX3⟩
theorem fX0_53 : Fl RX0 53 RX3 TX3 6 1 := ⟨tm1 (List.mem_of_getElem? (i := 41) (by decide +kernel)), inX3⟩
theorem fX9_139 : Fl RX9 139 RX3 TX3 6 1 := ⟨tm1 (List.mem_of_getElem? (i := 42) (by decide +kernel)), inX3⟩
theorem fX11_222 : Fl RX11 222 RX3 TX3 6 1 := ⟨tm1 (List.mem_of_getElem? (i := 43) (by decide +kernel)), inX3⟩
theorem fX3_18 : Fl RX3 18 RX3 TX3 6 2 := ⟨tm1 (List.mem_of_getElem? (i := 44) (by decide +kernel)), inX3⟩
theorem fX9_84 : Fl RX9 84 RX3 TX3 6 2 := ⟨tm1 (List.mem_of_getElem? (i := 45) (by decide +kernel)), inX3⟩
theorem fX11_185 : Fl RX11 185 RX3 TX3 6 2 := ⟨tm1 (List.mem_of_getElem? (i := 46) (by decide +kernel)), inX3⟩
theorem fX3_21 : Fl RX3 21 RX3 TX3 6 3 := ⟨tm1 (List.mem_of_getElem? (i := 47) (by decide +kernel)), inX3⟩
theorem fX0_25 : Fl RX0 25 RX3 TX3 6 3 := ⟨tm1 (List.mem_of_getElem? (i := 48) (by decide +kernel)), inX3⟩
theorem fX1_41 : Fl RX1 41 RX3 TX3 6 3 := ⟨tm1 (List.mem_of_getElem? (i := 49) (by decide +kernel)), inX3⟩
theorem fX9_93 : Fl RX9 93 RX3 TX3 6 3 := ⟨tm1 (List.mem_of_getElem? (i := 50) (by decide +kernel)), inX3⟩
theorem fX11_190 : Fl RX11 190 RX3 TX3 6 3 := ⟨tm1 (List.mem_of_getElem? (i := 51) (by decide +kernel)), inX3⟩
theorem fX3_24 : Fl RX3 24 RX3 TX3 6 4 := ⟨tm1 (List.mem_of_getElem? (i := 52) (by decide +kernel)), inX3⟩
theorem fX1_63 : Fl RX1 63 RX3 TX3 6 4 := ⟨tm1 (List.mem_of_getElem? (i := 53) (by decide +kernel)), inX3⟩
theorem fX9_136 : Fl RX9 136 RX3 TX3 6 4 := ⟨tm1 (List.mem_of_getElem? (i := 54) (by decide +kernel)), inX3⟩
theorem fX11_200 : Fl RX11 200 RX3 TX3 6 4 := ⟨tm1 (List.mem_of_getElem? (i := 55) (by decide +kernel)), inX3⟩
theorem fX3_27 : Fl RX3 27 RX3 TX3 6 5 := ⟨tm1 (List.mem_of_getElem? (i := 56) (by decide +kernel)), inX3⟩
theorem fX9_54 : Fl RX9 54 RX3 TX3 6 5 := ⟨tm1 (List.mem_of_getElem? (i := 57) (by decide +kernel)), inX3⟩
theorem fX11_197 : Fl RX11 197 RX3 TX3 6 5 := ⟨tm1 (List.mem_of_getElem? (i := 58) (by decide +kernel)), inX3⟩
theorem nX5_28 : Cond.classLink RX5 28 RX6 ∈ lw_tbl ∧ Cond.instantiable RX6 9 ∈ lw_tbl ∧ Cond.initialized RX6 ∈ lw_tbl := ⟨tm1 (List.mem_of_getElem? (i := 74) (by decide +kernel)), tm1 (List.mem_of_getElem? (i := 75) (by decide +kernel)), tm1 (List.mem_of_getElem? (i := 4) (by decide +kernel))⟩
theorem mX5_30 : Cond.methodLink RX5 30 qX6_init.1 ∈ lw_tbl := tm1 (List.mem_of_getElem? (i := 76) (by decide +kernel))
theorem mX6_3 : Cond.methodLink RX6 3 ⟨"java/lang/Object", "<init>", "()V"⟩ ∈ lw_tbl := tm1 (List.mem_of_getElem? (i := 79) (by decide +kernel))
theorem fX6_9 : Fl RX6 9 RX6 TX6 9 0 := ⟨tm1 (List.mem_of_getElem? (i := 80) (by decide +kernel)), inX6⟩
theorem fX6_15 : Fl RX6 15 RX6 TX6 9 1 := ⟨tm1 (List.mem_of_getElem? (i := 81) (by decide +kernel)), inX6⟩
theorem fX6_18 : Fl RX6 18 RX6 TX6 9 2 := ⟨tm1 (List.mem_of_getElem? (i := 82) (by decide +kernel)), inX6⟩
theorem fX6_21 : Fl RX6 21 RX6 TX6 9 3 := ⟨tm1 (List.mem_of_getElem? (i := 83) (by decide +kernel)), inX6⟩
theorem fX1_78 : Fl RX1 78 RX6 TX6 9 3 := ⟨tm1 (List.mem_of_getElem? (i := 84) (by decide +kernel)), inX6⟩
theorem fX11_178 : Fl RX11 178 RX6 TX6 9 3 := ⟨tm1 (List.mem_of_getElem? (i := 85) (by decide +kernel)), inX6⟩
theorem fX6_24 : Fl RX6 24 RX6 TX6 9 4 := ⟨tm1 (List.mem_of_getElem? (i := 86) (by decide +kernel)), inX6⟩
theorem fX1_83 : Fl RX1 83 RX6 TX6 9 4 := ⟨tm1 (List.mem_of_getElem? (i := 87) (by decide +kernel)), inX6⟩
theorem fX11_203 : Fl RX11 203 RX6 TX6 9 4 := ⟨tm1 (List.mem_of_getElem? (i := 88) (by decide +kernel)), inX6⟩
theorem fX6_27 : Fl RX6 27 RX6 TX6 9 5 := ⟨tm1 (List.mem_of_getElem? (i := 89) (by decide +kernel)), inX6⟩
theorem fX6_36 : Fl RX6 36 RX6 TX6 9 6 := ⟨tm1 (List.mem_of_getElem? (i := 90) (by decide +kernel)), inX6⟩
theorem fX6_40 : Fl RX6 40 RX6 TX6 9 7 := ⟨tm1 (List.mem_of_getElem? (i := 91) (by decide +kernel)), inX6⟩
theorem fX6_43 : Fl RX6 43 RX6 TX6 9 8 := ⟨tm1 (List.mem_of_getElem? (i := 92) (by decide +kernel)), inX6⟩
theorem mX5_35 : Cond.methodLink RX5 35 qX5_clear.1 ∈ lw_tbl := tm1 (List.mem_of_getElem? (i := 112) (by decide +kernel))
theorem mX5_60 : Cond.methodLink RX5 60 qJ7_fill_53178.1 ∈ lw_tbl := tm1 (List.mem_of_getElem? (i := 116) (by decide +kernel))
theorem mX5_66 : Cond.methodLink RX5 66 qX3_clear.1 ∈ lw_tbl := tm1 (List.mem_of_getElem? (i := 119) (by decide +kernel))
theorem mX3_30 : Cond.methodLink RX3 30 qJ7_fill_53178.1 ∈ lw_tbl := tm1 (List.mem_of_getElem? (i := 123) (by decide +kernel))
theorem mX5_67 : Cond.methodLink RX5 67 qX6_clear.1 ∈ lw_tbl := tm1 (List.mem_of_getElem? (i := 124) (by decide +kernel))
theorem mX6_30 : Cond.methodLink RX6 30 qJ7_fill_53178.1 ∈ lw_tbl := tm1 (List.mem_of_getElem? (i := 128) (by decide +kernel))
theorem fX0_15 : Fl RX0 15 RX5 TX5 12 0 := ⟨tm1 (List.mem_of_getElem? (i := 129) (by decide +kernel)), inX5⟩
theorem fX9_47 : Fl RX9 47 RX5 TX5 12 0 := ⟨tm1 (List.mem_of_getElem? (i := 130) (by decide +kernel)), inX5⟩
theorem fX1_32 : Fl RX1 32 RX5 TX5 12 0 := ⟨tm1 (List.mem_of_getElem? (i := 131) (by decide +kernel)), inX5⟩
theorem fX5_38 : Fl RX5 38 RX5 TX5 12 0 := ⟨tm1 (List.mem_of_getElem? (i := 132) (by decide +kernel)), inX5⟩
theorem fX11_120 : Fl RX11 120 RX5 TX5 12 0 := ⟨tm1 (List.mem_of_getElem? (i := 133) (by decide +kernel)), inX5⟩
theorem fX5_42 : Fl RX5 42 RX5 TX5 12 1 := ⟨tm1 (List.mem_of_getElem? (i := 134) (by decide +kernel)), inX5⟩
theorem fX11_123 : Fl RX11 123 RX5 TX5 12 1 := ⟨tm1 (List.mem_of_getElem? (i := 135) (by decide +kernel)), inX5⟩
theorem fX9_29 : Fl RX9 29 RX5 TX5 12 2 := ⟨tm1 (List.mem_of_getElem? (i := 136) (by decide +kernel)), inX5⟩
theorem fX5_45 : Fl RX5 45 RX5 TX5 12 2 := ⟨tm1 (List.mem_of_getElem? (i := 137) (by decide +kernel)), inX5⟩
theorem fX11_126 : Fl RX11 126 RX5 TX5 12 2 := ⟨tm1 (List.mem_of_getElem? (i := 138) (by decide +kernel)), inX5⟩
theorem fX9_75 : Fl RX9 75 RX5 TX5 12 3 := ⟨tm1 (List.mem_of_getElem? (i := 139) (by decide +kernel)), inX5⟩
theorem fX5_48 : Fl RX5 48 RX5 TX5 12 3 := ⟨tm1 (List.mem_of_getElem? (i := 140) (by decide +kernel)), inX5⟩
theorem fX1_86 : Fl RX1 86 RX5 TX5 12 4 := ⟨tm1 (List.mem_of_getElem? (i := 141) (by decide +kernel)), inX5⟩
theorem fX5_51 : Fl RX5 51 RX5 TX5 12 4 := ⟨tm1 (List.mem_of_getElem? (i := 142) (by decide +kernel)), inX5⟩
theorem fX5_54 : Fl RX5 54 RX5 TX5 12 5 := ⟨tm1 (List.mem_of_getElem? (i := 143) (by decide +kernel)), inX5⟩
theorem fX5_57 : Fl RX5 57 RX5 TX5 12 6 := ⟨tm1 (List.mem_of_getElem? (i := 144) (by decide +kernel)), inX5⟩
theorem fX5_9 : Fl RX5 9 RX5 TX5 12 7 := ⟨tm1 (List.mem_of_getElem? (i := 145) (by decide +kernel)), inX5⟩
theorem fX0_34 : Fl RX0 34 RX5 TX5 12 7 := ⟨tm1 (List.mem_of_getElem? (i := 146) (by decide +kernel)), inX5⟩
theorem fX11_174 : Fl RX11 174 RX5 TX5 12 7 := ⟨tm1 (List.mem_of_getElem? (i := 147) (by decide +kernel)), inX5⟩
theorem fX5_15 : Fl RX5 15 RX5 TX5 12 8 := ⟨tm1 (List.mem_of_getElem? (i := 148) (by decide +kernel)), inX5⟩
theorem fX11_206 : Fl RX11 206 RX5 TX5 12 8 := ⟨tm1 (List.mem_of_getElem? (i := 149) (by decide +kernel)), inX5⟩
theorem fX5_18 : Fl RX5 18 RX5 TX5 12 9 := ⟨tm1 (List.mem_of_getElem? (i := 150) (by decide +kernel)), inX5⟩
theorem fX11_225 : Fl RX11 225 RX5 TX5 12 9 := ⟨tm1 (List.mem_of_getElem? (i := 151) (by decide +kernel)), inX5⟩
theorem fX5_24 : Fl RX5 24 RX5 TX5 12 10 := ⟨tm1 (List.mem_of_getElem? (i := 152) (by decide +kernel)), inX5⟩
theorem fX9_35 : Fl RX9 35 RX5 TX5 12 10 := ⟨tm1 (List.mem_of_getElem? (i := 153) (by decide +kernel)), inX5⟩
theorem fX0_21 : Fl RX0 21 RX5 TX5 12 10 := ⟨tm1 (List.mem_of_getElem? (i := 154) (by decide +kernel)), inX5⟩
theorem fX1_37 : Fl RX1 37 RX5 TX5 12 10 := ⟨tm1 (List.mem_of_getElem? (i := 155) (by decide +kernel)), inX5⟩
theorem fX11_181 : Fl RX11 181 RX5 TX5 12 10 := ⟨tm1 (List.mem_of_getElem? (i := 156) (by decide +kernel)), inX5⟩
theorem fX5_31 : Fl RX5 31 RX5 TX5 12 11 := ⟨tm1 (List.mem_of_getElem? (i := 157) (by decide +kernel)), inX5⟩
theorem fX9_65 : Fl RX9 65 RX5 TX5 12 11 := ⟨tm1 (List.mem_of_getElem? (i := 158) (by decide +kernel)), inX5⟩
theorem fX1_70 : Fl RX1 70 RX5 TX5 12 11 := ⟨tm1 (List.mem_of_getElem? (i := 159) (by decide +kernel)), inX5⟩
theorem fX11_135 : Fl RX11 135 RX5 TX5 12 11 := ⟨tm1 (List.mem_of_getElem? (i := 160) (by decide +kernel)), inX5⟩
theorem nX11_34 : Cond.classLink RX11 34 RX7 ∈ lw_tbl ∧ Cond.instantiable RX7 9 ∈ lw_tbl ∧ Cond.initialized RX7 ∈ lw_tbl := ⟨tm1 (List.mem_of_getElem? (i := 187) (by decide +kernel)), tm1 (List.mem_of_getElem? (i := 188) (by decide +kernel)), tm1 (List.mem_of_getElem? (i := 6) (by decide +kernel))⟩
theorem mX11_36 : Cond.methodLink RX11 36 qX7_init.1 ∈ lw_tbl := tm1 (List.mem_of_getElem? (i := 189) (by decide +kernel))
theorem mX7_3 : Cond.methodLink RX7 3 ⟨"java/lang/Object", "<init>", "()V"⟩ ∈ lw_tbl := tm1 (List.mem_of_getElem? (i := 192) (by decide +kernel))
theorem fX7_9 : Fl RX7 9 RX7 TX7 9 2 := ⟨tm1 (List.mem_of_getElem? (i := 193) (by decide +kernel)), inX7⟩
theorem fX7_15 : Fl RX7 15 RX7 TX7 9 7 := ⟨tm1 (List.mem_of_getElem? (i := 194) (by decide +kernel)), inX7⟩
theorem nX11_41 : Cond.classLink RX11 41 RX0 ∈ lw_tbl ∧ Cond.instantiable RX0 2 ∈ lw_tbl ∧ Cond.initialized RX0 ∈ lw_tbl := ⟨tm1 (List.mem_of_getElem? (i := 214) (by decide +kernel)), tm1 (List.mem_of_getElem? (i := 215) (by decide +kernel)), tm1 (List.mem_of_getElem? (i := 7) (by decide +kernel))⟩
theorem mX11_43 : Cond.methodLink RX11 43 qX0_init.1 ∈ lw_tbl := tm1 (List.mem_of_getElem? (i := 216) (by decide +kernel))
theorem mX0_3 : Cond.methodLink RX0 3 ⟨"java/lang/Object", "<init>", "()V"⟩ ∈ lw_tbl := tm1 (List.mem_of_getElem? (i := 219) (by decide +kernel))
theorem fX0_9 : Fl RX0 9 RX0 TX0 2 0 := ⟨tm1 (List.mem_of_getElem? (i := 220) (by decide +kernel)), inX0⟩
theorem fX11_243 : Fl RX11 243 RX0 TX0 2 0 := ⟨tm1 (List.mem_of_getElem? (i := 221) (by decide +kernel)), inX0⟩
theorem fX0_88 : Fl RX0 88 RX0 TX0 2 1 := ⟨tm1 (List.mem_of_getElem? (i := 222) (by decide +kernel)), inX0⟩
theorem fX11_240 : Fl RX11 240 RX0 TX0 2 1 := ⟨tm1 (List.mem_of_getElem? (i := 223) (by decide +kernel)), inX0⟩
theorem nX11_48 : Cond.classLink RX11 48 RX8 ∈ lw_tbl ∧ Cond.instantiable RX8 2 ∈ lw_tbl ∧ Cond.initialized RX8 ∈ lw_tbl := ⟨tm1 (List.mem_of_getElem? (i := 229) (by decide +kernel)), tm1 (List.mem_of_getElem? (i := 230) (by decide +kernel)), tm1 (List.mem_of_getElem? (i := 8) (by decide +kernel))⟩
theorem mX11_50 : Cond.methodLink RX11 50 qX8_init.1 ∈ lw_tbl := tm1 (List.mem_of_getElem? (i := 231) (by decide +kernel))
theorem mX8_3 : Cond.methodLink RX8 3 ⟨"java/lang/Object", "<init>", "()V"⟩ ∈ lw_tbl := tm1 (List.mem_of_getElem? (i := 234) (by decide +kernel))
theorem fX8_9 : Fl RX8 9 RX8 TX8 2 0 := ⟨tm1 (List.mem_of_getElem? (i := 235) (by decide +kernel)), inX8⟩
theorem fX8_15 : Fl RX8 15 RX8 TX8 2 1 := ⟨tm1 (List.mem_of_getElem? (i := 236) (by decide +kernel)), inX8⟩
theorem nX11_55 : Cond.classLink RX11 55 RX2 ∈ lw_tbl ∧ Cond.instantiable RX2 4 ∈ lw_tbl ∧ Cond.initialized RX2 ∈ lw_tbl := ⟨tm2 (List.mem_of_getElem? (i := 2) (by decide +kernel)), tm2 (List.mem_of_getElem? (i := 3) (by decide +kernel)), tm1 (List.mem_of_getElem? (i := 9) (by decide +kernel))⟩
theorem mX11_57 : Cond.methodLink RX11 57 qX2_init.1 ∈ lw_tbl := tm2 (List.mem_of_getElem? (i := 4) (by decide +kernel))
theorem mX2_3 : Cond.methodLink RX2 3 ⟨"java/lang/Object", "<init>", "()V"⟩ ∈ lw_tbl := tm2 (List.mem_of_getElem? (i := 7) (by decide +kernel))
theorem fX2_9 : Fl RX2 9 RX2 TX2 4 0 := ⟨tm2 (List.mem_of_getElem? (i := 8) (by decide +kernel)), inX2⟩
theorem nX11_62 : Cond.classLink RX11 62 RX10 ∈ lw_tbl ∧ Cond.instantiable RX10 3 ∈ lw_tbl ∧ Cond.initialized RX10 ∈ lw_tbl := ⟨tm2 (List.mem_of_getElem? (i := 18) (by decide +kernel)), tm2 (List.mem_of_getElem? (i := 19) (by decide +kernel)), tm1 (List.mem_of_getElem? (i := 10) (by decide +kernel))⟩
theorem mX11_64 : Cond.methodLink RX11 64 qX10_init.1 ∈ lw_tbl := tm2 (List.mem_of_getElem? (i := 20) (by decide +kernel))
theorem mX10_3 : Cond.methodLink RX10 3 ⟨"java/lang/Object", "<init>", "()V"⟩ ∈ lw_tbl := tm2 (List.mem_of_getElem? (i := 23) (by decide +kernel))
theorem fX10_9 : Fl RX10 9 RX10 TX10 3 1 := ⟨tm2 (List.mem_of_getElem? (i := 24) (by decide +kernel)), inX10⟩
theorem fX10_15 : Fl RX10 15 RX10 TX10 3 2 := ⟨tm2 (List.mem_of_getElem? (i := 25) (by decide +kernel)), inX10⟩
theorem nX11_69 : Cond.classLink RX11 69 RX1 ∈ lw_tbl ∧ Cond.instantiable RX1 5 ∈ lw_tbl ∧ Cond.initialized RX1 ∈ lw_tbl := ⟨tm2 (List.mem_of_getElem? (i := 33) (by decide +kernel)), tm2 (List.mem_of_getElem? (i := 34) (by decide +kernel)), tm1 (List.mem_of_getElem? (i := 11) (by decide +kernel))⟩
theorem mX11_71 : Cond.methodLink RX11 71 qX1_init.1 ∈ lw_tbl := tm2 (List.mem_of_getElem? (i := 35) (by decide +kernel))
theorem mX1_3 : Cond.methodLink RX1 3 ⟨"java/lang/Object", "<init>", "()V"⟩ ∈ lw_tbl := tm2 (List.mem_of_getElem? (i := 38) (by decide +kernel))
theorem fX1_15 : Fl RX1 15 RX1 TX1 5 0 := ⟨tm2 (List.mem_of_getElem? (i := 39) (by decide +kernel)), inX1⟩
theorem fX9_152 : Fl RX9 152 RX1 TX1 5 0 := ⟨tm2 (List.mem_of_getElem? (i := 40) (by decide +kernel)), inX1⟩
theorem fX1_29 : Fl RX1 29 RX1 TX1 5 1 := ⟨tm2 (List.mem_of_getElem? (i := 41) (by decide +kernel)), inX1⟩
theorem fX9_161 : Fl RX9 161 RX1 TX1 5 1 := ⟨tm2 (List.mem_of_getElem? (i := 42) (by decide +kernel)), inX1⟩
theorem fX1_9 : Fl RX1 9 RX1 TX1 5 2 := ⟨tm2 (List.mem_of_getElem? (i := 43) (by decide +kernel)), inX1⟩
theorem fX1_22 : Fl RX1 22 RX1 TX1 5 3 := ⟨tm2 (List.mem_of_getElem? (i := 44) (by decide +kernel)), inX1⟩
theorem fX1_19 : Fl RX1 19 RX1 TX1 5 4 := ⟨tm2 (List.mem_of_getElem? (i := 45) (by decide +kernel)), inX1⟩
theorem nX11_76 : Cond.classLink RX11 76 RX4 ∈ lw_tbl ∧ Cond.instantiable RX4 3 ∈ lw_tbl ∧ Cond.initialized RX4 ∈ lw_tbl := ⟨tm2 (List.mem_of_getElem? (i := 57) (by decide +kernel)), tm2 (List.mem_of_getElem? (i := 58) (by decide +kernel)), tm1 (List.mem_of_getElem? (i := 12) (by decide +kernel))⟩
theorem mX11_78 : Cond.methodLink RX11 78 qX4_init.1 ∈ lw_tbl := tm2 (List.mem_of_getElem? (i := 59) (by decide +kernel))
theorem mX4_1 : Cond.methodLink RX4 1 ⟨"java/lang/Object", "<init>", "()V"⟩ ∈ lw_tbl := tm2 (List.mem_of_getElem? (i := 62) (by decide +kernel))
theorem fX4_7 : Fl RX4 7 RX4 TX4 3 0 := ⟨tm2 (List.mem_of_getElem? (i := 63) (by decide +kernel)), inX4⟩
theorem fX4_13 : Fl RX4 13 RX4 TX4 3 1 := ⟨tm2 (List.mem_of_getElem? (i := 64) (by decide +kernel)), inX4⟩
theorem fX4_16 : Fl RX4 16 RX4 TX4 3 2 := ⟨tm2 (List.mem_of_getElem? (i := 65) (by decide +kernel)), inX4⟩
theorem nX11_83 : Cond.classLink RX11 83 RX9 ∈ lw_tbl ∧ Cond.instantiable RX9 5 ∈ lw_tbl ∧ Cond.initialized RX9 ∈ lw_tbl := ⟨tm2 (List.mem_of_getElem? (i := 73) (by decide +kernel)), tm2 (List.mem_of_getElem? (i := 74) (by decide +kernel)), tm1 (List.mem_of_getElem? (i := 13) (by decide +kernel))⟩
theorem mX11_85 : Cond.methodLink RX11 85 qX9_init.1 ∈ lw_tbl := tm2 (List.mem_of_getElem? (i := 75) (by decide +kernel))
theorem mX9_3 : Cond.methodLink RX9 3 ⟨"java/lang/Object", "<init>", "()V"⟩ ∈ lw_tbl := tm2 (List.mem_of_getElem? (i := 78) (by decide +kernel))
theorem fX9_9 : Fl RX9 9 RX9 TX9 5 0 := ⟨tm2 (List.mem_of_getElem? (i := 79) (by decide +kernel)), inX9⟩
theorem fX9_15 : Fl RX9 15 RX9 TX9 5 1 := ⟨tm2 (List.mem_of_getElem? (i := 80) (by decide +kernel)), inX9⟩
theorem fX9_19 : Fl RX9 19 RX9 TX9 5 2 := ⟨tm2 (List.mem_of_getElem? (i := 81) (by decide +kernel)), inX9⟩
theorem fX9_23 : Fl RX9 23 RX9 TX9 5 3 := ⟨tm2 (List.mem_of_getElem? (i := 82) (by decide +kernel)), inX9⟩
theorem fX9_26 : Fl RX9 26 RX9 TX9 5 4 := ⟨tm2 (List.mem_of_getElem? (i := 83) (by decide +kernel)), inX9⟩
theorem fX11_9 : Fl RX11 9 RX11 TX11 17 0 := ⟨tm2 (List.mem_of_getElem? (i := 95) (by decide +kernel)), inX11⟩
theorem fX11_92 : Fl RX11 92 RX11 TX11 17 2 := ⟨tm2 (List.mem_of_getElem? (i := 96) (by decide +kernel)), inX11⟩
theorem fX11_13 : Fl RX11 13 RX11 TX11 17 3 := ⟨tm2 (List.mem_of_getElem? (i := 97) (by decide +kernel)), inX11⟩
theorem fX11_17 : Fl RX11 17 RX11 TX11 17 4 := ⟨tm2 (List.mem_of_getElem? (i := 98) (by decide +kernel)), inX11⟩
theorem fX11_23 : Fl RX11 23 RX11 TX11 17 5 := ⟨tm2 (List.mem_of_getElem? (i := 99) (by decide +kernel)), inX11⟩
theorem fX11_27 : Fl RX11 27 RX11 TX11 17 6 := ⟨tm2 (List.mem_of_getElem? (i := 100) (by decide +kernel)), inX11⟩
theorem fX11_30 : Fl RX11 30 RX11 TX11 17 7 := ⟨tm2 (List.mem_of_getElem? (i := 101) (by decide +kernel)), inX11⟩
theorem fX11_37 : Fl RX11 37 RX11 TX11 17 9 := ⟨tm2 (List.mem_of_getElem? (i := 102) (by decide +kernel)), inX11⟩
theorem fX11_44 : Fl RX11 44 RX11 TX11 17 10 := ⟨tm2 (List.mem_of_getElem? (i := 103) (by decide +kernel)), inX11⟩
theorem fX11_51 : Fl RX11 51 RX11 TX11 17 11 := ⟨tm2 (List.mem_of_getElem? (i := 104) (by decide +kernel)), inX11⟩
theorem fX11_58 : Fl RX11 58 RX11 TX11 17 12 := ⟨tm2 (List.mem_of_getElem? (i := 105) (by decide +kernel)), inX11⟩
theorem fX11_65 : Fl RX11 65 RX11 TX11 17 13 := ⟨tm2 (List.mem_of_getElem? (i := 106) (by decide +kernel)), inX11⟩
theorem fX11_72 : Fl RX11 72 RX11 TX11 17 14 := ⟨tm2 (List.mem_of_getElem? (i := 107) (by decide +kernel)), inX11⟩
theorem fX11_79 : Fl RX11 79 RX11 TX11 17 15 := ⟨tm2 (List.mem_of_getElem? (i := 108) (by decide +kernel)), inX11⟩
theorem fX11_88 : Fl RX11 88 RX11 TX11 17 16 := ⟨tm2 (List.mem_of_getElem? (i := 109) (by decide +kernel)), inX11⟩
theorem mL_62 : Cond.methodLink RL 62 qX11_status.1 ∈ lw_tbl := tm2 (List.mem_of_getElem? (i := 145) (by decide +kernel))
theorem mL_31 : Cond.methodLink RL 31 qX11_node.1 ∈ lw_tbl := tm2 (List.mem_of_getElem? (i := 149) (by decide +kernel))
theorem mX11_102 : Cond.methodLink RX11 102 qX11_rangeStatus.1 ∈ lw_tbl := tm2 (List.mem_of_getElem? (i := 153) (by decide +kernel))
theorem mX11_159 : Cond.methodLink RX11 159 qX11_nodeStatus.1 ∈ lw_tbl := tm2 (List.mem_of_getElem? (i := 156) (by decide +kernel))
theorem mX11_386 : Cond.methodLink RX11 386 qX5_isNode.1 ∈ lw_tbl := tm2 (List.mem_of_getElem? (i := 160) (by decide +kernel))
theorem mX11_163 : Cond.methodLink RX11 163 qX11_firstOf.1 ∈ lw_tbl := tm2 (List.mem_of_getElem? (i := 164) (by decide +kernel))
theorem mX11_106 : Cond.methodLink RX11 106 qX11_fails.1 ∈ lw_tbl := tm2 (List.mem_of_getElem? (i := 167) (by decide +kernel))
theorem mX11_167 : Cond.methodLink RX11 167 qX5_isOn.1 ∈ lw_tbl := tm2 (List.mem_of_getElem? (i := 171) (by decide +kernel))
theorem mX5_81 : Cond.methodLink RX5 81 qX5_isNode.1 ∈ lw_tbl := tm2 (List.mem_of_getElem? (i := 175) (by decide +kernel))
theorem mX5_85 : Cond.methodLink RX5 85 qX5_has.1 ∈ lw_tbl := tm2 (List.mem_of_getElem? (i := 176) (by decide +kernel))
theorem mX11_170 : Cond.methodLink RX11 170 qX11_asNumber.1 ∈ lw_tbl := tm2 (List.mem_of_getElem? (i := 179) (by decide +kernel))
theorem mX11_193 : Cond.methodLink RX11 193 qX0_behind.1 ∈ lw_tbl := tm2 (List.mem_of_getElem? (i := 182) (by decide +kernel))
theorem mX0_41 : Cond.methodLink RX0 41 qX0_willing.1 ∈ lw_tbl := tm2 (List.mem_of_getElem? (i := 185) (by decide +kernel))
theorem mX0_30 : Cond.methodLink RX0 30 qX5_has.1 ∈ lw_tbl := tm2 (List.mem_of_getElem? (i := 188) (by decide +kernel))
theorem mX0_37 : Cond.methodLink RX0 37 qX5_with.1 ∈ lw_tbl := tm2 (List.mem_of_getElem? (i := 189) (by decide +kernel))
theorem mX0_45 : Cond.methodLink RX0 45 qX0_knownOf.1 ∈ lw_tbl := tm2 (List.mem_of_getElem? (i := 192) (by decide +kernel))
theorem mX0_56 : Cond.methodLink RX0 56 qX5_at.1 ∈ lw_tbl := tm2 (List.mem_of_getElem? (i := 195) (by decide +kernel))
theorem mX0_49 : Cond.methodLink RX0 49 qX5_bit.1 ∈ lw_tbl := tm2 (List.mem_of_getElem? (i := 198) (by decide +kernel))
theorem mL_34 : Cond.methodLink RL 34 qX11_link.1 ∈ lw_tbl := tm2 (List.mem_of_getElem? (i := 201) (by decide +kernel))
theorem mX11_209 : Cond.methodLink RX11 209 qX11_pairStatus.1 ∈ lw_tbl := tm2 (List.mem_of_getElem? (i := 205) (by decide +kernel))
theorem mX11_215 : Cond.methodLink RX11 215 qX5_at.1 ∈ lw_tbl := tm2 (List.mem_of_getElem? (i := 209) (by decide +kernel))
theorem mX11_218 : Cond.methodLink RX11 218 qX5_has.1 ∈ lw_tbl := tm2 (List.mem_of_getElem? (i := 210) (by decide +kernel))
theorem mL_53 : Cond.methodLink RL 53 qX11_would.1 ∈ lw_tbl := tm2 (List.mem_of_getElem? (i := 211) (by decide +kernel))
theorem mX11_237 : Cond.methodLink RX11 237 qX0_chosen.1 ∈ lw_tbl := tm2 (List.mem_of_getElem? (i := 215) (by decide +kernel))
theorem mX0_60 : Cond.methodLink RX0 60 qX0_behind.1 ∈ lw_tbl := tm2 (List.mem_of_getElem? (i := 219) (by decide +kernel))
theorem mX0_78 : Cond.methodLink RX0 78 qX0_onlyWays.1 ∈ lw_tbl := tm2 (List.mem_of_getElem? (i := 220) (by decide +kernel))
theorem mX0_82 : Cond.methodLink RX0 82 qX0_pickMore.1 ∈ lw_tbl := tm2 (List.mem_of_getElem? (i := 223) (by decide +kernel))
theorem mX0_91 : Cond.methodLink RX0 91 qX0_best.1 ∈ lw_tbl := tm2 (List.mem_of_getElem? (i := 227) (by decide +kernel))
theorem mX0_66 : Cond.methodLink RX0 66 qJ6_bitCount_0f7a4.1 ∈ lw_tbl := tm2 (List.mem_of_getElem? (i := 230) (by decide +kernel))
theorem kJ6_265 : Cond.constant RJ6 265 (nI 1431655765) ∈ lw_tbl := tm2 (List.mem_of_getElem? (i := 233) (by decide +kernel))
theorem kJ6_266 : Cond.constant RJ6 266 (nI 858993459) ∈ lw_tbl := tm2 (List.mem_of_getElem? (i := 234) (by decide +kernel))
theorem kJ6_267 : Cond.constant RJ6 267 (nI 252645135) ∈ lw_tbl := tm2 (List.mem_of_getElem? (i := 235) (by decide +kernel))
theorem mX0_85 : Cond.methodLink RX0 85 qX0_dropSpare.1 ∈ lw_tbl := tm2 (List.mem_of_getElem? (i := 236) (by decide +kernel))
theorem mL_82 : Cond.methodLink RL 82 qX11_pick.1 ∈ lw_tbl := tm2 (List.mem_of_getElem? (i := 239) (by decide +kernel))
theorem mL_72 : Cond.methodLink RL 72 qX11_bestWill.1 ∈ lw_tbl := tm3 (List.mem_of_getElem? (i := 3) (by decide +kernel))
theorem mX11_116 : Cond.methodLink RX11 116 qX5_become.1 ∈ lw_tbl := tm3 (List.mem_of_getElem? (i := 7) (by decide +kernel))
theorem mX5_68 : Cond.methodLink RX5 68 ⟨"java/lang/System", "arraycopy", "(Ljava/lang/Object;ILjava/lang/Object;II)V"⟩ ∈ lw_tbl := tm3 (List.mem_of_getElem? (i := 11) (by decide +kernel))
theorem mX5_74 : Cond.methodLink RX5 74 qX3_become.1 ∈ lw_tbl := tm3 (List.mem_of_getElem? (i := 14) (by decide +kernel))
theorem mX3_36 : Cond.methodLink RX3 36 ⟨"java/lang/System", "arraycopy", "(Ljava/lang/Object;ILjava/lang/Object;II)V"⟩ ∈ lw_tbl := tm3 (List.mem_of_getElem? (i := 18) (by decide +kernel))
theorem mX5_78 : Cond.methodLink RX5 78 qX6_become.1 ∈ lw_tbl := tm3 (List.mem_of_getElem? (i := 19) (by decide +kernel))
theorem mX6_46 : Cond.methodLink RX6 46 ⟨"java/lang/System", "arraycopy", "(Ljava/lang/Object;ILjava/lang/Object;II)V"⟩ ∈ lw_tbl := tm3 (List.mem_of_getElem? (i := 23) (by decide +kernel))
theorem mX11_246 : Cond.methodLink RX11 246 qX0_chosenByAll.1 ∈ lw_tbl := tm3 (List.mem_of_getElem? (i := 24) (by decide +kernel))
theorem mX0_71 : Cond.methodLink RX0 71 qX5_isOn.1 ∈ lw_tbl := tm3 (List.mem_of_getElem? (i := 28) (by decide +kernel))
theorem mX0_75 : Cond.methodLink RX0 75 qX0_chosen.1 ∈ lw_tbl := tm3 (List.mem_of_getElem? (i := 29) (by decide +kernel))
theorem mL_56 : Cond.methodLink RL 56 qX11_least.1 ∈ lw_tbl := tm3 (List.mem_of_getElem? (i := 30) (by decide +kernel))
theorem mX11_250 : Cond.methodLink RX11 250 qX0_fewest.1 ∈ lw_tbl := tm3 (List.mem_of_getElem? (i := 34) (by decide +kernel))
theorem mX0_63 : Cond.methodLink RX0 63 qX0_isFewer.1 ∈ lw_tbl := tm3 (List.mem_of_getElem? (i := 37) (by decide +kernel))
theorem mL_59 : Cond.methodLink RL 59 qX11_covers.1 ∈ lw_tbl := tm3 (List.mem_of_getElem? (i := 40) (by decide +kernel))
theorem mX11_253 : Cond.methodLink RX11 253 qX11_setStatus.1 ∈ lw_tbl := tm3 (List.mem_of_getElem? (i := 44) (by decide +kernel))
theorem mX11_256 : Cond.methodLink RX11 256 qX0_knownOf.1 ∈ lw_tbl := tm3 (List.mem_of_getElem? (i := 48) (by decide +kernel))
theorem mL_66 : Cond.methodLink RL 66 qX11_needed.1 ∈ lw_tbl := tm3 (List.mem_of_getElem? (i := 49) (by decide +kernel))
theorem mX11_260 : Cond.methodLink RX11 260 qX0_onlyWays.1 ∈ lw_tbl := tm3 (List.mem_of_getElem? (i := 53) (by decide +kernel))
theorem mL_69 : Cond.methodLink RL 69 qX11_waste.1 ∈ lw_tbl := tm3 (List.mem_of_getElem? (i := 54) (by decide +kernel))
theorem mX11_264 : Cond.methodLink RX11 264 qJ6_bitCount_0f7a4.1 ∈ lw_tbl := tm3 (List.mem_of_getElem? (i := 58) (by decide +kernel))
theorem mL_16 : Cond.methodLink RL 16 qX11_add.1 ∈ lw_tbl := tm3 (List.mem_of_getElem? (i := 59) (by decide +kernel))
theorem mX11_373 : Cond.methodLink RX11 373 qX5_addNode.1 ∈ lw_tbl := tm3 (List.mem_of_getElem? (i := 63) (by decide +kernel))
theorem mX5_89 : Cond.methodLink RX5 89 qX5_bit.1 ∈ lw_tbl := tm3 (List.mem_of_getElem? (i := 67) (by decide +kernel))
theorem mL_24 : Cond.methodLink RL 24 qX11_turn.1 ∈ lw_tbl := tm3 (List.mem_of_getElem? (i := 68) (by decide +kernel))
theorem mX11_279 : Cond.methodLink RX11 279 qX5_with.1 ∈ lw_tbl := tm3 (List.mem_of_getElem? (i := 72) (by decide +kernel))
theorem mL_79 : Cond.methodLink RL 79 qX11_will.1 ∈ lw_tbl := tm3 (List.mem_of_getElem? (i := 73) (by decide +kernel))
theorem mL_20 : Cond.methodLink RL 20 qX11_ear.1 ∈ lw_tbl := tm3 (List.mem_of_getElem? (i := 77) (by decide +kernel))
theorem mL_28 : Cond.methodLink RL 28 qX11_tick.1 ∈ lw_tbl := tm3 (List.mem_of_getElem? (i := 81) (by decide +kernel))
theorem mX11_349 : Cond.methodLink RX11 349 qX4_begin.1 ∈ lw_tbl := tm3 (List.mem_of_getElem? (i := 85) (by decide +kernel))
theorem mX11_379 : Cond.methodLink RX11 379 qX9_step.1 ∈ lw_tbl := tm3 (List.mem_of_getElem? (i := 89) (by decide +kernel))
theorem mX9_39 : Cond.methodLink RX9 39 qX9_sayHellos.1 ∈ lw_tbl := tm3 (List.mem_of_getElem? (i := 93) (by decide +kernel))
theorem mX9_87 : Cond.methodLink RX9 87 ⟨"java/lang/System", "arraycopy", "(Ljava/lang/Object;ILjava/lang/Object;II)V"⟩ ∈ lw_tbl := tm3 (List.mem_of_getElem? (i := 97) (by decide +kernel))
theorem mX9_43 : Cond.methodLink RX9 43 qX9_hearHellos.1 ∈ lw_tbl := tm3 (List.mem_of_getElem? (i := 98) (by decide +kernel))
theorem mX9_50 : Cond.methodLink RX9 50 qX5_isOn.1 ∈ lw_tbl := tm3 (List.mem_of_getElem? (i := 102) (by decide +kernel))
theorem mX9_96 : Cond.methodLink RX9 96 qX5_comesTo.1 ∈ lw_tbl := tm3 (List.mem_of_getElem? (i := 103) (by decide +kernel))
theorem mX5_93 : Cond.methodLink RX5 93 qX5_at.1 ∈ lw_tbl := tm3 (List.mem_of_getElem? (i := 107) (by decide +kernel))
theorem mX9_100 : Cond.methodLink RX9 100 qX4_loses.1 ∈ lw_tbl := tm3 (List.mem_of_getElem? (i := 108) (by decide +kernel))
theorem kX4_19 : Cond.constant RX4 19 (nI 51349) ∈ lw_tbl := tm3 (List.mem_of_getElem? (i := 112) (by decide +kernel))
theorem kX4_20 : Cond.constant RX4 20 (nI 243000) ∈ lw_tbl := tm3 (List.mem_of_getElem? (i := 113) (by decide +kernel))
theorem mX9_106 : Cond.methodLink RX9 106 qX9_prove.1 ∈ lw_tbl := tm3 (List.mem_of_getElem? (i := 114) (by decide +kernel))
theorem mX9_114 : Cond.methodLink RX9 114 qX5_at.1 ∈ lw_tbl := tm3 (List.mem_of_getElem? (i := 118) (by decide +kernel))
theorem mX9_121 : Cond.methodLink RX9 121 qX3_qualityAfter.1 ∈ lw_tbl := tm3 (List.mem_of_getElem? (i := 119) (by decide +kernel))
theorem mX9_125 : Cond.methodLink RX9 125 qX5_has.1 ∈ lw_tbl := tm3 (List.mem_of_getElem? (i := 122) (by decide +kernel))
theorem mX9_128 : Cond.methodLink RX9 128 qX5_isUpAt.1 ∈ lw_tbl := tm3 (List.mem_of_getElem? (i := 123) (by decide +kernel))
theorem mX9_132 : Cond.methodLink RX9 132 qX5_with.1 ∈ lw_tbl := tm3 (List.mem_of_getElem? (i := 127) (by decide +kernel))
theorem mX9_110 : Cond.methodLink RX9 110 qX9_learn.1 ∈ lw_tbl := tm3 (List.mem_of_getElem? (i := 128) (by decide +kernel))
theorem mX9_59 : Cond.methodLink RX9 59 qX0_chosen.1 ∈ lw_tbl := tm3 (List.mem_of_getElem? (i := 132) (by decide +kernel))
theorem mX9_69 : Cond.methodLink RX9 69 qX6_age.1 ∈ lw_tbl := tm3 (List.mem_of_getElem? (i := 133) (by decide +kernel))
theorem mX6_56 : Cond.methodLink RX6 56 qX5_at.1 ∈ lw_tbl := tm3 (List.mem_of_getElem? (i := 137) (by decide +kernel))
theorem mX6_62 : Cond.methodLink RX6 62 qJ9_max_7cf53.1 ∈ lw_tbl := tm3 (List.mem_of_getElem? (i := 138) (by decide +kernel))
theorem mX9_78 : Cond.methodLink RX9 78 qX9_sendNotices.1 ∈ lw_tbl := tm3 (List.mem_of_getElem? (i := 141) (by decide +kernel))
theorem mX9_142 : Cond.methodLink RX9 142 qX6_renew.1 ∈ lw_tbl := tm3 (List.mem_of_getElem? (i := 145) (by decide +kernel))
theorem mX9_148 : Cond.methodLink RX9 148 qX1_send.1 ∈ lw_tbl := tm3 (List.mem_of_getElem? (i := 149) (by decide +kernel))
theorem mX1_25 : Cond.methodLink RX1 25 qX1_stand.1 ∈ lw_tbl := tm3 (List.mem_of_getElem? (i := 153) (by decide +kernel))
theorem mX1_46 : Cond.methodLink RX1 46 qX5_has.1 ∈ lw_tbl := tm3 (List.mem_of_getElem? (i := 157) (by decide +kernel))
theorem mX1_66 : Cond.methodLink RX1 66 qX5_with.1 ∈ lw_tbl := tm3 (List.mem_of_getElem? (i := 158) (by decide +kernel))
theorem mX1_50 : Cond.methodLink RX1 50 qX5_comesTo.1 ∈ lw_tbl := tm3 (List.mem_of_getElem? (i := 159) (by decide +kernel))
theorem mX1_53 : Cond.methodLink RX1 53 qX4_loses.1 ∈ lw_tbl := tm3 (List.mem_of_getElem? (i := 160) (by decide +kernel))
theorem mX1_59 : Cond.methodLink RX1 59 qX1_hand.1 ∈ lw_tbl := tm3 (List.mem_of_getElem? (i := 161) (by decide +kernel))
theorem mX1_74 : Cond.methodLink RX1 74 qX5_at.1 ∈ lw_tbl := tm3 (List.mem_of_getElem? (i := 165) (by decide +kernel))
theorem mX1_89 : Cond.methodLink RX1 89 qX6_takeIn.1 ∈ lw_tbl := tm3 (List.mem_of_getElem? (i := 166) (by decide +kernel))
theorem mX6_52 : Cond.methodLink RX6 52 qX6_isOlder.1 ∈ lw_tbl := tm3 (List.mem_of_getElem? (i := 170) (by decide +kernel))
theorem mX9_155 : Cond.methodLink RX9 155 qJ6_bitCount_0f7a4.1 ∈ lw_tbl := tm3 (List.mem_of_getElem? (i := 173) (by decide +kernel))
theorem mX9_164 : Cond.methodLink RX9 164 qX6_write.1 ∈ lw_tbl := tm3 (List.mem_of_getElem? (i := 174) (by decide +kernel))
theorem mX9_81 : Cond.methodLink RX9 81 qX5_easeJams.1 ∈ lw_tbl := tm3 (List.mem_of_getElem? (i := 178) (by decide +kernel))
theorem mX5_97 : Cond.methodLink RX5 97 qJ9_max_7cf53.1 ∈ lw_tbl := tm3 (List.mem_of_getElem? (i := 182) (by decide +kernel))
theorem mL_10 : Cond.methodLink RL 10 qL_among.1 ∈ lw_tbl := tm3 (List.mem_of_getElem? (i := 183) (by decide +kernel))
theorem mL_50 : Cond.methodLink RL 50 qL_bits.1 ∈ lw_tbl := tm3 (List.mem_of_getElem? (i := 186) (by decide +kernel))
theorem mL_38 : Cond.methodLink RL 38 qL_has.1 ∈ lw_tbl := tm3 (List.mem_of_getElem? (i := 189) (by decide +kernel))
theorem mL_42 : Cond.methodLink RL 42 qL_of.1 ∈ lw_tbl := tm3 (List.mem_of_getElem? (i := 192) (by decide +kernel))
theorem mL_75 : Cond.methodLink RL 75 qL_sum.1 ∈ lw_tbl := tm3 (List.mem_of_getElem? (i := 195) (by decide +kernel))
theorem mL_46 : Cond.methodLink RL 46 qL_chosen.1 ∈ lw_tbl := tm3 (List.mem_of_getElem? (i := 198) (by decide +kernel))
