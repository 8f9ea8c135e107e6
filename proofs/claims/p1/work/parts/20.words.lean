/-! the classes, their fields; the words of the tables -/
def mjF0 : u_T := fun k => match k with
  | 0 => ("ListSpeaker", "symbols", "LListSpeaker$Symbols;", true)
  | 1 => ("ListSpeaker", "pairs", "LListSpeaker$Pairs;", true)
  | 2 => ("ListSpeaker", "reader", "LListSpeaker$Reader;", true)
  | 3 => ("ListSpeaker", "code", "LListSpeaker$Code;", true)
  | 4 => ("ListSpeaker", "maker", "LListSpeaker$Maker;", true)
  | 5 => ("ListSpeaker", "functions", "LListSpeaker$Functions;", true)
  | 6 => ("ListSpeaker", "machine", "LListSpeaker$Machine;", true)
  | 7 => ("ListSpeaker", "paper", "LListSpeaker$Paper;", true)
  | _ => ("ListSpeaker", "formsDone", "I", false)
def mjt0 : Nat → FieldType := fun k => match k with
  | 0 => .object "ListSpeaker$Symbols"
  | 1 => .object "ListSpeaker$Pairs"
  | 2 => .object "ListSpeaker$Reader"
  | 3 => .object "ListSpeaker$Code"
  | 4 => .object "ListSpeaker$Maker"
  | 5 => .object "ListSpeaker$Functions"
  | 6 => .object "ListSpeaker$Machine"
  | 7 => .object "ListSpeaker$Paper"
  | _ => .int
theorem mjn0 : ∀ a, a < 9 → ∀ b, b < 9 → a ≠ b → (mjF0 a).2.1 ≠ (mjF0 b).2.1 := by decide +kernel
theorem mjk0 : ∀ k, k < 9 → parseFieldDescriptor (mjF0 k).2.2.1 = some (mjt0 k) := by decide +kernel
def mjF1 : u_T := fun k => match k with
  | 0 => ("ListSpeaker$Symbols", "letters", "[C", true)
  | 1 => ("ListSpeaker$Symbols", "lengths", "[I", true)
  | _ => ("ListSpeaker$Symbols", "known", "I", false)
def mjt1 : Nat → FieldType := fun k => match k with
  | 0 => .array .char
  | 1 => .array .int
  | _ => .int
theorem mjn1 : ∀ a, a < 3 → ∀ b, b < 3 → a ≠ b → (mjF1 a).2.1 ≠ (mjF1 b).2.1 := by decide +kernel
theorem mjk1 : ∀ k, k < 3 → parseFieldDescriptor (mjF1 k).2.2.1 = some (mjt1 k) := by decide +kernel
def mjF2 : u_T := fun k => match k with
  | 0 => ("ListSpeaker$Pairs", "size", "I", true)
  | 1 => ("ListSpeaker$Pairs", "cars", "[I", true)
  | 2 => ("ListSpeaker$Pairs", "cdrs", "[I", true)
  | 3 => ("ListSpeaker$Pairs", "free", "[I", true)
  | 4 => ("ListSpeaker$Pairs", "reached", "[Z", true)
  | 5 => ("ListSpeaker$Pairs", "waiting", "[I", true)
  | 6 => ("ListSpeaker$Pairs", "left", "[I", true)
  | 7 => ("ListSpeaker$Pairs", "right", "[I", true)
  | 8 => ("ListSpeaker$Pairs", "stored", "I", false)
  | 9 => ("ListSpeaker$Pairs", "freeOnes", "I", false)
  | 10 => ("ListSpeaker$Pairs", "collections", "I", false)
  | _ => ("ListSpeaker$Pairs", "compared", "I", false)
def mjt2 : Nat → FieldType := fun k => match k with
  | 0 => .int
  | 1 => .array .int
  | 2 => .array .int
  | 3 => .array .int
  | 4 => .array .boolean
  | 5 => .array .int
  | 6 => .array .int
  | 7 => .array .int
  | 8 => .int
  | 9 => .int
  | 10 => .int
  | _ => .int
theorem mjn2 : ∀ a, a < 12 → ∀ b, b < 12 → a ≠ b → (mjF2 a).2.1 ≠ (mjF2 b).2.1 := by decide +kernel
theorem mjk2 : ∀ k, k < 12 → parseFieldDescriptor (mjF2 k).2.2.1 = some (mjt2 k) := by decide +kernel
def mjF3 : u_T := fun k => match k with
  | 0 => ("ListSpeaker$Reader", "symbols", "LListSpeaker$Symbols;", true)
  | 1 => ("ListSpeaker$Reader", "pairs", "LListSpeaker$Pairs;", true)
  | 2 => ("ListSpeaker$Reader", "text", "[C", true)
  | 3 => ("ListSpeaker$Reader", "length", "I", false)
  | _ => ("ListSpeaker$Reader", "at", "I", false)
def mjt3 : Nat → FieldType := fun k => match k with
  | 0 => .object "ListSpeaker$Symbols"
  | 1 => .object "ListSpeaker$Pairs"
  | 2 => .array .char
  | 3 => .int
  | _ => .int
theorem mjn3 : ∀ a, a < 5 → ∀ b, b < 5 → a ≠ b → (mjF3 a).2.1 ≠ (mjF3 b).2.1 := by decide +kernel
theorem mjk3 : ∀ k, k < 5 → parseFieldDescriptor (mjF3 k).2.2.1 = some (mjt3 k) := by decide +kernel
def mjF4 : u_T := fun k => match k with
  | 0 => ("ListSpeaker$Code", "operations", "[I", true)
  | 1 => ("ListSpeaker$Code", "operands", "[I", true)
  | 2 => ("ListSpeaker$Code", "numbers", "[I", true)
  | _ => ("ListSpeaker$Code", "length", "I", false)
def mjt4 : Nat → FieldType := fun k => match k with
  | 0 => .array .int
  | 1 => .array .int
  | 2 => .array .int
  | _ => .int
theorem mjn4 : ∀ a, a < 4 → ∀ b, b < 4 → a ≠ b → (mjF4 a).2.1 ≠ (mjF4 b).2.1 := by decide +kernel
theorem mjk4 : ∀ k, k < 4 → parseFieldDescriptor (mjF4 k).2.2.1 = some (mjt4 k) := by decide +kernel
def mjF5 : u_T := fun k => match k with
  | 0 => ("ListSpeaker$Maker", "pairs", "LListSpeaker$Pairs;", true)
  | 1 => ("ListSpeaker$Maker", "code", "LListSpeaker$Code;", true)
  | 2 => ("ListSpeaker$Maker", "names", "[I", true)
  | 3 => ("ListSpeaker$Maker", "places", "[I", true)
  | _ => ("ListSpeaker$Maker", "known", "I", false)
def mjt5 : Nat → FieldType := fun k => match k with
  | 0 => .object "ListSpeaker$Pairs"
  | 1 => .object "ListSpeaker$Code"
  | 2 => .array .int
  | 3 => .array .int
  | _ => .int
theorem mjn5 : ∀ a, a < 5 → ∀ b, b < 5 → a ≠ b → (mjF5 a).2.1 ≠ (mjF5 b).2.1 := by decide +kernel
theorem mjk5 : ∀ k, k < 5 → parseFieldDescriptor (mjF5 k).2.2.1 = some (mjt5 k) := by decide +kernel
def mjF6 : u_T := fun k => match k with
  | 0 => ("ListSpeaker$Functions", "pairs", "LListSpeaker$Pairs;", true)
  | 1 => ("ListSpeaker$Functions", "defined", "[Z", true)
  | 2 => ("ListSpeaker$Functions", "parameters", "[I", true)
  | 3 => ("ListSpeaker$Functions", "arities", "[I", true)
  | 4 => ("ListSpeaker$Functions", "bodies", "[I", true)
  | 5 => ("ListSpeaker$Functions", "starts", "[I", true)
  | _ => ("ListSpeaker$Functions", "known", "I", false)
def mjt6 : Nat → FieldType := fun k => match k with
  | 0 => .object "ListSpeaker$Pairs"
  | 1 => .array .boolean
  | 2 => .array .int
  | 3 => .array .int
  | 4 => .array .int
  | 5 => .array .int
  | _ => .int
theorem mjn6 : ∀ a, a < 7 → ∀ b, b < 7 → a ≠ b → (mjF6 a).2.1 ≠ (mjF6 b).2.1 := by decide +kernel
theorem mjk6 : ∀ k, k < 7 → parseFieldDescriptor (mjF6 k).2.2.1 = some (mjt6 k) := by decide +kernel
def mjF7 : u_T := fun k => match k with
  | 0 => ("ListSpeaker$Machine", "pairs", "LListSpeaker$Pairs;", true)
  | 1 => ("ListSpeaker$Machine", "code", "LListSpeaker$Code;", true)
  | 2 => ("ListSpeaker$Machine", "functions", "LListSpeaker$Functions;", true)
  | 3 => ("ListSpeaker$Machine", "stack", "[I", true)
  | 4 => ("ListSpeaker$Machine", "callers", "[I", true)
  | 5 => ("ListSpeaker$Machine", "callerFrames", "[I", true)
  | 6 => ("ListSpeaker$Machine", "callerHoles", "[I", true)
  | 7 => ("ListSpeaker$Machine", "height", "I", false)
  | 8 => ("ListSpeaker$Machine", "frame", "I", false)
  | 9 => ("ListSpeaker$Machine", "hole", "I", false)
  | 10 => ("ListSpeaker$Machine", "at", "I", false)
  | 11 => ("ListSpeaker$Machine", "fuel", "I", false)
  | 12 => ("ListSpeaker$Machine", "steps", "I", false)
  | _ => ("ListSpeaker$Machine", "mostTaken", "I", false)
def mjt7 : Nat → FieldType := fun k => match k with
  | 0 => .object "ListSpeaker$Pairs"
  | 1 => .object "ListSpeaker$Code"
  | 2 => .object "ListSpeaker$Functions"
  | 3 => .array .int
  | 4 => .array .int
  | 5 => .array .int
  | 6 => .array .int
  | 7 => .int
  | 8 => .int
  | 9 => .int
  | 10 => .int
  | 11 => .int
  | 12 => .int
  | _ => .int
theorem mjn7 : ∀ a, a < 14 → ∀ b, b < 14 → a ≠ b → (mjF7 a).2.1 ≠ (mjF7 b).2.1 := by decide +kernel
theorem mjk7 : ∀ k, k < 14 → parseFieldDescriptor (mjF7 k).2.2.1 = some (mjt7 k) := by decide +kernel
def mjF8 : u_T := fun k => match k with
  | 0 => ("ListSpeaker$Paper", "symbols", "LListSpeaker$Symbols;", true)
  | 1 => ("ListSpeaker$Paper", "pairs", "LListSpeaker$Pairs;", true)
  | 2 => ("ListSpeaker$Paper", "letters", "[C", true)
  | 3 => ("ListSpeaker$Paper", "waiting", "[I", true)
  | 4 => ("ListSpeaker$Paper", "length", "I", false)
  | _ => ("ListSpeaker$Paper", "waitingOnes", "I", false)
def mjt8 : Nat → FieldType := fun k => match k with
  | 0 => .object "ListSpeaker$Symbols"
  | 1 => .object "ListSpeaker$Pairs"
  | 2 => .array .char
  | 3 => .array .int
  | 4 => .int
  | _ => .int
theorem mjn8 : ∀ a, a < 6 → ∀ b, b < 6 → a ≠ b → (mjF8 a).2.1 ≠ (mjF8 b).2.1 := by decide +kernel
theorem mjk8 : ∀ k, k < 6 → parseFieldDescriptor (mjF8 k).2.2.1 = some (mjt8 k) := by decide +kernel
def mjF9 : u_T := fun k => match k with
  | 0 => ("ListSpeakerModel", "size", "I", true)
  | 1 => ("ListSpeakerModel", "code", "I", false)
  | 2 => ("ListSpeakerModel", "typed", "I", false)
  | 3 => ("ListSpeakerModel", "text", "[C", true)
  | 4 => ("ListSpeakerModel", "place", "I", false)
  | 5 => ("ListSpeakerModel", "error", "I", false)
  | 6 => ("ListSpeakerModel", "symbols", "I", false)
  | 7 => ("ListSpeakerModel", "letters", "[C", true)
  | 8 => ("ListSpeakerModel", "lengths", "[I", true)
  | 9 => ("ListSpeakerModel", "car", "[I", true)
  | 10 => ("ListSpeakerModel", "cdr", "[I", true)
  | 11 => ("ListSpeakerModel", "stored", "I", false)
  | 12 => ("ListSpeakerModel", "made", "I", false)
  | 13 => ("ListSpeakerModel", "collections", "I", false)
  | 14 => ("ListSpeakerModel", "used", "[Z", true)
  | 15 => ("ListSpeakerModel", "seen", "[Z", true)
  | 16 => ("ListSpeakerModel", "waiting", "[I", true)
  | 17 => ("ListSpeakerModel", "depth", "I", false)
  | 18 => ("ListSpeakerModel", "kind", "[I", true)
  | 19 => ("ListSpeakerModel", "first", "[I", true)
  | 20 => ("ListSpeakerModel", "last", "[I", true)
  | 21 => ("ListSpeakerModel", "dotted", "[I", true)
  | 22 => ("ListSpeakerModel", "functions", "I", false)
  | 23 => ("ListSpeakerModel", "name", "[I", true)
  | 24 => ("ListSpeakerModel", "parameters", "[I", true)
  | 25 => ("ListSpeakerModel", "body", "[I", true)
  | 26 => ("ListSpeakerModel", "todo", "I", false)
  | 27 => ("ListSpeakerModel", "what", "[I", true)
  | 28 => ("ListSpeakerModel", "datum", "[I", true)
  | 29 => ("ListSpeakerModel", "number", "[I", true)
  | 30 => ("ListSpeakerModel", "tail", "[Z", true)
  | 31 => ("ListSpeakerModel", "top", "I", false)
  | 32 => ("ListSpeakerModel", "stack", "[I", true)
  | 33 => ("ListSpeakerModel", "variables", "I", false)
  | 34 => ("ListSpeakerModel", "variable", "[I", true)
  | 35 => ("ListSpeakerModel", "at", "[I", true)
  | 36 => ("ListSpeakerModel", "begin", "I", false)
  | 37 => ("ListSpeakerModel", "arguments", "I", false)
  | 38 => ("ListSpeakerModel", "frames", "I", false)
  | 39 => ("ListSpeakerModel", "frame", "[I", true)
  | 40 => ("ListSpeakerModel", "fuel", "I", false)
  | 41 => ("ListSpeakerModel", "steps", "I", false)
  | 42 => ("ListSpeakerModel", "most", "I", false)
  | 43 => ("ListSpeakerModel", "done", "I", false)
  | 44 => ("ListSpeakerModel", "printed", "I", false)
  | _ => ("ListSpeakerModel", "line", "[C", true)
def mjt9 : Nat → FieldType := fun k => match k with
  | 0 => .int
  | 1 => .int
  | 2 => .int
  | 3 => .array .char
  | 4 => .int
  | 5 => .int
  | 6 => .int
  | 7 => .array .char
  | 8 => .array .int
  | 9 => .array .int
  | 10 => .array .int
  | 11 => .int
  | 12 => .int
  | 13 => .int
  | 14 => .array .boolean
  | 15 => .array .boolean
  | 16 => .array .int
  | 17 => .int
  | 18 => .array .int
  | 19 => .array .int
  | 20 => .array .int
  | 21 => .array .int
  | 22 => .int
  | 23 => .array .int
  | 24 => .array .int
  | 25 => .array .int
  | 26 => .int
  | 27 => .array .int
  | 28 => .array .int
  | 29 => .array .int
  | 30 => .array .boolean
  | 31 => .int
  | 32 => .array .int
  | 33 => .int
  | 34 => .array .int
  | 35 => .array .int
  | 36 => .int
  | 37 => .int
  | 38 => .int
  | 39 => .array .int
  | 40 => .int
  | 41 => .int
  | 42 => .int
  | 43 => .int
  | 44 => .int
  | _ => .array .char
theorem mjn9 : ∀ a, a < 46 → ∀ b, b < 46 → a ≠ b → (mjF9 a).2.1 ≠ (mjF9 b).2.1 := by decide +kernel
theorem mjk9 : ∀ k, k < 46 → parseFieldDescriptor (mjF9 k).2.2.1 = some (mjt9 k) := by decide +kernel
abbrev mj_kl : List vw_C := [("ListSpeaker", mjF0, 9), ("ListSpeaker$Symbols", mjF1, 3), ("ListSpeaker$Pairs", mjF2, 12), ("ListSpeaker$Reader", mjF3, 5), ("ListSpeaker$Code", mjF4, 4), ("ListSpeaker$Maker", mjF5, 5), ("ListSpeaker$Functions", mjF6, 7), ("ListSpeaker$Machine", mjF7, 14), ("ListSpeaker$Paper", mjF8, 6), ("ListSpeakerModel", mjF9, 46)]
def mj_WS : List Jvm.Cond := lw_tbl.filter goodWord
theorem mj_mem {w : Jvm.Cond} (i : Nat) (h : tables_1[i]? = some w) (hg : goodWord w = true) : w ∈ mj_WS := List.mem_filter.mpr ⟨List.mem_append_right _ (List.mem_of_getElem? h), hg⟩
theorem mj_memS {w : Jvm.Cond} (i : Nat) (h : (k2_sels lw_privs)[i]? = some w) (hg : goodWord w = true) : w ∈ mj_WS := List.mem_filter.mpr ⟨List.mem_append_left _ (List.mem_of_getElem? h), hg⟩
theorem mjw0 : ∀ w ∈ u_ws "ListSpeaker" mjF0 9, w ∈ mj_WS := by
  intro w hw
  have h : u_ws "ListSpeaker" mjF0 9 = [335, 337, 339, 341, 343, 345, 347, 349, 351].filterMap (fun i => tables_1[i]?) := by decide +kernel
  have hg : (u_ws "ListSpeaker" mjF0 9).all goodWord = true := by decide +kernel
  have h2 := hw
  rw [h] at h2
  obtain ⟨i, -, hi⟩ := List.mem_filterMap.mp h2
  exact mj_mem i hi (List.all_eq_true.mp hg w hw)
theorem mjw1 : ∀ w ∈ u_ws "ListSpeaker$Symbols" mjF1 3, w ∈ mj_WS := by
  intro w hw
  have h : u_ws "ListSpeaker$Symbols" mjF1 3 = [101, 103, 105].filterMap (fun i => tables_1[i]?) := by decide +kernel
  have hg : (u_ws "ListSpeaker$Symbols" mjF1 3).all goodWord = true := by decide +kernel
  have h2 := hw
  rw [h] at h2
  obtain ⟨i, -, hi⟩ := List.mem_filterMap.mp h2
  exact mj_mem i hi (List.all_eq_true.mp hg w hw)
theorem mjw2 : ∀ w ∈ u_ws "ListSpeaker$Pairs" mjF2 12, w ∈ mj_WS := by
  intro w hw
  have h : u_ws "ListSpeaker$Pairs" mjF2 12 = [135, 137, 139, 141, 143, 145, 147, 149, 151, 153, 155, 157].filterMap (fun i => tables_1[i]?) := by decide +kernel
  have hg : (u_ws "ListSpeaker$Pairs" mjF2 12).all goodWord = true := by decide +kernel
  have h2 := hw
  rw [h] at h2
  obtain ⟨i, -, hi⟩ := List.mem_filterMap.mp h2
  exact mj_mem i hi (List.all_eq_true.mp hg w hw)
theorem mjw3 : ∀ w ∈ u_ws "ListSpeaker$Reader" mjF3 5, w ∈ mj_WS := by
  intro w hw
  have h : u_ws "ListSpeaker$Reader" mjF3 5 = [172, 174, 176, 178, 180].filterMap (fun i => tables_1[i]?) := by decide +kernel
  have hg : (u_ws "ListSpeaker$Reader" mjF3 5).all goodWord = true := by decide +kernel
  have h2 := hw
  rw [h] at h2
  obtain ⟨i, -, hi⟩ := List.mem_filterMap.mp h2
  exact mj_mem i hi (List.all_eq_true.mp hg w hw)
theorem mjw4 : ∀ w ∈ u_ws "ListSpeaker$Code" mjF4 4, w ∈ mj_WS := by
  intro w hw
  have h : u_ws "ListSpeaker$Code" mjF4 4 = [193, 195, 197, 199].filterMap (fun i => tables_1[i]?) := by decide +kernel
  have hg : (u_ws "ListSpeaker$Code" mjF4 4).all goodWord = true := by decide +kernel
  have h2 := hw
  rw [h] at h2
  obtain ⟨i, -, hi⟩ := List.mem_filterMap.mp h2
  exact mj_mem i hi (List.all_eq_true.mp hg w hw)
theorem mjw5 : ∀ w ∈ u_ws "ListSpeaker$Maker" mjF5 5, w ∈ mj_WS := by
  intro w hw
  have h : u_ws "ListSpeaker$Maker" mjF5 5 = [213, 215, 217, 219, 221].filterMap (fun i => tables_1[i]?) := by decide +kernel
  have hg : (u_ws "ListSpeaker$Maker" mjF5 5).all goodWord = true := by decide +kernel
  have h2 := hw
  rw [h] at h2
  obtain ⟨i, -, hi⟩ := List.mem_filterMap.mp h2
  exact mj_mem i hi (List.all_eq_true.mp hg w hw)
theorem mjw6 : ∀ w ∈ u_ws "ListSpeaker$Functions" mjF6 7, w ∈ mj_WS := by
  intro w hw
  have h : u_ws "ListSpeaker$Functions" mjF6 7 = [237, 239, 241, 243, 245, 247, 249].filterMap (fun i => tables_1[i]?) := by decide +kernel
  have hg : (u_ws "ListSpeaker$Functions" mjF6 7).all goodWord = true := by decide +kernel
  have h2 := hw
  rw [h] at h2
  obtain ⟨i, -, hi⟩ := List.mem_filterMap.mp h2
  exact mj_mem i hi (List.all_eq_true.mp hg w hw)
theorem mjw7 : ∀ w ∈ u_ws "ListSpeaker$Machine" mjF7 14, w ∈ mj_WS := by
  intro w hw
  have h : u_ws "ListSpeaker$Machine" mjF7 14 = [272, 274, 276, 278, 280, 282, 284, 286, 288, 290, 292, 294, 296, 298].filterMap (fun i => tables_1[i]?) := by decide +kernel
  have hg : (u_ws "ListSpeaker$Machine" mjF7 14).all goodWord = true := by decide +kernel
  have h2 := hw
  rw [h] at h2
  obtain ⟨i, -, hi⟩ := List.mem_filterMap.mp h2
  exact mj_mem i hi (List.all_eq_true.mp hg w hw)
theorem mjw8 : ∀ w ∈ u_ws "ListSpeaker$Paper" mjF8 6, w ∈ mj_WS := by
  intro w hw
  have h : u_ws "ListSpeaker$Paper" mjF8 6 = [313, 315, 317, 319, 321, 323].filterMap (fun i => tables_1[i]?) := by decide +kernel
  have hg : (u_ws "ListSpeaker$Paper" mjF8 6).all goodWord = true := by decide +kernel
  have h2 := hw
  rw [h] at h2
  obtain ⟨i, -, hi⟩ := List.mem_filterMap.mp h2
  exact mj_mem i hi (List.all_eq_true.mp hg w hw)
theorem mjw9 : ∀ w ∈ u_ws "ListSpeakerModel" mjF9 46, w ∈ mj_WS := by
  intro w hw
  have h : u_ws "ListSpeakerModel" mjF9 46 = [1021, 1023, 1025, 1027, 1029, 1031, 1033, 1035, 1037, 1039, 1041, 1043, 1045, 1047, 1049, 1051, 1053, 1055, 1057, 1059, 1061, 1063, 1065, 1067, 1069, 1071, 1073, 1075, 1077, 1079, 1081, 1083, 1085, 1087, 1089, 1091, 1093, 1095, 1097, 1099, 1101, 1103, 1105, 1107, 1109, 1111].filterMap (fun i => tables_1[i]?) := by decide +kernel
  have hg : (u_ws "ListSpeakerModel" mjF9 46).all goodWord = true := by decide +kernel
  have h2 := hw
  rw [h] at h2
  obtain ⟨i, -, hi⟩ := List.mem_filterMap.mp h2
  exact mj_mem i hi (List.all_eq_true.mp hg w hw)
theorem mw_1 : (Jvm.Cond.initialized "ListSpeaker") ∈ mj_WS := mj_mem 1 (by decide +kernel) rfl
theorem mw_2 : (Jvm.Cond.initialized "ListSpeaker$Symbols") ∈ mj_WS := mj_mem 2 (by decide +kernel) rfl
theorem mw_7 : (Jvm.Cond.initialized "java/lang/System") ∈ mj_WS := mj_mem 7 (by decide +kernel) rfl
theorem mw_8 : (Jvm.Cond.initialized "ListSpeaker$Pairs") ∈ mj_WS := mj_mem 8 (by decide +kernel) rfl
theorem mw_9 : (Jvm.Cond.initialized "java/lang/Math") ∈ mj_WS := mj_mem 9 (by decide +kernel) rfl
theorem mw_10 : (Jvm.Cond.initialized "ListSpeaker$Reader") ∈ mj_WS := mj_mem 10 (by decide +kernel) rfl
theorem mw_11 : (Jvm.Cond.initialized "ListSpeaker$Code") ∈ mj_WS := mj_mem 11 (by decide +kernel) rfl
theorem mw_12 : (Jvm.Cond.initialized "ListSpeaker$Maker") ∈ mj_WS := mj_mem 12 (by decide +kernel) rfl
theorem mw_13 : (Jvm.Cond.initialized "ListSpeaker$Functions") ∈ mj_WS := mj_mem 13 (by decide +kernel) rfl
theorem mw_14 : (Jvm.Cond.initialized "ListSpeaker$Machine") ∈ mj_WS := mj_mem 14 (by decide +kernel) rfl
theorem mw_15 : (Jvm.Cond.initialized "ListSpeaker$Paper") ∈ mj_WS := mj_mem 15 (by decide +kernel) rfl
theorem mw_16 : (Jvm.Cond.initialized "ListSpeakerModel") ∈ mj_WS := mj_mem 16 (by decide +kernel) rfl
theorem mw_82 : (Jvm.Cond.methodLink "ListSpeaker$Symbols" (27 : Nat) ({ cls := "ListSpeaker$Symbols", name := "find", desc := "([CII)I" } : Jvm.MethodName)) ∈ mj_WS := mj_mem 82 (by decide +kernel) rfl
theorem mw_83 : (Jvm.Cond.instanceMethod ({ cls := "ListSpeaker$Symbols", name := "find", desc := "([CII)I" } : Jvm.MethodName)) ∈ mj_WS := mj_mem 83 (by decide +kernel) rfl
theorem mw_84 : (Jvm.Cond.selects "ListSpeaker$Symbols" ({ cls := "ListSpeaker$Symbols", name := "find", desc := "([CII)I" } : Jvm.MethodName) ({ cls := "ListSpeaker$Symbols", name := "find", desc := "([CII)I" } : Jvm.MethodName)) ∈ mj_WS := mj_mem 84 (by decide +kernel) rfl
theorem mw_86 : (Jvm.Cond.methodLink "ListSpeaker$Symbols" (36 : Nat) ({ cls := "ListSpeaker$Symbols", name := "isNamed", desc := "(I[CII)Z" } : Jvm.MethodName)) ∈ mj_WS := mj_mem 86 (by decide +kernel) rfl
theorem mw_88 : (Jvm.Cond.instanceMethod ({ cls := "ListSpeaker$Symbols", name := "isNamed", desc := "(I[CII)Z" } : Jvm.MethodName)) ∈ mj_WS := mj_mem 88 (by decide +kernel) rfl
theorem mw_90 : (Jvm.Cond.constant "ListSpeaker$Symbols" (35 : Nat) (268435456 : Int32)) ∈ mj_WS := mj_mem 90 (by decide +kernel) rfl
theorem mw_91 : (Jvm.Cond.methodLink "ListSpeaker$Symbols" (40 : Nat) ({ cls := "ListSpeaker$Symbols", name := "add", desc := "([CII)I" } : Jvm.MethodName)) ∈ mj_WS := mj_mem 91 (by decide +kernel) rfl
theorem mw_93 : (Jvm.Cond.instanceMethod ({ cls := "ListSpeaker$Symbols", name := "add", desc := "([CII)I" } : Jvm.MethodName)) ∈ mj_WS := mj_mem 93 (by decide +kernel) rfl
theorem mw_95 : (Jvm.Cond.methodLink "ListSpeaker$Symbols" (43 : Nat) ({ cls := "java/lang/System", name := "arraycopy", desc := "(Ljava/lang/Object;ILjava/lang/Object;II)V" } : Jvm.MethodName)) ∈ mj_WS := mj_mem 95 (by decide +kernel) rfl
theorem mw_96 : (Jvm.Cond.static ({ cls := "java/lang/System", name := "arraycopy", desc := "(Ljava/lang/Object;ILjava/lang/Object;II)V" } : Jvm.MethodName)) ∈ mj_WS := mj_mem 96 (by decide +kernel) rfl
theorem mw_97 : (Jvm.Cond.native ({ cls := "java/lang/System", name := "arraycopy", desc := "(Ljava/lang/Object;ILjava/lang/Object;II)V" } : Jvm.MethodName)) ∈ mj_WS := mj_mem 97 (by decide +kernel) rfl
theorem mw_98 : (Jvm.Cond.fieldLink "ListSpeaker$Symbols" (9 : Nat) "ListSpeaker$Symbols" "letters" "[C") ∈ mj_WS := mj_mem 98 (by decide +kernel) rfl
theorem mw_99 : (Jvm.Cond.fieldLink "ListSpeaker$Symbols" (15 : Nat) "ListSpeaker$Symbols" "lengths" "[I") ∈ mj_WS := mj_mem 99 (by decide +kernel) rfl
theorem mw_100 : (Jvm.Cond.fieldLink "ListSpeaker$Symbols" (31 : Nat) "ListSpeaker$Symbols" "known" "I") ∈ mj_WS := mj_mem 100 (by decide +kernel) rfl
theorem mw_117 : (Jvm.Cond.static ({ cls := "java/lang/Math", name := "max", desc := "(II)I" } : Jvm.MethodName)) ∈ mj_WS := mj_mem 117 (by decide +kernel) rfl
theorem mw_118 : (Jvm.Cond.code ({ cls := "java/lang/Math", name := "max", desc := "(II)I" } : Jvm.MethodName) prog_15_method_65_code (2 : Nat) (Option.some Jvm.ClassFile.FieldType.int)) ∈ mj_WS := mj_mem 118 rfl rfl
theorem mw_123 : (Jvm.Cond.fieldLink "ListSpeaker$Pairs" (34 : Nat) "ListSpeaker$Pairs" "size" "I") ∈ mj_WS := mj_mem 123 (by decide +kernel) rfl
theorem mw_124 : (Jvm.Cond.fieldLink "ListSpeaker$Pairs" (9 : Nat) "ListSpeaker$Pairs" "cars" "[I") ∈ mj_WS := mj_mem 124 (by decide +kernel) rfl
theorem mw_125 : (Jvm.Cond.fieldLink "ListSpeaker$Pairs" (15 : Nat) "ListSpeaker$Pairs" "cdrs" "[I") ∈ mj_WS := mj_mem 125 (by decide +kernel) rfl
theorem mw_126 : (Jvm.Cond.fieldLink "ListSpeaker$Pairs" (18 : Nat) "ListSpeaker$Pairs" "free" "[I") ∈ mj_WS := mj_mem 126 (by decide +kernel) rfl
theorem mw_127 : (Jvm.Cond.fieldLink "ListSpeaker$Pairs" (21 : Nat) "ListSpeaker$Pairs" "reached" "[Z") ∈ mj_WS := mj_mem 127 (by decide +kernel) rfl
theorem mw_128 : (Jvm.Cond.fieldLink "ListSpeaker$Pairs" (25 : Nat) "ListSpeaker$Pairs" "waiting" "[I") ∈ mj_WS := mj_mem 128 (by decide +kernel) rfl
theorem mw_129 : (Jvm.Cond.fieldLink "ListSpeaker$Pairs" (28 : Nat) "ListSpeaker$Pairs" "left" "[I") ∈ mj_WS := mj_mem 129 (by decide +kernel) rfl
theorem mw_130 : (Jvm.Cond.fieldLink "ListSpeaker$Pairs" (31 : Nat) "ListSpeaker$Pairs" "right" "[I") ∈ mj_WS := mj_mem 130 (by decide +kernel) rfl
theorem mw_131 : (Jvm.Cond.fieldLink "ListSpeaker$Pairs" (41 : Nat) "ListSpeaker$Pairs" "stored" "I") ∈ mj_WS := mj_mem 131 (by decide +kernel) rfl
theorem mw_132 : (Jvm.Cond.fieldLink "ListSpeaker$Pairs" (38 : Nat) "ListSpeaker$Pairs" "freeOnes" "I") ∈ mj_WS := mj_mem 132 (by decide +kernel) rfl
theorem mw_133 : (Jvm.Cond.fieldLink "ListSpeaker$Pairs" (44 : Nat) "ListSpeaker$Pairs" "collections" "I") ∈ mj_WS := mj_mem 133 (by decide +kernel) rfl
theorem mw_134 : (Jvm.Cond.fieldLink "ListSpeaker$Pairs" (47 : Nat) "ListSpeaker$Pairs" "compared" "I") ∈ mj_WS := mj_mem 134 (by decide +kernel) rfl
theorem mw_167 : (Jvm.Cond.fieldLink "ListSpeaker$Reader" (15 : Nat) "ListSpeaker$Reader" "symbols" "LListSpeaker$Symbols;") ∈ mj_WS := mj_mem 167 (by decide +kernel) rfl
theorem mw_168 : (Jvm.Cond.fieldLink "ListSpeaker$Reader" (19 : Nat) "ListSpeaker$Reader" "pairs" "LListSpeaker$Pairs;") ∈ mj_WS := mj_mem 168 (by decide +kernel) rfl
theorem mw_169 : (Jvm.Cond.fieldLink "ListSpeaker$Reader" (9 : Nat) "ListSpeaker$Reader" "text" "[C") ∈ mj_WS := mj_mem 169 (by decide +kernel) rfl
theorem mw_170 : (Jvm.Cond.fieldLink "ListSpeaker$Reader" (23 : Nat) "ListSpeaker$Reader" "length" "I") ∈ mj_WS := mj_mem 170 (by decide +kernel) rfl
theorem mw_171 : (Jvm.Cond.fieldLink "ListSpeaker$Reader" (27 : Nat) "ListSpeaker$Reader" "at" "I") ∈ mj_WS := mj_mem 171 (by decide +kernel) rfl
theorem mw_189 : (Jvm.Cond.fieldLink "ListSpeaker$Code" (9 : Nat) "ListSpeaker$Code" "operations" "[I") ∈ mj_WS := mj_mem 189 (by decide +kernel) rfl
theorem mw_190 : (Jvm.Cond.fieldLink "ListSpeaker$Code" (15 : Nat) "ListSpeaker$Code" "operands" "[I") ∈ mj_WS := mj_mem 190 (by decide +kernel) rfl
theorem mw_191 : (Jvm.Cond.fieldLink "ListSpeaker$Code" (18 : Nat) "ListSpeaker$Code" "numbers" "[I") ∈ mj_WS := mj_mem 191 (by decide +kernel) rfl
theorem mw_192 : (Jvm.Cond.fieldLink "ListSpeaker$Code" (21 : Nat) "ListSpeaker$Code" "length" "I") ∈ mj_WS := mj_mem 192 (by decide +kernel) rfl
theorem mw_208 : (Jvm.Cond.fieldLink "ListSpeaker$Maker" (18 : Nat) "ListSpeaker$Maker" "pairs" "LListSpeaker$Pairs;") ∈ mj_WS := mj_mem 208 (by decide +kernel) rfl
theorem mw_209 : (Jvm.Cond.fieldLink "ListSpeaker$Maker" (22 : Nat) "ListSpeaker$Maker" "code" "LListSpeaker$Code;") ∈ mj_WS := mj_mem 209 (by decide +kernel) rfl
theorem mw_210 : (Jvm.Cond.fieldLink "ListSpeaker$Maker" (9 : Nat) "ListSpeaker$Maker" "names" "[I") ∈ mj_WS := mj_mem 210 (by decide +kernel) rfl
theorem mw_211 : (Jvm.Cond.fieldLink "ListSpeaker$Maker" (15 : Nat) "ListSpeaker$Maker" "places" "[I") ∈ mj_WS := mj_mem 211 (by decide +kernel) rfl
theorem mw_212 : (Jvm.Cond.fieldLink "ListSpeaker$Maker" (26 : Nat) "ListSpeaker$Maker" "known" "I") ∈ mj_WS := mj_mem 212 (by decide +kernel) rfl
theorem mw_230 : (Jvm.Cond.fieldLink "ListSpeaker$Functions" (28 : Nat) "ListSpeaker$Functions" "pairs" "LListSpeaker$Pairs;") ∈ mj_WS := mj_mem 230 (by decide +kernel) rfl
theorem mw_231 : (Jvm.Cond.fieldLink "ListSpeaker$Functions" (9 : Nat) "ListSpeaker$Functions" "defined" "[Z") ∈ mj_WS := mj_mem 231 (by decide +kernel) rfl
theorem mw_232 : (Jvm.Cond.fieldLink "ListSpeaker$Functions" (15 : Nat) "ListSpeaker$Functions" "parameters" "[I") ∈ mj_WS := mj_mem 232 (by decide +kernel) rfl
theorem mw_233 : (Jvm.Cond.fieldLink "ListSpeaker$Functions" (19 : Nat) "ListSpeaker$Functions" "arities" "[I") ∈ mj_WS := mj_mem 233 (by decide +kernel) rfl
theorem mw_234 : (Jvm.Cond.fieldLink "ListSpeaker$Functions" (22 : Nat) "ListSpeaker$Functions" "bodies" "[I") ∈ mj_WS := mj_mem 234 (by decide +kernel) rfl
theorem mw_235 : (Jvm.Cond.fieldLink "ListSpeaker$Functions" (25 : Nat) "ListSpeaker$Functions" "starts" "[I") ∈ mj_WS := mj_mem 235 (by decide +kernel) rfl
theorem mw_236 : (Jvm.Cond.fieldLink "ListSpeaker$Functions" (32 : Nat) "ListSpeaker$Functions" "known" "I") ∈ mj_WS := mj_mem 236 (by decide +kernel) rfl
theorem mw_258 : (Jvm.Cond.fieldLink "ListSpeaker$Machine" (24 : Nat) "ListSpeaker$Machine" "pairs" "LListSpeaker$Pairs;") ∈ mj_WS := mj_mem 258 (by decide +kernel) rfl
theorem mw_259 : (Jvm.Cond.fieldLink "ListSpeaker$Machine" (28 : Nat) "ListSpeaker$Machine" "code" "LListSpeaker$Code;") ∈ mj_WS := mj_mem 259 (by decide +kernel) rfl
theorem mw_260 : (Jvm.Cond.fieldLink "ListSpeaker$Machine" (32 : Nat) "ListSpeaker$Machine" "functions" "LListSpeaker$Functions;") ∈ mj_WS := mj_mem 260 (by decide +kernel) rfl
theorem mw_261 : (Jvm.Cond.fieldLink "ListSpeaker$Machine" (9 : Nat) "ListSpeaker$Machine" "stack" "[I") ∈ mj_WS := mj_mem 261 (by decide +kernel) rfl
theorem mw_262 : (Jvm.Cond.fieldLink "ListSpeaker$Machine" (15 : Nat) "ListSpeaker$Machine" "callers" "[I") ∈ mj_WS := mj_mem 262 (by decide +kernel) rfl
theorem mw_263 : (Jvm.Cond.fieldLink "ListSpeaker$Machine" (18 : Nat) "ListSpeaker$Machine" "callerFrames" "[I") ∈ mj_WS := mj_mem 263 (by decide +kernel) rfl
theorem mw_264 : (Jvm.Cond.fieldLink "ListSpeaker$Machine" (21 : Nat) "ListSpeaker$Machine" "callerHoles" "[I") ∈ mj_WS := mj_mem 264 (by decide +kernel) rfl
theorem mw_265 : (Jvm.Cond.fieldLink "ListSpeaker$Machine" (53 : Nat) "ListSpeaker$Machine" "height" "I") ∈ mj_WS := mj_mem 265 (by decide +kernel) rfl
theorem mw_266 : (Jvm.Cond.fieldLink "ListSpeaker$Machine" (56 : Nat) "ListSpeaker$Machine" "frame" "I") ∈ mj_WS := mj_mem 266 (by decide +kernel) rfl
theorem mw_267 : (Jvm.Cond.fieldLink "ListSpeaker$Machine" (59 : Nat) "ListSpeaker$Machine" "hole" "I") ∈ mj_WS := mj_mem 267 (by decide +kernel) rfl
theorem mw_268 : (Jvm.Cond.fieldLink "ListSpeaker$Machine" (50 : Nat) "ListSpeaker$Machine" "at" "I") ∈ mj_WS := mj_mem 268 (by decide +kernel) rfl
theorem mw_269 : (Jvm.Cond.fieldLink "ListSpeaker$Machine" (47 : Nat) "ListSpeaker$Machine" "fuel" "I") ∈ mj_WS := mj_mem 269 (by decide +kernel) rfl
theorem mw_270 : (Jvm.Cond.fieldLink "ListSpeaker$Machine" (36 : Nat) "ListSpeaker$Machine" "steps" "I") ∈ mj_WS := mj_mem 270 (by decide +kernel) rfl
theorem mw_271 : (Jvm.Cond.fieldLink "ListSpeaker$Machine" (40 : Nat) "ListSpeaker$Machine" "mostTaken" "I") ∈ mj_WS := mj_mem 271 (by decide +kernel) rfl
theorem mw_307 : (Jvm.Cond.fieldLink "ListSpeaker$Paper" (19 : Nat) "ListSpeaker$Paper" "symbols" "LListSpeaker$Symbols;") ∈ mj_WS := mj_mem 307 (by decide +kernel) rfl
theorem mw_308 : (Jvm.Cond.fieldLink "ListSpeaker$Paper" (23 : Nat) "ListSpeaker$Paper" "pairs" "LListSpeaker$Pairs;") ∈ mj_WS := mj_mem 308 (by decide +kernel) rfl
theorem mw_309 : (Jvm.Cond.fieldLink "ListSpeaker$Paper" (9 : Nat) "ListSpeaker$Paper" "letters" "[C") ∈ mj_WS := mj_mem 309 (by decide +kernel) rfl
theorem mw_310 : (Jvm.Cond.fieldLink "ListSpeaker$Paper" (15 : Nat) "ListSpeaker$Paper" "waiting" "[I") ∈ mj_WS := mj_mem 310 (by decide +kernel) rfl
theorem mw_311 : (Jvm.Cond.fieldLink "ListSpeaker$Paper" (27 : Nat) "ListSpeaker$Paper" "length" "I") ∈ mj_WS := mj_mem 311 (by decide +kernel) rfl
theorem mw_312 : (Jvm.Cond.fieldLink "ListSpeaker$Paper" (39 : Nat) "ListSpeaker$Paper" "waitingOnes" "I") ∈ mj_WS := mj_mem 312 (by decide +kernel) rfl
theorem mw_326 : (Jvm.Cond.fieldLink "ListSpeaker" (12 : Nat) "ListSpeaker" "symbols" "LListSpeaker$Symbols;") ∈ mj_WS := mj_mem 326 (by decide +kernel) rfl
theorem mw_327 : (Jvm.Cond.fieldLink "ListSpeaker" (30 : Nat) "ListSpeaker" "pairs" "LListSpeaker$Pairs;") ∈ mj_WS := mj_mem 327 (by decide +kernel) rfl
theorem mw_328 : (Jvm.Cond.fieldLink "ListSpeaker" (39 : Nat) "ListSpeaker" "reader" "LListSpeaker$Reader;") ∈ mj_WS := mj_mem 328 (by decide +kernel) rfl
theorem mw_329 : (Jvm.Cond.fieldLink "ListSpeaker" (46 : Nat) "ListSpeaker" "code" "LListSpeaker$Code;") ∈ mj_WS := mj_mem 329 (by decide +kernel) rfl
theorem mw_330 : (Jvm.Cond.fieldLink "ListSpeaker" (55 : Nat) "ListSpeaker" "maker" "LListSpeaker$Maker;") ∈ mj_WS := mj_mem 330 (by decide +kernel) rfl
theorem mw_331 : (Jvm.Cond.fieldLink "ListSpeaker" (64 : Nat) "ListSpeaker" "functions" "LListSpeaker$Functions;") ∈ mj_WS := mj_mem 331 (by decide +kernel) rfl
theorem mw_332 : (Jvm.Cond.fieldLink "ListSpeaker" (73 : Nat) "ListSpeaker" "machine" "LListSpeaker$Machine;") ∈ mj_WS := mj_mem 332 (by decide +kernel) rfl
theorem mw_333 : (Jvm.Cond.fieldLink "ListSpeaker" (80 : Nat) "ListSpeaker" "paper" "LListSpeaker$Paper;") ∈ mj_WS := mj_mem 333 (by decide +kernel) rfl
theorem mw_334 : (Jvm.Cond.fieldLink "ListSpeaker" (105 : Nat) "ListSpeaker" "formsDone" "I") ∈ mj_WS := mj_mem 334 (by decide +kernel) rfl
theorem mw_358 : (Jvm.Cond.methodLink "ListSpeaker" (84 : Nat) ({ cls := "ListSpeaker$Reader", name := "append", desc := "(C)Z" } : Jvm.MethodName)) ∈ mj_WS := mj_mem 358 (by decide +kernel) rfl
theorem mw_359 : (Jvm.Cond.instanceMethod ({ cls := "ListSpeaker$Reader", name := "append", desc := "(C)Z" } : Jvm.MethodName)) ∈ mj_WS := mj_mem 359 (by decide +kernel) rfl
theorem mw_360 : (Jvm.Cond.selects "ListSpeaker$Reader" ({ cls := "ListSpeaker$Reader", name := "append", desc := "(C)Z" } : Jvm.MethodName) ({ cls := "ListSpeaker$Reader", name := "append", desc := "(C)Z" } : Jvm.MethodName)) ∈ mj_WS := mj_mem 360 (by decide +kernel) rfl
theorem mw_366 : (Jvm.Cond.methodLink "ListSpeaker" (88 : Nat) ({ cls := "ListSpeaker$Reader", name := "forget", desc := "()I" } : Jvm.MethodName)) ∈ mj_WS := mj_mem 366 (by decide +kernel) rfl
theorem mw_367 : (Jvm.Cond.instanceMethod ({ cls := "ListSpeaker$Reader", name := "forget", desc := "()I" } : Jvm.MethodName)) ∈ mj_WS := mj_mem 367 (by decide +kernel) rfl
theorem mw_368 : (Jvm.Cond.selects "ListSpeaker$Reader" ({ cls := "ListSpeaker$Reader", name := "forget", desc := "()I" } : Jvm.MethodName) ({ cls := "ListSpeaker$Reader", name := "forget", desc := "()I" } : Jvm.MethodName)) ∈ mj_WS := mj_mem 368 (by decide +kernel) rfl
theorem mw_374 : (Jvm.Cond.methodLink "ListSpeaker" (115 : Nat) ({ cls := "ListSpeaker$Paper", name := "length", desc := "()I" } : Jvm.MethodName)) ∈ mj_WS := mj_mem 374 (by decide +kernel) rfl
theorem mw_375 : (Jvm.Cond.instanceMethod ({ cls := "ListSpeaker$Paper", name := "length", desc := "()I" } : Jvm.MethodName)) ∈ mj_WS := mj_mem 375 (by decide +kernel) rfl
theorem mw_376 : (Jvm.Cond.selects "ListSpeaker$Paper" ({ cls := "ListSpeaker$Paper", name := "length", desc := "()I" } : Jvm.MethodName) ({ cls := "ListSpeaker$Paper", name := "length", desc := "()I" } : Jvm.MethodName)) ∈ mj_WS := mj_mem 376 (by decide +kernel) rfl
theorem mw_378 : (Jvm.Cond.methodLink "ListSpeaker" (127 : Nat) ({ cls := "ListSpeaker$Functions", name := "known", desc := "()I" } : Jvm.MethodName)) ∈ mj_WS := mj_mem 378 (by decide +kernel) rfl
theorem mw_379 : (Jvm.Cond.instanceMethod ({ cls := "ListSpeaker$Functions", name := "known", desc := "()I" } : Jvm.MethodName)) ∈ mj_WS := mj_mem 379 (by decide +kernel) rfl
theorem mw_380 : (Jvm.Cond.selects "ListSpeaker$Functions" ({ cls := "ListSpeaker$Functions", name := "known", desc := "()I" } : Jvm.MethodName) ({ cls := "ListSpeaker$Functions", name := "known", desc := "()I" } : Jvm.MethodName)) ∈ mj_WS := mj_mem 380 (by decide +kernel) rfl
theorem mw_382 : (Jvm.Cond.methodLink "ListSpeaker" (130 : Nat) ({ cls := "ListSpeaker$Symbols", name := "known", desc := "()I" } : Jvm.MethodName)) ∈ mj_WS := mj_mem 382 (by decide +kernel) rfl
theorem mw_383 : (Jvm.Cond.instanceMethod ({ cls := "ListSpeaker$Symbols", name := "known", desc := "()I" } : Jvm.MethodName)) ∈ mj_WS := mj_mem 383 (by decide +kernel) rfl
theorem mw_384 : (Jvm.Cond.selects "ListSpeaker$Symbols" ({ cls := "ListSpeaker$Symbols", name := "known", desc := "()I" } : Jvm.MethodName) ({ cls := "ListSpeaker$Symbols", name := "known", desc := "()I" } : Jvm.MethodName)) ∈ mj_WS := mj_mem 384 (by decide +kernel) rfl
theorem mw_386 : (Jvm.Cond.methodLink "ListSpeaker" (131 : Nat) ({ cls := "ListSpeaker$Pairs", name := "stored", desc := "()I" } : Jvm.MethodName)) ∈ mj_WS := mj_mem 386 (by decide +kernel) rfl
theorem mw_387 : (Jvm.Cond.instanceMethod ({ cls := "ListSpeaker$Pairs", name := "stored", desc := "()I" } : Jvm.MethodName)) ∈ mj_WS := mj_mem 387 (by decide +kernel) rfl
theorem mw_388 : (Jvm.Cond.selects "ListSpeaker$Pairs" ({ cls := "ListSpeaker$Pairs", name := "stored", desc := "()I" } : Jvm.MethodName) ({ cls := "ListSpeaker$Pairs", name := "stored", desc := "()I" } : Jvm.MethodName)) ∈ mj_WS := mj_mem 388 (by decide +kernel) rfl
theorem mw_390 : (Jvm.Cond.methodLink "ListSpeaker" (134 : Nat) ({ cls := "ListSpeaker$Pairs", name := "made", desc := "()I" } : Jvm.MethodName)) ∈ mj_WS := mj_mem 390 (by decide +kernel) rfl
theorem mw_391 : (Jvm.Cond.instanceMethod ({ cls := "ListSpeaker$Pairs", name := "made", desc := "()I" } : Jvm.MethodName)) ∈ mj_WS := mj_mem 391 (by decide +kernel) rfl
theorem mw_392 : (Jvm.Cond.selects "ListSpeaker$Pairs" ({ cls := "ListSpeaker$Pairs", name := "made", desc := "()I" } : Jvm.MethodName) ({ cls := "ListSpeaker$Pairs", name := "made", desc := "()I" } : Jvm.MethodName)) ∈ mj_WS := mj_mem 392 (by decide +kernel) rfl
theorem mw_394 : (Jvm.Cond.methodLink "ListSpeaker" (137 : Nat) ({ cls := "ListSpeaker$Pairs", name := "collections", desc := "()I" } : Jvm.MethodName)) ∈ mj_WS := mj_mem 394 (by decide +kernel) rfl
theorem mw_395 : (Jvm.Cond.instanceMethod ({ cls := "ListSpeaker$Pairs", name := "collections", desc := "()I" } : Jvm.MethodName)) ∈ mj_WS := mj_mem 395 (by decide +kernel) rfl
theorem mw_396 : (Jvm.Cond.selects "ListSpeaker$Pairs" ({ cls := "ListSpeaker$Pairs", name := "collections", desc := "()I" } : Jvm.MethodName) ({ cls := "ListSpeaker$Pairs", name := "collections", desc := "()I" } : Jvm.MethodName)) ∈ mj_WS := mj_mem 396 (by decide +kernel) rfl
theorem mw_398 : (Jvm.Cond.methodLink "ListSpeaker" (140 : Nat) ({ cls := "ListSpeaker$Machine", name := "steps", desc := "()I" } : Jvm.MethodName)) ∈ mj_WS := mj_mem 398 (by decide +kernel) rfl
theorem mw_399 : (Jvm.Cond.instanceMethod ({ cls := "ListSpeaker$Machine", name := "steps", desc := "()I" } : Jvm.MethodName)) ∈ mj_WS := mj_mem 399 (by decide +kernel) rfl
theorem mw_400 : (Jvm.Cond.selects "ListSpeaker$Machine" ({ cls := "ListSpeaker$Machine", name := "steps", desc := "()I" } : Jvm.MethodName) ({ cls := "ListSpeaker$Machine", name := "steps", desc := "()I" } : Jvm.MethodName)) ∈ mj_WS := mj_mem 400 (by decide +kernel) rfl
theorem mw_402 : (Jvm.Cond.methodLink "ListSpeaker" (143 : Nat) ({ cls := "ListSpeaker$Machine", name := "mostTaken", desc := "()I" } : Jvm.MethodName)) ∈ mj_WS := mj_mem 402 (by decide +kernel) rfl
theorem mw_403 : (Jvm.Cond.instanceMethod ({ cls := "ListSpeaker$Machine", name := "mostTaken", desc := "()I" } : Jvm.MethodName)) ∈ mj_WS := mj_mem 403 (by decide +kernel) rfl
theorem mw_404 : (Jvm.Cond.selects "ListSpeaker$Machine" ({ cls := "ListSpeaker$Machine", name := "mostTaken", desc := "()I" } : Jvm.MethodName) ({ cls := "ListSpeaker$Machine", name := "mostTaken", desc := "()I" } : Jvm.MethodName)) ∈ mj_WS := mj_mem 404 (by decide +kernel) rfl
theorem mw_483 : (Jvm.Cond.methodLink "ListSpeaker" (99 : Nat) ({ cls := "ListSpeaker$Paper", name := "begin", desc := "()V" } : Jvm.MethodName)) ∈ mj_WS := mj_mem 483 (by decide +kernel) rfl
theorem mw_484 : (Jvm.Cond.instanceMethod ({ cls := "ListSpeaker$Paper", name := "begin", desc := "()V" } : Jvm.MethodName)) ∈ mj_WS := mj_mem 484 (by decide +kernel) rfl
theorem mw_485 : (Jvm.Cond.selects "ListSpeaker$Paper" ({ cls := "ListSpeaker$Paper", name := "begin", desc := "()V" } : Jvm.MethodName) ({ cls := "ListSpeaker$Paper", name := "begin", desc := "()V" } : Jvm.MethodName)) ∈ mj_WS := mj_mem 485 (by decide +kernel) rfl
theorem mw_487 : (Jvm.Cond.methodLink "ListSpeaker" (102 : Nat) ({ cls := "ListSpeaker$Machine", name := "begin", desc := "(I)V" } : Jvm.MethodName)) ∈ mj_WS := mj_mem 487 (by decide +kernel) rfl
theorem mw_488 : (Jvm.Cond.instanceMethod ({ cls := "ListSpeaker$Machine", name := "begin", desc := "(I)V" } : Jvm.MethodName)) ∈ mj_WS := mj_mem 488 (by decide +kernel) rfl
theorem mw_489 : (Jvm.Cond.selects "ListSpeaker$Machine" ({ cls := "ListSpeaker$Machine", name := "begin", desc := "(I)V" } : Jvm.MethodName) ({ cls := "ListSpeaker$Machine", name := "begin", desc := "(I)V" } : Jvm.MethodName)) ∈ mj_WS := mj_mem 489 (by decide +kernel) rfl
theorem mw_491 : (Jvm.Cond.methodLink "ListSpeaker" (104 : Nat) ({ cls := "ListSpeaker$Reader", name := "begin", desc := "()V" } : Jvm.MethodName)) ∈ mj_WS := mj_mem 491 (by decide +kernel) rfl
theorem mw_492 : (Jvm.Cond.instanceMethod ({ cls := "ListSpeaker$Reader", name := "begin", desc := "()V" } : Jvm.MethodName)) ∈ mj_WS := mj_mem 492 (by decide +kernel) rfl
theorem mw_493 : (Jvm.Cond.selects "ListSpeaker$Reader" ({ cls := "ListSpeaker$Reader", name := "begin", desc := "()V" } : Jvm.MethodName) ({ cls := "ListSpeaker$Reader", name := "begin", desc := "()V" } : Jvm.MethodName)) ∈ mj_WS := mj_mem 493 (by decide +kernel) rfl
theorem mw_495 : (Jvm.Cond.methodLink "ListSpeaker" (109 : Nat) ({ cls := "ListSpeaker", name := "carryOutForms", desc := "()I" } : Jvm.MethodName)) ∈ mj_WS := mj_mem 495 (by decide +kernel) rfl
theorem mw_497 : (Jvm.Cond.instanceMethod ({ cls := "ListSpeaker", name := "carryOutForms", desc := "()I" } : Jvm.MethodName)) ∈ mj_WS := mj_mem 497 (by decide +kernel) rfl
theorem mw_499 : (Jvm.Cond.methodLink "ListSpeaker" (146 : Nat) ({ cls := "ListSpeaker$Reader", name := "hasMore", desc := "()Z" } : Jvm.MethodName)) ∈ mj_WS := mj_mem 499 (by decide +kernel) rfl
theorem mw_500 : (Jvm.Cond.instanceMethod ({ cls := "ListSpeaker$Reader", name := "hasMore", desc := "()Z" } : Jvm.MethodName)) ∈ mj_WS := mj_mem 500 (by decide +kernel) rfl
theorem mw_501 : (Jvm.Cond.selects "ListSpeaker$Reader" ({ cls := "ListSpeaker$Reader", name := "hasMore", desc := "()Z" } : Jvm.MethodName) ({ cls := "ListSpeaker$Reader", name := "hasMore", desc := "()Z" } : Jvm.MethodName)) ∈ mj_WS := mj_mem 501 (by decide +kernel) rfl
theorem mw_503 : (Jvm.Cond.methodLink "ListSpeaker$Reader" (30 : Nat) ({ cls := "ListSpeaker$Reader", name := "skipBlanks", desc := "()V" } : Jvm.MethodName)) ∈ mj_WS := mj_mem 503 (by decide +kernel) rfl
theorem mw_505 : (Jvm.Cond.instanceMethod ({ cls := "ListSpeaker$Reader", name := "skipBlanks", desc := "()V" } : Jvm.MethodName)) ∈ mj_WS := mj_mem 505 (by decide +kernel) rfl
theorem mw_507 : (Jvm.Cond.methodLink "ListSpeaker" (150 : Nat) ({ cls := "ListSpeaker$Code", name := "length", desc := "()I" } : Jvm.MethodName)) ∈ mj_WS := mj_mem 507 (by decide +kernel) rfl
theorem mw_508 : (Jvm.Cond.instanceMethod ({ cls := "ListSpeaker$Code", name := "length", desc := "()I" } : Jvm.MethodName)) ∈ mj_WS := mj_mem 508 (by decide +kernel) rfl
theorem mw_509 : (Jvm.Cond.selects "ListSpeaker$Code" ({ cls := "ListSpeaker$Code", name := "length", desc := "()I" } : Jvm.MethodName) ({ cls := "ListSpeaker$Code", name := "length", desc := "()I" } : Jvm.MethodName)) ∈ mj_WS := mj_mem 509 (by decide +kernel) rfl
theorem mw_511 : (Jvm.Cond.methodLink "ListSpeaker" (151 : Nat) ({ cls := "ListSpeaker$Reader", name := "next", desc := "()I" } : Jvm.MethodName)) ∈ mj_WS := mj_mem 511 (by decide +kernel) rfl
theorem mw_512 : (Jvm.Cond.instanceMethod ({ cls := "ListSpeaker$Reader", name := "next", desc := "()I" } : Jvm.MethodName)) ∈ mj_WS := mj_mem 512 (by decide +kernel) rfl
theorem mw_513 : (Jvm.Cond.selects "ListSpeaker$Reader" ({ cls := "ListSpeaker$Reader", name := "next", desc := "()I" } : Jvm.MethodName) ({ cls := "ListSpeaker$Reader", name := "next", desc := "()I" } : Jvm.MethodName)) ∈ mj_WS := mj_mem 513 (by decide +kernel) rfl
theorem mw_515 : (Jvm.Cond.methodLink "ListSpeaker$Reader" (33 : Nat) ({ cls := "ListSpeaker$Reader", name := "datum", desc := "(I)I" } : Jvm.MethodName)) ∈ mj_WS := mj_mem 515 (by decide +kernel) rfl
theorem mw_517 : (Jvm.Cond.instanceMethod ({ cls := "ListSpeaker$Reader", name := "datum", desc := "(I)I" } : Jvm.MethodName)) ∈ mj_WS := mj_mem 517 (by decide +kernel) rfl
theorem mw_519 : (Jvm.Cond.methodLink "ListSpeaker$Reader" (37 : Nat) ({ cls := "ListSpeaker$Reader", name := "isAt", desc := "(C)Z" } : Jvm.MethodName)) ∈ mj_WS := mj_mem 519 (by decide +kernel) rfl
theorem mw_521 : (Jvm.Cond.instanceMethod ({ cls := "ListSpeaker$Reader", name := "isAt", desc := "(C)Z" } : Jvm.MethodName)) ∈ mj_WS := mj_mem 521 (by decide +kernel) rfl
theorem mw_523 : (Jvm.Cond.methodLink "ListSpeaker$Reader" (41 : Nat) ({ cls := "ListSpeaker$Reader", name := "list", desc := "(I)I" } : Jvm.MethodName)) ∈ mj_WS := mj_mem 523 (by decide +kernel) rfl
theorem mw_525 : (Jvm.Cond.instanceMethod ({ cls := "ListSpeaker$Reader", name := "list", desc := "(I)I" } : Jvm.MethodName)) ∈ mj_WS := mj_mem 525 (by decide +kernel) rfl
theorem mw_527 : (Jvm.Cond.constant "ListSpeaker$Reader" (51 : Nat) (268435456 : Int32)) ∈ mj_WS := mj_mem 527 (by decide +kernel) rfl
theorem mw_528 : (Jvm.Cond.methodLink "ListSpeaker$Reader" (52 : Nat) ({ cls := "ListSpeaker$Reader", name := "isAtDot", desc := "()Z" } : Jvm.MethodName)) ∈ mj_WS := mj_mem 528 (by decide +kernel) rfl
theorem mw_530 : (Jvm.Cond.instanceMethod ({ cls := "ListSpeaker$Reader", name := "isAtDot", desc := "()Z" } : Jvm.MethodName)) ∈ mj_WS := mj_mem 530 (by decide +kernel) rfl
theorem mw_532 : (Jvm.Cond.methodLink "ListSpeaker$Reader" (74 : Nat) ({ cls := "ListSpeaker$Reader", name := "rowEnd", desc := "()I" } : Jvm.MethodName)) ∈ mj_WS := mj_mem 532 (by decide +kernel) rfl
theorem mw_534 : (Jvm.Cond.instanceMethod ({ cls := "ListSpeaker$Reader", name := "rowEnd", desc := "()I" } : Jvm.MethodName)) ∈ mj_WS := mj_mem 534 (by decide +kernel) rfl
theorem mw_536 : (Jvm.Cond.methodLink "ListSpeaker$Reader" (101 : Nat) ({ cls := "ListSpeaker$Reader", name := "endsRow", desc := "(C)Z" } : Jvm.MethodName)) ∈ mj_WS := mj_mem 536 (by decide +kernel) rfl
theorem mw_537 : (Jvm.Cond.static ({ cls := "ListSpeaker$Reader", name := "endsRow", desc := "(C)Z" } : Jvm.MethodName)) ∈ mj_WS := mj_mem 537 (by decide +kernel) rfl
theorem mw_539 : (Jvm.Cond.methodLink "ListSpeaker$Reader" (56 : Nat) ({ cls := "ListSpeaker$Reader", name := "dotted", desc := "(III)I" } : Jvm.MethodName)) ∈ mj_WS := mj_mem 539 (by decide +kernel) rfl
theorem mw_541 : (Jvm.Cond.instanceMethod ({ cls := "ListSpeaker$Reader", name := "dotted", desc := "(III)I" } : Jvm.MethodName)) ∈ mj_WS := mj_mem 541 (by decide +kernel) rfl
theorem mw_543 : (Jvm.Cond.methodLink "ListSpeaker$Reader" (63 : Nat) ({ cls := "ListSpeaker$Pairs", name := "endWith", desc := "(II)V" } : Jvm.MethodName)) ∈ mj_WS := mj_mem 543 (by decide +kernel) rfl
theorem mw_544 : (Jvm.Cond.instanceMethod ({ cls := "ListSpeaker$Pairs", name := "endWith", desc := "(II)V" } : Jvm.MethodName)) ∈ mj_WS := mj_mem 544 (by decide +kernel) rfl
theorem mw_545 : (Jvm.Cond.selects "ListSpeaker$Pairs" ({ cls := "ListSpeaker$Pairs", name := "endWith", desc := "(II)V" } : Jvm.MethodName) ({ cls := "ListSpeaker$Pairs", name := "endWith", desc := "(II)V" } : Jvm.MethodName)) ∈ mj_WS := mj_mem 545 (by decide +kernel) rfl
theorem mw_547 : (Jvm.Cond.constant "ListSpeaker$Pairs" (50 : Nat) (536870912 : Int32)) ∈ mj_WS := mj_mem 547 (by decide +kernel) rfl
theorem mw_548 : (Jvm.Cond.methodLink "ListSpeaker$Reader" (60 : Nat) ({ cls := "ListSpeaker$Reader", name := "member", desc := "(I)I" } : Jvm.MethodName)) ∈ mj_WS := mj_mem 548 (by decide +kernel) rfl
theorem mw_550 : (Jvm.Cond.instanceMethod ({ cls := "ListSpeaker$Reader", name := "member", desc := "(I)I" } : Jvm.MethodName)) ∈ mj_WS := mj_mem 550 (by decide +kernel) rfl
theorem mw_552 : (Jvm.Cond.methodLink "ListSpeaker$Reader" (69 : Nat) ({ cls := "ListSpeaker$Pairs", name := "store", desc := "(II)I" } : Jvm.MethodName)) ∈ mj_WS := mj_mem 552 (by decide +kernel) rfl
theorem mw_553 : (Jvm.Cond.instanceMethod ({ cls := "ListSpeaker$Pairs", name := "store", desc := "(II)I" } : Jvm.MethodName)) ∈ mj_WS := mj_mem 553 (by decide +kernel) rfl
theorem mw_554 : (Jvm.Cond.selects "ListSpeaker$Pairs" ({ cls := "ListSpeaker$Pairs", name := "store", desc := "(II)I" } : Jvm.MethodName) ({ cls := "ListSpeaker$Pairs", name := "store", desc := "(II)I" } : Jvm.MethodName)) ∈ mj_WS := mj_mem 554 (by decide +kernel) rfl
theorem mw_556 : (Jvm.Cond.methodLink "ListSpeaker$Reader" (44 : Nat) ({ cls := "ListSpeaker$Reader", name := "quoted", desc := "(I)I" } : Jvm.MethodName)) ∈ mj_WS := mj_mem 556 (by decide +kernel) rfl
theorem mw_558 : (Jvm.Cond.instanceMethod ({ cls := "ListSpeaker$Reader", name := "quoted", desc := "(I)I" } : Jvm.MethodName)) ∈ mj_WS := mj_mem 558 (by decide +kernel) rfl
theorem mw_560 : (Jvm.Cond.constant "ListSpeaker$Reader" (73 : Nat) (268435458 : Int32)) ∈ mj_WS := mj_mem 560 (by decide +kernel) rfl
theorem mw_561 : (Jvm.Cond.methodLink "ListSpeaker$Reader" (47 : Nat) ({ cls := "ListSpeaker$Reader", name := "row", desc := "()I" } : Jvm.MethodName)) ∈ mj_WS := mj_mem 561 (by decide +kernel) rfl
theorem mw_563 : (Jvm.Cond.instanceMethod ({ cls := "ListSpeaker$Reader", name := "row", desc := "()I" } : Jvm.MethodName)) ∈ mj_WS := mj_mem 563 (by decide +kernel) rfl
theorem mw_565 : (Jvm.Cond.methodLink "ListSpeaker$Reader" (77 : Nat) ({ cls := "ListSpeaker$Reader", name := "isDigit", desc := "(C)Z" } : Jvm.MethodName)) ∈ mj_WS := mj_mem 565 (by decide +kernel) rfl
theorem mw_566 : (Jvm.Cond.static ({ cls := "ListSpeaker$Reader", name := "isDigit", desc := "(C)Z" } : Jvm.MethodName)) ∈ mj_WS := mj_mem 566 (by decide +kernel) rfl
theorem mw_568 : (Jvm.Cond.methodLink "ListSpeaker$Reader" (80 : Nat) ({ cls := "ListSpeaker$Reader", name := "number", desc := "(II)I" } : Jvm.MethodName)) ∈ mj_WS := mj_mem 568 (by decide +kernel) rfl
theorem mw_570 : (Jvm.Cond.instanceMethod ({ cls := "ListSpeaker$Reader", name := "number", desc := "(II)I" } : Jvm.MethodName)) ∈ mj_WS := mj_mem 570 (by decide +kernel) rfl
theorem mw_572 : (Jvm.Cond.constantLong "ListSpeaker$Reader" (86 : Nat) (10 : Int64)) ∈ mj_WS := mj_mem 572 (by decide +kernel) rfl
theorem mw_573 : (Jvm.Cond.constantLong "ListSpeaker$Reader" (88 : Nat) (48 : Int64)) ∈ mj_WS := mj_mem 573 (by decide +kernel) rfl
theorem mw_574 : (Jvm.Cond.constantLong "ListSpeaker$Reader" (90 : Nat) (268435455 : Int64)) ∈ mj_WS := mj_mem 574 (by decide +kernel) rfl
theorem mw_575 : (Jvm.Cond.methodLink "ListSpeaker$Reader" (83 : Nat) ({ cls := "ListSpeaker$Reader", name := "symbol", desc := "(II)I" } : Jvm.MethodName)) ∈ mj_WS := mj_mem 575 (by decide +kernel) rfl
theorem mw_577 : (Jvm.Cond.instanceMethod ({ cls := "ListSpeaker$Reader", name := "symbol", desc := "(II)I" } : Jvm.MethodName)) ∈ mj_WS := mj_mem 577 (by decide +kernel) rfl
theorem mw_579 : (Jvm.Cond.methodLink "ListSpeaker$Reader" (92 : Nat) ({ cls := "ListSpeaker$Reader", name := "isLetter", desc := "(C)Z" } : Jvm.MethodName)) ∈ mj_WS := mj_mem 579 (by decide +kernel) rfl
theorem mw_580 : (Jvm.Cond.static ({ cls := "ListSpeaker$Reader", name := "isLetter", desc := "(C)Z" } : Jvm.MethodName)) ∈ mj_WS := mj_mem 580 (by decide +kernel) rfl
theorem mw_582 : (Jvm.Cond.methodLink "ListSpeaker$Reader" (95 : Nat) ({ cls := "ListSpeaker$Symbols", name := "find", desc := "([CII)I" } : Jvm.MethodName)) ∈ mj_WS := mj_mem 582 (by decide +kernel) rfl
theorem mw_583 : (Jvm.Cond.methodLink "ListSpeaker" (154 : Nat) ({ cls := "ListSpeaker", name := "carryOut", desc := "(I)I" } : Jvm.MethodName)) ∈ mj_WS := mj_mem 583 (by decide +kernel) rfl
theorem mw_585 : (Jvm.Cond.instanceMethod ({ cls := "ListSpeaker", name := "carryOut", desc := "(I)I" } : Jvm.MethodName)) ∈ mj_WS := mj_mem 585 (by decide +kernel) rfl
theorem mw_587 : (Jvm.Cond.methodLink "ListSpeaker" (162 : Nat) ({ cls := "ListSpeaker$Pairs", name := "car", desc := "(I)I" } : Jvm.MethodName)) ∈ mj_WS := mj_mem 587 (by decide +kernel) rfl
theorem mw_588 : (Jvm.Cond.instanceMethod ({ cls := "ListSpeaker$Pairs", name := "car", desc := "(I)I" } : Jvm.MethodName)) ∈ mj_WS := mj_mem 588 (by decide +kernel) rfl
theorem mw_589 : (Jvm.Cond.selects "ListSpeaker$Pairs" ({ cls := "ListSpeaker$Pairs", name := "car", desc := "(I)I" } : Jvm.MethodName) ({ cls := "ListSpeaker$Pairs", name := "car", desc := "(I)I" } : Jvm.MethodName)) ∈ mj_WS := mj_mem 589 (by decide +kernel) rfl
theorem mw_591 : (Jvm.Cond.constant "ListSpeaker$Pairs" (51 : Nat) (268435456 : Int32)) ∈ mj_WS := mj_mem 591 (by decide +kernel) rfl
theorem mw_592 : (Jvm.Cond.constant "ListSpeaker" (165 : Nat) (268435465 : Int32)) ∈ mj_WS := mj_mem 592 (by decide +kernel) rfl
theorem mw_593 : (Jvm.Cond.methodLink "ListSpeaker" (166 : Nat) ({ cls := "ListSpeaker$Maker", name := "makeDefinition", desc := "(I)I" } : Jvm.MethodName)) ∈ mj_WS := mj_mem 593 (by decide +kernel) rfl
theorem mw_594 : (Jvm.Cond.instanceMethod ({ cls := "ListSpeaker$Maker", name := "makeDefinition", desc := "(I)I" } : Jvm.MethodName)) ∈ mj_WS := mj_mem 594 (by decide +kernel) rfl
theorem mw_595 : (Jvm.Cond.selects "ListSpeaker$Maker" ({ cls := "ListSpeaker$Maker", name := "makeDefinition", desc := "(I)I" } : Jvm.MethodName) ({ cls := "ListSpeaker$Maker", name := "makeDefinition", desc := "(I)I" } : Jvm.MethodName)) ∈ mj_WS := mj_mem 595 (by decide +kernel) rfl
theorem mw_597 : (Jvm.Cond.methodLink "ListSpeaker$Maker" (40 : Nat) ({ cls := "ListSpeaker$Pairs", name := "item", desc := "(II)I" } : Jvm.MethodName)) ∈ mj_WS := mj_mem 597 (by decide +kernel) rfl
theorem mw_598 : (Jvm.Cond.instanceMethod ({ cls := "ListSpeaker$Pairs", name := "item", desc := "(II)I" } : Jvm.MethodName)) ∈ mj_WS := mj_mem 598 (by decide +kernel) rfl
theorem mw_599 : (Jvm.Cond.selects "ListSpeaker$Pairs" ({ cls := "ListSpeaker$Pairs", name := "item", desc := "(II)I" } : Jvm.MethodName) ({ cls := "ListSpeaker$Pairs", name := "item", desc := "(II)I" } : Jvm.MethodName)) ∈ mj_WS := mj_mem 599 (by decide +kernel) rfl
theorem mw_601 : (Jvm.Cond.methodLink "ListSpeaker$Pairs" (52 : Nat) ({ cls := "ListSpeaker$Pairs", name := "cdr", desc := "(I)I" } : Jvm.MethodName)) ∈ mj_WS := mj_mem 601 (by decide +kernel) rfl
theorem mw_602 : (Jvm.Cond.instanceMethod ({ cls := "ListSpeaker$Pairs", name := "cdr", desc := "(I)I" } : Jvm.MethodName)) ∈ mj_WS := mj_mem 602 (by decide +kernel) rfl
theorem mw_603 : (Jvm.Cond.selects "ListSpeaker$Pairs" ({ cls := "ListSpeaker$Pairs", name := "cdr", desc := "(I)I" } : Jvm.MethodName) ({ cls := "ListSpeaker$Pairs", name := "cdr", desc := "(I)I" } : Jvm.MethodName)) ∈ mj_WS := mj_mem 603 (by decide +kernel) rfl
theorem mw_605 : (Jvm.Cond.methodLink "ListSpeaker$Pairs" (56 : Nat) ({ cls := "ListSpeaker$Pairs", name := "car", desc := "(I)I" } : Jvm.MethodName)) ∈ mj_WS := mj_mem 605 (by decide +kernel) rfl
theorem mw_606 : (Jvm.Cond.methodLink "ListSpeaker$Maker" (45 : Nat) ({ cls := "ListSpeaker$Pairs", name := "lengthOf", desc := "(I)I" } : Jvm.MethodName)) ∈ mj_WS := mj_mem 606 (by decide +kernel) rfl
theorem mw_607 : (Jvm.Cond.instanceMethod ({ cls := "ListSpeaker$Pairs", name := "lengthOf", desc := "(I)I" } : Jvm.MethodName)) ∈ mj_WS := mj_mem 607 (by decide +kernel) rfl
theorem mw_608 : (Jvm.Cond.selects "ListSpeaker$Pairs" ({ cls := "ListSpeaker$Pairs", name := "lengthOf", desc := "(I)I" } : Jvm.MethodName) ({ cls := "ListSpeaker$Pairs", name := "lengthOf", desc := "(I)I" } : Jvm.MethodName)) ∈ mj_WS := mj_mem 608 (by decide +kernel) rfl
theorem mw_611 : (Jvm.Cond.static ({ cls := "ListSpeaker", name := "isPair", desc := "(I)Z" } : Jvm.MethodName)) ∈ mj_WS := mj_mem 611 (by decide +kernel) rfl
theorem mw_613 : (Jvm.Cond.constant "ListSpeaker" (189 : Nat) (536870912 : Int32)) ∈ mj_WS := mj_mem 613 (by decide +kernel) rfl
theorem mw_615 : (Jvm.Cond.static ({ cls := "ListSpeaker", name := "isSymbol", desc := "(I)Z" } : Jvm.MethodName)) ∈ mj_WS := mj_mem 615 (by decide +kernel) rfl
theorem mw_617 : (Jvm.Cond.constant "ListSpeaker" (188 : Nat) (268435456 : Int32)) ∈ mj_WS := mj_mem 617 (by decide +kernel) rfl
theorem mw_618 : (Jvm.Cond.constant "ListSpeaker$Maker" (53 : Nat) (268435476 : Int32)) ∈ mj_WS := mj_mem 618 (by decide +kernel) rfl
theorem mw_619 : (Jvm.Cond.methodLink "ListSpeaker$Maker" (54 : Nat) ({ cls := "ListSpeaker$Maker", name := "areVariables", desc := "(IIZ)Z" } : Jvm.MethodName)) ∈ mj_WS := mj_mem 619 (by decide +kernel) rfl
theorem mw_621 : (Jvm.Cond.instanceMethod ({ cls := "ListSpeaker$Maker", name := "areVariables", desc := "(IIZ)Z" } : Jvm.MethodName)) ∈ mj_WS := mj_mem 621 (by decide +kernel) rfl
theorem mw_623 : (Jvm.Cond.methodLink "ListSpeaker$Maker" (62 : Nat) ({ cls := "ListSpeaker$Pairs", name := "car", desc := "(I)I" } : Jvm.MethodName)) ∈ mj_WS := mj_mem 623 (by decide +kernel) rfl
theorem mw_624 : (Jvm.Cond.methodLink "ListSpeaker$Maker" (65 : Nat) ({ cls := "ListSpeaker$Maker", name := "nameIn", desc := "(IZ)I" } : Jvm.MethodName)) ∈ mj_WS := mj_mem 624 (by decide +kernel) rfl
theorem mw_626 : (Jvm.Cond.instanceMethod ({ cls := "ListSpeaker$Maker", name := "nameIn", desc := "(IZ)I" } : Jvm.MethodName)) ∈ mj_WS := mj_mem 626 (by decide +kernel) rfl
theorem mw_628 : (Jvm.Cond.methodLink "ListSpeaker$Maker" (69 : Nat) ({ cls := "ListSpeaker$Maker", name := "mayBeVariable", desc := "(I)Z" } : Jvm.MethodName)) ∈ mj_WS := mj_mem 628 (by decide +kernel) rfl
theorem mw_629 : (Jvm.Cond.static ({ cls := "ListSpeaker$Maker", name := "mayBeVariable", desc := "(I)Z" } : Jvm.MethodName)) ∈ mj_WS := mj_mem 629 (by decide +kernel) rfl
theorem mw_631 : (Jvm.Cond.constant "ListSpeaker$Maker" (75 : Nat) (268435456 : Int32)) ∈ mj_WS := mj_mem 631 (by decide +kernel) rfl
theorem mw_632 : (Jvm.Cond.constant "ListSpeaker$Maker" (76 : Nat) (268435457 : Int32)) ∈ mj_WS := mj_mem 632 (by decide +kernel) rfl
theorem mw_633 : (Jvm.Cond.constant "ListSpeaker$Maker" (77 : Nat) (268435458 : Int32)) ∈ mj_WS := mj_mem 633 (by decide +kernel) rfl
theorem mw_634 : (Jvm.Cond.constant "ListSpeaker$Maker" (78 : Nat) (268435465 : Int32)) ∈ mj_WS := mj_mem 634 (by decide +kernel) rfl
theorem mw_635 : (Jvm.Cond.methodLink "ListSpeaker$Maker" (72 : Nat) ({ cls := "ListSpeaker$Pairs", name := "cdr", desc := "(I)I" } : Jvm.MethodName)) ∈ mj_WS := mj_mem 635 (by decide +kernel) rfl
theorem mw_636 : (Jvm.Cond.methodLink "ListSpeaker$Maker" (58 : Nat) ({ cls := "ListSpeaker$Maker", name := "know", desc := "(II)V" } : Jvm.MethodName)) ∈ mj_WS := mj_mem 636 (by decide +kernel) rfl
theorem mw_638 : (Jvm.Cond.instanceMethod ({ cls := "ListSpeaker$Maker", name := "know", desc := "(II)V" } : Jvm.MethodName)) ∈ mj_WS := mj_mem 638 (by decide +kernel) rfl
theorem mw_640 : (Jvm.Cond.methodLink "ListSpeaker$Maker" (30 : Nat) ({ cls := "ListSpeaker$Maker", name := "form", desc := "(IIZI)I" } : Jvm.MethodName)) ∈ mj_WS := mj_mem 640 (by decide +kernel) rfl
theorem mw_642 : (Jvm.Cond.instanceMethod ({ cls := "ListSpeaker$Maker", name := "form", desc := "(IIZI)I" } : Jvm.MethodName)) ∈ mj_WS := mj_mem 642 (by decide +kernel) rfl
theorem mw_644 : (Jvm.Cond.methodLink "ListSpeaker$Maker" (34 : Nat) ({ cls := "ListSpeaker$Code", name := "put", desc := "(II)I" } : Jvm.MethodName)) ∈ mj_WS := mj_mem 644 (by decide +kernel) rfl
theorem mw_645 : (Jvm.Cond.instanceMethod ({ cls := "ListSpeaker$Code", name := "put", desc := "(II)I" } : Jvm.MethodName)) ∈ mj_WS := mj_mem 645 (by decide +kernel) rfl
theorem mw_646 : (Jvm.Cond.selects "ListSpeaker$Code" ({ cls := "ListSpeaker$Code", name := "put", desc := "(II)I" } : Jvm.MethodName) ({ cls := "ListSpeaker$Code", name := "put", desc := "(II)I" } : Jvm.MethodName)) ∈ mj_WS := mj_mem 646 (by decide +kernel) rfl
theorem mw_648 : (Jvm.Cond.methodLink "ListSpeaker$Code" (25 : Nat) ({ cls := "ListSpeaker$Code", name := "putCall", desc := "(III)I" } : Jvm.MethodName)) ∈ mj_WS := mj_mem 648 (by decide +kernel) rfl
theorem mw_649 : (Jvm.Cond.instanceMethod ({ cls := "ListSpeaker$Code", name := "putCall", desc := "(III)I" } : Jvm.MethodName)) ∈ mj_WS := mj_mem 649 (by decide +kernel) rfl
theorem mw_650 : (Jvm.Cond.selects "ListSpeaker$Code" ({ cls := "ListSpeaker$Code", name := "putCall", desc := "(III)I" } : Jvm.MethodName) ({ cls := "ListSpeaker$Code", name := "putCall", desc := "(III)I" } : Jvm.MethodName)) ∈ mj_WS := mj_mem 650 (by decide +kernel) rfl
theorem mw_653 : (Jvm.Cond.static ({ cls := "ListSpeaker", name := "isNumber", desc := "(I)Z" } : Jvm.MethodName)) ∈ mj_WS := mj_mem 653 (by decide +kernel) rfl
theorem mw_655 : (Jvm.Cond.constant "ListSpeaker" (187 : Nat) (268435455 : Int32)) ∈ mj_WS := mj_mem 655 (by decide +kernel) rfl
theorem mw_656 : (Jvm.Cond.methodLink "ListSpeaker$Maker" (82 : Nat) ({ cls := "ListSpeaker$Maker", name := "variable", desc := "(I)I" } : Jvm.MethodName)) ∈ mj_WS := mj_mem 656 (by decide +kernel) rfl
theorem mw_658 : (Jvm.Cond.instanceMethod ({ cls := "ListSpeaker$Maker", name := "variable", desc := "(I)I" } : Jvm.MethodName)) ∈ mj_WS := mj_mem 658 (by decide +kernel) rfl
theorem mw_660 : (Jvm.Cond.methodLink "ListSpeaker$Maker" (85 : Nat) ({ cls := "ListSpeaker$Maker", name := "list", desc := "(IIIZI)I" } : Jvm.MethodName)) ∈ mj_WS := mj_mem 660 (by decide +kernel) rfl
theorem mw_662 : (Jvm.Cond.instanceMethod ({ cls := "ListSpeaker$Maker", name := "list", desc := "(IIIZI)I" } : Jvm.MethodName)) ∈ mj_WS := mj_mem 662 (by decide +kernel) rfl
theorem mw_664 : (Jvm.Cond.methodLink "ListSpeaker$Maker" (89 : Nat) ({ cls := "ListSpeaker$Maker", name := "quote", desc := "(II)I" } : Jvm.MethodName)) ∈ mj_WS := mj_mem 664 (by decide +kernel) rfl
theorem mw_666 : (Jvm.Cond.instanceMethod ({ cls := "ListSpeaker$Maker", name := "quote", desc := "(II)I" } : Jvm.MethodName)) ∈ mj_WS := mj_mem 666 (by decide +kernel) rfl
theorem mw_668 : (Jvm.Cond.methodLink "ListSpeaker$Maker" (92 : Nat) ({ cls := "ListSpeaker$Maker", name := "choice", desc := "(IIZI)I" } : Jvm.MethodName)) ∈ mj_WS := mj_mem 668 (by decide +kernel) rfl
theorem mw_670 : (Jvm.Cond.instanceMethod ({ cls := "ListSpeaker$Maker", name := "choice", desc := "(IIZI)I" } : Jvm.MethodName)) ∈ mj_WS := mj_mem 670 (by decide +kernel) rfl
theorem mw_672 : (Jvm.Cond.methodLink "ListSpeaker$Maker" (129 : Nat) ({ cls := "ListSpeaker$Code", name := "aimHere", desc := "(I)V" } : Jvm.MethodName)) ∈ mj_WS := mj_mem 672 (by decide +kernel) rfl
theorem mw_673 : (Jvm.Cond.instanceMethod ({ cls := "ListSpeaker$Code", name := "aimHere", desc := "(I)V" } : Jvm.MethodName)) ∈ mj_WS := mj_mem 673 (by decide +kernel) rfl
theorem mw_674 : (Jvm.Cond.selects "ListSpeaker$Code" ({ cls := "ListSpeaker$Code", name := "aimHere", desc := "(I)V" } : Jvm.MethodName) ({ cls := "ListSpeaker$Code", name := "aimHere", desc := "(I)V" } : Jvm.MethodName)) ∈ mj_WS := mj_mem 674 (by decide +kernel) rfl
theorem mw_676 : (Jvm.Cond.methodLink "ListSpeaker$Maker" (95 : Nat) ({ cls := "ListSpeaker$Maker", name := "let", desc := "(IIZI)I" } : Jvm.MethodName)) ∈ mj_WS := mj_mem 676 (by decide +kernel) rfl
theorem mw_678 : (Jvm.Cond.instanceMethod ({ cls := "ListSpeaker$Maker", name := "let", desc := "(IIZI)I" } : Jvm.MethodName)) ∈ mj_WS := mj_mem 678 (by decide +kernel) rfl
theorem mw_680 : (Jvm.Cond.methodLink "ListSpeaker$Maker" (98 : Nat) ({ cls := "ListSpeaker$Maker", name := "areCouples", desc := "(II)Z" } : Jvm.MethodName)) ∈ mj_WS := mj_mem 680 (by decide +kernel) rfl
theorem mw_682 : (Jvm.Cond.instanceMethod ({ cls := "ListSpeaker$Maker", name := "areCouples", desc := "(II)Z" } : Jvm.MethodName)) ∈ mj_WS := mj_mem 682 (by decide +kernel) rfl
theorem mw_684 : (Jvm.Cond.methodLink "ListSpeaker$Maker" (102 : Nat) ({ cls := "ListSpeaker$Maker", name := "clauses", desc := "(IIIZI)I" } : Jvm.MethodName)) ∈ mj_WS := mj_mem 684 (by decide +kernel) rfl
theorem mw_686 : (Jvm.Cond.instanceMethod ({ cls := "ListSpeaker$Maker", name := "clauses", desc := "(IIIZI)I" } : Jvm.MethodName)) ∈ mj_WS := mj_mem 686 (by decide +kernel) rfl
theorem mw_688 : (Jvm.Cond.methodLink "ListSpeaker$Maker" (105 : Nat) ({ cls := "ListSpeaker$Maker", name := "inTurn", desc := "(IIIIZI)I" } : Jvm.MethodName)) ∈ mj_WS := mj_mem 688 (by decide +kernel) rfl
theorem mw_690 : (Jvm.Cond.instanceMethod ({ cls := "ListSpeaker$Maker", name := "inTurn", desc := "(IIIIZI)I" } : Jvm.MethodName)) ∈ mj_WS := mj_mem 690 (by decide +kernel) rfl
theorem mw_692 : (Jvm.Cond.constant "ListSpeaker$Maker" (133 : Nat) (268435462 : Int32)) ∈ mj_WS := mj_mem 692 (by decide +kernel) rfl
theorem mw_693 : (Jvm.Cond.methodLink "ListSpeaker$Maker" (109 : Nat) ({ cls := "ListSpeaker$Maker", name := "isPrimitive", desc := "(I)Z" } : Jvm.MethodName)) ∈ mj_WS := mj_mem 693 (by decide +kernel) rfl
theorem mw_694 : (Jvm.Cond.static ({ cls := "ListSpeaker$Maker", name := "isPrimitive", desc := "(I)Z" } : Jvm.MethodName)) ∈ mj_WS := mj_mem 694 (by decide +kernel) rfl
theorem mw_696 : (Jvm.Cond.constant "ListSpeaker$Maker" (123 : Nat) (268435466 : Int32)) ∈ mj_WS := mj_mem 696 (by decide +kernel) rfl
theorem mw_697 : (Jvm.Cond.methodLink "ListSpeaker$Maker" (112 : Nat) ({ cls := "ListSpeaker$Maker", name := "argumentsOf", desc := "(I)I" } : Jvm.MethodName)) ∈ mj_WS := mj_mem 697 (by decide +kernel) rfl
theorem mw_698 : (Jvm.Cond.static ({ cls := "ListSpeaker$Maker", name := "argumentsOf", desc := "(I)I" } : Jvm.MethodName)) ∈ mj_WS := mj_mem 698 (by decide +kernel) rfl
theorem mw_700 : (Jvm.Cond.methodLink "ListSpeaker$Maker" (115 : Nat) ({ cls := "ListSpeaker$Maker", name := "forms", desc := "(IIII)I" } : Jvm.MethodName)) ∈ mj_WS := mj_mem 700 (by decide +kernel) rfl
theorem mw_702 : (Jvm.Cond.instanceMethod ({ cls := "ListSpeaker$Maker", name := "forms", desc := "(IIII)I" } : Jvm.MethodName)) ∈ mj_WS := mj_mem 702 (by decide +kernel) rfl
theorem mw_704 : (Jvm.Cond.methodLink "ListSpeaker$Maker" (119 : Nat) ({ cls := "ListSpeaker$Maker", name := "putUse", desc := "(IIZ)V" } : Jvm.MethodName)) ∈ mj_WS := mj_mem 704 (by decide +kernel) rfl
theorem mw_706 : (Jvm.Cond.instanceMethod ({ cls := "ListSpeaker$Maker", name := "putUse", desc := "(IIZ)V" } : Jvm.MethodName)) ∈ mj_WS := mj_mem 706 (by decide +kernel) rfl
theorem mw_708 : (Jvm.Cond.constant "ListSpeaker$Maker" (124 : Nat) (268435464 : Int32)) ∈ mj_WS := mj_mem 708 (by decide +kernel) rfl
theorem mw_709 : (Jvm.Cond.methodLink "ListSpeaker$Maker" (125 : Nat) ({ cls := "ListSpeaker$Code", name := "putCall", desc := "(III)I" } : Jvm.MethodName)) ∈ mj_WS := mj_mem 709 (by decide +kernel) rfl
theorem mw_710 : (Jvm.Cond.methodLink "ListSpeaker" (169 : Nat) ({ cls := "ListSpeaker$Maker", name := "makeForm", desc := "(I)I" } : Jvm.MethodName)) ∈ mj_WS := mj_mem 710 (by decide +kernel) rfl
theorem mw_711 : (Jvm.Cond.instanceMethod ({ cls := "ListSpeaker$Maker", name := "makeForm", desc := "(I)I" } : Jvm.MethodName)) ∈ mj_WS := mj_mem 711 (by decide +kernel) rfl
theorem mw_712 : (Jvm.Cond.selects "ListSpeaker$Maker" ({ cls := "ListSpeaker$Maker", name := "makeForm", desc := "(I)I" } : Jvm.MethodName) ({ cls := "ListSpeaker$Maker", name := "makeForm", desc := "(I)I" } : Jvm.MethodName)) ∈ mj_WS := mj_mem 712 (by decide +kernel) rfl
theorem mw_714 : (Jvm.Cond.methodLink "ListSpeaker" (172 : Nat) ({ cls := "ListSpeaker$Functions", name := "add", desc := "(II)I" } : Jvm.MethodName)) ∈ mj_WS := mj_mem 714 (by decide +kernel) rfl
theorem mw_715 : (Jvm.Cond.instanceMethod ({ cls := "ListSpeaker$Functions", name := "add", desc := "(II)I" } : Jvm.MethodName)) ∈ mj_WS := mj_mem 715 (by decide +kernel) rfl
theorem mw_716 : (Jvm.Cond.selects "ListSpeaker$Functions" ({ cls := "ListSpeaker$Functions", name := "add", desc := "(II)I" } : Jvm.MethodName) ({ cls := "ListSpeaker$Functions", name := "add", desc := "(II)I" } : Jvm.MethodName)) ∈ mj_WS := mj_mem 716 (by decide +kernel) rfl
theorem mw_718 : (Jvm.Cond.methodLink "ListSpeaker$Functions" (36 : Nat) ({ cls := "ListSpeaker$Pairs", name := "item", desc := "(II)I" } : Jvm.MethodName)) ∈ mj_WS := mj_mem 718 (by decide +kernel) rfl
theorem mw_719 : (Jvm.Cond.constant "ListSpeaker$Functions" (42 : Nat) (268435456 : Int32)) ∈ mj_WS := mj_mem 719 (by decide +kernel) rfl
theorem mw_720 : (Jvm.Cond.methodLink "ListSpeaker$Functions" (43 : Nat) ({ cls := "ListSpeaker$Functions", name := "areSame", desc := "(II)Z" } : Jvm.MethodName)) ∈ mj_WS := mj_mem 720 (by decide +kernel) rfl
theorem mw_722 : (Jvm.Cond.instanceMethod ({ cls := "ListSpeaker$Functions", name := "areSame", desc := "(II)Z" } : Jvm.MethodName)) ∈ mj_WS := mj_mem 722 (by decide +kernel) rfl
theorem mw_724 : (Jvm.Cond.constant "ListSpeaker$Functions" (51 : Nat) (1000000 : Int32)) ∈ mj_WS := mj_mem 724 (by decide +kernel) rfl
theorem mw_725 : (Jvm.Cond.methodLink "ListSpeaker$Functions" (52 : Nat) ({ cls := "ListSpeaker$Pairs", name := "compare", desc := "(III)I" } : Jvm.MethodName)) ∈ mj_WS := mj_mem 725 (by decide +kernel) rfl
theorem mw_726 : (Jvm.Cond.instanceMethod ({ cls := "ListSpeaker$Pairs", name := "compare", desc := "(III)I" } : Jvm.MethodName)) ∈ mj_WS := mj_mem 726 (by decide +kernel) rfl
theorem mw_727 : (Jvm.Cond.selects "ListSpeaker$Pairs" ({ cls := "ListSpeaker$Pairs", name := "compare", desc := "(III)I" } : Jvm.MethodName) ({ cls := "ListSpeaker$Pairs", name := "compare", desc := "(III)I" } : Jvm.MethodName)) ∈ mj_WS := mj_mem 727 (by decide +kernel) rfl
theorem mw_729 : (Jvm.Cond.constant "ListSpeaker$Pairs" (70 : Nat) (1000000 : Int32)) ∈ mj_WS := mj_mem 729 (by decide +kernel) rfl
theorem mw_730 : (Jvm.Cond.methodLink "ListSpeaker$Pairs" (71 : Nat) ({ cls := "ListSpeaker$Pairs", name := "await", desc := "(III)V" } : Jvm.MethodName)) ∈ mj_WS := mj_mem 730 (by decide +kernel) rfl
theorem mw_732 : (Jvm.Cond.instanceMethod ({ cls := "ListSpeaker$Pairs", name := "await", desc := "(III)V" } : Jvm.MethodName)) ∈ mj_WS := mj_mem 732 (by decide +kernel) rfl
theorem mw_734 : (Jvm.Cond.methodLink "ListSpeaker$Functions" (47 : Nat) ({ cls := "ListSpeaker$Pairs", name := "lengthOf", desc := "(I)I" } : Jvm.MethodName)) ∈ mj_WS := mj_mem 734 (by decide +kernel) rfl
theorem mw_735 : (Jvm.Cond.methodLink "ListSpeaker" (175 : Nat) ({ cls := "ListSpeaker$Machine", name := "execute", desc := "(I)I" } : Jvm.MethodName)) ∈ mj_WS := mj_mem 735 (by decide +kernel) rfl
theorem mw_736 : (Jvm.Cond.instanceMethod ({ cls := "ListSpeaker$Machine", name := "execute", desc := "(I)I" } : Jvm.MethodName)) ∈ mj_WS := mj_mem 736 (by decide +kernel) rfl
theorem mw_737 : (Jvm.Cond.selects "ListSpeaker$Machine" ({ cls := "ListSpeaker$Machine", name := "execute", desc := "(I)I" } : Jvm.MethodName) ({ cls := "ListSpeaker$Machine", name := "execute", desc := "(I)I" } : Jvm.MethodName)) ∈ mj_WS := mj_mem 737 (by decide +kernel) rfl
theorem mw_739 : (Jvm.Cond.constant "ListSpeaker$Machine" (62 : Nat) (1000000 : Int32)) ∈ mj_WS := mj_mem 739 (by decide +kernel) rfl
theorem mw_740 : (Jvm.Cond.methodLink "ListSpeaker$Machine" (63 : Nat) ({ cls := "ListSpeaker$Code", name := "operation", desc := "(I)I" } : Jvm.MethodName)) ∈ mj_WS := mj_mem 740 (by decide +kernel) rfl
theorem mw_741 : (Jvm.Cond.instanceMethod ({ cls := "ListSpeaker$Code", name := "operation", desc := "(I)I" } : Jvm.MethodName)) ∈ mj_WS := mj_mem 741 (by decide +kernel) rfl
theorem mw_742 : (Jvm.Cond.selects "ListSpeaker$Code" ({ cls := "ListSpeaker$Code", name := "operation", desc := "(I)I" } : Jvm.MethodName) ({ cls := "ListSpeaker$Code", name := "operation", desc := "(I)I" } : Jvm.MethodName)) ∈ mj_WS := mj_mem 742 (by decide +kernel) rfl
theorem mw_744 : (Jvm.Cond.methodLink "ListSpeaker$Machine" (68 : Nat) ({ cls := "ListSpeaker$Code", name := "operand", desc := "(I)I" } : Jvm.MethodName)) ∈ mj_WS := mj_mem 744 (by decide +kernel) rfl
theorem mw_745 : (Jvm.Cond.instanceMethod ({ cls := "ListSpeaker$Code", name := "operand", desc := "(I)I" } : Jvm.MethodName)) ∈ mj_WS := mj_mem 745 (by decide +kernel) rfl
theorem mw_746 : (Jvm.Cond.selects "ListSpeaker$Code" ({ cls := "ListSpeaker$Code", name := "operand", desc := "(I)I" } : Jvm.MethodName) ({ cls := "ListSpeaker$Code", name := "operand", desc := "(I)I" } : Jvm.MethodName)) ∈ mj_WS := mj_mem 746 (by decide +kernel) rfl
theorem mw_748 : (Jvm.Cond.methodLink "ListSpeaker$Machine" (71 : Nat) ({ cls := "ListSpeaker$Code", name := "number", desc := "(I)I" } : Jvm.MethodName)) ∈ mj_WS := mj_mem 748 (by decide +kernel) rfl
theorem mw_749 : (Jvm.Cond.instanceMethod ({ cls := "ListSpeaker$Code", name := "number", desc := "(I)I" } : Jvm.MethodName)) ∈ mj_WS := mj_mem 749 (by decide +kernel) rfl
theorem mw_750 : (Jvm.Cond.selects "ListSpeaker$Code" ({ cls := "ListSpeaker$Code", name := "number", desc := "(I)I" } : Jvm.MethodName) ({ cls := "ListSpeaker$Code", name := "number", desc := "(I)I" } : Jvm.MethodName)) ∈ mj_WS := mj_mem 750 (by decide +kernel) rfl
theorem mw_752 : (Jvm.Cond.methodLink "ListSpeaker$Machine" (74 : Nat) ({ cls := "ListSpeaker$Machine", name := "perform", desc := "(III)I" } : Jvm.MethodName)) ∈ mj_WS := mj_mem 752 (by decide +kernel) rfl
theorem mw_754 : (Jvm.Cond.instanceMethod ({ cls := "ListSpeaker$Machine", name := "perform", desc := "(III)I" } : Jvm.MethodName)) ∈ mj_WS := mj_mem 754 (by decide +kernel) rfl
theorem mw_756 : (Jvm.Cond.methodLink "ListSpeaker$Machine" (78 : Nat) ({ cls := "ListSpeaker$Machine", name := "takeStep", desc := "()I" } : Jvm.MethodName)) ∈ mj_WS := mj_mem 756 (by decide +kernel) rfl
theorem mw_758 : (Jvm.Cond.instanceMethod ({ cls := "ListSpeaker$Machine", name := "takeStep", desc := "()I" } : Jvm.MethodName)) ∈ mj_WS := mj_mem 758 (by decide +kernel) rfl
theorem mw_760 : (Jvm.Cond.methodLink "ListSpeaker$Machine" (82 : Nat) ({ cls := "ListSpeaker$Machine", name := "push", desc := "(I)I" } : Jvm.MethodName)) ∈ mj_WS := mj_mem 760 (by decide +kernel) rfl
theorem mw_762 : (Jvm.Cond.instanceMethod ({ cls := "ListSpeaker$Machine", name := "push", desc := "(I)I" } : Jvm.MethodName)) ∈ mj_WS := mj_mem 762 (by decide +kernel) rfl
theorem mw_764 : (Jvm.Cond.methodLink "ListSpeaker$Machine" (85 : Nat) ({ cls := "ListSpeaker$Machine", name := "variable", desc := "(I)I" } : Jvm.MethodName)) ∈ mj_WS := mj_mem 764 (by decide +kernel) rfl
theorem mw_766 : (Jvm.Cond.instanceMethod ({ cls := "ListSpeaker$Machine", name := "variable", desc := "(I)I" } : Jvm.MethodName)) ∈ mj_WS := mj_mem 766 (by decide +kernel) rfl
theorem mw_768 : (Jvm.Cond.constant "ListSpeaker$Machine" (94 : Nat) (268435456 : Int32)) ∈ mj_WS := mj_mem 768 (by decide +kernel) rfl
theorem mw_769 : (Jvm.Cond.methodLink "ListSpeaker$Machine" (88 : Nat) ({ cls := "ListSpeaker$Machine", name := "jump", desc := "(I)I" } : Jvm.MethodName)) ∈ mj_WS := mj_mem 769 (by decide +kernel) rfl
theorem mw_771 : (Jvm.Cond.instanceMethod ({ cls := "ListSpeaker$Machine", name := "jump", desc := "(I)I" } : Jvm.MethodName)) ∈ mj_WS := mj_mem 771 (by decide +kernel) rfl
theorem mw_773 : (Jvm.Cond.methodLink "ListSpeaker$Machine" (91 : Nat) ({ cls := "ListSpeaker$Machine", name := "jumpIfNil", desc := "(I)I" } : Jvm.MethodName)) ∈ mj_WS := mj_mem 773 (by decide +kernel) rfl
theorem mw_775 : (Jvm.Cond.instanceMethod ({ cls := "ListSpeaker$Machine", name := "jumpIfNil", desc := "(I)I" } : Jvm.MethodName)) ∈ mj_WS := mj_mem 775 (by decide +kernel) rfl
theorem mw_777 : (Jvm.Cond.methodLink "ListSpeaker$Machine" (43 : Nat) ({ cls := "ListSpeaker$Machine", name := "below", desc := "(I)I" } : Jvm.MethodName)) ∈ mj_WS := mj_mem 777 (by decide +kernel) rfl
theorem mw_779 : (Jvm.Cond.instanceMethod ({ cls := "ListSpeaker$Machine", name := "below", desc := "(I)I" } : Jvm.MethodName)) ∈ mj_WS := mj_mem 779 (by decide +kernel) rfl
theorem mw_781 : (Jvm.Cond.methodLink "ListSpeaker$Machine" (129 : Nat) ({ cls := "ListSpeaker$Machine", name := "drop", desc := "()V" } : Jvm.MethodName)) ∈ mj_WS := mj_mem 781 (by decide +kernel) rfl
theorem mw_783 : (Jvm.Cond.instanceMethod ({ cls := "ListSpeaker$Machine", name := "drop", desc := "()V" } : Jvm.MethodName)) ∈ mj_WS := mj_mem 783 (by decide +kernel) rfl
theorem mw_785 : (Jvm.Cond.methodLink "ListSpeaker$Machine" (124 : Nat) ({ cls := "java/lang/Math", name := "max", desc := "(II)I" } : Jvm.MethodName)) ∈ mj_WS := mj_mem 785 (by decide +kernel) rfl
theorem mw_786 : (Jvm.Cond.methodLink "ListSpeaker$Machine" (95 : Nat) ({ cls := "ListSpeaker$Machine", name := "keepOrDrop", desc := "(ZI)I" } : Jvm.MethodName)) ∈ mj_WS := mj_mem 786 (by decide +kernel) rfl
theorem mw_788 : (Jvm.Cond.instanceMethod ({ cls := "ListSpeaker$Machine", name := "keepOrDrop", desc := "(ZI)I" } : Jvm.MethodName)) ∈ mj_WS := mj_mem 788 (by decide +kernel) rfl
theorem mw_790 : (Jvm.Cond.methodLink "ListSpeaker$Machine" (99 : Nat) ({ cls := "ListSpeaker$Machine", name := "replace", desc := "(II)I" } : Jvm.MethodName)) ∈ mj_WS := mj_mem 790 (by decide +kernel) rfl
theorem mw_792 : (Jvm.Cond.instanceMethod ({ cls := "ListSpeaker$Machine", name := "replace", desc := "(II)I" } : Jvm.MethodName)) ∈ mj_WS := mj_mem 792 (by decide +kernel) rfl
theorem mw_794 : (Jvm.Cond.methodLink "ListSpeaker$Machine" (103 : Nat) ({ cls := "ListSpeaker$Machine", name := "enter", desc := "(II)I" } : Jvm.MethodName)) ∈ mj_WS := mj_mem 794 (by decide +kernel) rfl
theorem mw_796 : (Jvm.Cond.instanceMethod ({ cls := "ListSpeaker$Machine", name := "enter", desc := "(II)I" } : Jvm.MethodName)) ∈ mj_WS := mj_mem 796 (by decide +kernel) rfl
theorem mw_798 : (Jvm.Cond.methodLink "ListSpeaker$Machine" (175 : Nat) ({ cls := "ListSpeaker$Functions", name := "refusal", desc := "(II)I" } : Jvm.MethodName)) ∈ mj_WS := mj_mem 798 (by decide +kernel) rfl
theorem mw_799 : (Jvm.Cond.instanceMethod ({ cls := "ListSpeaker$Functions", name := "refusal", desc := "(II)I" } : Jvm.MethodName)) ∈ mj_WS := mj_mem 799 (by decide +kernel) rfl
theorem mw_800 : (Jvm.Cond.selects "ListSpeaker$Functions" ({ cls := "ListSpeaker$Functions", name := "refusal", desc := "(II)I" } : Jvm.MethodName) ({ cls := "ListSpeaker$Functions", name := "refusal", desc := "(II)I" } : Jvm.MethodName)) ∈ mj_WS := mj_mem 800 (by decide +kernel) rfl
theorem mw_802 : (Jvm.Cond.methodLink "ListSpeaker$Machine" (180 : Nat) ({ cls := "ListSpeaker$Machine", name := "remember", desc := "(IIII)V" } : Jvm.MethodName)) ∈ mj_WS := mj_mem 802 (by decide +kernel) rfl
theorem mw_804 : (Jvm.Cond.instanceMethod ({ cls := "ListSpeaker$Machine", name := "remember", desc := "(IIII)V" } : Jvm.MethodName)) ∈ mj_WS := mj_mem 804 (by decide +kernel) rfl
theorem mw_806 : (Jvm.Cond.methodLink "ListSpeaker$Machine" (184 : Nat) ({ cls := "ListSpeaker$Functions", name := "start", desc := "(I)I" } : Jvm.MethodName)) ∈ mj_WS := mj_mem 806 (by decide +kernel) rfl
theorem mw_807 : (Jvm.Cond.instanceMethod ({ cls := "ListSpeaker$Functions", name := "start", desc := "(I)I" } : Jvm.MethodName)) ∈ mj_WS := mj_mem 807 (by decide +kernel) rfl
theorem mw_808 : (Jvm.Cond.selects "ListSpeaker$Functions" ({ cls := "ListSpeaker$Functions", name := "start", desc := "(I)I" } : Jvm.MethodName) ({ cls := "ListSpeaker$Functions", name := "start", desc := "(I)I" } : Jvm.MethodName)) ∈ mj_WS := mj_mem 808 (by decide +kernel) rfl
theorem mw_810 : (Jvm.Cond.methodLink "ListSpeaker$Machine" (106 : Nat) ({ cls := "ListSpeaker$Machine", name := "enterInstead", desc := "(II)I" } : Jvm.MethodName)) ∈ mj_WS := mj_mem 810 (by decide +kernel) rfl
theorem mw_812 : (Jvm.Cond.instanceMethod ({ cls := "ListSpeaker$Machine", name := "enterInstead", desc := "(II)I" } : Jvm.MethodName)) ∈ mj_WS := mj_mem 812 (by decide +kernel) rfl
theorem mw_814 : (Jvm.Cond.methodLink "ListSpeaker$Machine" (187 : Nat) ({ cls := "java/lang/System", name := "arraycopy", desc := "(Ljava/lang/Object;ILjava/lang/Object;II)V" } : Jvm.MethodName)) ∈ mj_WS := mj_mem 814 (by decide +kernel) rfl
theorem mw_815 : (Jvm.Cond.methodLink "ListSpeaker$Machine" (109 : Nat) ({ cls := "ListSpeaker$Machine", name := "leave", desc := "()I" } : Jvm.MethodName)) ∈ mj_WS := mj_mem 815 (by decide +kernel) rfl
theorem mw_817 : (Jvm.Cond.instanceMethod ({ cls := "ListSpeaker$Machine", name := "leave", desc := "()I" } : Jvm.MethodName)) ∈ mj_WS := mj_mem 817 (by decide +kernel) rfl
theorem mw_819 : (Jvm.Cond.methodLink "ListSpeaker$Machine" (112 : Nat) ({ cls := "ListSpeaker$Machine", name := "makePair", desc := "()I" } : Jvm.MethodName)) ∈ mj_WS := mj_mem 819 (by decide +kernel) rfl
theorem mw_821 : (Jvm.Cond.instanceMethod ({ cls := "ListSpeaker$Machine", name := "makePair", desc := "()I" } : Jvm.MethodName)) ∈ mj_WS := mj_mem 821 (by decide +kernel) rfl
theorem mw_823 : (Jvm.Cond.methodLink "ListSpeaker$Machine" (132 : Nat) ({ cls := "ListSpeaker$Pairs", name := "hasRoom", desc := "()Z" } : Jvm.MethodName)) ∈ mj_WS := mj_mem 823 (by decide +kernel) rfl
theorem mw_824 : (Jvm.Cond.instanceMethod ({ cls := "ListSpeaker$Pairs", name := "hasRoom", desc := "()Z" } : Jvm.MethodName)) ∈ mj_WS := mj_mem 824 (by decide +kernel) rfl
theorem mw_825 : (Jvm.Cond.selects "ListSpeaker$Pairs" ({ cls := "ListSpeaker$Pairs", name := "hasRoom", desc := "()Z" } : Jvm.MethodName) ({ cls := "ListSpeaker$Pairs", name := "hasRoom", desc := "()Z" } : Jvm.MethodName)) ∈ mj_WS := mj_mem 825 (by decide +kernel) rfl
theorem mw_827 : (Jvm.Cond.methodLink "ListSpeaker$Machine" (138 : Nat) ({ cls := "ListSpeaker$Pairs", name := "collect", desc := "([II)V" } : Jvm.MethodName)) ∈ mj_WS := mj_mem 827 (by decide +kernel) rfl
theorem mw_828 : (Jvm.Cond.instanceMethod ({ cls := "ListSpeaker$Pairs", name := "collect", desc := "([II)V" } : Jvm.MethodName)) ∈ mj_WS := mj_mem 828 (by decide +kernel) rfl
theorem mw_829 : (Jvm.Cond.selects "ListSpeaker$Pairs" ({ cls := "ListSpeaker$Pairs", name := "collect", desc := "([II)V" } : Jvm.MethodName) ({ cls := "ListSpeaker$Pairs", name := "collect", desc := "([II)V" } : Jvm.MethodName)) ∈ mj_WS := mj_mem 829 (by decide +kernel) rfl
theorem mw_831 : (Jvm.Cond.methodLink "ListSpeaker$Pairs" (63 : Nat) ({ cls := "ListSpeaker$Pairs", name := "reach", desc := "(II)I" } : Jvm.MethodName)) ∈ mj_WS := mj_mem 831 (by decide +kernel) rfl
theorem mw_833 : (Jvm.Cond.instanceMethod ({ cls := "ListSpeaker$Pairs", name := "reach", desc := "(II)I" } : Jvm.MethodName)) ∈ mj_WS := mj_mem 833 (by decide +kernel) rfl
theorem mw_835 : (Jvm.Cond.methodLink "ListSpeaker$Pairs" (67 : Nat) ({ cls := "ListSpeaker$Pairs", name := "gatherFree", desc := "()V" } : Jvm.MethodName)) ∈ mj_WS := mj_mem 835 (by decide +kernel) rfl
theorem mw_837 : (Jvm.Cond.instanceMethod ({ cls := "ListSpeaker$Pairs", name := "gatherFree", desc := "()V" } : Jvm.MethodName)) ∈ mj_WS := mj_mem 837 (by decide +kernel) rfl
theorem mw_839 : (Jvm.Cond.methodLink "ListSpeaker$Machine" (142 : Nat) ({ cls := "ListSpeaker$Pairs", name := "make", desc := "(II)I" } : Jvm.MethodName)) ∈ mj_WS := mj_mem 839 (by decide +kernel) rfl
theorem mw_840 : (Jvm.Cond.instanceMethod ({ cls := "ListSpeaker$Pairs", name := "make", desc := "(II)I" } : Jvm.MethodName)) ∈ mj_WS := mj_mem 840 (by decide +kernel) rfl
theorem mw_841 : (Jvm.Cond.selects "ListSpeaker$Pairs" ({ cls := "ListSpeaker$Pairs", name := "make", desc := "(II)I" } : Jvm.MethodName) ({ cls := "ListSpeaker$Pairs", name := "make", desc := "(II)I" } : Jvm.MethodName)) ∈ mj_WS := mj_mem 841 (by decide +kernel) rfl
theorem mw_843 : (Jvm.Cond.methodLink "ListSpeaker$Machine" (115 : Nat) ({ cls := "ListSpeaker$Machine", name := "compare", desc := "()I" } : Jvm.MethodName)) ∈ mj_WS := mj_mem 843 (by decide +kernel) rfl
theorem mw_845 : (Jvm.Cond.instanceMethod ({ cls := "ListSpeaker$Machine", name := "compare", desc := "()I" } : Jvm.MethodName)) ∈ mj_WS := mj_mem 845 (by decide +kernel) rfl
theorem mw_847 : (Jvm.Cond.methodLink "ListSpeaker$Machine" (170 : Nat) ({ cls := "ListSpeaker$Pairs", name := "compare", desc := "(III)I" } : Jvm.MethodName)) ∈ mj_WS := mj_mem 847 (by decide +kernel) rfl
theorem mw_848 : (Jvm.Cond.methodLink "ListSpeaker$Machine" (172 : Nat) ({ cls := "ListSpeaker$Pairs", name := "compared", desc := "()I" } : Jvm.MethodName)) ∈ mj_WS := mj_mem 848 (by decide +kernel) rfl
theorem mw_849 : (Jvm.Cond.instanceMethod ({ cls := "ListSpeaker$Pairs", name := "compared", desc := "()I" } : Jvm.MethodName)) ∈ mj_WS := mj_mem 849 (by decide +kernel) rfl
theorem mw_850 : (Jvm.Cond.selects "ListSpeaker$Pairs" ({ cls := "ListSpeaker$Pairs", name := "compared", desc := "()I" } : Jvm.MethodName) ({ cls := "ListSpeaker$Pairs", name := "compared", desc := "()I" } : Jvm.MethodName)) ∈ mj_WS := mj_mem 850 (by decide +kernel) rfl
theorem mw_852 : (Jvm.Cond.methodLink "ListSpeaker$Machine" (155 : Nat) ({ cls := "ListSpeaker$Machine", name := "truth", desc := "(Z)I" } : Jvm.MethodName)) ∈ mj_WS := mj_mem 852 (by decide +kernel) rfl
theorem mw_853 : (Jvm.Cond.static ({ cls := "ListSpeaker$Machine", name := "truth", desc := "(Z)I" } : Jvm.MethodName)) ∈ mj_WS := mj_mem 853 (by decide +kernel) rfl
theorem mw_855 : (Jvm.Cond.constant "ListSpeaker$Machine" (168 : Nat) (268435457 : Int32)) ∈ mj_WS := mj_mem 855 (by decide +kernel) rfl
theorem mw_856 : (Jvm.Cond.methodLink "ListSpeaker$Machine" (118 : Nat) ({ cls := "ListSpeaker$Machine", name := "add", desc := "()I" } : Jvm.MethodName)) ∈ mj_WS := mj_mem 856 (by decide +kernel) rfl
theorem mw_858 : (Jvm.Cond.instanceMethod ({ cls := "ListSpeaker$Machine", name := "add", desc := "()I" } : Jvm.MethodName)) ∈ mj_WS := mj_mem 858 (by decide +kernel) rfl
theorem mw_860 : (Jvm.Cond.methodLink "ListSpeaker$Machine" (165 : Nat) ({ cls := "ListSpeaker$Machine", name := "asNumber", desc := "(I)I" } : Jvm.MethodName)) ∈ mj_WS := mj_mem 860 (by decide +kernel) rfl
theorem mw_861 : (Jvm.Cond.static ({ cls := "ListSpeaker$Machine", name := "asNumber", desc := "(I)I" } : Jvm.MethodName)) ∈ mj_WS := mj_mem 861 (by decide +kernel) rfl
theorem mw_864 : (Jvm.Cond.constant "ListSpeaker$Machine" (169 : Nat) (268435455 : Int32)) ∈ mj_WS := mj_mem 864 (by decide +kernel) rfl
theorem mw_865 : (Jvm.Cond.methodLink "ListSpeaker$Machine" (121 : Nat) ({ cls := "ListSpeaker$Machine", name := "primitive", desc := "(I)I" } : Jvm.MethodName)) ∈ mj_WS := mj_mem 865 (by decide +kernel) rfl
theorem mw_867 : (Jvm.Cond.instanceMethod ({ cls := "ListSpeaker$Machine", name := "primitive", desc := "(I)I" } : Jvm.MethodName)) ∈ mj_WS := mj_mem 867 (by decide +kernel) rfl
theorem mw_869 : (Jvm.Cond.methodLink "ListSpeaker$Machine" (145 : Nat) ({ cls := "ListSpeaker$Pairs", name := "car", desc := "(I)I" } : Jvm.MethodName)) ∈ mj_WS := mj_mem 869 (by decide +kernel) rfl
theorem mw_870 : (Jvm.Cond.methodLink "ListSpeaker$Machine" (148 : Nat) ({ cls := "ListSpeaker$Pairs", name := "cdr", desc := "(I)I" } : Jvm.MethodName)) ∈ mj_WS := mj_mem 870 (by decide +kernel) rfl
theorem mw_873 : (Jvm.Cond.methodLink "ListSpeaker" (178 : Nat) ({ cls := "ListSpeaker$Pairs", name := "item", desc := "(II)I" } : Jvm.MethodName)) ∈ mj_WS := mj_mem 873 (by decide +kernel) rfl
theorem mw_874 : (Jvm.Cond.methodLink "ListSpeaker" (181 : Nat) ({ cls := "ListSpeaker$Machine", name := "value", desc := "()I" } : Jvm.MethodName)) ∈ mj_WS := mj_mem 874 (by decide +kernel) rfl
theorem mw_875 : (Jvm.Cond.instanceMethod ({ cls := "ListSpeaker$Machine", name := "value", desc := "()I" } : Jvm.MethodName)) ∈ mj_WS := mj_mem 875 (by decide +kernel) rfl
theorem mw_876 : (Jvm.Cond.selects "ListSpeaker$Machine" ({ cls := "ListSpeaker$Machine", name := "value", desc := "()I" } : Jvm.MethodName) ({ cls := "ListSpeaker$Machine", name := "value", desc := "()I" } : Jvm.MethodName)) ∈ mj_WS := mj_mem 876 (by decide +kernel) rfl
theorem mw_878 : (Jvm.Cond.methodLink "ListSpeaker" (184 : Nat) ({ cls := "ListSpeaker$Paper", name := "printLine", desc := "(I)V" } : Jvm.MethodName)) ∈ mj_WS := mj_mem 878 (by decide +kernel) rfl
theorem mw_879 : (Jvm.Cond.instanceMethod ({ cls := "ListSpeaker$Paper", name := "printLine", desc := "(I)V" } : Jvm.MethodName)) ∈ mj_WS := mj_mem 879 (by decide +kernel) rfl
theorem mw_880 : (Jvm.Cond.selects "ListSpeaker$Paper" ({ cls := "ListSpeaker$Paper", name := "printLine", desc := "(I)V" } : Jvm.MethodName) ({ cls := "ListSpeaker$Paper", name := "printLine", desc := "(I)V" } : Jvm.MethodName)) ∈ mj_WS := mj_mem 880 (by decide +kernel) rfl
theorem mw_882 : (Jvm.Cond.methodLink "ListSpeaker$Paper" (42 : Nat) ({ cls := "ListSpeaker$Paper", name := "await", desc := "(I)V" } : Jvm.MethodName)) ∈ mj_WS := mj_mem 882 (by decide +kernel) rfl
theorem mw_884 : (Jvm.Cond.instanceMethod ({ cls := "ListSpeaker$Paper", name := "await", desc := "(I)V" } : Jvm.MethodName)) ∈ mj_WS := mj_mem 884 (by decide +kernel) rfl
theorem mw_886 : (Jvm.Cond.constant "ListSpeaker$Paper" (45 : Nat) (1000000 : Int32)) ∈ mj_WS := mj_mem 886 (by decide +kernel) rfl
theorem mw_887 : (Jvm.Cond.methodLink "ListSpeaker$Paper" (46 : Nat) ({ cls := "ListSpeaker$Paper", name := "printDatum", desc := "(I)V" } : Jvm.MethodName)) ∈ mj_WS := mj_mem 887 (by decide +kernel) rfl
theorem mw_889 : (Jvm.Cond.instanceMethod ({ cls := "ListSpeaker$Paper", name := "printDatum", desc := "(I)V" } : Jvm.MethodName)) ∈ mj_WS := mj_mem 889 (by decide +kernel) rfl
theorem mw_892 : (Jvm.Cond.methodLink "ListSpeaker$Paper" (31 : Nat) ({ cls := "ListSpeaker$Paper", name := "put", desc := "(C)V" } : Jvm.MethodName)) ∈ mj_WS := mj_mem 892 (by decide +kernel) rfl
theorem mw_894 : (Jvm.Cond.instanceMethod ({ cls := "ListSpeaker$Paper", name := "put", desc := "(C)V" } : Jvm.MethodName)) ∈ mj_WS := mj_mem 894 (by decide +kernel) rfl
theorem mw_896 : (Jvm.Cond.methodLink "ListSpeaker$Paper" (56 : Nat) ({ cls := "ListSpeaker$Paper", name := "awaitPartsOf", desc := "(I)V" } : Jvm.MethodName)) ∈ mj_WS := mj_mem 896 (by decide +kernel) rfl
theorem mw_898 : (Jvm.Cond.instanceMethod ({ cls := "ListSpeaker$Paper", name := "awaitPartsOf", desc := "(I)V" } : Jvm.MethodName)) ∈ mj_WS := mj_mem 898 (by decide +kernel) rfl
theorem mw_900 : (Jvm.Cond.methodLink "ListSpeaker$Paper" (63 : Nat) ({ cls := "ListSpeaker$Pairs", name := "cdr", desc := "(I)I" } : Jvm.MethodName)) ∈ mj_WS := mj_mem 900 (by decide +kernel) rfl
theorem mw_901 : (Jvm.Cond.methodLink "ListSpeaker$Paper" (69 : Nat) ({ cls := "ListSpeaker$Pairs", name := "car", desc := "(I)I" } : Jvm.MethodName)) ∈ mj_WS := mj_mem 901 (by decide +kernel) rfl
theorem mw_902 : (Jvm.Cond.methodLink "ListSpeaker$Paper" (59 : Nat) ({ cls := "ListSpeaker$Paper", name := "printAtom", desc := "(I)V" } : Jvm.MethodName)) ∈ mj_WS := mj_mem 902 (by decide +kernel) rfl
theorem mw_904 : (Jvm.Cond.instanceMethod ({ cls := "ListSpeaker$Paper", name := "printAtom", desc := "(I)V" } : Jvm.MethodName)) ∈ mj_WS := mj_mem 904 (by decide +kernel) rfl
theorem mw_907 : (Jvm.Cond.methodLink "ListSpeaker$Paper" (35 : Nat) ({ cls := "ListSpeaker$Paper", name := "printNumber", desc := "(I)V" } : Jvm.MethodName)) ∈ mj_WS := mj_mem 907 (by decide +kernel) rfl
theorem mw_909 : (Jvm.Cond.instanceMethod ({ cls := "ListSpeaker$Paper", name := "printNumber", desc := "(I)V" } : Jvm.MethodName)) ∈ mj_WS := mj_mem 909 (by decide +kernel) rfl
theorem mw_911 : (Jvm.Cond.constant "ListSpeaker$Paper" (83 : Nat) (100000000 : Int32)) ∈ mj_WS := mj_mem 911 (by decide +kernel) rfl
theorem mw_912 : (Jvm.Cond.methodLink "ListSpeaker$Paper" (75 : Nat) ({ cls := "ListSpeaker$Symbols", name := "length", desc := "(I)I" } : Jvm.MethodName)) ∈ mj_WS := mj_mem 912 (by decide +kernel) rfl
theorem mw_913 : (Jvm.Cond.instanceMethod ({ cls := "ListSpeaker$Symbols", name := "length", desc := "(I)I" } : Jvm.MethodName)) ∈ mj_WS := mj_mem 913 (by decide +kernel) rfl
theorem mw_914 : (Jvm.Cond.selects "ListSpeaker$Symbols" ({ cls := "ListSpeaker$Symbols", name := "length", desc := "(I)I" } : Jvm.MethodName) ({ cls := "ListSpeaker$Symbols", name := "length", desc := "(I)I" } : Jvm.MethodName)) ∈ mj_WS := mj_mem 914 (by decide +kernel) rfl
theorem mw_916 : (Jvm.Cond.methodLink "ListSpeaker$Paper" (79 : Nat) ({ cls := "ListSpeaker$Symbols", name := "letter", desc := "(II)C" } : Jvm.MethodName)) ∈ mj_WS := mj_mem 916 (by decide +kernel) rfl
theorem mw_917 : (Jvm.Cond.instanceMethod ({ cls := "ListSpeaker$Symbols", name := "letter", desc := "(II)C" } : Jvm.MethodName)) ∈ mj_WS := mj_mem 917 (by decide +kernel) rfl
theorem mw_918 : (Jvm.Cond.selects "ListSpeaker$Symbols" ({ cls := "ListSpeaker$Symbols", name := "letter", desc := "(II)C" } : Jvm.MethodName) ({ cls := "ListSpeaker$Symbols", name := "letter", desc := "(II)C" } : Jvm.MethodName)) ∈ mj_WS := mj_mem 918 (by decide +kernel) rfl
theorem mw_920 : (Jvm.Cond.methodLink "ListSpeaker$Paper" (49 : Nat) ({ cls := "ListSpeaker$Paper", name := "printRest", desc := "(I)V" } : Jvm.MethodName)) ∈ mj_WS := mj_mem 920 (by decide +kernel) rfl
theorem mw_922 : (Jvm.Cond.instanceMethod ({ cls := "ListSpeaker$Paper", name := "printRest", desc := "(I)V" } : Jvm.MethodName)) ∈ mj_WS := mj_mem 922 (by decide +kernel) rfl
theorem mw_924 : (Jvm.Cond.constant "ListSpeaker$Paper" (62 : Nat) (268435456 : Int32)) ∈ mj_WS := mj_mem 924 (by decide +kernel) rfl
theorem mw_925 : (Jvm.Cond.methodLink "ListSpeaker" (158 : Nat) ({ cls := "ListSpeaker$Pairs", name := "release", desc := "(I)V" } : Jvm.MethodName)) ∈ mj_WS := mj_mem 925 (by decide +kernel) rfl
theorem mw_926 : (Jvm.Cond.instanceMethod ({ cls := "ListSpeaker$Pairs", name := "release", desc := "(I)V" } : Jvm.MethodName)) ∈ mj_WS := mj_mem 926 (by decide +kernel) rfl
theorem mw_927 : (Jvm.Cond.selects "ListSpeaker$Pairs" ({ cls := "ListSpeaker$Pairs", name := "release", desc := "(I)V" } : Jvm.MethodName) ({ cls := "ListSpeaker$Pairs", name := "release", desc := "(I)V" } : Jvm.MethodName)) ∈ mj_WS := mj_mem 927 (by decide +kernel) rfl
theorem mw_929 : (Jvm.Cond.methodLink "ListSpeaker" (161 : Nat) ({ cls := "ListSpeaker$Code", name := "release", desc := "(I)V" } : Jvm.MethodName)) ∈ mj_WS := mj_mem 929 (by decide +kernel) rfl
theorem mw_930 : (Jvm.Cond.instanceMethod ({ cls := "ListSpeaker$Code", name := "release", desc := "(I)V" } : Jvm.MethodName)) ∈ mj_WS := mj_mem 930 (by decide +kernel) rfl
theorem mw_931 : (Jvm.Cond.selects "ListSpeaker$Code" ({ cls := "ListSpeaker$Code", name := "release", desc := "(I)V" } : Jvm.MethodName) ({ cls := "ListSpeaker$Code", name := "release", desc := "(I)V" } : Jvm.MethodName)) ∈ mj_WS := mj_mem 931 (by decide +kernel) rfl
theorem mw_933 : (Jvm.Cond.methodLink "ListSpeaker" (112 : Nat) ({ cls := "ListSpeaker$Paper", name := "printError", desc := "(I)V" } : Jvm.MethodName)) ∈ mj_WS := mj_mem 933 (by decide +kernel) rfl
theorem mw_934 : (Jvm.Cond.instanceMethod ({ cls := "ListSpeaker$Paper", name := "printError", desc := "(I)V" } : Jvm.MethodName)) ∈ mj_WS := mj_mem 934 (by decide +kernel) rfl
theorem mw_935 : (Jvm.Cond.selects "ListSpeaker$Paper" ({ cls := "ListSpeaker$Paper", name := "printError", desc := "(I)V" } : Jvm.MethodName) ({ cls := "ListSpeaker$Paper", name := "printError", desc := "(I)V" } : Jvm.MethodName)) ∈ mj_WS := mj_mem 935 (by decide +kernel) rfl
theorem mw_961 : (Jvm.Cond.methodLink "ListSpeaker" (123 : Nat) ({ cls := "ListSpeaker$Paper", name := "letter", desc := "(I)C" } : Jvm.MethodName)) ∈ mj_WS := mj_mem 961 (by decide +kernel) rfl
theorem mw_962 : (Jvm.Cond.instanceMethod ({ cls := "ListSpeaker$Paper", name := "letter", desc := "(I)C" } : Jvm.MethodName)) ∈ mj_WS := mj_mem 962 (by decide +kernel) rfl
theorem mw_963 : (Jvm.Cond.selects "ListSpeaker$Paper" ({ cls := "ListSpeaker$Paper", name := "letter", desc := "(I)C" } : Jvm.MethodName) ({ cls := "ListSpeaker$Paper", name := "letter", desc := "(I)C" } : Jvm.MethodName)) ∈ mj_WS := mj_mem 963 (by decide +kernel) rfl
theorem mw_971 : (Jvm.Cond.methodLink "ListSpeakerModel" (88 : Nat) ({ cls := "ListSpeakerModel", name := "keep", desc := "(IIIIIII)V" } : Jvm.MethodName)) ∈ mj_WS := mj_mem 971 (by decide +kernel) rfl
theorem mw_973 : (Jvm.Cond.instanceMethod ({ cls := "ListSpeakerModel", name := "keep", desc := "(IIIIIII)V" } : Jvm.MethodName)) ∈ mj_WS := mj_mem 973 (by decide +kernel) rfl
theorem mw_975 : (Jvm.Cond.fieldLink "ListSpeakerModel" (84 : Nat) "ListSpeakerModel" "size" "I") ∈ mj_WS := mj_mem 975 (by decide +kernel) rfl
theorem mw_976 : (Jvm.Cond.fieldLink "ListSpeakerModel" (95 : Nat) "ListSpeakerModel" "code" "I") ∈ mj_WS := mj_mem 976 (by decide +kernel) rfl
theorem mw_977 : (Jvm.Cond.fieldLink "ListSpeakerModel" (113 : Nat) "ListSpeakerModel" "typed" "I") ∈ mj_WS := mj_mem 977 (by decide +kernel) rfl
theorem mw_978 : (Jvm.Cond.fieldLink "ListSpeakerModel" (9 : Nat) "ListSpeakerModel" "text" "[C") ∈ mj_WS := mj_mem 978 (by decide +kernel) rfl
theorem mw_979 : (Jvm.Cond.fieldLink "ListSpeakerModel" (116 : Nat) "ListSpeakerModel" "place" "I") ∈ mj_WS := mj_mem 979 (by decide +kernel) rfl
theorem mw_980 : (Jvm.Cond.fieldLink "ListSpeakerModel" (98 : Nat) "ListSpeakerModel" "error" "I") ∈ mj_WS := mj_mem 980 (by decide +kernel) rfl
theorem mw_981 : (Jvm.Cond.fieldLink "ListSpeakerModel" (92 : Nat) "ListSpeakerModel" "symbols" "I") ∈ mj_WS := mj_mem 981 (by decide +kernel) rfl
theorem mw_982 : (Jvm.Cond.fieldLink "ListSpeakerModel" (13 : Nat) "ListSpeakerModel" "letters" "[C") ∈ mj_WS := mj_mem 982 (by decide +kernel) rfl
theorem mw_983 : (Jvm.Cond.fieldLink "ListSpeakerModel" (16 : Nat) "ListSpeakerModel" "lengths" "[I") ∈ mj_WS := mj_mem 983 (by decide +kernel) rfl
theorem mw_984 : (Jvm.Cond.fieldLink "ListSpeakerModel" (20 : Nat) "ListSpeakerModel" "car" "[I") ∈ mj_WS := mj_mem 984 (by decide +kernel) rfl
theorem mw_985 : (Jvm.Cond.fieldLink "ListSpeakerModel" (23 : Nat) "ListSpeakerModel" "cdr" "[I") ∈ mj_WS := mj_mem 985 (by decide +kernel) rfl
theorem mw_986 : (Jvm.Cond.fieldLink "ListSpeakerModel" (145 : Nat) "ListSpeakerModel" "stored" "I") ∈ mj_WS := mj_mem 986 (by decide +kernel) rfl
theorem mw_987 : (Jvm.Cond.fieldLink "ListSpeakerModel" (294 : Nat) "ListSpeakerModel" "made" "I") ∈ mj_WS := mj_mem 987 (by decide +kernel) rfl
theorem mw_988 : (Jvm.Cond.fieldLink "ListSpeakerModel" (301 : Nat) "ListSpeakerModel" "collections" "I") ∈ mj_WS := mj_mem 988 (by decide +kernel) rfl
theorem mw_989 : (Jvm.Cond.fieldLink "ListSpeakerModel" (26 : Nat) "ListSpeakerModel" "used" "[Z") ∈ mj_WS := mj_mem 989 (by decide +kernel) rfl
theorem mw_990 : (Jvm.Cond.fieldLink "ListSpeakerModel" (30 : Nat) "ListSpeakerModel" "seen" "[Z") ∈ mj_WS := mj_mem 990 (by decide +kernel) rfl
theorem mw_991 : (Jvm.Cond.fieldLink "ListSpeakerModel" (33 : Nat) "ListSpeakerModel" "waiting" "[I") ∈ mj_WS := mj_mem 991 (by decide +kernel) rfl
theorem mw_992 : (Jvm.Cond.fieldLink "ListSpeakerModel" (148 : Nat) "ListSpeakerModel" "depth" "I") ∈ mj_WS := mj_mem 992 (by decide +kernel) rfl
theorem mw_993 : (Jvm.Cond.fieldLink "ListSpeakerModel" (36 : Nat) "ListSpeakerModel" "kind" "[I") ∈ mj_WS := mj_mem 993 (by decide +kernel) rfl
theorem mw_994 : (Jvm.Cond.fieldLink "ListSpeakerModel" (39 : Nat) "ListSpeakerModel" "first" "[I") ∈ mj_WS := mj_mem 994 (by decide +kernel) rfl
theorem mw_995 : (Jvm.Cond.fieldLink "ListSpeakerModel" (42 : Nat) "ListSpeakerModel" "last" "[I") ∈ mj_WS := mj_mem 995 (by decide +kernel) rfl
theorem mw_996 : (Jvm.Cond.fieldLink "ListSpeakerModel" (45 : Nat) "ListSpeakerModel" "dotted" "[I") ∈ mj_WS := mj_mem 996 (by decide +kernel) rfl
theorem mw_997 : (Jvm.Cond.fieldLink "ListSpeakerModel" (220 : Nat) "ListSpeakerModel" "functions" "I") ∈ mj_WS := mj_mem 997 (by decide +kernel) rfl
theorem mw_998 : (Jvm.Cond.fieldLink "ListSpeakerModel" (48 : Nat) "ListSpeakerModel" "name" "[I") ∈ mj_WS := mj_mem 998 (by decide +kernel) rfl
theorem mw_999 : (Jvm.Cond.fieldLink "ListSpeakerModel" (51 : Nat) "ListSpeakerModel" "parameters" "[I") ∈ mj_WS := mj_mem 999 (by decide +kernel) rfl
theorem mw_1000 : (Jvm.Cond.fieldLink "ListSpeakerModel" (54 : Nat) "ListSpeakerModel" "body" "[I") ∈ mj_WS := mj_mem 1000 (by decide +kernel) rfl
theorem mw_1001 : (Jvm.Cond.fieldLink "ListSpeakerModel" (174 : Nat) "ListSpeakerModel" "todo" "I") ∈ mj_WS := mj_mem 1001 (by decide +kernel) rfl
theorem mw_1002 : (Jvm.Cond.fieldLink "ListSpeakerModel" (57 : Nat) "ListSpeakerModel" "what" "[I") ∈ mj_WS := mj_mem 1002 (by decide +kernel) rfl
theorem mw_1003 : (Jvm.Cond.fieldLink "ListSpeakerModel" (60 : Nat) "ListSpeakerModel" "datum" "[I") ∈ mj_WS := mj_mem 1003 (by decide +kernel) rfl
theorem mw_1004 : (Jvm.Cond.fieldLink "ListSpeakerModel" (63 : Nat) "ListSpeakerModel" "number" "[I") ∈ mj_WS := mj_mem 1004 (by decide +kernel) rfl
theorem mw_1005 : (Jvm.Cond.fieldLink "ListSpeakerModel" (66 : Nat) "ListSpeakerModel" "tail" "[Z") ∈ mj_WS := mj_mem 1005 (by decide +kernel) rfl
theorem mw_1006 : (Jvm.Cond.fieldLink "ListSpeakerModel" (247 : Nat) "ListSpeakerModel" "top" "I") ∈ mj_WS := mj_mem 1006 (by decide +kernel) rfl
theorem mw_1007 : (Jvm.Cond.fieldLink "ListSpeakerModel" (69 : Nat) "ListSpeakerModel" "stack" "[I") ∈ mj_WS := mj_mem 1007 (by decide +kernel) rfl
theorem mw_1008 : (Jvm.Cond.fieldLink "ListSpeakerModel" (177 : Nat) "ListSpeakerModel" "variables" "I") ∈ mj_WS := mj_mem 1008 (by decide +kernel) rfl
theorem mw_1009 : (Jvm.Cond.fieldLink "ListSpeakerModel" (72 : Nat) "ListSpeakerModel" "variable" "[I") ∈ mj_WS := mj_mem 1009 (by decide +kernel) rfl
theorem mw_1010 : (Jvm.Cond.fieldLink "ListSpeakerModel" (75 : Nat) "ListSpeakerModel" "at" "[I") ∈ mj_WS := mj_mem 1010 (by decide +kernel) rfl
theorem mw_1011 : (Jvm.Cond.fieldLink "ListSpeakerModel" (180 : Nat) "ListSpeakerModel" "begin" "I") ∈ mj_WS := mj_mem 1011 (by decide +kernel) rfl
theorem mw_1012 : (Jvm.Cond.fieldLink "ListSpeakerModel" (291 : Nat) "ListSpeakerModel" "arguments" "I") ∈ mj_WS := mj_mem 1012 (by decide +kernel) rfl
theorem mw_1013 : (Jvm.Cond.fieldLink "ListSpeakerModel" (253 : Nat) "ListSpeakerModel" "frames" "I") ∈ mj_WS := mj_mem 1013 (by decide +kernel) rfl
theorem mw_1014 : (Jvm.Cond.fieldLink "ListSpeakerModel" (78 : Nat) "ListSpeakerModel" "frame" "[I") ∈ mj_WS := mj_mem 1014 (by decide +kernel) rfl
theorem mw_1015 : (Jvm.Cond.fieldLink "ListSpeakerModel" (244 : Nat) "ListSpeakerModel" "fuel" "I") ∈ mj_WS := mj_mem 1015 (by decide +kernel) rfl
theorem mw_1016 : (Jvm.Cond.fieldLink "ListSpeakerModel" (241 : Nat) "ListSpeakerModel" "steps" "I") ∈ mj_WS := mj_mem 1016 (by decide +kernel) rfl
theorem mw_1017 : (Jvm.Cond.fieldLink "ListSpeakerModel" (250 : Nat) "ListSpeakerModel" "most" "I") ∈ mj_WS := mj_mem 1017 (by decide +kernel) rfl
theorem mw_1018 : (Jvm.Cond.fieldLink "ListSpeakerModel" (330 : Nat) "ListSpeakerModel" "done" "I") ∈ mj_WS := mj_mem 1018 (by decide +kernel) rfl
theorem mw_1019 : (Jvm.Cond.fieldLink "ListSpeakerModel" (315 : Nat) "ListSpeakerModel" "printed" "I") ∈ mj_WS := mj_mem 1019 (by decide +kernel) rfl
theorem mw_1020 : (Jvm.Cond.fieldLink "ListSpeakerModel" (81 : Nat) "ListSpeakerModel" "line" "[C") ∈ mj_WS := mj_mem 1020 (by decide +kernel) rfl
theorem mw_1130 : (Jvm.Cond.methodLink "ListSpeakerModel" (151 : Nat) ({ cls := "ListSpeakerModel", name := "skip", desc := "()V" } : Jvm.MethodName)) ∈ mj_WS := mj_mem 1130 (by decide +kernel) rfl
theorem mw_1132 : (Jvm.Cond.instanceMethod ({ cls := "ListSpeakerModel", name := "skip", desc := "()V" } : Jvm.MethodName)) ∈ mj_WS := mj_mem 1132 (by decide +kernel) rfl
theorem mw_1134 : (Jvm.Cond.methodLink "ListSpeakerModel" (119 : Nat) ({ cls := "ListSpeakerModel", name := "look", desc := "()I" } : Jvm.MethodName)) ∈ mj_WS := mj_mem 1134 (by decide +kernel) rfl
theorem mw_1136 : (Jvm.Cond.instanceMethod ({ cls := "ListSpeakerModel", name := "look", desc := "()I" } : Jvm.MethodName)) ∈ mj_WS := mj_mem 1136 (by decide +kernel) rfl
theorem mw_1138 : (Jvm.Cond.methodLink "ListSpeakerModel" (333 : Nat) ({ cls := "ListSpeakerModel", name := "form", desc := "()V" } : Jvm.MethodName)) ∈ mj_WS := mj_mem 1138 (by decide +kernel) rfl
theorem mw_1140 : (Jvm.Cond.instanceMethod ({ cls := "ListSpeakerModel", name := "form", desc := "()V" } : Jvm.MethodName)) ∈ mj_WS := mj_mem 1140 (by decide +kernel) rfl
theorem mw_1142 : (Jvm.Cond.methodLink "ListSpeakerModel" (336 : Nat) ({ cls := "ListSpeakerModel", name := "read", desc := "()I" } : Jvm.MethodName)) ∈ mj_WS := mj_mem 1142 (by decide +kernel) rfl
theorem mw_1144 : (Jvm.Cond.instanceMethod ({ cls := "ListSpeakerModel", name := "read", desc := "()I" } : Jvm.MethodName)) ∈ mj_WS := mj_mem 1144 (by decide +kernel) rfl
theorem mw_1146 : (Jvm.Cond.methodLink "ListSpeakerModel" (138 : Nat) ({ cls := "ListSpeakerModel", name := "stop", desc := "(I)I" } : Jvm.MethodName)) ∈ mj_WS := mj_mem 1146 (by decide +kernel) rfl
theorem mw_1148 : (Jvm.Cond.instanceMethod ({ cls := "ListSpeakerModel", name := "stop", desc := "(I)I" } : Jvm.MethodName)) ∈ mj_WS := mj_mem 1148 (by decide +kernel) rfl
theorem mw_1150 : (Jvm.Cond.constant "ListSpeakerModel" (101 : Nat) (268435456 : Int32)) ∈ mj_WS := mj_mem 1150 (by decide +kernel) rfl
theorem mw_1151 : (Jvm.Cond.methodLink "ListSpeakerModel" (154 : Nat) ({ cls := "ListSpeakerModel", name := "close", desc := "()I" } : Jvm.MethodName)) ∈ mj_WS := mj_mem 1151 (by decide +kernel) rfl
theorem mw_1153 : (Jvm.Cond.instanceMethod ({ cls := "ListSpeakerModel", name := "close", desc := "()I" } : Jvm.MethodName)) ∈ mj_WS := mj_mem 1153 (by decide +kernel) rfl
theorem mw_1155 : (Jvm.Cond.methodLink "ListSpeakerModel" (157 : Nat) ({ cls := "ListSpeakerModel", name := "dot", desc := "()I" } : Jvm.MethodName)) ∈ mj_WS := mj_mem 1155 (by decide +kernel) rfl
theorem mw_1157 : (Jvm.Cond.instanceMethod ({ cls := "ListSpeakerModel", name := "dot", desc := "()I" } : Jvm.MethodName)) ∈ mj_WS := mj_mem 1157 (by decide +kernel) rfl
theorem mw_1159 : (Jvm.Cond.methodLink "ListSpeakerModel" (164 : Nat) ({ cls := "ListSpeakerModel", name := "token", desc := "()I" } : Jvm.MethodName)) ∈ mj_WS := mj_mem 1159 (by decide +kernel) rfl
theorem mw_1161 : (Jvm.Cond.instanceMethod ({ cls := "ListSpeakerModel", name := "token", desc := "()I" } : Jvm.MethodName)) ∈ mj_WS := mj_mem 1161 (by decide +kernel) rfl
theorem mw_1163 : (Jvm.Cond.methodLink "ListSpeakerModel" (123 : Nat) ({ cls := "ListSpeakerModel", name := "isRow", desc := "(I)Z" } : Jvm.MethodName)) ∈ mj_WS := mj_mem 1163 (by decide +kernel) rfl
theorem mw_1165 : (Jvm.Cond.instanceMethod ({ cls := "ListSpeakerModel", name := "isRow", desc := "(I)Z" } : Jvm.MethodName)) ∈ mj_WS := mj_mem 1165 (by decide +kernel) rfl
theorem mw_1167 : (Jvm.Cond.methodLink "ListSpeakerModel" (126 : Nat) ({ cls := "ListSpeakerModel", name := "isDigit", desc := "(I)Z" } : Jvm.MethodName)) ∈ mj_WS := mj_mem 1167 (by decide +kernel) rfl
theorem mw_1168 : (Jvm.Cond.static ({ cls := "ListSpeakerModel", name := "isDigit", desc := "(I)Z" } : Jvm.MethodName)) ∈ mj_WS := mj_mem 1168 (by decide +kernel) rfl
theorem mw_1170 : (Jvm.Cond.methodLink "ListSpeakerModel" (129 : Nat) ({ cls := "ListSpeakerModel", name := "isLetter", desc := "(I)Z" } : Jvm.MethodName)) ∈ mj_WS := mj_mem 1170 (by decide +kernel) rfl
theorem mw_1171 : (Jvm.Cond.static ({ cls := "ListSpeakerModel", name := "isLetter", desc := "(I)Z" } : Jvm.MethodName)) ∈ mj_WS := mj_mem 1171 (by decide +kernel) rfl
theorem mw_1173 : (Jvm.Cond.constantLong "ListSpeakerModel" (132 : Nat) (268435455 : Int64)) ∈ mj_WS := mj_mem 1173 (by decide +kernel) rfl
theorem mw_1174 : (Jvm.Cond.constantLong "ListSpeakerModel" (134 : Nat) (10 : Int64)) ∈ mj_WS := mj_mem 1174 (by decide +kernel) rfl
theorem mw_1175 : (Jvm.Cond.constantLong "ListSpeakerModel" (136 : Nat) (48 : Int64)) ∈ mj_WS := mj_mem 1175 (by decide +kernel) rfl
theorem mw_1176 : (Jvm.Cond.methodLink "ListSpeakerModel" (141 : Nat) ({ cls := "ListSpeakerModel", name := "symbol", desc := "(II)I" } : Jvm.MethodName)) ∈ mj_WS := mj_mem 1176 (by decide +kernel) rfl
theorem mw_1178 : (Jvm.Cond.instanceMethod ({ cls := "ListSpeakerModel", name := "symbol", desc := "(II)I" } : Jvm.MethodName)) ∈ mj_WS := mj_mem 1178 (by decide +kernel) rfl
theorem mw_1180 : (Jvm.Cond.methodLink "ListSpeakerModel" (160 : Nat) ({ cls := "ListSpeakerModel", name := "open", desc := "(I)V" } : Jvm.MethodName)) ∈ mj_WS := mj_mem 1180 (by decide +kernel) rfl
theorem mw_1182 : (Jvm.Cond.instanceMethod ({ cls := "ListSpeakerModel", name := "open", desc := "(I)V" } : Jvm.MethodName)) ∈ mj_WS := mj_mem 1182 (by decide +kernel) rfl
theorem mw_1184 : (Jvm.Cond.methodLink "ListSpeakerModel" (167 : Nat) ({ cls := "ListSpeakerModel", name := "take", desc := "(I)I" } : Jvm.MethodName)) ∈ mj_WS := mj_mem 1184 (by decide +kernel) rfl
theorem mw_1186 : (Jvm.Cond.instanceMethod ({ cls := "ListSpeakerModel", name := "take", desc := "(I)I" } : Jvm.MethodName)) ∈ mj_WS := mj_mem 1186 (by decide +kernel) rfl
theorem mw_1188 : (Jvm.Cond.methodLink "ListSpeakerModel" (170 : Nat) ({ cls := "ListSpeakerModel", name := "store", desc := "(II)I" } : Jvm.MethodName)) ∈ mj_WS := mj_mem 1188 (by decide +kernel) rfl
theorem mw_1190 : (Jvm.Cond.instanceMethod ({ cls := "ListSpeakerModel", name := "store", desc := "(II)I" } : Jvm.MethodName)) ∈ mj_WS := mj_mem 1190 (by decide +kernel) rfl
theorem mw_1192 : (Jvm.Cond.constant "ListSpeakerModel" (102 : Nat) (536870912 : Int32)) ∈ mj_WS := mj_mem 1192 (by decide +kernel) rfl
theorem mw_1193 : (Jvm.Cond.constant "ListSpeakerModel" (173 : Nat) (268435458 : Int32)) ∈ mj_WS := mj_mem 1193 (by decide +kernel) rfl
theorem mw_1194 : (Jvm.Cond.methodLink "ListSpeakerModel" (103 : Nat) ({ cls := "ListSpeakerModel", name := "isPair", desc := "(I)Z" } : Jvm.MethodName)) ∈ mj_WS := mj_mem 1194 (by decide +kernel) rfl
theorem mw_1195 : (Jvm.Cond.static ({ cls := "ListSpeakerModel", name := "isPair", desc := "(I)Z" } : Jvm.MethodName)) ∈ mj_WS := mj_mem 1195 (by decide +kernel) rfl
theorem mw_1197 : (Jvm.Cond.methodLink "ListSpeakerModel" (111 : Nat) ({ cls := "ListSpeakerModel", name := "first", desc := "(I)I" } : Jvm.MethodName)) ∈ mj_WS := mj_mem 1197 (by decide +kernel) rfl
theorem mw_1199 : (Jvm.Cond.instanceMethod ({ cls := "ListSpeakerModel", name := "first", desc := "(I)I" } : Jvm.MethodName)) ∈ mj_WS := mj_mem 1199 (by decide +kernel) rfl
theorem mw_1201 : (Jvm.Cond.constant "ListSpeakerModel" (216 : Nat) (268435465 : Int32)) ∈ mj_WS := mj_mem 1201 (by decide +kernel) rfl
theorem mw_1202 : (Jvm.Cond.methodLink "ListSpeakerModel" (339 : Nat) ({ cls := "ListSpeakerModel", name := "define", desc := "(I)Z" } : Jvm.MethodName)) ∈ mj_WS := mj_mem 1202 (by decide +kernel) rfl
theorem mw_1204 : (Jvm.Cond.instanceMethod ({ cls := "ListSpeakerModel", name := "define", desc := "(I)Z" } : Jvm.MethodName)) ∈ mj_WS := mj_mem 1204 (by decide +kernel) rfl
theorem mw_1206 : (Jvm.Cond.methodLink "ListSpeakerModel" (207 : Nat) ({ cls := "ListSpeakerModel", name := "length", desc := "(I)I" } : Jvm.MethodName)) ∈ mj_WS := mj_mem 1206 (by decide +kernel) rfl
theorem mw_1208 : (Jvm.Cond.instanceMethod ({ cls := "ListSpeakerModel", name := "length", desc := "(I)I" } : Jvm.MethodName)) ∈ mj_WS := mj_mem 1208 (by decide +kernel) rfl
theorem mw_1210 : (Jvm.Cond.methodLink "ListSpeakerModel" (107 : Nat) ({ cls := "ListSpeakerModel", name := "rest", desc := "(I)I" } : Jvm.MethodName)) ∈ mj_WS := mj_mem 1210 (by decide +kernel) rfl
theorem mw_1212 : (Jvm.Cond.instanceMethod ({ cls := "ListSpeakerModel", name := "rest", desc := "(I)I" } : Jvm.MethodName)) ∈ mj_WS := mj_mem 1212 (by decide +kernel) rfl
theorem mw_1214 : (Jvm.Cond.methodLink "ListSpeakerModel" (193 : Nat) ({ cls := "ListSpeakerModel", name := "item", desc := "(II)I" } : Jvm.MethodName)) ∈ mj_WS := mj_mem 1214 (by decide +kernel) rfl
theorem mw_1216 : (Jvm.Cond.instanceMethod ({ cls := "ListSpeakerModel", name := "item", desc := "(II)I" } : Jvm.MethodName)) ∈ mj_WS := mj_mem 1216 (by decide +kernel) rfl
theorem mw_1218 : (Jvm.Cond.methodLink "ListSpeakerModel" (200 : Nat) ({ cls := "ListSpeakerModel", name := "isSymbol", desc := "(I)Z" } : Jvm.MethodName)) ∈ mj_WS := mj_mem 1218 (by decide +kernel) rfl
theorem mw_1219 : (Jvm.Cond.static ({ cls := "ListSpeakerModel", name := "isSymbol", desc := "(I)Z" } : Jvm.MethodName)) ∈ mj_WS := mj_mem 1219 (by decide +kernel) rfl
theorem mw_1221 : (Jvm.Cond.constant "ListSpeakerModel" (223 : Nat) (268435476 : Int32)) ∈ mj_WS := mj_mem 1221 (by decide +kernel) rfl
theorem mw_1222 : (Jvm.Cond.methodLink "ListSpeakerModel" (224 : Nat) ({ cls := "ListSpeakerModel", name := "areParameters", desc := "(I)Z" } : Jvm.MethodName)) ∈ mj_WS := mj_mem 1222 (by decide +kernel) rfl
theorem mw_1224 : (Jvm.Cond.instanceMethod ({ cls := "ListSpeakerModel", name := "areParameters", desc := "(I)Z" } : Jvm.MethodName)) ∈ mj_WS := mj_mem 1224 (by decide +kernel) rfl
theorem mw_1226 : (Jvm.Cond.methodLink "ListSpeakerModel" (217 : Nat) ({ cls := "ListSpeakerModel", name := "isVariable", desc := "(I)Z" } : Jvm.MethodName)) ∈ mj_WS := mj_mem 1226 (by decide +kernel) rfl
theorem mw_1228 : (Jvm.Cond.instanceMethod ({ cls := "ListSpeakerModel", name := "isVariable", desc := "(I)Z" } : Jvm.MethodName)) ∈ mj_WS := mj_mem 1228 (by decide +kernel) rfl
theorem mw_1230 : (Jvm.Cond.constant "ListSpeakerModel" (203 : Nat) (268435457 : Int32)) ∈ mj_WS := mj_mem 1230 (by decide +kernel) rfl
theorem mw_1231 : (Jvm.Cond.methodLink "ListSpeakerModel" (196 : Nat) ({ cls := "ListSpeakerModel", name := "bind", desc := "(II)V" } : Jvm.MethodName)) ∈ mj_WS := mj_mem 1231 (by decide +kernel) rfl
theorem mw_1233 : (Jvm.Cond.instanceMethod ({ cls := "ListSpeakerModel", name := "bind", desc := "(II)V" } : Jvm.MethodName)) ∈ mj_WS := mj_mem 1233 (by decide +kernel) rfl
theorem mw_1235 : (Jvm.Cond.methodLink "ListSpeakerModel" (227 : Nat) ({ cls := "ListSpeakerModel", name := "lookAt", desc := "(I)V" } : Jvm.MethodName)) ∈ mj_WS := mj_mem 1235 (by decide +kernel) rfl
theorem mw_1237 : (Jvm.Cond.instanceMethod ({ cls := "ListSpeakerModel", name := "lookAt", desc := "(I)V" } : Jvm.MethodName)) ∈ mj_WS := mj_mem 1237 (by decide +kernel) rfl
theorem mw_1239 : (Jvm.Cond.methodLink "ListSpeakerModel" (183 : Nat) ({ cls := "ListSpeakerModel", name := "later", desc := "(IIIZ)V" } : Jvm.MethodName)) ∈ mj_WS := mj_mem 1239 (by decide +kernel) rfl
theorem mw_1241 : (Jvm.Cond.instanceMethod ({ cls := "ListSpeakerModel", name := "later", desc := "(IIIZ)V" } : Jvm.MethodName)) ∈ mj_WS := mj_mem 1241 (by decide +kernel) rfl
theorem mw_1243 : (Jvm.Cond.methodLink "ListSpeakerModel" (187 : Nat) ({ cls := "ListSpeakerModel", name := "one", desc := "(I)V" } : Jvm.MethodName)) ∈ mj_WS := mj_mem 1243 (by decide +kernel) rfl
theorem mw_1245 : (Jvm.Cond.instanceMethod ({ cls := "ListSpeakerModel", name := "one", desc := "(I)V" } : Jvm.MethodName)) ∈ mj_WS := mj_mem 1245 (by decide +kernel) rfl
theorem mw_1247 : (Jvm.Cond.methodLink "ListSpeakerModel" (204 : Nat) ({ cls := "ListSpeakerModel", name := "find", desc := "(I)I" } : Jvm.MethodName)) ∈ mj_WS := mj_mem 1247 (by decide +kernel) rfl
theorem mw_1249 : (Jvm.Cond.instanceMethod ({ cls := "ListSpeakerModel", name := "find", desc := "(I)I" } : Jvm.MethodName)) ∈ mj_WS := mj_mem 1249 (by decide +kernel) rfl
theorem mw_1251 : (Jvm.Cond.methodLink "ListSpeakerModel" (210 : Nat) ({ cls := "ListSpeakerModel", name := "isLet", desc := "(I)Z" } : Jvm.MethodName)) ∈ mj_WS := mj_mem 1251 (by decide +kernel) rfl
theorem mw_1253 : (Jvm.Cond.instanceMethod ({ cls := "ListSpeakerModel", name := "isLet", desc := "(I)Z" } : Jvm.MethodName)) ∈ mj_WS := mj_mem 1253 (by decide +kernel) rfl
theorem mw_1255 : (Jvm.Cond.methodLink "ListSpeakerModel" (213 : Nat) ({ cls := "ListSpeakerModel", name := "arePairs", desc := "(I)Z" } : Jvm.MethodName)) ∈ mj_WS := mj_mem 1255 (by decide +kernel) rfl
theorem mw_1257 : (Jvm.Cond.instanceMethod ({ cls := "ListSpeakerModel", name := "arePairs", desc := "(I)Z" } : Jvm.MethodName)) ∈ mj_WS := mj_mem 1257 (by decide +kernel) rfl
theorem mw_1259 : (Jvm.Cond.methodLink "ListSpeakerModel" (190 : Nat) ({ cls := "ListSpeakerModel", name := "names", desc := "(I)V" } : Jvm.MethodName)) ∈ mj_WS := mj_mem 1259 (by decide +kernel) rfl
theorem mw_1261 : (Jvm.Cond.instanceMethod ({ cls := "ListSpeakerModel", name := "names", desc := "(I)V" } : Jvm.MethodName)) ∈ mj_WS := mj_mem 1261 (by decide +kernel) rfl
theorem mw_1263 : (Jvm.Cond.methodLink "ListSpeakerModel" (230 : Nat) ({ cls := "ListSpeakerModel", name := "functionOf", desc := "(I)I" } : Jvm.MethodName)) ∈ mj_WS := mj_mem 1263 (by decide +kernel) rfl
theorem mw_1265 : (Jvm.Cond.instanceMethod ({ cls := "ListSpeakerModel", name := "functionOf", desc := "(I)I" } : Jvm.MethodName)) ∈ mj_WS := mj_mem 1265 (by decide +kernel) rfl
theorem mw_1267 : (Jvm.Cond.methodLink "ListSpeakerModel" (233 : Nat) ({ cls := "ListSpeakerModel", name := "isSame", desc := "(IIZ)Z" } : Jvm.MethodName)) ∈ mj_WS := mj_mem 1267 (by decide +kernel) rfl
theorem mw_1269 : (Jvm.Cond.instanceMethod ({ cls := "ListSpeakerModel", name := "isSame", desc := "(IIZ)Z" } : Jvm.MethodName)) ∈ mj_WS := mj_mem 1269 (by decide +kernel) rfl
theorem mw_1271 : (Jvm.Cond.methodLink "ListSpeakerModel" (237 : Nat) ({ cls := "ListSpeakerModel", name := "step", desc := "()Z" } : Jvm.MethodName)) ∈ mj_WS := mj_mem 1271 (by decide +kernel) rfl
theorem mw_1273 : (Jvm.Cond.instanceMethod ({ cls := "ListSpeakerModel", name := "step", desc := "()Z" } : Jvm.MethodName)) ∈ mj_WS := mj_mem 1273 (by decide +kernel) rfl
theorem mw_1275 : (Jvm.Cond.methodLink "ListSpeakerModel" (342 : Nat) ({ cls := "ListSpeakerModel", name := "carryOut", desc := "(I)I" } : Jvm.MethodName)) ∈ mj_WS := mj_mem 1275 (by decide +kernel) rfl
theorem mw_1277 : (Jvm.Cond.instanceMethod ({ cls := "ListSpeakerModel", name := "carryOut", desc := "(I)I" } : Jvm.MethodName)) ∈ mj_WS := mj_mem 1277 (by decide +kernel) rfl
theorem mw_1279 : (Jvm.Cond.methodLink "ListSpeakerModel" (256 : Nat) ({ cls := "ListSpeakerModel", name := "act", desc := "(IIIZ)V" } : Jvm.MethodName)) ∈ mj_WS := mj_mem 1279 (by decide +kernel) rfl
theorem mw_1281 : (Jvm.Cond.instanceMethod ({ cls := "ListSpeakerModel", name := "act", desc := "(IIIZ)V" } : Jvm.MethodName)) ∈ mj_WS := mj_mem 1281 (by decide +kernel) rfl
theorem mw_1283 : (Jvm.Cond.methodLink "ListSpeakerModel" (262 : Nat) ({ cls := "ListSpeakerModel", name := "evaluate", desc := "(IZ)V" } : Jvm.MethodName)) ∈ mj_WS := mj_mem 1283 (by decide +kernel) rfl
theorem mw_1285 : (Jvm.Cond.instanceMethod ({ cls := "ListSpeakerModel", name := "evaluate", desc := "(IZ)V" } : Jvm.MethodName)) ∈ mj_WS := mj_mem 1285 (by decide +kernel) rfl
theorem mw_1287 : (Jvm.Cond.methodLink "ListSpeakerModel" (273 : Nat) ({ cls := "ListSpeakerModel", name := "push", desc := "(I)V" } : Jvm.MethodName)) ∈ mj_WS := mj_mem 1287 (by decide +kernel) rfl
theorem mw_1289 : (Jvm.Cond.instanceMethod ({ cls := "ListSpeakerModel", name := "push", desc := "(I)V" } : Jvm.MethodName)) ∈ mj_WS := mj_mem 1289 (by decide +kernel) rfl
theorem mw_1291 : (Jvm.Cond.methodLink "ListSpeakerModel" (276 : Nat) ({ cls := "ListSpeakerModel", name := "connect", desc := "(IIZ)V" } : Jvm.MethodName)) ∈ mj_WS := mj_mem 1291 (by decide +kernel) rfl
theorem mw_1293 : (Jvm.Cond.instanceMethod ({ cls := "ListSpeakerModel", name := "connect", desc := "(IIZ)V" } : Jvm.MethodName)) ∈ mj_WS := mj_mem 1293 (by decide +kernel) rfl
theorem mw_1295 : (Jvm.Cond.methodLink "ListSpeakerModel" (259 : Nat) ({ cls := "ListSpeakerModel", name := "pop", desc := "()I" } : Jvm.MethodName)) ∈ mj_WS := mj_mem 1295 (by decide +kernel) rfl
theorem mw_1297 : (Jvm.Cond.instanceMethod ({ cls := "ListSpeakerModel", name := "pop", desc := "()I" } : Jvm.MethodName)) ∈ mj_WS := mj_mem 1297 (by decide +kernel) rfl
theorem mw_1299 : (Jvm.Cond.methodLink "ListSpeakerModel" (266 : Nat) ({ cls := "ListSpeakerModel", name := "enterLet", desc := "(IIZ)V" } : Jvm.MethodName)) ∈ mj_WS := mj_mem 1299 (by decide +kernel) rfl
theorem mw_1301 : (Jvm.Cond.instanceMethod ({ cls := "ListSpeakerModel", name := "enterLet", desc := "(IIZ)V" } : Jvm.MethodName)) ∈ mj_WS := mj_mem 1301 (by decide +kernel) rfl
theorem mw_1303 : (Jvm.Cond.methodLink "ListSpeakerModel" (270 : Nat) ({ cls := "ListSpeakerModel", name := "leave", desc := "(II)V" } : Jvm.MethodName)) ∈ mj_WS := mj_mem 1303 (by decide +kernel) rfl
theorem mw_1305 : (Jvm.Cond.instanceMethod ({ cls := "ListSpeakerModel", name := "leave", desc := "(II)V" } : Jvm.MethodName)) ∈ mj_WS := mj_mem 1305 (by decide +kernel) rfl
theorem mw_1307 : (Jvm.Cond.methodLink "ListSpeakerModel" (279 : Nat) ({ cls := "ListSpeakerModel", name := "pair", desc := "()V" } : Jvm.MethodName)) ∈ mj_WS := mj_mem 1307 (by decide +kernel) rfl
theorem mw_1309 : (Jvm.Cond.instanceMethod ({ cls := "ListSpeakerModel", name := "pair", desc := "()V" } : Jvm.MethodName)) ∈ mj_WS := mj_mem 1309 (by decide +kernel) rfl
theorem mw_1311 : (Jvm.Cond.methodLink "ListSpeakerModel" (297 : Nat) ({ cls := "ListSpeakerModel", name := "collect", desc := "()V" } : Jvm.MethodName)) ∈ mj_WS := mj_mem 1311 (by decide +kernel) rfl
theorem mw_1313 : (Jvm.Cond.instanceMethod ({ cls := "ListSpeakerModel", name := "collect", desc := "()V" } : Jvm.MethodName)) ∈ mj_WS := mj_mem 1313 (by decide +kernel) rfl
theorem mw_1315 : (Jvm.Cond.methodLink "ListSpeakerModel" (304 : Nat) ({ cls := "ListSpeakerModel", name := "reach", desc := "(II)I" } : Jvm.MethodName)) ∈ mj_WS := mj_mem 1315 (by decide +kernel) rfl
theorem mw_1317 : (Jvm.Cond.instanceMethod ({ cls := "ListSpeakerModel", name := "reach", desc := "(II)I" } : Jvm.MethodName)) ∈ mj_WS := mj_mem 1317 (by decide +kernel) rfl
theorem mw_1319 : (Jvm.Cond.constant "ListSpeakerModel" (300 : Nat) (536871312 : Int32)) ∈ mj_WS := mj_mem 1319 (by decide +kernel) rfl
theorem mw_1320 : (Jvm.Cond.methodLink "ListSpeakerModel" (282 : Nat) ({ cls := "ListSpeakerModel", name := "apply", desc := "(I)V" } : Jvm.MethodName)) ∈ mj_WS := mj_mem 1320 (by decide +kernel) rfl
theorem mw_1322 : (Jvm.Cond.instanceMethod ({ cls := "ListSpeakerModel", name := "apply", desc := "(I)V" } : Jvm.MethodName)) ∈ mj_WS := mj_mem 1322 (by decide +kernel) rfl
theorem mw_1324 : (Jvm.Cond.methodLink "ListSpeakerModel" (308 : Nat) ({ cls := "ListSpeakerModel", name := "truth", desc := "(Z)I" } : Jvm.MethodName)) ∈ mj_WS := mj_mem 1324 (by decide +kernel) rfl
theorem mw_1325 : (Jvm.Cond.static ({ cls := "ListSpeakerModel", name := "truth", desc := "(Z)I" } : Jvm.MethodName)) ∈ mj_WS := mj_mem 1325 (by decide +kernel) rfl
theorem mw_1327 : (Jvm.Cond.constant "ListSpeakerModel" (307 : Nat) (268435455 : Int32)) ∈ mj_WS := mj_mem 1327 (by decide +kernel) rfl
theorem mw_1328 : (Jvm.Cond.methodLink "ListSpeakerModel" (312 : Nat) ({ cls := "ListSpeakerModel", name := "whole", desc := "(I)I" } : Jvm.MethodName)) ∈ mj_WS := mj_mem 1328 (by decide +kernel) rfl
theorem mw_1329 : (Jvm.Cond.static ({ cls := "ListSpeakerModel", name := "whole", desc := "(I)I" } : Jvm.MethodName)) ∈ mj_WS := mj_mem 1329 (by decide +kernel) rfl
theorem mw_1331 : (Jvm.Cond.methodLink "ListSpeakerModel" (285 : Nat) ({ cls := "ListSpeakerModel", name := "call", desc := "(IIZ)V" } : Jvm.MethodName)) ∈ mj_WS := mj_mem 1331 (by decide +kernel) rfl
theorem mw_1333 : (Jvm.Cond.instanceMethod ({ cls := "ListSpeakerModel", name := "call", desc := "(IIZ)V" } : Jvm.MethodName)) ∈ mj_WS := mj_mem 1333 (by decide +kernel) rfl
theorem mw_1335 : (Jvm.Cond.methodLink "ListSpeakerModel" (288 : Nat) ({ cls := "ListSpeakerModel", name := "comeBack", desc := "()V" } : Jvm.MethodName)) ∈ mj_WS := mj_mem 1335 (by decide +kernel) rfl
theorem mw_1337 : (Jvm.Cond.instanceMethod ({ cls := "ListSpeakerModel", name := "comeBack", desc := "()V" } : Jvm.MethodName)) ∈ mj_WS := mj_mem 1337 (by decide +kernel) rfl
theorem mw_1339 : (Jvm.Cond.methodLink "ListSpeakerModel" (345 : Nat) ({ cls := "ListSpeakerModel", name := "printDatum", desc := "(I)V" } : Jvm.MethodName)) ∈ mj_WS := mj_mem 1339 (by decide +kernel) rfl
theorem mw_1341 : (Jvm.Cond.instanceMethod ({ cls := "ListSpeakerModel", name := "printDatum", desc := "(I)V" } : Jvm.MethodName)) ∈ mj_WS := mj_mem 1341 (by decide +kernel) rfl
theorem mw_1343 : (Jvm.Cond.methodLink "ListSpeakerModel" (318 : Nat) ({ cls := "ListSpeakerModel", name := "print", desc := "(I)V" } : Jvm.MethodName)) ∈ mj_WS := mj_mem 1343 (by decide +kernel) rfl
theorem mw_1345 : (Jvm.Cond.instanceMethod ({ cls := "ListSpeakerModel", name := "print", desc := "(I)V" } : Jvm.MethodName)) ∈ mj_WS := mj_mem 1345 (by decide +kernel) rfl
theorem mw_1347 : (Jvm.Cond.methodLink "ListSpeakerModel" (324 : Nat) ({ cls := "ListSpeakerModel", name := "nested", desc := "(II)I" } : Jvm.MethodName)) ∈ mj_WS := mj_mem 1347 (by decide +kernel) rfl
theorem mw_1349 : (Jvm.Cond.instanceMethod ({ cls := "ListSpeakerModel", name := "nested", desc := "(II)I" } : Jvm.MethodName)) ∈ mj_WS := mj_mem 1349 (by decide +kernel) rfl
theorem mw_1351 : (Jvm.Cond.methodLink "ListSpeakerModel" (327 : Nat) ({ cls := "ListSpeakerModel", name := "printAtom", desc := "(I)V" } : Jvm.MethodName)) ∈ mj_WS := mj_mem 1351 (by decide +kernel) rfl
theorem mw_1353 : (Jvm.Cond.instanceMethod ({ cls := "ListSpeakerModel", name := "printAtom", desc := "(I)V" } : Jvm.MethodName)) ∈ mj_WS := mj_mem 1353 (by decide +kernel) rfl
theorem mw_1355 : (Jvm.Cond.methodLink "ListSpeakerModel" (321 : Nat) ({ cls := "ListSpeakerModel", name := "printNumber", desc := "(I)V" } : Jvm.MethodName)) ∈ mj_WS := mj_mem 1355 (by decide +kernel) rfl
theorem mw_1357 : (Jvm.Cond.instanceMethod ({ cls := "ListSpeakerModel", name := "printNumber", desc := "(I)V" } : Jvm.MethodName)) ∈ mj_WS := mj_mem 1357 (by decide +kernel) rfl
theorem mjsel_0 : Jvm.Cond.selects "ListSpeaker$Symbols" ({ cls := "ListSpeaker$Symbols", name := "isNamed", desc := "(I[CII)Z" } : Jvm.MethodName) ({ cls := "ListSpeaker$Symbols", name := "isNamed", desc := "(I[CII)Z" } : Jvm.MethodName) ∈ mj_WS := mj_memS 0 (by decide +kernel) rfl
theorem mjsel_1 : Jvm.Cond.selects "ListSpeaker$Symbols" ({ cls := "ListSpeaker$Symbols", name := "add", desc := "([CII)I" } : Jvm.MethodName) ({ cls := "ListSpeaker$Symbols", name := "add", desc := "([CII)I" } : Jvm.MethodName) ∈ mj_WS := mj_memS 1 (by decide +kernel) rfl
theorem mjsel_3 : Jvm.Cond.selects "ListSpeaker" ({ cls := "ListSpeaker", name := "carryOutForms", desc := "()I" } : Jvm.MethodName) ({ cls := "ListSpeaker", name := "carryOutForms", desc := "()I" } : Jvm.MethodName) ∈ mj_WS := mj_memS 3 (by decide +kernel) rfl
theorem mjsel_4 : Jvm.Cond.selects "ListSpeaker$Reader" ({ cls := "ListSpeaker$Reader", name := "skipBlanks", desc := "()V" } : Jvm.MethodName) ({ cls := "ListSpeaker$Reader", name := "skipBlanks", desc := "()V" } : Jvm.MethodName) ∈ mj_WS := mj_memS 4 (by decide +kernel) rfl
theorem mjsel_5 : Jvm.Cond.selects "ListSpeaker$Reader" ({ cls := "ListSpeaker$Reader", name := "datum", desc := "(I)I" } : Jvm.MethodName) ({ cls := "ListSpeaker$Reader", name := "datum", desc := "(I)I" } : Jvm.MethodName) ∈ mj_WS := mj_memS 5 (by decide +kernel) rfl
theorem mjsel_6 : Jvm.Cond.selects "ListSpeaker$Reader" ({ cls := "ListSpeaker$Reader", name := "isAt", desc := "(C)Z" } : Jvm.MethodName) ({ cls := "ListSpeaker$Reader", name := "isAt", desc := "(C)Z" } : Jvm.MethodName) ∈ mj_WS := mj_memS 6 (by decide +kernel) rfl
theorem mjsel_7 : Jvm.Cond.selects "ListSpeaker$Reader" ({ cls := "ListSpeaker$Reader", name := "list", desc := "(I)I" } : Jvm.MethodName) ({ cls := "ListSpeaker$Reader", name := "list", desc := "(I)I" } : Jvm.MethodName) ∈ mj_WS := mj_memS 7 (by decide +kernel) rfl
theorem mjsel_8 : Jvm.Cond.selects "ListSpeaker$Reader" ({ cls := "ListSpeaker$Reader", name := "isAtDot", desc := "()Z" } : Jvm.MethodName) ({ cls := "ListSpeaker$Reader", name := "isAtDot", desc := "()Z" } : Jvm.MethodName) ∈ mj_WS := mj_memS 8 (by decide +kernel) rfl
theorem mjsel_9 : Jvm.Cond.selects "ListSpeaker$Reader" ({ cls := "ListSpeaker$Reader", name := "rowEnd", desc := "()I" } : Jvm.MethodName) ({ cls := "ListSpeaker$Reader", name := "rowEnd", desc := "()I" } : Jvm.MethodName) ∈ mj_WS := mj_memS 9 (by decide +kernel) rfl
theorem mjsel_10 : Jvm.Cond.selects "ListSpeaker$Reader" ({ cls := "ListSpeaker$Reader", name := "dotted", desc := "(III)I" } : Jvm.MethodName) ({ cls := "ListSpeaker$Reader", name := "dotted", desc := "(III)I" } : Jvm.MethodName) ∈ mj_WS := mj_memS 10 (by decide +kernel) rfl
theorem mjsel_11 : Jvm.Cond.selects "ListSpeaker$Reader" ({ cls := "ListSpeaker$Reader", name := "member", desc := "(I)I" } : Jvm.MethodName) ({ cls := "ListSpeaker$Reader", name := "member", desc := "(I)I" } : Jvm.MethodName) ∈ mj_WS := mj_memS 11 (by decide +kernel) rfl
theorem mjsel_12 : Jvm.Cond.selects "ListSpeaker$Reader" ({ cls := "ListSpeaker$Reader", name := "quoted", desc := "(I)I" } : Jvm.MethodName) ({ cls := "ListSpeaker$Reader", name := "quoted", desc := "(I)I" } : Jvm.MethodName) ∈ mj_WS := mj_memS 12 (by decide +kernel) rfl
theorem mjsel_13 : Jvm.Cond.selects "ListSpeaker$Reader" ({ cls := "ListSpeaker$Reader", name := "row", desc := "()I" } : Jvm.MethodName) ({ cls := "ListSpeaker$Reader", name := "row", desc := "()I" } : Jvm.MethodName) ∈ mj_WS := mj_memS 13 (by decide +kernel) rfl
theorem mjsel_14 : Jvm.Cond.selects "ListSpeaker$Reader" ({ cls := "ListSpeaker$Reader", name := "number", desc := "(II)I" } : Jvm.MethodName) ({ cls := "ListSpeaker$Reader", name := "number", desc := "(II)I" } : Jvm.MethodName) ∈ mj_WS := mj_memS 14 (by decide +kernel) rfl
theorem mjsel_15 : Jvm.Cond.selects "ListSpeaker$Reader" ({ cls := "ListSpeaker$Reader", name := "symbol", desc := "(II)I" } : Jvm.MethodName) ({ cls := "ListSpeaker$Reader", name := "symbol", desc := "(II)I" } : Jvm.MethodName) ∈ mj_WS := mj_memS 15 (by decide +kernel) rfl
theorem mjsel_16 : Jvm.Cond.selects "ListSpeaker" ({ cls := "ListSpeaker", name := "carryOut", desc := "(I)I" } : Jvm.MethodName) ({ cls := "ListSpeaker", name := "carryOut", desc := "(I)I" } : Jvm.MethodName) ∈ mj_WS := mj_memS 16 (by decide +kernel) rfl
theorem mjsel_17 : Jvm.Cond.selects "ListSpeaker$Maker" ({ cls := "ListSpeaker$Maker", name := "areVariables", desc := "(IIZ)Z" } : Jvm.MethodName) ({ cls := "ListSpeaker$Maker", name := "areVariables", desc := "(IIZ)Z" } : Jvm.MethodName) ∈ mj_WS := mj_memS 17 (by decide +kernel) rfl
theorem mjsel_18 : Jvm.Cond.selects "ListSpeaker$Maker" ({ cls := "ListSpeaker$Maker", name := "nameIn", desc := "(IZ)I" } : Jvm.MethodName) ({ cls := "ListSpeaker$Maker", name := "nameIn", desc := "(IZ)I" } : Jvm.MethodName) ∈ mj_WS := mj_memS 18 (by decide +kernel) rfl
theorem mjsel_19 : Jvm.Cond.selects "ListSpeaker$Maker" ({ cls := "ListSpeaker$Maker", name := "know", desc := "(II)V" } : Jvm.MethodName) ({ cls := "ListSpeaker$Maker", name := "know", desc := "(II)V" } : Jvm.MethodName) ∈ mj_WS := mj_memS 19 (by decide +kernel) rfl
theorem mjsel_20 : Jvm.Cond.selects "ListSpeaker$Maker" ({ cls := "ListSpeaker$Maker", name := "form", desc := "(IIZI)I" } : Jvm.MethodName) ({ cls := "ListSpeaker$Maker", name := "form", desc := "(IIZI)I" } : Jvm.MethodName) ∈ mj_WS := mj_memS 20 (by decide +kernel) rfl
theorem mjsel_21 : Jvm.Cond.selects "ListSpeaker$Maker" ({ cls := "ListSpeaker$Maker", name := "variable", desc := "(I)I" } : Jvm.MethodName) ({ cls := "ListSpeaker$Maker", name := "variable", desc := "(I)I" } : Jvm.MethodName) ∈ mj_WS := mj_memS 21 (by decide +kernel) rfl
theorem mjsel_22 : Jvm.Cond.selects "ListSpeaker$Maker" ({ cls := "ListSpeaker$Maker", name := "list", desc := "(IIIZI)I" } : Jvm.MethodName) ({ cls := "ListSpeaker$Maker", name := "list", desc := "(IIIZI)I" } : Jvm.MethodName) ∈ mj_WS := mj_memS 22 (by decide +kernel) rfl
theorem mjsel_23 : Jvm.Cond.selects "ListSpeaker$Maker" ({ cls := "ListSpeaker$Maker", name := "quote", desc := "(II)I" } : Jvm.MethodName) ({ cls := "ListSpeaker$Maker", name := "quote", desc := "(II)I" } : Jvm.MethodName) ∈ mj_WS := mj_memS 23 (by decide +kernel) rfl
theorem mjsel_24 : Jvm.Cond.selects "ListSpeaker$Maker" ({ cls := "ListSpeaker$Maker", name := "choice", desc := "(IIZI)I" } : Jvm.MethodName) ({ cls := "ListSpeaker$Maker", name := "choice", desc := "(IIZI)I" } : Jvm.MethodName) ∈ mj_WS := mj_memS 24 (by decide +kernel) rfl
theorem mjsel_25 : Jvm.Cond.selects "ListSpeaker$Maker" ({ cls := "ListSpeaker$Maker", name := "let", desc := "(IIZI)I" } : Jvm.MethodName) ({ cls := "ListSpeaker$Maker", name := "let", desc := "(IIZI)I" } : Jvm.MethodName) ∈ mj_WS := mj_memS 25 (by decide +kernel) rfl
theorem mjsel_26 : Jvm.Cond.selects "ListSpeaker$Maker" ({ cls := "ListSpeaker$Maker", name := "areCouples", desc := "(II)Z" } : Jvm.MethodName) ({ cls := "ListSpeaker$Maker", name := "areCouples", desc := "(II)Z" } : Jvm.MethodName) ∈ mj_WS := mj_memS 26 (by decide +kernel) rfl
theorem mjsel_27 : Jvm.Cond.selects "ListSpeaker$Maker" ({ cls := "ListSpeaker$Maker", name := "clauses", desc := "(IIIZI)I" } : Jvm.MethodName) ({ cls := "ListSpeaker$Maker", name := "clauses", desc := "(IIIZI)I" } : Jvm.MethodName) ∈ mj_WS := mj_memS 27 (by decide +kernel) rfl
theorem mjsel_28 : Jvm.Cond.selects "ListSpeaker$Maker" ({ cls := "ListSpeaker$Maker", name := "inTurn", desc := "(IIIIZI)I" } : Jvm.MethodName) ({ cls := "ListSpeaker$Maker", name := "inTurn", desc := "(IIIIZI)I" } : Jvm.MethodName) ∈ mj_WS := mj_memS 28 (by decide +kernel) rfl
theorem mjsel_29 : Jvm.Cond.selects "ListSpeaker$Maker" ({ cls := "ListSpeaker$Maker", name := "forms", desc := "(IIII)I" } : Jvm.MethodName) ({ cls := "ListSpeaker$Maker", name := "forms", desc := "(IIII)I" } : Jvm.MethodName) ∈ mj_WS := mj_memS 29 (by decide +kernel) rfl
theorem mjsel_30 : Jvm.Cond.selects "ListSpeaker$Maker" ({ cls := "ListSpeaker$Maker", name := "putUse", desc := "(IIZ)V" } : Jvm.MethodName) ({ cls := "ListSpeaker$Maker", name := "putUse", desc := "(IIZ)V" } : Jvm.MethodName) ∈ mj_WS := mj_memS 30 (by decide +kernel) rfl
theorem mjsel_31 : Jvm.Cond.selects "ListSpeaker$Functions" ({ cls := "ListSpeaker$Functions", name := "areSame", desc := "(II)Z" } : Jvm.MethodName) ({ cls := "ListSpeaker$Functions", name := "areSame", desc := "(II)Z" } : Jvm.MethodName) ∈ mj_WS := mj_memS 31 (by decide +kernel) rfl
theorem mjsel_32 : Jvm.Cond.selects "ListSpeaker$Pairs" ({ cls := "ListSpeaker$Pairs", name := "await", desc := "(III)V" } : Jvm.MethodName) ({ cls := "ListSpeaker$Pairs", name := "await", desc := "(III)V" } : Jvm.MethodName) ∈ mj_WS := mj_memS 32 (by decide +kernel) rfl
theorem mjsel_33 : Jvm.Cond.selects "ListSpeaker$Machine" ({ cls := "ListSpeaker$Machine", name := "perform", desc := "(III)I" } : Jvm.MethodName) ({ cls := "ListSpeaker$Machine", name := "perform", desc := "(III)I" } : Jvm.MethodName) ∈ mj_WS := mj_memS 33 (by decide +kernel) rfl
theorem mjsel_34 : Jvm.Cond.selects "ListSpeaker$Machine" ({ cls := "ListSpeaker$Machine", name := "takeStep", desc := "()I" } : Jvm.MethodName) ({ cls := "ListSpeaker$Machine", name := "takeStep", desc := "()I" } : Jvm.MethodName) ∈ mj_WS := mj_memS 34 (by decide +kernel) rfl
theorem mjsel_35 : Jvm.Cond.selects "ListSpeaker$Machine" ({ cls := "ListSpeaker$Machine", name := "push", desc := "(I)I" } : Jvm.MethodName) ({ cls := "ListSpeaker$Machine", name := "push", desc := "(I)I" } : Jvm.MethodName) ∈ mj_WS := mj_memS 35 (by decide +kernel) rfl
theorem mjsel_36 : Jvm.Cond.selects "ListSpeaker$Machine" ({ cls := "ListSpeaker$Machine", name := "variable", desc := "(I)I" } : Jvm.MethodName) ({ cls := "ListSpeaker$Machine", name := "variable", desc := "(I)I" } : Jvm.MethodName) ∈ mj_WS := mj_memS 36 (by decide +kernel) rfl
theorem mjsel_37 : Jvm.Cond.selects "ListSpeaker$Machine" ({ cls := "ListSpeaker$Machine", name := "jump", desc := "(I)I" } : Jvm.MethodName) ({ cls := "ListSpeaker$Machine", name := "jump", desc := "(I)I" } : Jvm.MethodName) ∈ mj_WS := mj_memS 37 (by decide +kernel) rfl
theorem mjsel_38 : Jvm.Cond.selects "ListSpeaker$Machine" ({ cls := "ListSpeaker$Machine", name := "jumpIfNil", desc := "(I)I" } : Jvm.MethodName) ({ cls := "ListSpeaker$Machine", name := "jumpIfNil", desc := "(I)I" } : Jvm.MethodName) ∈ mj_WS := mj_memS 38 (by decide +kernel) rfl
theorem mjsel_39 : Jvm.Cond.selects "ListSpeaker$Machine" ({ cls := "ListSpeaker$Machine", name := "below", desc := "(I)I" } : Jvm.MethodName) ({ cls := "ListSpeaker$Machine", name := "below", desc := "(I)I" } : Jvm.MethodName) ∈ mj_WS := mj_memS 39 (by decide +kernel) rfl
theorem mjsel_40 : Jvm.Cond.selects "ListSpeaker$Machine" ({ cls := "ListSpeaker$Machine", name := "drop", desc := "()V" } : Jvm.MethodName) ({ cls := "ListSpeaker$Machine", name := "drop", desc := "()V" } : Jvm.MethodName) ∈ mj_WS := mj_memS 40 (by decide +kernel) rfl
theorem mjsel_41 : Jvm.Cond.selects "ListSpeaker$Machine" ({ cls := "ListSpeaker$Machine", name := "keepOrDrop", desc := "(ZI)I" } : Jvm.MethodName) ({ cls := "ListSpeaker$Machine", name := "keepOrDrop", desc := "(ZI)I" } : Jvm.MethodName) ∈ mj_WS := mj_memS 41 (by decide +kernel) rfl
theorem mjsel_42 : Jvm.Cond.selects "ListSpeaker$Machine" ({ cls := "ListSpeaker$Machine", name := "replace", desc := "(II)I" } : Jvm.MethodName) ({ cls := "ListSpeaker$Machine", name := "replace", desc := "(II)I" } : Jvm.MethodName) ∈ mj_WS := mj_memS 42 (by decide +kernel) rfl
theorem mjsel_43 : Jvm.Cond.selects "ListSpeaker$Machine" ({ cls := "ListSpeaker$Machine", name := "enter", desc := "(II)I" } : Jvm.MethodName) ({ cls := "ListSpeaker$Machine", name := "enter", desc := "(II)I" } : Jvm.MethodName) ∈ mj_WS := mj_memS 43 (by decide +kernel) rfl
theorem mjsel_44 : Jvm.Cond.selects "ListSpeaker$Machine" ({ cls := "ListSpeaker$Machine", name := "remember", desc := "(IIII)V" } : Jvm.MethodName) ({ cls := "ListSpeaker$Machine", name := "remember", desc := "(IIII)V" } : Jvm.MethodName) ∈ mj_WS := mj_memS 44 (by decide +kernel) rfl
theorem mjsel_45 : Jvm.Cond.selects "ListSpeaker$Machine" ({ cls := "ListSpeaker$Machine", name := "enterInstead", desc := "(II)I" } : Jvm.MethodName) ({ cls := "ListSpeaker$Machine", name := "enterInstead", desc := "(II)I" } : Jvm.MethodName) ∈ mj_WS := mj_memS 45 (by decide +kernel) rfl
theorem mjsel_46 : Jvm.Cond.selects "ListSpeaker$Machine" ({ cls := "ListSpeaker$Machine", name := "leave", desc := "()I" } : Jvm.MethodName) ({ cls := "ListSpeaker$Machine", name := "leave", desc := "()I" } : Jvm.MethodName) ∈ mj_WS := mj_memS 46 (by decide +kernel) rfl
theorem mjsel_47 : Jvm.Cond.selects "ListSpeaker$Machine" ({ cls := "ListSpeaker$Machine", name := "makePair", desc := "()I" } : Jvm.MethodName) ({ cls := "ListSpeaker$Machine", name := "makePair", desc := "()I" } : Jvm.MethodName) ∈ mj_WS := mj_memS 47 (by decide +kernel) rfl
theorem mjsel_48 : Jvm.Cond.selects "ListSpeaker$Pairs" ({ cls := "ListSpeaker$Pairs", name := "reach", desc := "(II)I" } : Jvm.MethodName) ({ cls := "ListSpeaker$Pairs", name := "reach", desc := "(II)I" } : Jvm.MethodName) ∈ mj_WS := mj_memS 48 (by decide +kernel) rfl
theorem mjsel_49 : Jvm.Cond.selects "ListSpeaker$Pairs" ({ cls := "ListSpeaker$Pairs", name := "gatherFree", desc := "()V" } : Jvm.MethodName) ({ cls := "ListSpeaker$Pairs", name := "gatherFree", desc := "()V" } : Jvm.MethodName) ∈ mj_WS := mj_memS 49 (by decide +kernel) rfl
theorem mjsel_50 : Jvm.Cond.selects "ListSpeaker$Machine" ({ cls := "ListSpeaker$Machine", name := "compare", desc := "()I" } : Jvm.MethodName) ({ cls := "ListSpeaker$Machine", name := "compare", desc := "()I" } : Jvm.MethodName) ∈ mj_WS := mj_memS 50 (by decide +kernel) rfl
theorem mjsel_51 : Jvm.Cond.selects "ListSpeaker$Machine" ({ cls := "ListSpeaker$Machine", name := "add", desc := "()I" } : Jvm.MethodName) ({ cls := "ListSpeaker$Machine", name := "add", desc := "()I" } : Jvm.MethodName) ∈ mj_WS := mj_memS 51 (by decide +kernel) rfl
theorem mjsel_52 : Jvm.Cond.selects "ListSpeaker$Machine" ({ cls := "ListSpeaker$Machine", name := "primitive", desc := "(I)I" } : Jvm.MethodName) ({ cls := "ListSpeaker$Machine", name := "primitive", desc := "(I)I" } : Jvm.MethodName) ∈ mj_WS := mj_memS 52 (by decide +kernel) rfl
theorem mjsel_53 : Jvm.Cond.selects "ListSpeaker$Paper" ({ cls := "ListSpeaker$Paper", name := "await", desc := "(I)V" } : Jvm.MethodName) ({ cls := "ListSpeaker$Paper", name := "await", desc := "(I)V" } : Jvm.MethodName) ∈ mj_WS := mj_memS 53 (by decide +kernel) rfl
theorem mjsel_54 : Jvm.Cond.selects "ListSpeaker$Paper" ({ cls := "ListSpeaker$Paper", name := "printDatum", desc := "(I)V" } : Jvm.MethodName) ({ cls := "ListSpeaker$Paper", name := "printDatum", desc := "(I)V" } : Jvm.MethodName) ∈ mj_WS := mj_memS 54 (by decide +kernel) rfl
theorem mjsel_55 : Jvm.Cond.selects "ListSpeaker$Paper" ({ cls := "ListSpeaker$Paper", name := "put", desc := "(C)V" } : Jvm.MethodName) ({ cls := "ListSpeaker$Paper", name := "put", desc := "(C)V" } : Jvm.MethodName) ∈ mj_WS := mj_memS 55 (by decide +kernel) rfl
theorem mjsel_56 : Jvm.Cond.selects "ListSpeaker$Paper" ({ cls := "ListSpeaker$Paper", name := "awaitPartsOf", desc := "(I)V" } : Jvm.MethodName) ({ cls := "ListSpeaker$Paper", name := "awaitPartsOf", desc := "(I)V" } : Jvm.MethodName) ∈ mj_WS := mj_memS 56 (by decide +kernel) rfl
theorem mjsel_57 : Jvm.Cond.selects "ListSpeaker$Paper" ({ cls := "ListSpeaker$Paper", name := "printAtom", desc := "(I)V" } : Jvm.MethodName) ({ cls := "ListSpeaker$Paper", name := "printAtom", desc := "(I)V" } : Jvm.MethodName) ∈ mj_WS := mj_memS 57 (by decide +kernel) rfl
theorem mjsel_58 : Jvm.Cond.selects "ListSpeaker$Paper" ({ cls := "ListSpeaker$Paper", name := "printNumber", desc := "(I)V" } : Jvm.MethodName) ({ cls := "ListSpeaker$Paper", name := "printNumber", desc := "(I)V" } : Jvm.MethodName) ∈ mj_WS := mj_memS 58 (by decide +kernel) rfl
theorem mjsel_59 : Jvm.Cond.selects "ListSpeaker$Paper" ({ cls := "ListSpeaker$Paper", name := "printRest", desc := "(I)V" } : Jvm.MethodName) ({ cls := "ListSpeaker$Paper", name := "printRest", desc := "(I)V" } : Jvm.MethodName) ∈ mj_WS := mj_memS 59 (by decide +kernel) rfl
theorem mjsel_60 : Jvm.Cond.selects "ListSpeakerModel" ({ cls := "ListSpeakerModel", name := "keep", desc := "(IIIIIII)V" } : Jvm.MethodName) ({ cls := "ListSpeakerModel", name := "keep", desc := "(IIIIIII)V" } : Jvm.MethodName) ∈ mj_WS := mj_memS 60 (by decide +kernel) rfl
theorem mjsel_61 : Jvm.Cond.selects "ListSpeakerModel" ({ cls := "ListSpeakerModel", name := "skip", desc := "()V" } : Jvm.MethodName) ({ cls := "ListSpeakerModel", name := "skip", desc := "()V" } : Jvm.MethodName) ∈ mj_WS := mj_memS 61 (by decide +kernel) rfl
theorem mjsel_62 : Jvm.Cond.selects "ListSpeakerModel" ({ cls := "ListSpeakerModel", name := "look", desc := "()I" } : Jvm.MethodName) ({ cls := "ListSpeakerModel", name := "look", desc := "()I" } : Jvm.MethodName) ∈ mj_WS := mj_memS 62 (by decide +kernel) rfl
theorem mjsel_63 : Jvm.Cond.selects "ListSpeakerModel" ({ cls := "ListSpeakerModel", name := "form", desc := "()V" } : Jvm.MethodName) ({ cls := "ListSpeakerModel", name := "form", desc := "()V" } : Jvm.MethodName) ∈ mj_WS := mj_memS 63 (by decide +kernel) rfl
theorem mjsel_64 : Jvm.Cond.selects "ListSpeakerModel" ({ cls := "ListSpeakerModel", name := "read", desc := "()I" } : Jvm.MethodName) ({ cls := "ListSpeakerModel", name := "read", desc := "()I" } : Jvm.MethodName) ∈ mj_WS := mj_memS 64 (by decide +kernel) rfl
theorem mjsel_65 : Jvm.Cond.selects "ListSpeakerModel" ({ cls := "ListSpeakerModel", name := "stop", desc := "(I)I" } : Jvm.MethodName) ({ cls := "ListSpeakerModel", name := "stop", desc := "(I)I" } : Jvm.MethodName) ∈ mj_WS := mj_memS 65 (by decide +kernel) rfl
theorem mjsel_66 : Jvm.Cond.selects "ListSpeakerModel" ({ cls := "ListSpeakerModel", name := "close", desc := "()I" } : Jvm.MethodName) ({ cls := "ListSpeakerModel", name := "close", desc := "()I" } : Jvm.MethodName) ∈ mj_WS := mj_memS 66 (by decide +kernel) rfl
theorem mjsel_67 : Jvm.Cond.selects "ListSpeakerModel" ({ cls := "ListSpeakerModel", name := "dot", desc := "()I" } : Jvm.MethodName) ({ cls := "ListSpeakerModel", name := "dot", desc := "()I" } : Jvm.MethodName) ∈ mj_WS := mj_memS 67 (by decide +kernel) rfl
theorem mjsel_68 : Jvm.Cond.selects "ListSpeakerModel" ({ cls := "ListSpeakerModel", name := "token", desc := "()I" } : Jvm.MethodName) ({ cls := "ListSpeakerModel", name := "token", desc := "()I" } : Jvm.MethodName) ∈ mj_WS := mj_memS 68 (by decide +kernel) rfl
theorem mjsel_69 : Jvm.Cond.selects "ListSpeakerModel" ({ cls := "ListSpeakerModel", name := "isRow", desc := "(I)Z" } : Jvm.MethodName) ({ cls := "ListSpeakerModel", name := "isRow", desc := "(I)Z" } : Jvm.MethodName) ∈ mj_WS := mj_memS 69 (by decide +kernel) rfl
theorem mjsel_70 : Jvm.Cond.selects "ListSpeakerModel" ({ cls := "ListSpeakerModel", name := "symbol", desc := "(II)I" } : Jvm.MethodName) ({ cls := "ListSpeakerModel", name := "symbol", desc := "(II)I" } : Jvm.MethodName) ∈ mj_WS := mj_memS 70 (by decide +kernel) rfl
theorem mjsel_71 : Jvm.Cond.selects "ListSpeakerModel" ({ cls := "ListSpeakerModel", name := "open", desc := "(I)V" } : Jvm.MethodName) ({ cls := "ListSpeakerModel", name := "open", desc := "(I)V" } : Jvm.MethodName) ∈ mj_WS := mj_memS 71 (by decide +kernel) rfl
theorem mjsel_72 : Jvm.Cond.selects "ListSpeakerModel" ({ cls := "ListSpeakerModel", name := "take", desc := "(I)I" } : Jvm.MethodName) ({ cls := "ListSpeakerModel", name := "take", desc := "(I)I" } : Jvm.MethodName) ∈ mj_WS := mj_memS 72 (by decide +kernel) rfl
theorem mjsel_73 : Jvm.Cond.selects "ListSpeakerModel" ({ cls := "ListSpeakerModel", name := "store", desc := "(II)I" } : Jvm.MethodName) ({ cls := "ListSpeakerModel", name := "store", desc := "(II)I" } : Jvm.MethodName) ∈ mj_WS := mj_memS 73 (by decide +kernel) rfl
theorem mjsel_74 : Jvm.Cond.selects "ListSpeakerModel" ({ cls := "ListSpeakerModel", name := "first", desc := "(I)I" } : Jvm.MethodName) ({ cls := "ListSpeakerModel", name := "first", desc := "(I)I" } : Jvm.MethodName) ∈ mj_WS := mj_memS 74 (by decide +kernel) rfl
theorem mjsel_75 : Jvm.Cond.selects "ListSpeakerModel" ({ cls := "ListSpeakerModel", name := "define", desc := "(I)Z" } : Jvm.MethodName) ({ cls := "ListSpeakerModel", name := "define", desc := "(I)Z" } : Jvm.MethodName) ∈ mj_WS := mj_memS 75 (by decide +kernel) rfl
theorem mjsel_76 : Jvm.Cond.selects "ListSpeakerModel" ({ cls := "ListSpeakerModel", name := "length", desc := "(I)I" } : Jvm.MethodName) ({ cls := "ListSpeakerModel", name := "length", desc := "(I)I" } : Jvm.MethodName) ∈ mj_WS := mj_memS 76 (by decide +kernel) rfl
theorem mjsel_77 : Jvm.Cond.selects "ListSpeakerModel" ({ cls := "ListSpeakerModel", name := "rest", desc := "(I)I" } : Jvm.MethodName) ({ cls := "ListSpeakerModel", name := "rest", desc := "(I)I" } : Jvm.MethodName) ∈ mj_WS := mj_memS 77 (by decide +kernel) rfl
theorem mjsel_78 : Jvm.Cond.selects "ListSpeakerModel" ({ cls := "ListSpeakerModel", name := "item", desc := "(II)I" } : Jvm.MethodName) ({ cls := "ListSpeakerModel", name := "item", desc := "(II)I" } : Jvm.MethodName) ∈ mj_WS := mj_memS 78 (by decide +kernel) rfl
theorem mjsel_79 : Jvm.Cond.selects "ListSpeakerModel" ({ cls := "ListSpeakerModel", name := "areParameters", desc := "(I)Z" } : Jvm.MethodName) ({ cls := "ListSpeakerModel", name := "areParameters", desc := "(I)Z" } : Jvm.MethodName) ∈ mj_WS := mj_memS 79 (by decide +kernel) rfl
theorem mjsel_80 : Jvm.Cond.selects "ListSpeakerModel" ({ cls := "ListSpeakerModel", name := "isVariable", desc := "(I)Z" } : Jvm.MethodName) ({ cls := "ListSpeakerModel", name := "isVariable", desc := "(I)Z" } : Jvm.MethodName) ∈ mj_WS := mj_memS 80 (by decide +kernel) rfl
theorem mjsel_81 : Jvm.Cond.selects "ListSpeakerModel" ({ cls := "ListSpeakerModel", name := "bind", desc := "(II)V" } : Jvm.MethodName) ({ cls := "ListSpeakerModel", name := "bind", desc := "(II)V" } : Jvm.MethodName) ∈ mj_WS := mj_memS 81 (by decide +kernel) rfl
theorem mjsel_82 : Jvm.Cond.selects "ListSpeakerModel" ({ cls := "ListSpeakerModel", name := "lookAt", desc := "(I)V" } : Jvm.MethodName) ({ cls := "ListSpeakerModel", name := "lookAt", desc := "(I)V" } : Jvm.MethodName) ∈ mj_WS := mj_memS 82 (by decide +kernel) rfl
theorem mjsel_83 : Jvm.Cond.selects "ListSpeakerModel" ({ cls := "ListSpeakerModel", name := "later", desc := "(IIIZ)V" } : Jvm.MethodName) ({ cls := "ListSpeakerModel", name := "later", desc := "(IIIZ)V" } : Jvm.MethodName) ∈ mj_WS := mj_memS 83 (by decide +kernel) rfl
theorem mjsel_84 : Jvm.Cond.selects "ListSpeakerModel" ({ cls := "ListSpeakerModel", name := "one", desc := "(I)V" } : Jvm.MethodName) ({ cls := "ListSpeakerModel", name := "one", desc := "(I)V" } : Jvm.MethodName) ∈ mj_WS := mj_memS 84 (by decide +kernel) rfl
theorem mjsel_85 : Jvm.Cond.selects "ListSpeakerModel" ({ cls := "ListSpeakerModel", name := "find", desc := "(I)I" } : Jvm.MethodName) ({ cls := "ListSpeakerModel", name := "find", desc := "(I)I" } : Jvm.MethodName) ∈ mj_WS := mj_memS 85 (by decide +kernel) rfl
theorem mjsel_86 : Jvm.Cond.selects "ListSpeakerModel" ({ cls := "ListSpeakerModel", name := "isLet", desc := "(I)Z" } : Jvm.MethodName) ({ cls := "ListSpeakerModel", name := "isLet", desc := "(I)Z" } : Jvm.MethodName) ∈ mj_WS := mj_memS 86 (by decide +kernel) rfl
theorem mjsel_87 : Jvm.Cond.selects "ListSpeakerModel" ({ cls := "ListSpeakerModel", name := "arePairs", desc := "(I)Z" } : Jvm.MethodName) ({ cls := "ListSpeakerModel", name := "arePairs", desc := "(I)Z" } : Jvm.MethodName) ∈ mj_WS := mj_memS 87 (by decide +kernel) rfl
theorem mjsel_88 : Jvm.Cond.selects "ListSpeakerModel" ({ cls := "ListSpeakerModel", name := "names", desc := "(I)V" } : Jvm.MethodName) ({ cls := "ListSpeakerModel", name := "names", desc := "(I)V" } : Jvm.MethodName) ∈ mj_WS := mj_memS 88 (by decide +kernel) rfl
theorem mjsel_89 : Jvm.Cond.selects "ListSpeakerModel" ({ cls := "ListSpeakerModel", name := "functionOf", desc := "(I)I" } : Jvm.MethodName) ({ cls := "ListSpeakerModel", name := "functionOf", desc := "(I)I" } : Jvm.MethodName) ∈ mj_WS := mj_memS 89 (by decide +kernel) rfl
theorem mjsel_90 : Jvm.Cond.selects "ListSpeakerModel" ({ cls := "ListSpeakerModel", name := "isSame", desc := "(IIZ)Z" } : Jvm.MethodName) ({ cls := "ListSpeakerModel", name := "isSame", desc := "(IIZ)Z" } : Jvm.MethodName) ∈ mj_WS := mj_memS 90 (by decide +kernel) rfl
theorem mjsel_91 : Jvm.Cond.selects "ListSpeakerModel" ({ cls := "ListSpeakerModel", name := "step", desc := "()Z" } : Jvm.MethodName) ({ cls := "ListSpeakerModel", name := "step", desc := "()Z" } : Jvm.MethodName) ∈ mj_WS := mj_memS 91 (by decide +kernel) rfl
theorem mjsel_92 : Jvm.Cond.selects "ListSpeakerModel" ({ cls := "ListSpeakerModel", name := "carryOut", desc := "(I)I" } : Jvm.MethodName) ({ cls := "ListSpeakerModel", name := "carryOut", desc := "(I)I" } : Jvm.MethodName) ∈ mj_WS := mj_memS 92 (by decide +kernel) rfl
theorem mjsel_93 : Jvm.Cond.selects "ListSpeakerModel" ({ cls := "ListSpeakerModel", name := "act", desc := "(IIIZ)V" } : Jvm.MethodName) ({ cls := "ListSpeakerModel", name := "act", desc := "(IIIZ)V" } : Jvm.MethodName) ∈ mj_WS := mj_memS 93 (by decide +kernel) rfl
theorem mjsel_94 : Jvm.Cond.selects "ListSpeakerModel" ({ cls := "ListSpeakerModel", name := "evaluate", desc := "(IZ)V" } : Jvm.MethodName) ({ cls := "ListSpeakerModel", name := "evaluate", desc := "(IZ)V" } : Jvm.MethodName) ∈ mj_WS := mj_memS 94 (by decide +kernel) rfl
theorem mjsel_95 : Jvm.Cond.selects "ListSpeakerModel" ({ cls := "ListSpeakerModel", name := "push", desc := "(I)V" } : Jvm.MethodName) ({ cls := "ListSpeakerModel", name := "push", desc := "(I)V" } : Jvm.MethodName) ∈ mj_WS := mj_memS 95 (by decide +kernel) rfl
theorem mjsel_96 : Jvm.Cond.selects "ListSpeakerModel" ({ cls := "ListSpeakerModel", name := "connect", desc := "(IIZ)V" } : Jvm.MethodName) ({ cls := "ListSpeakerModel", name := "connect", desc := "(IIZ)V" } : Jvm.MethodName) ∈ mj_WS := mj_memS 96 (by decide +kernel) rfl
theorem mjsel_97 : Jvm.Cond.selects "ListSpeakerModel" ({ cls := "ListSpeakerModel", name := "pop", desc := "()I" } : Jvm.MethodName) ({ cls := "ListSpeakerModel", name := "pop", desc := "()I" } : Jvm.MethodName) ∈ mj_WS := mj_memS 97 (by decide +kernel) rfl
theorem mjsel_98 : Jvm.Cond.selects "ListSpeakerModel" ({ cls := "ListSpeakerModel", name := "enterLet", desc := "(IIZ)V" } : Jvm.MethodName) ({ cls := "ListSpeakerModel", name := "enterLet", desc := "(IIZ)V" } : Jvm.MethodName) ∈ mj_WS := mj_memS 98 (by decide +kernel) rfl
theorem mjsel_99 : Jvm.Cond.selects "ListSpeakerModel" ({ cls := "ListSpeakerModel", name := "leave", desc := "(II)V" } : Jvm.MethodName) ({ cls := "ListSpeakerModel", name := "leave", desc := "(II)V" } : Jvm.MethodName) ∈ mj_WS := mj_memS 99 (by decide +kernel) rfl
theorem mjsel_100 : Jvm.Cond.selects "ListSpeakerModel" ({ cls := "ListSpeakerModel", name := "pair", desc := "()V" } : Jvm.MethodName) ({ cls := "ListSpeakerModel", name := "pair", desc := "()V" } : Jvm.MethodName) ∈ mj_WS := mj_memS 100 (by decide +kernel) rfl
theorem mjsel_101 : Jvm.Cond.selects "ListSpeakerModel" ({ cls := "ListSpeakerModel", name := "collect", desc := "()V" } : Jvm.MethodName) ({ cls := "ListSpeakerModel", name := "collect", desc := "()V" } : Jvm.MethodName) ∈ mj_WS := mj_memS 101 (by decide +kernel) rfl
theorem mjsel_102 : Jvm.Cond.selects "ListSpeakerModel" ({ cls := "ListSpeakerModel", name := "reach", desc := "(II)I" } : Jvm.MethodName) ({ cls := "ListSpeakerModel", name := "reach", desc := "(II)I" } : Jvm.MethodName) ∈ mj_WS := mj_memS 102 (by decide +kernel) rfl
theorem mjsel_103 : Jvm.Cond.selects "ListSpeakerModel" ({ cls := "ListSpeakerModel", name := "apply", desc := "(I)V" } : Jvm.MethodName) ({ cls := "ListSpeakerModel", name := "apply", desc := "(I)V" } : Jvm.MethodName) ∈ mj_WS := mj_memS 103 (by decide +kernel) rfl
theorem mjsel_104 : Jvm.Cond.selects "ListSpeakerModel" ({ cls := "ListSpeakerModel", name := "call", desc := "(IIZ)V" } : Jvm.MethodName) ({ cls := "ListSpeakerModel", name := "call", desc := "(IIZ)V" } : Jvm.MethodName) ∈ mj_WS := mj_memS 104 (by decide +kernel) rfl
theorem mjsel_105 : Jvm.Cond.selects "ListSpeakerModel" ({ cls := "ListSpeakerModel", name := "comeBack", desc := "()V" } : Jvm.MethodName) ({ cls := "ListSpeakerModel", name := "comeBack", desc := "()V" } : Jvm.MethodName) ∈ mj_WS := mj_memS 105 (by decide +kernel) rfl
theorem mjsel_106 : Jvm.Cond.selects "ListSpeakerModel" ({ cls := "ListSpeakerModel", name := "printDatum", desc := "(I)V" } : Jvm.MethodName) ({ cls := "ListSpeakerModel", name := "printDatum", desc := "(I)V" } : Jvm.MethodName) ∈ mj_WS := mj_memS 106 (by decide +kernel) rfl
theorem mjsel_107 : Jvm.Cond.selects "ListSpeakerModel" ({ cls := "ListSpeakerModel", name := "print", desc := "(I)V" } : Jvm.MethodName) ({ cls := "ListSpeakerModel", name := "print", desc := "(I)V" } : Jvm.MethodName) ∈ mj_WS := mj_memS 107 (by decide +kernel) rfl
theorem mjsel_108 : Jvm.Cond.selects "ListSpeakerModel" ({ cls := "ListSpeakerModel", name := "nested", desc := "(II)I" } : Jvm.MethodName) ({ cls := "ListSpeakerModel", name := "nested", desc := "(II)I" } : Jvm.MethodName) ∈ mj_WS := mj_memS 108 (by decide +kernel) rfl
theorem mjsel_109 : Jvm.Cond.selects "ListSpeakerModel" ({ cls := "ListSpeakerModel", name := "printAtom", desc := "(I)V" } : Jvm.MethodName) ({ cls := "ListSpeakerModel", name := "printAtom", desc := "(I)V" } : Jvm.MethodName) ∈ mj_WS := mj_memS 109 (by decide +kernel) rfl
theorem mjsel_110 : Jvm.Cond.selects "ListSpeakerModel" ({ cls := "ListSpeakerModel", name := "printNumber", desc := "(I)V" } : Jvm.MethodName) ({ cls := "ListSpeakerModel", name := "printNumber", desc := "(I)V" } : Jvm.MethodName) ∈ mj_WS := mj_memS 110 (by decide +kernel) rfl
def mj_NWs : List Jvm.Cond := [(Jvm.Cond.methodLinkNest "ListSpeaker$Pairs" (59 : Nat) ({ cls := "ListSpeaker", name := "isPair", desc := "(I)Z" } : Jvm.MethodName) "ListSpeaker"), (Jvm.Cond.methodLinkNest "ListSpeaker$Maker" (49 : Nat) ({ cls := "ListSpeaker", name := "isSymbol", desc := "(I)Z" } : Jvm.MethodName) "ListSpeaker"), (Jvm.Cond.methodLinkNest "ListSpeaker$Maker" (79 : Nat) ({ cls := "ListSpeaker", name := "isNumber", desc := "(I)Z" } : Jvm.MethodName) "ListSpeaker"), (Jvm.Cond.methodLinkNest "ListSpeaker$Machine" (151 : Nat) ({ cls := "ListSpeaker", name := "isPair", desc := "(I)Z" } : Jvm.MethodName) "ListSpeaker"), (Jvm.Cond.methodLinkNest "ListSpeaker$Machine" (159 : Nat) ({ cls := "ListSpeaker", name := "isNumber", desc := "(I)Z" } : Jvm.MethodName) "ListSpeaker"), (Jvm.Cond.methodLinkNest "ListSpeaker$Machine" (162 : Nat) ({ cls := "ListSpeaker", name := "isSymbol", desc := "(I)Z" } : Jvm.MethodName) "ListSpeaker"), (Jvm.Cond.methodLinkNest "ListSpeaker$Paper" (52 : Nat) ({ cls := "ListSpeaker", name := "isPair", desc := "(I)Z" } : Jvm.MethodName) "ListSpeaker"), (Jvm.Cond.methodLinkNest "ListSpeaker$Paper" (72 : Nat) ({ cls := "ListSpeaker", name := "isNumber", desc := "(I)Z" } : Jvm.MethodName) "ListSpeaker")]
theorem mjnw_0 : (Jvm.Cond.methodLinkNest "ListSpeaker$Pairs" (59 : Nat) ({ cls := "ListSpeaker", name := "isPair", desc := "(I)Z" } : Jvm.MethodName) "ListSpeaker") ∈ mj_NWs := List.mem_of_getElem? (i := 0) rfl
theorem mjnw_1 : (Jvm.Cond.methodLinkNest "ListSpeaker$Maker" (49 : Nat) ({ cls := "ListSpeaker", name := "isSymbol", desc := "(I)Z" } : Jvm.MethodName) "ListSpeaker") ∈ mj_NWs := List.mem_of_getElem? (i := 1) rfl
theorem mjnw_2 : (Jvm.Cond.methodLinkNest "ListSpeaker$Maker" (79 : Nat) ({ cls := "ListSpeaker", name := "isNumber", desc := "(I)Z" } : Jvm.MethodName) "ListSpeaker") ∈ mj_NWs := List.mem_of_getElem? (i := 2) rfl
theorem mjnw_3 : (Jvm.Cond.methodLinkNest "ListSpeaker$Machine" (151 : Nat) ({ cls := "ListSpeaker", name := "isPair", desc := "(I)Z" } : Jvm.MethodName) "ListSpeaker") ∈ mj_NWs := List.mem_of_getElem? (i := 3) rfl
theorem mjnw_4 : (Jvm.Cond.methodLinkNest "ListSpeaker$Machine" (159 : Nat) ({ cls := "ListSpeaker", name := "isNumber", desc := "(I)Z" } : Jvm.MethodName) "ListSpeaker") ∈ mj_NWs := List.mem_of_getElem? (i := 4) rfl
theorem mjnw_5 : (Jvm.Cond.methodLinkNest "ListSpeaker$Machine" (162 : Nat) ({ cls := "ListSpeaker", name := "isSymbol", desc := "(I)Z" } : Jvm.MethodName) "ListSpeaker") ∈ mj_NWs := List.mem_of_getElem? (i := 5) rfl
theorem mjnw_6 : (Jvm.Cond.methodLinkNest "ListSpeaker$Paper" (52 : Nat) ({ cls := "ListSpeaker", name := "isPair", desc := "(I)Z" } : Jvm.MethodName) "ListSpeaker") ∈ mj_NWs := List.mem_of_getElem? (i := 6) rfl
theorem mjnw_7 : (Jvm.Cond.methodLinkNest "ListSpeaker$Paper" (72 : Nat) ({ cls := "ListSpeaker", name := "isNumber", desc := "(I)Z" } : Jvm.MethodName) "ListSpeaker") ∈ mj_NWs := List.mem_of_getElem? (i := 7) rfl
theorem mj_NWs_ok : mj_NW mj_NWs := by
  intro w hw
  unfold mj_NWs at hw
  simp only [List.mem_cons, List.not_mem_nil, or_false] at hw
  rcases hw with rfl | rfl | rfl | rfl | rfl | rfl | rfl | rfl
  all_goals exact ⟨_, _, _, _, rfl⟩
def mj_all (P : Nat → mj_O → Prop) : Nat → List mj_O → Prop
  | _, [] => True
  | i, o :: r => P i o ∧ mj_all P (i + 1) r
theorem mj_all_cons {P : Nat → mj_O → Prop} {i : Nat} {o : mj_O} {r : List mj_O} (j : Nat) (hj : i + 1 = j) (h : P i o) (t : mj_all P j r) : mj_all P i (o :: r) := ⟨h, by subst hj; exact t⟩
theorem mj_all_get {P : Nat → mj_O → Prop} : ∀ (r : List mj_O) (i : Nat), mj_all P i r → ∀ (pc : Nat) (o : mj_O), r[pc]? = some o → P (i + pc) o
  | [], _, _, _, _, h => by cases h
  | a :: r, i, ⟨h1, h2⟩, 0, o, h => by cases h; exact h1
  | a :: r, i, ⟨h1, h2⟩, pc + 1, o, h => by
    have := mj_all_get r (i + 1) h2 pc o h
    rw [show i + (pc + 1) = i + 1 + pc by omega]
    exact this
