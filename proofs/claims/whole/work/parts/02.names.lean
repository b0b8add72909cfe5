def RX0 : String := "SnippetExpander$Library"
def TX0 : u_T := fun k => match k with
  | 0 => ("SnippetExpander$Library", "snippets", "[LSnippetExpander$Snippet;", true)
  | 1 => ("SnippetExpander$Library", "count", "I", false)
  | _ => ("SnippetExpander$Library", "isByPlaces", "Z", false)
def tyX0 : Nat → FieldType := fun k => match k with
  | 0 => .array (.object "SnippetExpander$Snippet")
  | 1 => .int
  | _ => .boolean
theorem nmX0 : ∀ a, a < 3 → ∀ b, b < 3 → a ≠ b → (TX0 a).2.1 ≠ (TX0 b).2.1 := by decide +kernel
theorem tyX0_ok : ∀ k, k < 3 → parseFieldDescriptor (TX0 k).2.2.1 = some (tyX0 k) := by decide +kernel
def RX1 : String := "SnippetExpander$LibraryReader"
def TX1 : u_T := fun k => match k with
  | 0 => ("SnippetExpander$LibraryReader", "text", "[I", false)
  | 1 => ("SnippetExpander$LibraryReader", "length", "I", false)
  | 2 => ("SnippetExpander$LibraryReader", "at", "I", false)
  | 3 => ("SnippetExpander$LibraryReader", "into", "LSnippetExpander$Library;", false)
  | 4 => ("SnippetExpander$LibraryReader", "snippet", "LSnippetExpander$Snippet;", false)
  | 5 => ("SnippetExpander$LibraryReader", "openPart", "I", false)
  | 6 => ("SnippetExpander$LibraryReader", "errorCode", "I", false)
  | _ => ("SnippetExpander$LibraryReader", "errorPosition", "I", false)
def tyX1 : Nat → FieldType := fun k => match k with
  | 0 => .array .int
  | 1 => .int
  | 2 => .int
  | 3 => .object "SnippetExpander$Library"
  | 4 => .object "SnippetExpander$Snippet"
  | 5 => .int
  | 6 => .int
  | _ => .int
theorem nmX1 : ∀ a, a < 8 → ∀ b, b < 8 → a ≠ b → (TX1 a).2.1 ≠ (TX1 b).2.1 := by decide +kernel
theorem tyX1_ok : ∀ k, k < 8 → parseFieldDescriptor (TX1 k).2.2.1 = some (tyX1 k) := by decide +kernel
def RX2 : String := "SnippetExpander$Snippet"
def TX2 : u_T := fun k => match k with
  | 0 => ("SnippetExpander$Snippet", "name", "[I", true)
  | 1 => ("SnippetExpander$Snippet", "nameLength", "I", false)
  | 2 => ("SnippetExpander$Snippet", "occurrences", "I", false)
  | 3 => ("SnippetExpander$Snippet", "fieldSet", "I", false)
  | 4 => ("SnippetExpander$Snippet", "fields", "[I", true)
  | 5 => ("SnippetExpander$Snippet", "changes", "[I", true)
  | 6 => ("SnippetExpander$Snippet", "hasDefault", "[Z", true)
  | 7 => ("SnippetExpander$Snippet", "parents", "[I", true)
  | 8 => ("SnippetExpander$Snippet", "nestings", "[I", true)
  | 9 => ("SnippetExpander$Snippet", "dependsOn", "[I", true)
  | 10 => ("SnippetExpander$Snippet", "literalsOfParts", "[I", true)
  | 11 => ("SnippetExpander$Snippet", "items", "[I", true)
  | 12 => ("SnippetExpander$Snippet", "partOfItem", "[I", true)
  | 13 => ("SnippetExpander$Snippet", "itemOfOccurrence", "[I", true)
  | 14 => ("SnippetExpander$Snippet", "endOfDefault", "[I", true)
  | 15 => ("SnippetExpander$Snippet", "firstItem", "I", false)
  | _ => ("SnippetExpander$Snippet", "endItem", "I", false)
def tyX2 : Nat → FieldType := fun k => match k with
  | 0 => .array .int
  | 1 => .int
  | 2 => .int
  | 3 => .int
  | 4 => .array .int
  | 5 => .array .int
  | 6 => .array .boolean
  | 7 => .array .int
  | 8 => .array .int
  | 9 => .array .int
  | 10 => .array .int
  | 11 => .array .int
  | 12 => .array .int
  | 13 => .array .int
  | 14 => .array .int
  | 15 => .int
  | _ => .int
theorem nmX2 : ∀ a, a < 17 → ∀ b, b < 17 → a ≠ b → (TX2 a).2.1 ≠ (TX2 b).2.1 := by decide +kernel
theorem tyX2_ok : ∀ k, k < 17 → parseFieldDescriptor (TX2 k).2.2.1 = some (tyX2 k) := by decide +kernel
def RX3 : String := "SnippetExpander$State"
def TX3 : u_T := fun k => match k with
  | 0 => ("SnippetExpander$State", "isByPlaces", "Z", false)
  | 1 => ("SnippetExpander$State", "depth", "I", false)
  | 2 => ("SnippetExpander$State", "snippets", "[I", true)
  | 3 => ("SnippetExpander$State", "currents", "[I", true)
  | 4 => ("SnippetExpander$State", "typedSets", "[I", true)
  | 5 => ("SnippetExpander$State", "typedLengths", "[I", true)
  | 6 => ("SnippetExpander$State", "typedTexts", "[I", true)
  | 7 => ("SnippetExpander$State", "document", "[I", true)
  | _ => ("SnippetExpander$State", "documentLength", "I", false)
def tyX3 : Nat → FieldType := fun k => match k with
  | 0 => .boolean
  | 1 => .int
  | 2 => .array .int
  | 3 => .array .int
  | 4 => .array .int
  | 5 => .array .int
  | 6 => .array .int
  | 7 => .array .int
  | _ => .int
theorem nmX3 : ∀ a, a < 9 → ∀ b, b < 9 → a ≠ b → (TX3 a).2.1 ≠ (TX3 b).2.1 := by decide +kernel
theorem tyX3_ok : ∀ k, k < 9 → parseFieldDescriptor (TX3 k).2.2.1 = some (tyX3 k) := by decide +kernel
def RX4 : String := "SnippetExpander$View"
def TX4 : u_T := fun k => match k with
  | 0 => ("SnippetExpander$View", "snippet", "LSnippetExpander$Snippet;", false)
  | 1 => ("SnippetExpander$View", "typedSet", "I", false)
  | 2 => ("SnippetExpander$View", "typedLengths", "[I", true)
  | 3 => ("SnippetExpander$View", "live", "I", false)
  | 4 => ("SnippetExpander$View", "isShown", "[Z", true)
  | 5 => ("SnippetExpander$View", "shownDefaults", "[I", true)
  | 6 => ("SnippetExpander$View", "shownCounts", "[I", true)
  | 7 => ("SnippetExpander$View", "valueLengths", "[J", true)
  | 8 => ("SnippetExpander$View", "textLength", "J", false)
  | 9 => ("SnippetExpander$View", "order", "[I", true)
  | 10 => ("SnippetExpander$View", "orderLength", "I", false)
  | 11 => ("SnippetExpander$View", "values", "[I", true)
  | _ => ("SnippetExpander$View", "text", "[I", true)
def tyX4 : Nat → FieldType := fun k => match k with
  | 0 => .object "SnippetExpander$Snippet"
  | 1 => .int
  | 2 => .array .int
  | 3 => .int
  | 4 => .array .boolean
  | 5 => .array .int
  | 6 => .array .int
  | 7 => .array .long
  | 8 => .long
  | 9 => .array .int
  | 10 => .int
  | 11 => .array .int
  | _ => .array .int
theorem nmX4 : ∀ a, a < 13 → ∀ b, b < 13 → a ≠ b → (TX4 a).2.1 ≠ (TX4 b).2.1 := by decide +kernel
theorem tyX4_ok : ∀ k, k < 13 → parseFieldDescriptor (TX4 k).2.2.1 = some (tyX4 k) := by decide +kernel
def RX5 : String := "SnippetExpander"
def TX5 : u_T := fun k => match k with
  | 0 => ("SnippetExpander", "buffer", "[I", true)
  | 1 => ("SnippetExpander", "bufferLength", "I", false)
  | 2 => ("SnippetExpander", "library", "LSnippetExpander$Library;", false)
  | 3 => ("SnippetExpander", "reader", "LSnippetExpander$LibraryReader;", true)
  | 4 => ("SnippetExpander", "latestErrorCode", "I", false)
  | 5 => ("SnippetExpander", "latestErrorPosition", "I", false)
  | 6 => ("SnippetExpander", "accounts", "[I", true)
  | 7 => ("SnippetExpander", "state", "LSnippetExpander$State;", true)
  | 8 => ("SnippetExpander", "undoStates", "[LSnippetExpander$State;", true)
  | 9 => ("SnippetExpander", "undoNext", "I", false)
  | 10 => ("SnippetExpander", "undoCount", "I", false)
  | 11 => ("SnippetExpander", "savedStates", "[LSnippetExpander$State;", true)
  | 12 => ("SnippetExpander", "isSaved", "[Z", true)
  | _ => ("SnippetExpander", "view", "LSnippetExpander$View;", true)
def tyX5 : Nat → FieldType := fun k => match k with
  | 0 => .array .int
  | 1 => .int
  | 2 => .object "SnippetExpander$Library"
  | 3 => .object "SnippetExpander$LibraryReader"
  | 4 => .int
  | 5 => .int
  | 6 => .array .int
  | 7 => .object "SnippetExpander$State"
  | 8 => .array (.object "SnippetExpander$State")
  | 9 => .int
  | 10 => .int
  | 11 => .array (.object "SnippetExpander$State")
  | 12 => .array .boolean
  | _ => .object "SnippetExpander$View"
theorem nmX5 : ∀ a, a < 14 → ∀ b, b < 14 → a ≠ b → (TX5 a).2.1 ≠ (TX5 b).2.1 := by decide +kernel
theorem tyX5_ok : ∀ k, k < 14 → parseFieldDescriptor (TX5 k).2.2.1 = some (tyX5 k) := by decide +kernel
def RX6 : String := "SnippetExpanderModel$Library"
def TX6 : u_T := fun k => match k with
  | 0 => ("SnippetExpanderModel$Library", "many", "I", false)
  | 1 => ("SnippetExpanderModel$Library", "order", "I", false)
  | 2 => ("SnippetExpanderModel$Library", "names", "[I", true)
  | 3 => ("SnippetExpanderModel$Library", "lettersOf", "[I", true)
  | 4 => ("SnippetExpanderModel$Library", "from", "[I", true)
  | 5 => ("SnippetExpanderModel$Library", "items", "[I", true)
  | 6 => ("SnippetExpanderModel$Library", "occurrences", "[I", true)
  | 7 => ("SnippetExpanderModel$Library", "field", "[I", true)
  | 8 => ("SnippetExpanderModel$Library", "change", "[I", true)
  | 9 => ("SnippetExpanderModel$Library", "hasDefault", "[Z", true)
  | 10 => ("SnippetExpanderModel$Library", "parent", "[I", true)
  | 11 => ("SnippetExpanderModel$Library", "at", "[I", true)
  | 12 => ("SnippetExpanderModel$Library", "to", "[I", true)
  | 13 => ("SnippetExpanderModel$Library", "deep", "[I", true)
  | _ => ("SnippetExpanderModel$Library", "depends", "[I", true)
def tyX6 : Nat → FieldType := fun k => match k with
  | 0 => .int
  | 1 => .int
  | 2 => .array .int
  | 3 => .array .int
  | 4 => .array .int
  | 5 => .array .int
  | 6 => .array .int
  | 7 => .array .int
  | 8 => .array .int
  | 9 => .array .boolean
  | 10 => .array .int
  | 11 => .array .int
  | 12 => .array .int
  | 13 => .array .int
  | _ => .array .int
theorem nmX6 : ∀ a, a < 15 → ∀ b, b < 15 → a ≠ b → (TX6 a).2.1 ≠ (TX6 b).2.1 := by decide +kernel
theorem tyX6_ok : ∀ k, k < 15 → parseFieldDescriptor (TX6 k).2.2.1 = some (tyX6 k) := by decide +kernel
def RX7 : String := "SnippetExpanderModel"
def TX7 : u_T := fun k => match k with
  | 0 => ("SnippetExpanderModel", "thrown", "I", false)
  | 1 => ("SnippetExpanderModel", "s", "[I", true)
  | 2 => ("SnippetExpanderModel", "aside", "[I", true)
  | 3 => ("SnippetExpanderModel", "undone", "[I", true)
  | 4 => ("SnippetExpanderModel", "saved", "[I", true)
  | 5 => ("SnippetExpanderModel", "isSaved", "[Z", true)
  | 6 => ("SnippetExpanderModel", "accounts", "[I", true)
  | 7 => ("SnippetExpanderModel", "undos", "I", false)
  | 8 => ("SnippetExpanderModel", "lib", "LSnippetExpanderModel$Library;", false)
  | 9 => ("SnippetExpanderModel", "buffer", "[I", true)
  | 10 => ("SnippetExpanderModel", "length", "I", false)
  | 11 => ("SnippetExpanderModel", "error", "I", false)
  | 12 => ("SnippetExpanderModel", "errorAt", "I", false)
  | 13 => ("SnippetExpanderModel", "made", "LSnippetExpanderModel$Library;", false)
  | 14 => ("SnippetExpanderModel", "p", "I", false)
  | 15 => ("SnippetExpanderModel", "start", "I", false)
  | 16 => ("SnippetExpanderModel", "end", "I", false)
  | 17 => ("SnippetExpanderModel", "isWord", "Z", false)
  | 18 => ("SnippetExpanderModel", "open", "[I", true)
  | 19 => ("SnippetExpanderModel", "opened", "I", false)
  | 20 => ("SnippetExpanderModel", "itemMany", "I", false)
  | 21 => ("SnippetExpanderModel", "snippet", "I", false)
  | 22 => ("SnippetExpanderModel", "sessionAt", "I", false)
  | 23 => ("SnippetExpanderModel", "isShown", "[Z", true)
  | 24 => ("SnippetExpanderModel", "isDefault", "[Z", true)
  | 25 => ("SnippetExpanderModel", "toldBy", "[I", true)
  | 26 => ("SnippetExpanderModel", "lens", "[I", true)
  | 27 => ("SnippetExpanderModel", "live", "I", false)
  | 28 => ("SnippetExpanderModel", "out", "[I", true)
  | 29 => ("SnippetExpanderModel", "outs", "I", false)
  | 30 => ("SnippetExpanderModel", "values", "[I", true)
  | 31 => ("SnippetExpanderModel", "isLaid", "[Z", true)
  | 32 => ("SnippetExpanderModel", "leaving", "[I", true)
  | 33 => ("SnippetExpanderModel", "leavingMany", "I", false)
  | 34 => ("SnippetExpanderModel", "starts", "[I", true)
  | _ => ("SnippetExpanderModel", "typing", "[I", true)
def tyX7 : Nat → FieldType := fun k => match k with
  | 0 => .int
  | 1 => .array .int
  | 2 => .array .int
  | 3 => .array .int
  | 4 => .array .int
  | 5 => .array .boolean
  | 6 => .array .int
  | 7 => .int
  | 8 => .object "SnippetExpanderModel$Library"
  | 9 => .array .int
  | 10 => .int
  | 11 => .int
  | 12 => .int
  | 13 => .object "SnippetExpanderModel$Library"
  | 14 => .int
  | 15 => .int
  | 16 => .int
  | 17 => .boolean
  | 18 => .array .int
  | 19 => .int
  | 20 => .int
  | 21 => .int
  | 22 => .int
  | 23 => .array .boolean
  | 24 => .array .boolean
  | 25 => .array .int
  | 26 => .array .int
  | 27 => .int
  | 28 => .array .int
  | 29 => .int
  | 30 => .array .int
  | 31 => .array .boolean
  | 32 => .array .int
  | 33 => .int
  | 34 => .array .int
  | _ => .array .int
theorem nmX7 : ∀ a, a < 36 → ∀ b, b < 36 → a ≠ b → (TX7 a).2.1 ≠ (TX7 b).2.1 := by decide +kernel
theorem tyX7_ok : ∀ k, k < 36 → parseFieldDescriptor (TX7 k).2.2.1 = some (tyX7 k) := by decide +kernel
abbrev zCl : List vw_C := [(RX0, TX0, 3), (RX1, TX1, 8), (RX2, TX2, 17), (RX3, TX3, 9), (RX4, TX4, 13), (RX5, TX5, 14), (RX6, TX6, 15), (RX7, TX7, 36)]
def zGood : List Cond := lw_tbl.filter goodWord
theorem zin1 {w : Cond} (h : w ∈ tables_1_1) (g : goodWord w = true) : w ∈ zGood := List.mem_filter.mpr ⟨List.mem_append_right _ (List.mem_append_left _ h), g⟩
theorem zin2 {w : Cond} (h : w ∈ tables_1_2) (g : goodWord w = true) : w ∈ zGood := List.mem_filter.mpr ⟨List.mem_append_right _ (List.mem_append_right _ (List.mem_append_left _ h)), g⟩
theorem zin3 {w : Cond} (h : w ∈ tables_1_3) (g : goodWord w = true) : w ∈ zGood := List.mem_filter.mpr ⟨List.mem_append_right _ (List.mem_append_right _ (List.mem_append_right _ (List.mem_append_left _ h))), g⟩
theorem zin4 {w : Cond} (h : w ∈ tables_1_4) (g : goodWord w = true) : w ∈ zGood := List.mem_filter.mpr ⟨List.mem_append_right _ (List.mem_append_right _ (List.mem_append_right _ (List.mem_append_right _ (List.mem_append_left _ h)))), g⟩
theorem zin5 {w : Cond} (h : w ∈ tables_1_5) (g : goodWord w = true) : w ∈ zGood := List.mem_filter.mpr ⟨List.mem_append_right _ (List.mem_append_right _ (List.mem_append_right _ (List.mem_append_right _ (List.mem_append_right _ (List.mem_append_left _ h))))), g⟩
theorem zin6 {w : Cond} (h : w ∈ tables_1_6) (g : goodWord w = true) : w ∈ zGood := List.mem_filter.mpr ⟨List.mem_append_right _ (List.mem_append_right _ (List.mem_append_right _ (List.mem_append_right _ (List.mem_append_right _ (List.mem_append_right _ (List.mem_append_left _ h)))))), g⟩
theorem zin7 {w : Cond} (h : w ∈ tables_1_7) (g : goodWord w = true) : w ∈ zGood := List.mem_filter.mpr ⟨List.mem_append_right _ (List.mem_append_right _ (List.mem_append_right _ (List.mem_append_right _ (List.mem_append_right _ (List.mem_append_right _ (List.mem_append_right _ (List.mem_append_left _ h))))))), g⟩
theorem zin8 {w : Cond} (h : w ∈ tables_1_8) (g : goodWord w = true) : w ∈ zGood := List.mem_filter.mpr ⟨List.mem_append_right _ (List.mem_append_right _ (List.mem_append_right _ (List.mem_append_right _ (List.mem_append_right _ (List.mem_append_right _ (List.mem_append_right _ (List.mem_append_right _ (h)))))))), g⟩
theorem zinS {q : MethodName × Nat} (h : q ∈ lw_privs) (g : goodWord (Cond.selects q.1.cls q.1 q.1) = true) : Cond.selects q.1.cls q.1 q.1 ∈ zGood := List.mem_filter.mpr ⟨List.mem_append_left _ (List.mem_map.mpr ⟨q, h, rfl⟩), g⟩
def zTy : Nat → List Nat := fun c => match c with
  | 0 => [2, 0, 0]
  | 1 => [2, 0, 0, 2, 2, 0, 0, 0]
  | 2 => [2, 0, 0, 0, 2, 2, 2, 2, 2, 2, 2, 2, 2, 2, 2, 0, 0]
  | 3 => [0, 0, 2, 2, 2, 2, 2, 2, 0]
  | 4 => [2, 0, 2, 0, 2, 2, 2, 2, 1, 2, 0, 2, 2]
  | 5 => [2, 0, 2, 2, 0, 0, 2, 2, 2, 0, 0, 2, 2, 2]
  | 6 => [0, 0, 2, 2, 2, 2, 2, 2, 2, 2, 2, 2, 2, 2, 2]
  | 7 => [0, 2, 2, 2, 2, 2, 2, 0, 2, 2, 0, 0, 0, 2, 0, 0, 0, 0, 2, 0, 0, 0, 0, 2, 2, 2, 2, 0, 2, 0, 2, 2, 2, 0, 2, 2]
  | _ => []
def zLay : List (Nat × Nat) := [(999, 0), (5, 0), (100, 700), (100, 10), (104, 8), (104, 2), (101, 2), (0, 0), (105, 8), (100, 700), (100, 700), (2, 0), (100, 8), (100, 60), (100, 60), (101, 60), (100, 60), (100, 60), (100, 10), (100, 61), (100, 60), (100, 60), (2, 0), (100, 8), (100, 60), (100, 60), (101, 60), (100, 60), (100, 60), (100, 10), (100, 61), (100, 60), (100, 60), (2, 0), (100, 8), (100, 60), (100, 60), (101, 60), (100, 60), (100, 60), (100, 10), (100, 61), (100, 60), (100, 60), (2, 0), (100, 8), (100, 60), (100, 60), (101, 60), (100, 60), (100, 60), (100, 10), (100, 61), (100, 60), (100, 60), (2, 0), (100, 8), (100, 60), (100, 60), (101, 60), (100, 60), (100, 60), (100, 10), (100, 61), (100, 60), (100, 60), (2, 0), (100, 8), (100, 60), (100, 60), (101, 60), (100, 60), (100, 60), (100, 10), (100, 61), (100, 60), (100, 60), (2, 0), (100, 8), (100, 60), (100, 60), (101, 60), (100, 60), (100, 60), (100, 10), (100, 61), (100, 60), (100, 60), (2, 0), (100, 8), (100, 60), (100, 60), (101, 60), (100, 60), (100, 60), (100, 10), (100, 61), (100, 60), (100, 60), (1, 0), (100, 0), (0, 0), (105, 8), (100, 700), (100, 700), (2, 0), (100, 8), (100, 60), (100, 60), (101, 60), (100, 60), (100, 60), (100, 10), (100, 61), (100, 60), (100, 60), (2, 0), (100, 8), (100, 60), (100, 60), (101, 60), (100, 60), (100, 60), (100, 10), (100, 61), (100, 60), (100, 60), (2, 0), (100, 8), (100, 60), (100, 60), (101, 60), (100, 60), (100, 60), (100, 10), (100, 61), (100, 60), (100, 60), (2, 0), (100, 8), (100, 60), (100, 60), (101, 60), (100, 60), (100, 60), (100, 10), (100, 61), (100, 60), (100, 60), (2, 0), (100, 8), (100, 60), (100, 60), (101, 60), (100, 60), (100, 60), (100, 10), (100, 61), (100, 60), (100, 60), (2, 0), (100, 8), (100, 60), (100, 60), (101, 60), (100, 60), (100, 60), (100, 10), (100, 61), (100, 60), (100, 60), (2, 0), (100, 8), (100, 60), (100, 60), (101, 60), (100, 60), (100, 60), (100, 10), (100, 61), (100, 60), (100, 60), (2, 0), (100, 8), (100, 60), (100, 60), (101, 60), (100, 60), (100, 60), (100, 10), (100, 61), (100, 60), (100, 60), (3, 0), (100, 4), (100, 4), (100, 4), (100, 40), (100, 1600), (100, 600), (4, 0), (100, 10), (101, 60), (100, 10), (100, 10), (102, 10), (100, 10), (100, 4000), (100, 400), (2, 0), (100, 0), (100, 0), (100, 8), (100, 60), (100, 60), (101, 60), (100, 60), (100, 60), (100, 10), (100, 61), (100, 60), (100, 60), (3, 0), (100, 4), (100, 4), (100, 4), (100, 40), (100, 1600), (100, 600), (3, 0), (100, 4), (100, 4), (100, 4), (100, 40), (100, 1600), (100, 600), (3, 0), (100, 4), (100, 4), (100, 4), (100, 40), (100, 1600), (100, 600), (3, 0), (100, 4), (100, 4), (100, 4), (100, 40), (100, 1600), (100, 600), (3, 0), (100, 4), (100, 4), (100, 4), (100, 40), (100, 1600), (100, 600), (3, 0), (100, 4), (100, 4), (100, 4), (100, 40), (100, 1600), (100, 600), (3, 0), (100, 4), (100, 4), (100, 4), (100, 40), (100, 1600), (100, 600), (3, 0), (100, 4), (100, 4), (100, 4), (100, 40), (100, 1600), (100, 600), (3, 0), (100, 4), (100, 4), (100, 4), (100, 40), (100, 1600), (100, 600), (3, 0), (100, 4), (100, 4), (100, 4), (100, 40), (100, 1600), (100, 600), (7, 0), (100, 2256), (100, 2256), (100, 18048), (100, 4512), (101, 2), (100, 10), (6, 0), (100, 64), (100, 8), (100, 9), (100, 700), (100, 8), (100, 480), (100, 480), (101, 480), (100, 480), (100, 480), (100, 480), (100, 480), (100, 80), (100, 700), (6, 0), (100, 64), (100, 8), (100, 9), (100, 700), (100, 8), (100, 480), (100, 480), (101, 480), (100, 480), (100, 480), (100, 480), (100, 480), (100, 80), (100, 4), (101, 60), (101, 60), (100, 10), (100, 10), (100, 6000), (100, 4100), (101, 10), (100, 10), (100, 60), (100, 400), (102, 1), (103, 1)]
abbrev zN : Nat := 340
def zkd (k : Nat) : Nat := (zLay.getD k (999, 0)).1
def zln (k : Nat) : Nat := (zLay.getD k (999, 0)).2
def zTpL : List (List Nat) := [[], [2, 0, 0, 99, 0, 0, 3, 193, 4, 0, 0, 5, 6, 200], [], [], [222, 229, 236, 243, 250, 257, 264, 271], [278, 285], [], [8], [11, 22, 33, 44, 55, 66, 77, 88], [], [], [12, 0, 0, 0, 13, 14, 15, 16, 17, 18, 19, 9, 10, 20, 21], [], [], [], [], [], [], [], [], [], [], [23, 0, 0, 0, 24, 25, 26, 27, 28, 29, 30, 9, 10, 31, 32], [], [], [], [], [], [], [], [], [], [], [34, 0, 0, 0, 35, 36, 37, 38, 39, 40, 41, 9, 10, 42, 43], [], [], [], [], [], [], [], [], [], [], [45, 0, 0, 0, 46, 47, 48, 49, 50, 51, 52, 9, 10, 53, 54], [], [], [], [], [], [], [], [], [], [], [56, 0, 0, 0, 57, 58, 59, 60, 61, 62, 63, 9, 10, 64, 65], [], [], [], [], [], [], [], [], [], [], [67, 0, 0, 0, 68, 69, 70, 71, 72, 73, 74, 9, 10, 75, 76], [], [], [], [], [], [], [], [], [], [], [78, 0, 0, 0, 79, 80, 81, 82, 83, 84, 85, 9, 10, 86, 87], [], [], [], [], [], [], [], [], [], [], [89, 0, 0, 0, 90, 91, 92, 93, 94, 95, 96, 9, 10, 97, 98], [], [], [], [], [], [], [], [], [], [], [], [], [102], [105, 116, 127, 138, 149, 160, 171, 182], [], [], [106, 0, 0, 0, 107, 108, 109, 110, 111, 112, 113, 103, 104, 114, 115], [], [], [], [], [], [], [], [], [], [], [117, 0, 0, 0, 118, 119, 120, 121, 122, 123, 124, 103, 104, 125, 126], [], [], [], [], [], [], [], [], [], [], [128, 0, 0, 0, 129, 130, 131, 132, 133, 134, 135, 103, 104, 136, 137], [], [], [], [], [], [], [], [], [], [], [139, 0, 0, 0, 140, 141, 142, 143, 144, 145, 146, 103, 104, 147, 148], [], [], [], [], [], [], [], [], [], [], [150, 0, 0, 0, 151, 152, 153, 154, 155, 156, 157, 103, 104, 158, 159], [], [], [], [], [], [], [], [], [], [], [161, 0, 0, 0, 162, 163, 164, 165, 166, 167, 168, 103, 104, 169, 170], [], [], [], [], [], [], [], [], [], [], [172, 0, 0, 0, 173, 174, 175, 176, 177, 178, 179, 103, 104, 180, 181], [], [], [], [], [], [], [], [], [], [], [183, 0, 0, 0, 184, 185, 186, 187, 188, 189, 190, 103, 104, 191, 192], [], [], [], [], [], [], [], [], [], [], [0, 0, 194, 195, 196, 197, 198, 199], [], [], [], [], [], [], [0, 0, 201, 0, 202, 203, 204, 205, 0, 206, 0, 207, 208], [], [], [], [], [], [], [], [], [212, 0, 0, 0, 213, 214, 215, 216, 217, 218, 219, 210, 211, 220, 221], [], [], [], [], [], [], [], [], [], [], [], [], [0, 0, 223, 224, 225, 226, 227, 228], [], [], [], [], [], [], [0, 0, 230, 231, 232, 233, 234, 235], [], [], [], [], [], [], [0, 0, 237, 238, 239, 240, 241, 242], [], [], [], [], [], [], [0, 0, 244, 245, 246, 247, 248, 249], [], [], [], [], [], [], [0, 0, 251, 252, 253, 254, 255, 256], [], [], [], [], [], [], [0, 0, 258, 259, 260, 261, 262, 263], [], [], [], [], [], [], [0, 0, 265, 266, 267, 268, 269, 270], [], [], [], [], [], [], [0, 0, 272, 273, 274, 275, 276, 277], [], [], [], [], [], [], [0, 0, 279, 280, 281, 282, 283, 284], [], [], [], [], [], [], [0, 0, 286, 287, 288, 289, 290, 291], [], [], [], [], [], [], [0, 293, 294, 295, 296, 297, 298, 0, 0, 313, 0, 0, 0, 0, 0, 0, 0, 0, 328, 0, 0, 0, 0, 329, 330, 331, 332, 0, 333, 0, 334, 335, 336, 0, 337, 338], [], [], [], [], [], [], [0, 0, 300, 301, 302, 303, 304, 305, 306, 307, 308, 309, 310, 311, 312], [], [], [], [], [], [], [], [], [], [], [], [], [], [], [0, 0, 315, 316, 317, 318, 319, 320, 321, 322, 323, 324, 325, 326, 327], [], [], [], [], [], [], [], [], [], [], [], [], [], [], [], [], [], [], [], [], [], [], [], [], [], []]
def ztp (k j : Nat) : Nat := (zTpL.getD k []).getD j 0
def zwk (k j : Nat) : Nat := if k = 1 ∧ j = 2 then 0 else if k = 99 ∧ j = 0 then 100 else if k = 99 ∧ j = 3 then 0 else if k = 99 ∧ j = 4 then 2 else if k = 200 ∧ j = 0 then 2 else if k = 292 ∧ j = 8 then 6 else if k = 292 ∧ j = 13 then 6 else 998
def zsb (t : Nat) : Nat := if t = 209 then 211 else t
def zit (t : Nat) : Nat := if t < 99 then 9 else if t < 193 then 103 else 210
def zStrL : List (String × Nat × String) := [("SnippetExpander$LibraryReader", 63, "snippet"), ("SnippetExpander$LibraryReader", 75, "order"), ("SnippetExpander$LibraryReader", 92, "places"), ("SnippetExpander$LibraryReader", 94, "numbers"), ("SnippetExpander", 68, "the buffer would be longer than 700 bytes"), ("SnippetExpander", 121, "what is out of range"), ("SnippetExpander", 387, "there is no such snippet"), ("SnippetExpander", 392, "there is no such field"), ("SnippetExpander", 160, "there is no such byte"), ("SnippetExpander", 166, "there is no such level"), ("SnippetExpander", 398, "there is no session"), ("SnippetExpander", 221, "there is no such occurrence"), ("SnippetExpander", 394, "bytes is out of range"), ("SnippetExpander", 345, "the buffer has fewer bytes"), ("SnippetExpander", 373, "there is no act to undo"), ("SnippetExpander", 396, "there is no such saved state"), ("SnippetExpander", 385, "nothing is saved there"), ("SnippetExpanderModel", 234, "snippet"), ("SnippetExpanderModel", 239, "order"), ("SnippetExpanderModel", 223, "numbers"), ("SnippetExpanderModel", 229, "places")]
def zScL : List (Nat × List Int32) := [(0, [115, 110, 105, 112, 112, 101, 116]), (1, [111, 114, 100, 101, 114]), (2, [112, 108, 97, 99, 101, 115]), (3, [110, 117, 109, 98, 101, 114, 115]), (17, [115, 110, 105, 112, 112, 101, 116]), (18, [111, 114, 100, 101, 114]), (19, [110, 117, 109, 98, 101, 114, 115]), (20, [112, 108, 97, 99, 101, 115])]
def zNw : List Cond := [(Jvm.Cond.methodLinkNest "SnippetExpander" (43 : Nat) ({ cls := "SnippetExpander$State", name := "<init>", desc := "()V" } : Jvm.MethodName) "SnippetExpander"), (Jvm.Cond.castable "java/lang/IllegalStateException" "java/lang/IllegalStateException"), (Jvm.Cond.declares ({ cls := "java/lang/RuntimeException", name := "<init>", desc := "()V" } : Jvm.MethodName)), (Jvm.Cond.declares ({ cls := "java/lang/RuntimeException", name := "<init>", desc := "(Ljava/lang/String;)V" } : Jvm.MethodName)), (Jvm.Cond.declares ({ cls := "java/lang/Exception", name := "<init>", desc := "()V" } : Jvm.MethodName)), (Jvm.Cond.declares ({ cls := "java/lang/Exception", name := "<init>", desc := "(Ljava/lang/String;)V" } : Jvm.MethodName)), (Jvm.Cond.declares ({ cls := "java/lang/Throwable", name := "<init>", desc := "()V" } : Jvm.MethodName)), (Jvm.Cond.declares ({ cls := "java/lang/Throwable", name := "<init>", desc := "(Ljava/lang/String;)V" } : Jvm.MethodName)), (Jvm.Cond.castable "java/lang/IllegalArgumentException" "java/lang/IllegalArgumentException"), (Jvm.Cond.castable "java/lang/IndexOutOfBoundsException" "java/lang/IndexOutOfBoundsException"), (Jvm.Cond.castable "java/util/NoSuchElementException" "java/util/NoSuchElementException"), (Jvm.Cond.methodLinkNest "SnippetExpanderModel" (31 : Nat) ({ cls := "SnippetExpanderModel$Library", name := "<init>", desc := "()V" } : Jvm.MethodName) "SnippetExpanderModel"), (Jvm.Cond.fieldLinkNest "SnippetExpanderModel" (82 : Nat) "SnippetExpanderModel$Library" "many" "I" "SnippetExpanderModel"), (Jvm.Cond.fieldLinkNest "SnippetExpanderModel" (231 : Nat) "SnippetExpanderModel$Library" "order" "I" "SnippetExpanderModel"), (Jvm.Cond.fieldLinkNest "SnippetExpanderModel" (139 : Nat) "SnippetExpanderModel$Library" "names" "[I" "SnippetExpanderModel"), (Jvm.Cond.fieldLinkNest "SnippetExpanderModel" (136 : Nat) "SnippetExpanderModel$Library" "lettersOf" "[I" "SnippetExpanderModel"), (Jvm.Cond.fieldLinkNest "SnippetExpanderModel" (217 : Nat) "SnippetExpanderModel$Library" "from" "[I" "SnippetExpanderModel"), (Jvm.Cond.fieldLinkNest "SnippetExpanderModel" (153 : Nat) "SnippetExpanderModel$Library" "items" "[I" "SnippetExpanderModel"), (Jvm.Cond.fieldLinkNest "SnippetExpanderModel" (171 : Nat) "SnippetExpanderModel$Library" "occurrences" "[I" "SnippetExpanderModel"), (Jvm.Cond.fieldLinkNest "SnippetExpanderModel" (162 : Nat) "SnippetExpanderModel$Library" "field" "[I" "SnippetExpanderModel"), (Jvm.Cond.fieldLinkNest "SnippetExpanderModel" (177 : Nat) "SnippetExpanderModel$Library" "change" "[I" "SnippetExpanderModel"), (Jvm.Cond.fieldLinkNest "SnippetExpanderModel" (180 : Nat) "SnippetExpanderModel$Library" "hasDefault" "[Z" "SnippetExpanderModel"), (Jvm.Cond.fieldLinkNest "SnippetExpanderModel" (183 : Nat) "SnippetExpanderModel$Library" "parent" "[I" "SnippetExpanderModel"), (Jvm.Cond.fieldLinkNest "SnippetExpanderModel" (186 : Nat) "SnippetExpanderModel$Library" "at" "[I" "SnippetExpanderModel"), (Jvm.Cond.fieldLinkNest "SnippetExpanderModel" (189 : Nat) "SnippetExpanderModel$Library" "to" "[I" "SnippetExpanderModel"), (Jvm.Cond.fieldLinkNest "SnippetExpanderModel" (192 : Nat) "SnippetExpanderModel$Library" "deep" "[I" "SnippetExpanderModel"), (Jvm.Cond.fieldLinkNest "SnippetExpanderModel" (165 : Nat) "SnippetExpanderModel$Library" "depends" "[I" "SnippetExpanderModel"), (Jvm.Cond.castable "SnippetExpander" "java/lang/Object"), (Jvm.Cond.castable "SnippetExpander$Library" "java/lang/Object"), (Jvm.Cond.castable "SnippetExpander$Snippet" "java/lang/Object"), (Jvm.Cond.castable "SnippetExpander$LibraryReader" "java/lang/Object"), (Jvm.Cond.castable "SnippetExpander$State" "java/lang/Object"), (Jvm.Cond.castable "SnippetExpander$View" "java/lang/Object"), (Jvm.Cond.castable "SnippetExpanderModel" "java/lang/Object"), (Jvm.Cond.castable "SnippetExpanderModel$Library" "java/lang/Object"), (Jvm.Cond.castable "java/lang/IllegalStateException" "java/lang/Object"), (Jvm.Cond.castable "java/lang/IllegalArgumentException" "java/lang/Object"), (Jvm.Cond.castable "java/lang/IndexOutOfBoundsException" "java/lang/Object"), (Jvm.Cond.castable "java/util/NoSuchElementException" "java/lang/Object"), (Jvm.Cond.castable "java/lang/Throwable" "java/lang/Object"), (Jvm.Cond.castable "java/lang/String" "java/lang/Object")]
def zNcL : List (String × String) := [("SnippetExpander", "java/lang/IllegalStateException"), ("SnippetExpander$Library", "java/lang/IllegalStateException"), ("SnippetExpander$Snippet", "java/lang/IllegalStateException"), ("SnippetExpander$LibraryReader", "java/lang/IllegalStateException"), ("SnippetExpander$State", "java/lang/IllegalStateException"), ("SnippetExpander$View", "java/lang/IllegalStateException"), ("SnippetExpanderModel", "java/lang/IllegalStateException"), ("SnippetExpanderModel$Library", "java/lang/IllegalStateException"), ("java/lang/IllegalArgumentException", "java/lang/IllegalStateException"), ("java/lang/IndexOutOfBoundsException", "java/lang/IllegalStateException"), ("java/util/NoSuchElementException", "java/lang/IllegalStateException"), ("SnippetExpander", "java/lang/IllegalArgumentException"), ("SnippetExpander$Library", "java/lang/IllegalArgumentException"), ("SnippetExpander$Snippet", "java/lang/IllegalArgumentException"), ("SnippetExpander$LibraryReader", "java/lang/IllegalArgumentException"), ("SnippetExpander$State", "java/lang/IllegalArgumentException"), ("SnippetExpander$View", "java/lang/IllegalArgumentException"), ("SnippetExpanderModel", "java/lang/IllegalArgumentException"), ("SnippetExpanderModel$Library", "java/lang/IllegalArgumentException"), ("java/lang/IllegalStateException", "java/lang/IllegalArgumentException"), ("java/lang/IndexOutOfBoundsException", "java/lang/IllegalArgumentException"), ("java/util/NoSuchElementException", "java/lang/IllegalArgumentException"), ("SnippetExpander", "java/lang/IndexOutOfBoundsException"), ("SnippetExpander$Library", "java/lang/IndexOutOfBoundsException"), ("SnippetExpander$Snippet", "java/lang/IndexOutOfBoundsException"), ("SnippetExpander$LibraryReader", "java/lang/IndexOutOfBoundsException"), ("SnippetExpander$State", "java/lang/IndexOutOfBoundsException"), ("SnippetExpander$View", "java/lang/IndexOutOfBoundsException"), ("SnippetExpanderModel", "java/lang/IndexOutOfBoundsException"), ("SnippetExpanderModel$Library", "java/lang/IndexOutOfBoundsException"), ("java/lang/IllegalStateException", "java/lang/IndexOutOfBoundsException"), ("java/lang/IllegalArgumentException", "java/lang/IndexOutOfBoundsException"), ("java/util/NoSuchElementException", "java/lang/IndexOutOfBoundsException"), ("SnippetExpander", "java/util/NoSuchElementException"), ("SnippetExpander$Library", "java/util/NoSuchElementException"), ("SnippetExpander$Snippet", "java/util/NoSuchElementException"), ("SnippetExpander$LibraryReader", "java/util/NoSuchElementException"), ("SnippetExpander$State", "java/util/NoSuchElementException"), ("SnippetExpander$View", "java/util/NoSuchElementException"), ("SnippetExpanderModel", "java/util/NoSuchElementException"), ("SnippetExpanderModel$Library", "java/util/NoSuchElementException"), ("java/lang/IllegalStateException", "java/util/NoSuchElementException"), ("java/lang/IllegalArgumentException", "java/util/NoSuchElementException"), ("java/lang/IndexOutOfBoundsException", "java/util/NoSuchElementException"), ("SnippetExpander", "SnippetExpander$State"), ("SnippetExpander$Library", "SnippetExpander$State"), ("SnippetExpander$Snippet", "SnippetExpander$State"), ("SnippetExpander$LibraryReader", "SnippetExpander$State"), ("SnippetExpander$View", "SnippetExpander$State"), ("SnippetExpanderModel", "SnippetExpander$State"), ("SnippetExpanderModel$Library", "SnippetExpander$State"), ("java/lang/IllegalStateException", "SnippetExpander$State"), ("java/lang/IllegalArgumentException", "SnippetExpander$State"), ("java/lang/IndexOutOfBoundsException", "SnippetExpander$State"), ("java/util/NoSuchElementException", "SnippetExpander$State"), ("java/lang/Throwable", "SnippetExpander$State"), ("java/lang/String", "SnippetExpander$State"), ("SnippetExpander", "SnippetExpander$Snippet"), ("SnippetExpander$Library", "SnippetExpander$Snippet"), ("SnippetExpander$LibraryReader", "SnippetExpander$Snippet"), ("SnippetExpander$State", "SnippetExpander$Snippet"), ("SnippetExpander$View", "SnippetExpander$Snippet"), ("SnippetExpanderModel", "SnippetExpander$Snippet"), ("SnippetExpanderModel$Library", "SnippetExpander$Snippet"), ("java/lang/IllegalStateException", "SnippetExpander$Snippet"), ("java/lang/IllegalArgumentException", "SnippetExpander$Snippet"), ("java/lang/IndexOutOfBoundsException", "SnippetExpander$Snippet"), ("java/util/NoSuchElementException", "SnippetExpander$Snippet"), ("java/lang/Throwable", "SnippetExpander$Snippet"), ("java/lang/String", "SnippetExpander$Snippet")]
