def am_R (ci : Nat) : String := match ci with
  | 0 => "WordSlides$Asker"
  | 1 => "WordSlides$Bringing"
  | 2 => "WordSlides$Pack"
  | 3 => "WordSlides$Phrasing"
  | 4 => "WordSlides$Planning"
  | 5 => "WordSlides$Reader"
  | 6 => "WordSlides$Text"
  | 7 => "WordSlides$Threat"
  | 8 => "WordSlides$Undo"
  | 9 => "WordSlides$Valley"
  | 10 => "WordSlides$Words"
  | 11 => "WordSlides"
  | _ => "WordSlidesModel"
def am_N (ci : Nat) : Nat := match ci with
  | 0 => 3
  | 1 => 15
  | 2 => 8
  | 3 => 9
  | 4 => 9
  | 5 => 11
  | 6 => 3
  | 7 => 6
  | 8 => 4
  | 9 => 20
  | 10 => 5
  | 11 => 17
  | _ => 64
def am_T0 : u_T := fun k => match k with
  | 0 => ("WordSlides$Asker", "valley", "LWordSlides$Valley;", true)
  | 1 => ("WordSlides$Asker", "known", "[I", true)
  | _ => ("WordSlides$Asker", "stack", "[I", true)
def am_y0 : Nat → FieldType := fun k => match k with
  | 0 => .object "WordSlides$Valley"
  | 1 => .array .int
  | _ => .array .int
def am_T1 : u_T := fun k => match k with
  | 0 => ("WordSlides$Bringing", "valley", "LWordSlides$Valley;", true)
  | 1 => ("WordSlides$Bringing", "asker", "LWordSlides$Asker;", true)
  | 2 => ("WordSlides$Bringing", "open", "[Z", true)
  | 3 => ("WordSlides$Bringing", "leads", "[Z", true)
  | 4 => ("WordSlides$Bringing", "columnSnow", "[I", true)
  | 5 => ("WordSlides$Bringing", "columnMost", "[I", true)
  | 6 => ("WordSlides$Bringing", "columnsMade", "[I", true)
  | 7 => ("WordSlides$Bringing", "shakes", "[I", true)
  | 8 => ("WordSlides$Bringing", "snow", "[I", true)
  | 9 => ("WordSlides$Bringing", "strain", "[I", true)
  | 10 => ("WordSlides$Bringing", "columns", "[I", true)
  | 11 => ("WordSlides$Bringing", "chosen", "[I", true)
  | 12 => ("WordSlides$Bringing", "options", "I", false)
  | 13 => ("WordSlides$Bringing", "target", "I", false)
  | _ => ("WordSlides$Bringing", "from", "I", false)
def am_y1 : Nat → FieldType := fun k => match k with
  | 0 => .object "WordSlides$Valley"
  | 1 => .object "WordSlides$Asker"
  | 2 => .array .boolean
  | 3 => .array .boolean
  | 4 => .array .int
  | 5 => .array .int
  | 6 => .array .int
  | 7 => .array .int
  | 8 => .array .int
  | 9 => .array .int
  | 10 => .array .int
  | 11 => .array .int
  | 12 => .int
  | 13 => .int
  | _ => .int
def am_T2 : u_T := fun k => match k with
  | 0 => ("WordSlides$Pack", "snow", "[I", true)
  | 1 => ("WordSlides$Pack", "strain", "[I", true)
  | 2 => ("WordSlides$Pack", "parts", "[I", true)
  | 3 => ("WordSlides$Pack", "latest", "[I", true)
  | 4 => ("WordSlides$Pack", "slid", "[I", true)
  | 5 => ("WordSlides$Pack", "day", "I", false)
  | 6 => ("WordSlides$Pack", "harm", "I", false)
  | _ => ("WordSlides$Pack", "down", "I", false)
def am_y2 : Nat → FieldType := fun k => match k with
  | 0 => .array .int
  | 1 => .array .int
  | 2 => .array .int
  | 3 => .array .int
  | 4 => .array .int
  | 5 => .int
  | 6 => .int
  | _ => .int
def am_T3 : u_T := fun k => match k with
  | 0 => ("WordSlides$Phrasing", "valley", "LWordSlides$Valley;", true)
  | 1 => ("WordSlides$Phrasing", "asker", "LWordSlides$Asker;", true)
  | 2 => ("WordSlides$Phrasing", "open", "[Z", true)
  | 3 => ("WordSlides$Phrasing", "shakes", "[I", true)
  | 4 => ("WordSlides$Phrasing", "room", "[I", true)
  | 5 => ("WordSlides$Phrasing", "chosen", "[I", true)
  | 6 => ("WordSlides$Phrasing", "first", "[I", true)
  | 7 => ("WordSlides$Phrasing", "least", "I", false)
  | _ => ("WordSlides$Phrasing", "rows", "I", false)
def am_y3 : Nat → FieldType := fun k => match k with
  | 0 => .object "WordSlides$Valley"
  | 1 => .object "WordSlides$Asker"
  | 2 => .array .boolean
  | 3 => .array .int
  | 4 => .array .int
  | 5 => .array .int
  | 6 => .array .int
  | 7 => .int
  | _ => .int
def am_T4 : u_T := fun k => match k with
  | 0 => ("WordSlides$Planning", "valley", "LWordSlides$Valley;", true)
  | 1 => ("WordSlides$Planning", "asker", "LWordSlides$Asker;", true)
  | 2 => ("WordSlides$Planning", "room", "[I", true)
  | 3 => ("WordSlides$Planning", "open", "[Z", true)
  | 4 => ("WordSlides$Planning", "shakes", "[I", true)
  | 5 => ("WordSlides$Planning", "chosen", "[I", true)
  | 6 => ("WordSlides$Planning", "first", "[I", true)
  | 7 => ("WordSlides$Planning", "days", "I", false)
  | _ => ("WordSlides$Planning", "rows", "I", false)
def am_y4 : Nat → FieldType := fun k => match k with
  | 0 => .object "WordSlides$Valley"
  | 1 => .object "WordSlides$Asker"
  | 2 => .array .int
  | 3 => .array .boolean
  | 4 => .array .int
  | 5 => .array .int
  | 6 => .array .int
  | 7 => .int
  | _ => .int
def am_T5 : u_T := fun k => match k with
  | 0 => ("WordSlides$Reader", "tape", "[B", true)
  | 1 => ("WordSlides$Reader", "tokens", "[I", true)
  | 2 => ("WordSlides$Reader", "places", "[I", true)
  | 3 => ("WordSlides$Reader", "text", "LWordSlides$Text;", true)
  | 4 => ("WordSlides$Reader", "length", "I", false)
  | 5 => ("WordSlides$Reader", "fault", "I", false)
  | 6 => ("WordSlides$Reader", "used", "I", false)
  | 7 => ("WordSlides$Reader", "here", "I", false)
  | 8 => ("WordSlides$Reader", "parts", "I", false)
  | 9 => ("WordSlides$Reader", "brackets", "I", false)
  | _ => ("WordSlides$Reader", "ofLaw", "Z", false)
def am_y5 : Nat → FieldType := fun k => match k with
  | 0 => .array .byte
  | 1 => .array .int
  | 2 => .array .int
  | 3 => .object "WordSlides$Text"
  | 4 => .int
  | 5 => .int
  | 6 => .int
  | 7 => .int
  | 8 => .int
  | 9 => .int
  | _ => .boolean
def am_T6 : u_T := fun k => match k with
  | 0 => ("WordSlides$Text", "rows", "[I", true)
  | 1 => ("WordSlides$Text", "steps", "[I", true)
  | _ => ("WordSlides$Text", "clauses", "I", false)
def am_y6 : Nat → FieldType := fun k => match k with
  | 0 => .array .int
  | 1 => .array .int
  | _ => .int
def am_T7 : u_T := fun k => match k with
  | 0 => ("WordSlides$Threat", "valley", "LWordSlides$Valley;", true)
  | 1 => ("WordSlides$Threat", "asker", "LWordSlides$Asker;", true)
  | 2 => ("WordSlides$Threat", "shakes", "[I", true)
  | 3 => ("WordSlides$Threat", "wins", "[Z", true)
  | 4 => ("WordSlides$Threat", "winning", "I", false)
  | _ => ("WordSlides$Threat", "lowest", "I", false)
def am_y7 : Nat → FieldType := fun k => match k with
  | 0 => .object "WordSlides$Valley"
  | 1 => .object "WordSlides$Asker"
  | 2 => .array .int
  | 3 => .array .boolean
  | 4 => .int
  | _ => .int
def am_T8 : u_T := fun k => match k with
  | 0 => ("WordSlides$Undo", "packs", "[LWordSlides$Pack;", true)
  | 1 => ("WordSlides$Undo", "kinds", "[I", true)
  | 2 => ("WordSlides$Undo", "next", "I", false)
  | _ => ("WordSlides$Undo", "kept", "I", false)
def am_y8 : Nat → FieldType := fun k => match k with
  | 0 => .array (.object "WordSlides$Pack")
  | 1 => .array .int
  | 2 => .int
  | _ => .int
def am_T9 : u_T := fun k => match k with
  | 0 => ("WordSlides$Valley", "pack", "LWordSlides$Pack;", true)
  | 1 => ("WordSlides$Valley", "hold", "[I", true)
  | 2 => ("WordSlides$Valley", "below", "[I", true)
  | 3 => ("WordSlides$Valley", "gorge", "[I", true)
  | 4 => ("WordSlides$Valley", "far", "[I", true)
  | 5 => ("WordSlides$Valley", "words", "LWordSlides$Words;", true)
  | 6 => ("WordSlides$Valley", "saying", "[I", true)
  | 7 => ("WordSlides$Valley", "talkWords", "[I", true)
  | 8 => ("WordSlides$Valley", "talkPlaces", "[I", true)
  | 9 => ("WordSlides$Valley", "talkLouds", "[I", true)
  | 10 => ("WordSlides$Valley", "seenSlopes", "[I", true)
  | 11 => ("WordSlides$Valley", "seenSums", "[I", true)
  | 12 => ("WordSlides$Valley", "seenSlid", "[I", true)
  | 13 => ("WordSlides$Valley", "laws", "[LWordSlides$Text;", true)
  | 14 => ("WordSlides$Valley", "meant", "I", false)
  | 15 => ("WordSlides$Valley", "talkCount", "I", false)
  | 16 => ("WordSlides$Valley", "seenCount", "I", false)
  | 17 => ("WordSlides$Valley", "lawCount", "I", false)
  | 18 => ("WordSlides$Valley", "force", "I", false)
  | _ => ("WordSlides$Valley", "mood", "I", false)
def am_y9 : Nat → FieldType := fun k => match k with
  | 0 => .object "WordSlides$Pack"
  | 1 => .array .int
  | 2 => .array .int
  | 3 => .array .int
  | 4 => .array .int
  | 5 => .object "WordSlides$Words"
  | 6 => .array .int
  | 7 => .array .int
  | 8 => .array .int
  | 9 => .array .int
  | 10 => .array .int
  | 11 => .array .int
  | 12 => .array .int
  | 13 => .array (.object "WordSlides$Text")
  | 14 => .int
  | 15 => .int
  | 16 => .int
  | 17 => .int
  | 18 => .int
  | _ => .int
def am_T10 : u_T := fun k => match k with
  | 0 => ("WordSlides$Words", "longs", "[I", true)
  | 1 => ("WordSlides$Words", "rs", "[I", true)
  | 2 => ("WordSlides$Words", "meanings", "[I", true)
  | 3 => ("WordSlides$Words", "oftens", "[I", true)
  | _ => ("WordSlides$Words", "known", "I", false)
def am_y10 : Nat → FieldType := fun k => match k with
  | 0 => .array .int
  | 1 => .array .int
  | 2 => .array .int
  | 3 => .array .int
  | _ => .int
def am_T11 : u_T := fun k => match k with
  | 0 => ("WordSlides", "valley", "LWordSlides$Valley;", true)
  | 1 => ("WordSlides", "images", "[LWordSlides$Valley;", true)
  | 2 => ("WordSlides", "undone", "LWordSlides$Undo;", true)
  | 3 => ("WordSlides", "reader", "LWordSlides$Reader;", true)
  | 4 => ("WordSlides", "asker", "LWordSlides$Asker;", true)
  | 5 => ("WordSlides", "phrasing", "LWordSlides$Phrasing;", true)
  | 6 => ("WordSlides", "planning", "LWordSlides$Planning;", true)
  | 7 => ("WordSlides", "bringing", "LWordSlides$Bringing;", true)
  | 8 => ("WordSlides", "game", "LWordSlides$Threat;", true)
  | 9 => ("WordSlides", "paper", "LWordSlides$Pack;", true)
  | 10 => ("WordSlides", "latestWinter", "LWordSlides$Pack;", true)
  | 11 => ("WordSlides", "refusals", "[I", true)
  | 12 => ("WordSlides", "weights", "[I", true)
  | 13 => ("WordSlides", "wintered", "Z", false)
  | 14 => ("WordSlides", "murmured", "I", false)
  | 15 => ("WordSlides", "stoppedAt", "I", false)
  | _ => ("WordSlides", "latestRefusal", "I", false)
def am_y11 : Nat → FieldType := fun k => match k with
  | 0 => .object "WordSlides$Valley"
  | 1 => .array (.object "WordSlides$Valley")
  | 2 => .object "WordSlides$Undo"
  | 3 => .object "WordSlides$Reader"
  | 4 => .object "WordSlides$Asker"
  | 5 => .object "WordSlides$Phrasing"
  | 6 => .object "WordSlides$Planning"
  | 7 => .object "WordSlides$Bringing"
  | 8 => .object "WordSlides$Threat"
  | 9 => .object "WordSlides$Pack"
  | 10 => .object "WordSlides$Pack"
  | 11 => .array .int
  | 12 => .array .int
  | 13 => .boolean
  | 14 => .int
  | 15 => .int
  | _ => .int
def am_T12 : u_T := fun k => match k with
  | 0 => ("WordSlidesModel", "thrown", "I", false)
  | 1 => ("WordSlidesModel", "status", "I", false)
  | 2 => ("WordSlidesModel", "refusals", "[I", true)
  | 3 => ("WordSlidesModel", "row", "[I", true)
  | 4 => ("WordSlidesModel", "images", "[I", true)
  | 5 => ("WordSlidesModel", "isKept", "[Z", true)
  | 6 => ("WordSlidesModel", "undos", "[I", true)
  | 7 => ("WordSlidesModel", "sorts", "[I", true)
  | 8 => ("WordSlidesModel", "nUndo", "I", false)
  | 9 => ("WordSlidesModel", "undosBefore", "[I", true)
  | 10 => ("WordSlidesModel", "sortsBefore", "[I", true)
  | 11 => ("WordSlidesModel", "murmur", "I", false)
  | 12 => ("WordSlidesModel", "tape", "[I", true)
  | 13 => ("WordSlidesModel", "taped", "I", false)
  | 14 => ("WordSlidesModel", "from", "I", false)
  | 15 => ("WordSlidesModel", "to", "I", false)
  | 16 => ("WordSlidesModel", "sort", "I", false)
  | 17 => ("WordSlidesModel", "worth", "J", false)
  | 18 => ("WordSlidesModel", "fault", "I", false)
  | 19 => ("WordSlidesModel", "bad", "Z", false)
  | 20 => ("WordSlidesModel", "ordered", "Z", false)
  | 21 => ("WordSlidesModel", "nClauses", "I", false)
  | 22 => ("WordSlidesModel", "nClause", "[I", true)
  | 23 => ("WordSlidesModel", "nCode", "I", false)
  | 24 => ("WordSlidesModel", "nOp", "[I", true)
  | 25 => ("WordSlidesModel", "nArg", "[I", true)
  | 26 => ("WordSlidesModel", "nLeaves", "I", false)
  | 27 => ("WordSlidesModel", "pile", "[I", true)
  | 28 => ("WordSlidesModel", "pileAt", "[I", true)
  | 29 => ("WordSlidesModel", "piled", "I", false)
  | 30 => ("WordSlidesModel", "opened", "I", false)
  | 31 => ("WordSlidesModel", "words", "[J", true)
  | 32 => ("WordSlidesModel", "orderWords", "[J", true)
  | 33 => ("WordSlidesModel", "heads", "[J", true)
  | 34 => ("WordSlidesModel", "law", "I", false)
  | 35 => ("WordSlidesModel", "set", "[J", true)
  | 36 => ("WordSlidesModel", "now", "[J", true)
  | 37 => ("WordSlidesModel", "rest", "[J", true)
  | 38 => ("WordSlidesModel", "broken", "Z", false)
  | 39 => ("WordSlidesModel", "value", "J", false)
  | 40 => ("WordSlidesModel", "sum", "J", false)
  | 41 => ("WordSlidesModel", "shakes", "[I", true)
  | 42 => ("WordSlidesModel", "snows", "[I", true)
  | 43 => ("WordSlidesModel", "shaken", "[I", true)
  | 44 => ("WordSlidesModel", "isOpen", "[Z", true)
  | 45 => ("WordSlidesModel", "saying", "[I", true)
  | 46 => ("WordSlidesModel", "firstSaying", "[I", true)
  | 47 => ("WordSlidesModel", "leastLong", "I", false)
  | 48 => ("WordSlidesModel", "sayings", "I", false)
  | 49 => ("WordSlidesModel", "dayOf", "[I", true)
  | 50 => ("WordSlidesModel", "firstDays", "[I", true)
  | 51 => ("WordSlidesModel", "bringing", "[I", true)
  | 52 => ("WordSlidesModel", "wins", "[Z", true)
  | 53 => ("WordSlidesModel", "shakeOf", "[I", true)
  | 54 => ("WordSlidesModel", "joined", "[I", true)
  | 55 => ("WordSlidesModel", "nTold", "[I", true)
  | 56 => ("WordSlidesModel", "done", "I", false)
  | 57 => ("WordSlidesModel", "slid", "I", false)
  | 58 => ("WordSlidesModel", "harmBefore", "I", false)
  | 59 => ("WordSlidesModel", "stopped", "I", false)
  | 60 => ("WordSlidesModel", "off", "Z", false)
  | 61 => ("WordSlidesModel", "state", "J", false)
  | 62 => ("WordSlidesModel", "drawn", "[I", true)
  | _ => ("WordSlidesModel", "isWinter", "Z", false)
def am_y12 : Nat → FieldType := fun k => match k with
  | 0 => .int
  | 1 => .int
  | 2 => .array .int
  | 3 => .array .int
  | 4 => .array .int
  | 5 => .array .boolean
  | 6 => .array .int
  | 7 => .array .int
  | 8 => .int
  | 9 => .array .int
  | 10 => .array .int
  | 11 => .int
  | 12 => .array .int
  | 13 => .int
  | 14 => .int
  | 15 => .int
  | 16 => .int
  | 17 => .long
  | 18 => .int
  | 19 => .boolean
  | 20 => .boolean
  | 21 => .int
  | 22 => .array .int
  | 23 => .int
  | 24 => .array .int
  | 25 => .array .int
  | 26 => .int
  | 27 => .array .int
  | 28 => .array .int
  | 29 => .int
  | 30 => .int
  | 31 => .array .long
  | 32 => .array .long
  | 33 => .array .long
  | 34 => .int
  | 35 => .array .long
  | 36 => .array .long
  | 37 => .array .long
  | 38 => .boolean
  | 39 => .long
  | 40 => .long
  | 41 => .array .int
  | 42 => .array .int
  | 43 => .array .int
  | 44 => .array .boolean
  | 45 => .array .int
  | 46 => .array .int
  | 47 => .int
  | 48 => .int
  | 49 => .array .int
  | 50 => .array .int
  | 51 => .array .int
  | 52 => .array .boolean
  | 53 => .array .int
  | 54 => .array .int
  | 55 => .array .int
  | 56 => .int
  | 57 => .int
  | 58 => .int
  | 59 => .int
  | 60 => .boolean
  | 61 => .long
  | 62 => .array .int
  | _ => .boolean
def am_T (ci : Nat) : u_T := match ci with
  | 0 => am_T0
  | 1 => am_T1
  | 2 => am_T2
  | 3 => am_T3
  | 4 => am_T4
  | 5 => am_T5
  | 6 => am_T6
  | 7 => am_T7
  | 8 => am_T8
  | 9 => am_T9
  | 10 => am_T10
  | 11 => am_T11
  | _ => am_T12
def am_ty (ci : Nat) : Nat → FieldType := match ci with
  | 0 => am_y0
  | 1 => am_y1
  | 2 => am_y2
  | 3 => am_y3
  | 4 => am_y4
  | 5 => am_y5
  | 6 => am_y6
  | 7 => am_y7
  | 8 => am_y8
  | 9 => am_y9
  | 10 => am_y10
  | 11 => am_y11
  | _ => am_y12
def am_cl : List vw_C := (List.range 13).map fun ci => (am_R ci, am_T ci, am_N ci)
theorem am_cl_at {ci : Nat} (h : ci < 13) : am_cl[ci]? = some (am_R ci, am_T ci, am_N ci) := by simp [am_cl, List.getElem?_map, List.getElem?_range h]
def am_W : List Cond := lw_tbl.filter goodWord
theorem am_W_good : am_W.all goodWord = true := by simp [am_W]
theorem am_W_in {w : Cond} (h : w ∈ am_W) : w ∈ lw_tbl := (List.mem_filter.mp h).1
theorem am_nm : ∀ ci, ci < 13 → ∀ a, a < am_N ci → ∀ b, b < am_N ci → a ≠ b → (am_T ci a).2.1 ≠ (am_T ci b).2.1 := by decide +kernel
theorem am_tyok : ∀ ci, ci < 13 → ∀ k, k < am_N ci → parseFieldDescriptor (am_T ci k).2.2.1 = some (am_ty ci k) := by decide +kernel
theorem am_own : ∀ ci, ci < 13 → ∀ k, k < am_N ci → (am_T ci k).1 = am_R ci := by decide +kernel
theorem am_win0 : ∀ w ∈ u_ws (am_R 0) (am_T 0) (am_N 0), w ∈ lw_tbl ∧ goodWord w = true := by decide +kernel
theorem am_win1 : ∀ w ∈ u_ws (am_R 1) (am_T 1) (am_N 1), w ∈ lw_tbl ∧ goodWord w = true := by decide +kernel
theorem am_win2 : ∀ w ∈ u_ws (am_R 2) (am_T 2) (am_N 2), w ∈ lw_tbl ∧ goodWord w = true := by decide +kernel
theorem am_win3 : ∀ w ∈ u_ws (am_R 3) (am_T 3) (am_N 3), w ∈ lw_tbl ∧ goodWord w = true := by decide +kernel
theorem am_win4 : ∀ w ∈ u_ws (am_R 4) (am_T 4) (am_N 4), w ∈ lw_tbl ∧ goodWord w = true := by decide +kernel
theorem am_win5 : ∀ w ∈ u_ws (am_R 5) (am_T 5) (am_N 5), w ∈ lw_tbl ∧ goodWord w = true := by decide +kernel
theorem am_win6 : ∀ w ∈ u_ws (am_R 6) (am_T 6) (am_N 6), w ∈ lw_tbl ∧ goodWord w = true := by decide +kernel
theorem am_win7 : ∀ w ∈ u_ws (am_R 7) (am_T 7) (am_N 7), w ∈ lw_tbl ∧ goodWord w = true := by decide +kernel
theorem am_win8 : ∀ w ∈ u_ws (am_R 8) (am_T 8) (am_N 8), w ∈ lw_tbl ∧ goodWord w = true := by decide +kernel
theorem am_win9 : ∀ w ∈ u_ws (am_R 9) (am_T 9) (am_N 9), w ∈ lw_tbl ∧ goodWord w = true := by decide +kernel
theorem am_win10 : ∀ w ∈ u_ws (am_R 10) (am_T 10) (am_N 10), w ∈ lw_tbl ∧ goodWord w = true := by decide +kernel
theorem am_win11 : ∀ w ∈ u_ws (am_R 11) (am_T 11) (am_N 11), w ∈ lw_tbl ∧ goodWord w = true := by decide +kernel
theorem am_win12 : ∀ w ∈ u_ws (am_R 12) (am_T 12) (am_N 12), w ∈ lw_tbl ∧ goodWord w = true := by decide +kernel
theorem am_win (ci : Nat) (h : ci < 13) : ∀ w ∈ u_ws (am_R ci) (am_T ci) (am_N ci), w ∈ am_W := by
  intro w hw
  refine List.mem_filter.mpr ?_
  match ci, h with
  | 0, _ => exact am_win0 w hw
  | 1, _ => exact am_win1 w hw
  | 2, _ => exact am_win2 w hw
  | 3, _ => exact am_win3 w hw
  | 4, _ => exact am_win4 w hw
  | 5, _ => exact am_win5 w hw
  | 6, _ => exact am_win6 w hw
  | 7, _ => exact am_win7 w hw
  | 8, _ => exact am_win8 w hw
  | 9, _ => exact am_win9 w hw
  | 10, _ => exact am_win10 w hw
  | 11, _ => exact am_win11 w hw
  | 12, _ => exact am_win12 w hw
theorem am_inst : ∀ ci, ci < 13 → Cond.instantiable (am_R ci) (am_N ci) ∈ lw_tbl ∧ goodWord (Cond.instantiable (am_R ci) (am_N ci)) = true := by decide +kernel
theorem am_init : ∀ ci, ci < 13 → Cond.initialized (am_R ci) ∈ lw_tbl ∧ goodWord (Cond.initialized (am_R ci)) = true := by decide +kernel
def am_sk : Nat := 91
def am_stx : String := "shakes falls thaws bars say dawn if or and not at times loud word long r place far slope mood snow day words done slid harm strain"
def am_sln : Nat := 130
def am_sby : List Int32 := [115, 104, 97, 107, 101, 115, 32, 102, 97, 108, 108, 115, 32, 116, 104, 97, 119, 115, 32, 98, 97, 114, 115, 32, 115, 97, 121, 32, 100, 97, 119, 110, 32, 105, 102, 32, 111, 114, 32, 97, 110, 100, 32, 110, 111, 116, 32, 97, 116, 32, 116, 105, 109, 101, 115, 32, 108, 111, 117, 100, 32, 119, 111, 114, 100, 32, 108, 111, 110, 103, 32, 114, 32, 112, 108, 97, 99, 101, 32, 102, 97, 114, 32, 115, 108, 111, 112, 101, 32, 109, 111, 111, 100, 32, 115, 110, 111, 119, 32, 100, 97, 121, 32, 119, 111, 114, 100, 115, 32, 100, 111, 110, 101, 32, 115, 108, 105, 100, 32, 104, 97, 114, 109, 32, 115, 116, 114, 97, 105, 110]
