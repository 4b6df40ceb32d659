/-! the classes, by number; their fields in the order of the tables' words -/
def F_W : u_T := fun k => match k with
  | 0 => ("WorldEngine", "lexer", "LWorldEngine$Lexer;", true)
  | 1 => ("WorldEngine", "reader", "LWorldEngine$Reader;", true)
  | 2 => ("WorldEngine", "play", "LWorldEngine$Play;", true)
  | 3 => ("WorldEngine", "store", "LWorldEngine$Store;", true)
  | 4 => ("WorldEngine", "program", "LWorldEngine$Program;", false)
  | 5 => ("WorldEngine", "spare", "LWorldEngine$Program;", false)
  | 6 => ("WorldEngine", "hasText", "Z", false)
  | 7 => ("WorldEngine", "up", "I", false)
  | _ => ("WorldEngine", "falling", "I", false)
def F_Lexer : u_T := fun k => match k with
  | 0 => ("WorldEngine$Lexer", "tape", "[B", true)
  | 1 => ("WorldEngine$Lexer", "length", "I", false)
  | 2 => ("WorldEngine$Lexer", "token", "I", false)
  | 3 => ("WorldEngine$Lexer", "place", "I", false)
  | 4 => ("WorldEngine$Lexer", "faultKind", "I", false)
  | 5 => ("WorldEngine$Lexer", "faultPlace", "I", false)
  | 6 => ("WorldEngine$Lexer", "kinds", "[I", true)
  | 7 => ("WorldEngine$Lexer", "places", "[I", true)
  | 8 => ("WorldEngine$Lexer", "values", "[I", true)
  | 9 => ("WorldEngine$Lexer", "over", "[Z", true)
  | 10 => ("WorldEngine$Lexer", "count", "I", false)
  | 11 => ("WorldEngine$Lexer", "at", "I", false)
  | _ => ("WorldEngine$Lexer", "starts", "[I", true)
def F_Named : u_T := fun k => match k with
  | 0 => ("WorldEngine$Named", "name", "Ljava/lang/String;", false)
  | 1 => ("WorldEngine$Named", "sort", "I", false)
  | 2 => ("WorldEngine$Named", "number", "I", false)
  | _ => ("WorldEngine$Named", "kind", "I", false)
def F_Shapes : u_T := fun k => match k with
  | 0 => ("WorldEngine$Shapes", "heads", "[LWorldEngine$Named;", true)
  | 1 => ("WorldEngine$Shapes", "members", "[LWorldEngine$Named;", true)
  | 2 => ("WorldEngine$Shapes", "first", "[I", true)
  | _ => ("WorldEngine$Shapes", "count", "I", false)
def F_Program : u_T := fun k => match k with
  | 0 => ("WorldEngine$Program", "known", "[LWorldEngine$Named;", true)
  | 1 => ("WorldEngine$Program", "knownCount", "I", false)
  | 2 => ("WorldEngine$Program", "components", "LWorldEngine$Shapes;", true)
  | 3 => ("WorldEngine$Program", "events", "LWorldEngine$Shapes;", true)
  | 4 => ("WorldEngine$Program", "prefabCount", "I", false)
  | 5 => ("WorldEngine$Program", "prefabParts", "[I", true)
  | 6 => ("WorldEngine$Program", "prefabValues", "[I", true)
  | 7 => ("WorldEngine$Program", "systemCount", "I", false)
  | 8 => ("WorldEngine$Program", "after", "[I", true)
  | 9 => ("WorldEngine$Program", "each", "[I", true)
  | 10 => ("WorldEngine$Program", "without", "[I", true)
  | 11 => ("WorldEngine$Program", "writes", "[I", true)
  | 12 => ("WorldEngine$Program", "reads", "[I", true)
  | 13 => ("WorldEngine$Program", "start", "[I", true)
  | 14 => ("WorldEngine$Program", "group", "[I", true)
  | 15 => ("WorldEngine$Program", "groupCount", "I", false)
  | 16 => ("WorldEngine$Program", "code", "[I", true)
  | _ => ("WorldEngine$Program", "codeSize", "I", false)
def F_Reader : u_T := fun k => match k with
  | 0 => ("WorldEngine$Reader", "lexer", "LWorldEngine$Lexer;", true)
  | 1 => ("WorldEngine$Reader", "body", "LWorldEngine$Body;", true)
  | _ => ("WorldEngine$Reader", "program", "LWorldEngine$Program;", false)
def F_Body : u_T := fun k => match k with
  | 0 => ("WorldEngine$Body", "lexer", "LWorldEngine$Lexer;", true)
  | 1 => ("WorldEngine$Body", "program", "LWorldEngine$Program;", false)
  | 2 => ("WorldEngine$Body", "system", "I", false)
  | 3 => ("WorldEngine$Body", "localCount", "I", false)
  | 4 => ("WorldEngine$Body", "heard", "[I", true)
  | 5 => ("WorldEngine$Body", "loopCount", "I", false)
  | _ => ("WorldEngine$Body", "depth", "I", false)
def F_World : u_T := fun k => match k with
  | 0 => ("WorldEngine$World", "tick", "I", false)
  | 1 => ("WorldEngine$World", "seed", "I", false)
  | 2 => ("WorldEngine$World", "fails", "I", false)
  | 3 => ("WorldEngine$World", "passed", "I", false)
  | 4 => ("WorldEngine$World", "failSystem", "I", false)
  | 5 => ("WorldEngine$World", "failEntity", "I", false)
  | 6 => ("WorldEngine$World", "failWhy", "I", false)
  | 7 => ("WorldEngine$World", "generation", "[I", true)
  | 8 => ("WorldEngine$World", "parts", "[I", true)
  | 9 => ("WorldEngine$World", "top", "I", false)
  | 10 => ("WorldEngine$World", "width", "I", false)
  | 11 => ("WorldEngine$World", "values", "[I", true)
  | 12 => ("WorldEngine$World", "pending", "[I", true)
  | 13 => ("WorldEngine$World", "pendingCount", "I", false)
  | 14 => ("WorldEngine$World", "shown", "[I", true)
  | _ => ("WorldEngine$World", "shownCount", "I", false)
def F_Row : u_T := fun k => match k with
  | 0 => ("WorldEngine$Row", "list", "[I", false)
  | 1 => ("WorldEngine$Row", "listed", "I", false)
  | 2 => ("WorldEngine$Row", "program", "LWorldEngine$Program;", false)
  | 3 => ("WorldEngine$Row", "world", "LWorldEngine$World;", false)
  | 4 => ("WorldEngine$Row", "inputs", "[I", false)
  | 5 => ("WorldEngine$Row", "stack", "[I", true)
  | 6 => ("WorldEngine$Row", "height", "I", false)
  | 7 => ("WorldEngine$Row", "locals", "[I", true)
  | 8 => ("WorldEngine$Row", "cursor", "[I", true)
  | 9 => ("WorldEngine$Row", "radius", "[I", true)
  | 10 => ("WorldEngine$Row", "order", "[I", true)
  | 11 => ("WorldEngine$Row", "before", "[I", true)
  | 12 => ("WorldEngine$Row", "at", "I", false)
  | 13 => ("WorldEngine$Row", "steps", "I", false)
  | 14 => ("WorldEngine$Row", "draws", "I", false)
  | 15 => ("WorldEngine$Row", "made", "I", false)
  | 16 => ("WorldEngine$Row", "why", "I", false)
  | 17 => ("WorldEngine$Row", "system", "I", false)
  | _ => ("WorldEngine$Row", "place", "I", false)
def F_Ticker : u_T := fun k => match k with
  | 0 => ("WorldEngine$Ticker", "row", "LWorldEngine$Row;", true)
  | 1 => ("WorldEngine$Ticker", "program", "LWorldEngine$Program;", false)
  | _ => ("WorldEngine$Ticker", "world", "LWorldEngine$World;", false)
def F_Play : u_T := fun k => match k with
  | 0 => ("WorldEngine$Play", "now", "LWorldEngine$World;", true)
  | 1 => ("WorldEngine$Play", "confirmed", "I", false)
  | 2 => ("WorldEngine$Play", "on", "I", false)
  | 3 => ("WorldEngine$Play", "again", "I", false)
  | 4 => ("WorldEngine$Play", "told", "[I", true)
  | 5 => ("WorldEngine$Play", "toldCount", "I", false)
  | 6 => ("WorldEngine$Play", "behind", "[LWorldEngine$World;", true)
  | 7 => ("WorldEngine$Play", "ticker", "LWorldEngine$Ticker;", true)
  | 8 => ("WorldEngine$Play", "came", "[Z", true)
  | 9 => ("WorldEngine$Play", "bits", "[I", true)
  | 10 => ("WorldEngine$Play", "last", "[I", true)
  | 11 => ("WorldEngine$Play", "players", "[I", true)
  | 12 => ("WorldEngine$Play", "ranWith", "[I", true)
  | _ => ("WorldEngine$Play", "inputs", "[I", true)
def F_Store : u_T := fun k => match k with
  | 0 => ("WorldEngine$Store", "out", "[B", true)
  | 1 => ("WorldEngine$Store", "length", "I", false)
  | 2 => ("WorldEngine$Store", "wrongAt", "I", false)
  | 3 => ("WorldEngine$Store", "keeping", "Z", false)
  | 4 => ("WorldEngine$Store", "hash", "I", false)
  | _ => ("WorldEngine$Store", "cursor", "I", false)
def F_M : u_T := fun k => match k with
  | 0 => ("WorldEngineModel", "thrown", "I", false)
  | 1 => ("WorldEngineModel", "tape", "[B", true)
  | 2 => ("WorldEngineModel", "taped", "I", false)
  | 3 => ("WorldEngineModel", "text", "LWorldEngineModel$Text;", false)
  | 4 => ("WorldEngineModel", "other", "LWorldEngineModel$Text;", false)
  | 5 => ("WorldEngineModel", "has", "Z", false)
  | 6 => ("WorldEngineModel", "faultKind", "I", false)
  | 7 => ("WorldEngineModel", "faultPlace", "I", false)
  | 8 => ("WorldEngineModel", "sure", "LWorldEngineModel$World;", false)
  | 9 => ("WorldEngineModel", "now", "LWorldEngineModel$World;", false)
  | 10 => ("WorldEngineModel", "made", "LWorldEngineModel$World;", false)
  | 11 => ("WorldEngineModel", "runner", "LWorldEngineModel$Runner;", true)
  | 12 => ("WorldEngineModel", "on", "I", false)
  | 13 => ("WorldEngineModel", "again", "I", false)
  | 14 => ("WorldEngineModel", "came", "[I", true)
  | 15 => ("WorldEngineModel", "isCome", "[Z", true)
  | 16 => ("WorldEngineModel", "seated", "[I", true)
  | 17 => ("WorldEngineModel", "last", "[I", true)
  | 18 => ("WorldEngineModel", "bits", "[I", true)
  | 19 => ("WorldEngineModel", "told", "[I", true)
  | 20 => ("WorldEngineModel", "tellings", "I", false)
  | 21 => ("WorldEngineModel", "out", "[B", true)
  | 22 => ("WorldEngineModel", "outSize", "I", false)
  | 23 => ("WorldEngineModel", "sum", "I", false)
  | 24 => ("WorldEngineModel", "counts", "Z", false)
  | 25 => ("WorldEngineModel", "up", "[Z", true)
  | 26 => ("WorldEngineModel", "falls", "[Z", true)
  | 27 => ("WorldEngineModel", "at", "I", false)
  | _ => ("WorldEngineModel", "wrong", "I", false)
def F_MWorld : u_T := fun k => match k with
  | 0 => ("WorldEngineModel$World", "tick", "I", false)
  | 1 => ("WorldEngineModel$World", "seed", "I", false)
  | 2 => ("WorldEngineModel$World", "fails", "I", false)
  | 3 => ("WorldEngineModel$World", "passed", "I", false)
  | 4 => ("WorldEngineModel$World", "generation", "[I", true)
  | 5 => ("WorldEngineModel$World", "alive", "[Z", true)
  | 6 => ("WorldEngineModel$World", "bits", "[I", true)
  | 7 => ("WorldEngineModel$World", "value", "[I", true)
  | 8 => ("WorldEngineModel$World", "pendings", "I", false)
  | 9 => ("WorldEngineModel$World", "event", "[I", true)
  | 10 => ("WorldEngineModel$World", "due", "[I", true)
  | 11 => ("WorldEngineModel$World", "target", "[I", true)
  | 12 => ("WorldEngineModel$World", "brings", "[I", true)
  | 13 => ("WorldEngineModel$World", "failSystem", "I", false)
  | 14 => ("WorldEngineModel$World", "failEntity", "I", false)
  | 15 => ("WorldEngineModel$World", "failWhy", "I", false)
  | 16 => ("WorldEngineModel$World", "shows", "I", false)
  | _ => ("WorldEngineModel$World", "shown", "[I", true)
def F_MText : u_T := fun k => match k with
  | 0 => ("WorldEngineModel$Text", "letters", "[B", true)
  | 1 => ("WorldEngineModel$Text", "size", "I", false)
  | 2 => ("WorldEngineModel$Text", "tokens", "I", false)
  | 3 => ("WorldEngineModel$Text", "type", "[I", true)
  | 4 => ("WorldEngineModel$Text", "from", "[I", true)
  | 5 => ("WorldEngineModel$Text", "many", "[I", true)
  | 6 => ("WorldEngineModel$Text", "number", "[I", true)
  | 7 => ("WorldEngineModel$Text", "isGreat", "[Z", true)
  | 8 => ("WorldEngineModel$Text", "mean", "[I", true)
  | 9 => ("WorldEngineModel$Text", "fault", "I", false)
  | 10 => ("WorldEngineModel$Text", "place", "I", false)
  | 11 => ("WorldEngineModel$Text", "at", "I", false)
  | 12 => ("WorldEngineModel$Text", "things", "I", false)
  | 13 => ("WorldEngineModel$Text", "thingToken", "[I", true)
  | 14 => ("WorldEngineModel$Text", "thingSort", "[I", true)
  | 15 => ("WorldEngineModel$Text", "thingNumber", "[I", true)
  | 16 => ("WorldEngineModel$Text", "components", "I", false)
  | 17 => ("WorldEngineModel$Text", "componentToken", "[I", true)
  | 18 => ("WorldEngineModel$Text", "memberFrom", "[I", true)
  | 19 => ("WorldEngineModel$Text", "memberKind", "[I", true)
  | 20 => ("WorldEngineModel$Text", "memberToken", "[I", true)
  | 21 => ("WorldEngineModel$Text", "events", "I", false)
  | 22 => ("WorldEngineModel$Text", "eventToken", "[I", true)
  | 23 => ("WorldEngineModel$Text", "eventSize", "[I", true)
  | 24 => ("WorldEngineModel$Text", "eventKind", "[I", true)
  | 25 => ("WorldEngineModel$Text", "eventMember", "[I", true)
  | 26 => ("WorldEngineModel$Text", "prefabs", "I", false)
  | 27 => ("WorldEngineModel$Text", "prefabBits", "[I", true)
  | 28 => ("WorldEngineModel$Text", "prefabValue", "[I", true)
  | 29 => ("WorldEngineModel$Text", "systems", "I", false)
  | 30 => ("WorldEngineModel$Text", "each", "[I", true)
  | 31 => ("WorldEngineModel$Text", "without", "[I", true)
  | 32 => ("WorldEngineModel$Text", "writes", "[I", true)
  | 33 => ("WorldEngineModel$Text", "reads", "[I", true)
  | 34 => ("WorldEngineModel$Text", "after", "[I", true)
  | 35 => ("WorldEngineModel$Text", "body", "[I", true)
  | 36 => ("WorldEngineModel$Text", "group", "[I", true)
  | 37 => ("WorldEngineModel$Text", "locals", "I", false)
  | 38 => ("WorldEngineModel$Text", "localToken", "[I", true)
  | 39 => ("WorldEngineModel$Text", "localKind", "[I", true)
  | 40 => ("WorldEngineModel$Text", "isFixed", "[Z", true)
  | 41 => ("WorldEngineModel$Text", "deep", "I", false)
  | _ => ("WorldEngineModel$Text", "heard", "I", false)
def F_MRunner : u_T := fun k => match k with
  | 0 => ("WorldEngineModel$Runner", "text", "LWorldEngineModel$Text;", false)
  | 1 => ("WorldEngineModel$Runner", "w", "LWorldEngineModel$World;", false)
  | 2 => ("WorldEngineModel$Runner", "inputs", "[I", false)
  | 3 => ("WorldEngineModel$Runner", "command", "[I", true)
  | 4 => ("WorldEngineModel$Runner", "commands", "I", false)
  | 5 => ("WorldEngineModel$Runner", "system", "I", false)
  | 6 => ("WorldEngineModel$Runner", "self", "I", false)
  | 7 => ("WorldEngineModel$Runner", "begun", "I", false)
  | 8 => ("WorldEngineModel$Runner", "steps", "I", false)
  | 9 => ("WorldEngineModel$Runner", "draws", "I", false)
  | 10 => ("WorldEngineModel$Runner", "why", "I", false)
  | 11 => ("WorldEngineModel$Runner", "at", "I", false)
  | 12 => ("WorldEngineModel$Runner", "idle", "I", false)
  | 13 => ("WorldEngineModel$Runner", "own", "[I", true)
  | 14 => ("WorldEngineModel$Runner", "local", "[I", true)
  | _ => ("WorldEngineModel$Runner", "heard", "[I", true)
def F_Str : u_T := fun k => match k with
  | 0 => ("java/lang/String", "value", "[B", true)
  | 1 => ("java/lang/String", "coder", "B", true)
  | 2 => ("java/lang/String", "hash", "I", false)
  | _ => ("java/lang/String", "hashIsZero", "Z", false)
def ab_cl : List vw_C := [("WorldEngine", F_W, 9), ("WorldEngine$Lexer", F_Lexer, 13), ("WorldEngine$Named", F_Named, 4), ("WorldEngine$Shapes", F_Shapes, 4), ("WorldEngine$Program", F_Program, 18), ("WorldEngine$Reader", F_Reader, 3), ("WorldEngine$Body", F_Body, 7), ("WorldEngine$World", F_World, 16), ("WorldEngine$Row", F_Row, 19), ("WorldEngine$Ticker", F_Ticker, 3), ("WorldEngine$Play", F_Play, 14), ("WorldEngine$Store", F_Store, 6), ("WorldEngineModel", F_M, 29), ("WorldEngineModel$World", F_MWorld, 18), ("WorldEngineModel$Text", F_MText, 43), ("WorldEngineModel$Runner", F_MRunner, 16), ("java/lang/String", F_Str, 4), ("java/lang/IllegalStateException", F_Str, 0), ("java/util/NoSuchElementException", F_Str, 0)]
/-- kinds of the arrays that are made -/
def ab_tyl : List FieldType := [.int, .byte, .boolean, .char, .long, .object "WorldEngine$World", .object "WorldEngine$Named"]
/-- the words that stay -/
def ab_gw (w : Cond) : Bool := goodWord w || match w with
  | .fieldLinkNest .. => true
  | .methodLinkNest .. => true
  | .declares _ => true
  | .castable .. => true
  | .arrayOver (.object _) => true
  | _ => false
theorem ab_warm0 {s U : State} {args a1 : Array Value} (hW : s.WarmedH U.vm) {w : Cond} (hg : ab_gw w = true) (h : w.before args s = true) : w.before a1 U = true := by
  by_cases hq : goodWord w = true
  · exact word_at hW (good_of_word hq) h
  · unfold ab_gw at hg
    rw [Bool.eq_false_iff.mpr hq, Bool.false_or] at hg
    cases w with
    | fieldLinkNest a i b n d q => exact va_Nw.use rfl (va_Nw.warmF hW (va_Nw.of rfl h))
    | methodLinkNest a i x q => exact va_Nw.use rfl (va_Nw.warmM hW (va_Nw.of rfl h))
    | declares x => exact va_Nw.use rfl (va_Nw.warmD hW (va_Nw.of rfl h))
    | castable a b => exact va_Nw.use rfl (va_Nw.warmC hW (va_Nw.of rfl h))
    | arrayOver t =>
      cases t with
      | object C => exact va_AO.use (va_AO.moved hW.alike (va_AO.of h))
      | _ => cases hg
    | _ => cases hg
def ab_T : List Cond := lw_tbl.filter ab_gw
theorem ab_i1 {w : Cond} (h : w ∈ tables_1_1) : w ∈ tables_1 := List.mem_append_left _ h
theorem ab_i2 {w : Cond} (h : w ∈ tables_1_2) : w ∈ tables_1 := List.mem_append_right _ (List.mem_append_left _ h)
theorem ab_i3 {w : Cond} (h : w ∈ tables_1_3) : w ∈ tables_1 := List.mem_append_right _ (List.mem_append_right _ (List.mem_append_left _ h))
theorem ab_i4 {w : Cond} (h : w ∈ tables_1_4) : w ∈ tables_1 := List.mem_append_right _ (List.mem_append_right _ (List.mem_append_right _ (List.mem_append_left _ h)))
theorem ab_i5 {w : Cond} (h : w ∈ tables_1_5) : w ∈ tables_1 := List.mem_append_right _ (List.mem_append_right _ (List.mem_append_right _ (List.mem_append_right _ (List.mem_append_left _ h))))
theorem ab_i6 {w : Cond} (h : w ∈ tables_1_6) : w ∈ tables_1 := List.mem_append_right _ (List.mem_append_right _ (List.mem_append_right _ (List.mem_append_right _ (List.mem_append_right _ (List.mem_append_left _ h)))))
theorem ab_i7 {w : Cond} (h : w ∈ tables_1_7) : w ∈ tables_1 := List.mem_append_right _ (List.mem_append_right _ (List.mem_append_right _ (List.mem_append_right _ (List.mem_append_right _ (List.mem_append_right _ (List.mem_append_left _ h))))))
theorem ab_i8 {w : Cond} (h : w ∈ tables_1_8) : w ∈ tables_1 := List.mem_append_right _ (List.mem_append_right _ (List.mem_append_right _ (List.mem_append_right _ (List.mem_append_right _ (List.mem_append_right _ (List.mem_append_right _ (List.mem_append_left _ h)))))))
theorem ab_i9 {w : Cond} (h : w ∈ tables_1_9) : w ∈ tables_1 := List.mem_append_right _ (List.mem_append_right _ (List.mem_append_right _ (List.mem_append_right _ (List.mem_append_right _ (List.mem_append_right _ (List.mem_append_right _ (List.mem_append_right _ (List.mem_append_left _ h))))))))
theorem ab_i10 {w : Cond} (h : w ∈ tables_1_10) : w ∈ tables_1 := List.mem_append_right _ (List.mem_append_right _ (List.mem_append_right _ (List.mem_append_right _ (List.mem_append_right _ (List.mem_append_right _ (List.mem_append_right _ (List.mem_append_right _ (List.mem_append_right _ (List.mem_append_left _ h)))))))))
theorem ab_i11 {w : Cond} (h : w ∈ tables_1_11) : w ∈ tables_1 := List.mem_append_right _ (List.mem_append_right _ (List.mem_append_right _ (List.mem_append_right _ (List.mem_append_right _ (List.mem_append_right _ (List.mem_append_right _ (List.mem_append_right _ (List.mem_append_right _ (List.mem_append_right _ (List.mem_append_left _ h))))))))))
theorem ab_i12 {w : Cond} (h : w ∈ tables_1_12) : w ∈ tables_1 := List.mem_append_right _ (List.mem_append_right _ (List.mem_append_right _ (List.mem_append_right _ (List.mem_append_right _ (List.mem_append_right _ (List.mem_append_right _ (List.mem_append_right _ (List.mem_append_right _ (List.mem_append_right _ (List.mem_append_right _ (List.mem_append_left _ h)))))))))))
theorem ab_i13 {w : Cond} (h : w ∈ tables_1_13) : w ∈ tables_1 := List.mem_append_right _ (List.mem_append_right _ (List.mem_append_right _ (List.mem_append_right _ (List.mem_append_right _ (List.mem_append_right _ (List.mem_append_right _ (List.mem_append_right _ (List.mem_append_right _ (List.mem_append_right _ (List.mem_append_right _ (List.mem_append_right _ (h))))))))))))
theorem ab_m {w : Cond} (h : w ∈ tables_1) (hg : ab_gw w = true) : w ∈ ab_T := List.mem_filter.mpr ⟨List.mem_append_right _ h, hg⟩
theorem ab_s {w : Cond} (h : w ∈ k2_sels lw_privs) (hg : ab_gw w = true) : w ∈ ab_T := List.mem_filter.mpr ⟨List.mem_append_left _ h, hg⟩
theorem k1 {w : Cond} (j : Nat) (h : tables_1_1[j]? = some w) (hg : ab_gw w = true) : w ∈ ab_T := ab_m (ab_i1 (List.mem_of_getElem? h)) hg
theorem k2 {w : Cond} (j : Nat) (h : tables_1_2[j]? = some w) (hg : ab_gw w = true) : w ∈ ab_T := ab_m (ab_i2 (List.mem_of_getElem? h)) hg
theorem k3 {w : Cond} (j : Nat) (h : tables_1_3[j]? = some w) (hg : ab_gw w = true) : w ∈ ab_T := ab_m (ab_i3 (List.mem_of_getElem? h)) hg
theorem k4 {w : Cond} (j : Nat) (h : tables_1_4[j]? = some w) (hg : ab_gw w = true) : w ∈ ab_T := ab_m (ab_i4 (List.mem_of_getElem? h)) hg
theorem k5 {w : Cond} (j : Nat) (h : tables_1_5[j]? = some w) (hg : ab_gw w = true) : w ∈ ab_T := ab_m (ab_i5 (List.mem_of_getElem? h)) hg
theorem k6 {w : Cond} (j : Nat) (h : tables_1_6[j]? = some w) (hg : ab_gw w = true) : w ∈ ab_T := ab_m (ab_i6 (List.mem_of_getElem? h)) hg
theorem k7 {w : Cond} (j : Nat) (h : tables_1_7[j]? = some w) (hg : ab_gw w = true) : w ∈ ab_T := ab_m (ab_i7 (List.mem_of_getElem? h)) hg
theorem k8 {w : Cond} (j : Nat) (h : tables_1_8[j]? = some w) (hg : ab_gw w = true) : w ∈ ab_T := ab_m (ab_i8 (List.mem_of_getElem? h)) hg
theorem k9 {w : Cond} (j : Nat) (h : tables_1_9[j]? = some w) (hg : ab_gw w = true) : w ∈ ab_T := ab_m (ab_i9 (List.mem_of_getElem? h)) hg
theorem k10 {w : Cond} (j : Nat) (h : tables_1_10[j]? = some w) (hg : ab_gw w = true) : w ∈ ab_T := ab_m (ab_i10 (List.mem_of_getElem? h)) hg
theorem k11 {w : Cond} (j : Nat) (h : tables_1_11[j]? = some w) (hg : ab_gw w = true) : w ∈ ab_T := ab_m (ab_i11 (List.mem_of_getElem? h)) hg
theorem k12 {w : Cond} (j : Nat) (h : tables_1_12[j]? = some w) (hg : ab_gw w = true) : w ∈ ab_T := ab_m (ab_i12 (List.mem_of_getElem? h)) hg
theorem k13 {w : Cond} (j : Nat) (h : tables_1_13[j]? = some w) (hg : ab_gw w = true) : w ∈ ab_T := ab_m (ab_i13 (List.mem_of_getElem? h)) hg
def ab_tyof (r : vw_C) (k : Nat) : FieldType := (parseFieldDescriptor (r.2.1 k).2.2.1).getD .int
theorem ab_good : ∀ w ∈ ab_T, ab_gw w = true := fun w hw => (List.mem_filter.mp hw).2
theorem n_W : ∀ w ∈ u_ws "WorldEngine" F_W 9, w ∈ ab_T := by
  intro w hw
  obtain ⟨k, hk, rfl⟩ := List.mem_map.mp hw
  have hk := List.mem_range.mp hk
  match k, hk with
  | 0, _ => exact k3 166 rfl rfl
  | 1, _ => exact k3 168 rfl rfl
  | 2, _ => exact k3 170 rfl rfl
  | 3, _ => exact k3 172 rfl rfl
  | 4, _ => exact k3 174 rfl rfl
  | 5, _ => exact k3 176 rfl rfl
  | 6, _ => exact k3 178 rfl rfl
  | 7, _ => exact k3 180 rfl rfl
  | 8, _ => exact k3 182 rfl rfl
  | k + 9, hk => omega
theorem n_Lexer : ∀ w ∈ u_ws "WorldEngine$Lexer" F_Lexer 13, w ∈ ab_T := by
  intro w hw
  obtain ⟨k, hk, rfl⟩ := List.mem_map.mp hw
  have hk := List.mem_range.mp hk
  match k, hk with
  | 0, _ => exact k1 115 rfl rfl
  | 1, _ => exact k1 117 rfl rfl
  | 2, _ => exact k1 119 rfl rfl
  | 3, _ => exact k1 121 rfl rfl
  | 4, _ => exact k1 123 rfl rfl
  | 5, _ => exact k1 125 rfl rfl
  | 6, _ => exact k1 127 rfl rfl
  | 7, _ => exact k1 129 rfl rfl
  | 8, _ => exact k1 131 rfl rfl
  | 9, _ => exact k1 133 rfl rfl
  | 10, _ => exact k1 135 rfl rfl
  | 11, _ => exact k1 137 rfl rfl
  | 12, _ => exact k1 139 rfl rfl
  | k + 13, hk => omega
theorem n_Named : ∀ w ∈ u_ws "WorldEngine$Named" F_Named 4, w ∈ ab_T := by
  intro w hw
  obtain ⟨k, hk, rfl⟩ := List.mem_map.mp hw
  have hk := List.mem_range.mp hk
  match k, hk with
  | 0, _ => exact k3 6 rfl rfl
  | 1, _ => exact k3 8 rfl rfl
  | 2, _ => exact k3 10 rfl rfl
  | 3, _ => exact k3 12 rfl rfl
  | k + 4, hk => omega
theorem n_Shapes : ∀ w ∈ u_ws "WorldEngine$Shapes" F_Shapes 4, w ∈ ab_T := by
  intro w hw
  obtain ⟨k, hk, rfl⟩ := List.mem_map.mp hw
  have hk := List.mem_range.mp hk
  match k, hk with
  | 0, _ => exact k3 44 rfl rfl
  | 1, _ => exact k3 46 rfl rfl
  | 2, _ => exact k3 48 rfl rfl
  | 3, _ => exact k3 50 rfl rfl
  | k + 4, hk => omega
theorem n_Program : ∀ w ∈ u_ws "WorldEngine$Program" F_Program 18, w ∈ ab_T := by
  intro w hw
  obtain ⟨k, hk, rfl⟩ := List.mem_map.mp hw
  have hk := List.mem_range.mp hk
  match k, hk with
  | 0, _ => exact k3 116 rfl rfl
  | 1, _ => exact k3 118 rfl rfl
  | 2, _ => exact k3 120 rfl rfl
  | 3, _ => exact k3 122 rfl rfl
  | 4, _ => exact k3 124 rfl rfl
  | 5, _ => exact k3 126 rfl rfl
  | 6, _ => exact k3 128 rfl rfl
  | 7, _ => exact k3 130 rfl rfl
  | 8, _ => exact k3 132 rfl rfl
  | 9, _ => exact k3 134 rfl rfl
  | 10, _ => exact k3 136 rfl rfl
  | 11, _ => exact k3 138 rfl rfl
  | 12, _ => exact k3 140 rfl rfl
  | 13, _ => exact k3 142 rfl rfl
  | 14, _ => exact k3 144 rfl rfl
  | 15, _ => exact k3 146 rfl rfl
  | 16, _ => exact k3 148 rfl rfl
  | 17, _ => exact k3 150 rfl rfl
  | k + 18, hk => omega
theorem n_Reader : ∀ w ∈ u_ws "WorldEngine$Reader" F_Reader 3, w ∈ ab_T := by
  intro w hw
  obtain ⟨k, hk, rfl⟩ := List.mem_map.mp hw
  have hk := List.mem_range.mp hk
  match k, hk with
  | 0, _ => exact k1 182 rfl rfl
  | 1, _ => exact k1 184 rfl rfl
  | 2, _ => exact k1 186 rfl rfl
  | k + 3, hk => omega
theorem n_Body : ∀ w ∈ u_ws "WorldEngine$Body" F_Body 7, w ∈ ab_T := by
  intro w hw
  obtain ⟨k, hk, rfl⟩ := List.mem_map.mp hw
  have hk := List.mem_range.mp hk
  match k, hk with
  | 0, _ => exact k1 164 rfl rfl
  | 1, _ => exact k1 166 rfl rfl
  | 2, _ => exact k1 168 rfl rfl
  | 3, _ => exact k1 170 rfl rfl
  | 4, _ => exact k1 172 rfl rfl
  | 5, _ => exact k1 174 rfl rfl
  | 6, _ => exact k1 176 rfl rfl
  | k + 7, hk => omega
theorem n_World : ∀ w ∈ u_ws "WorldEngine$World" F_World 16, w ∈ ab_T := by
  intro w hw
  obtain ⟨k, hk, rfl⟩ := List.mem_map.mp hw
  have hk := List.mem_range.mp hk
  match k, hk with
  | 0, _ => exact k2 14 rfl rfl
  | 1, _ => exact k2 16 rfl rfl
  | 2, _ => exact k2 18 rfl rfl
  | 3, _ => exact k2 20 rfl rfl
  | 4, _ => exact k2 22 rfl rfl
  | 5, _ => exact k2 24 rfl rfl
  | 6, _ => exact k2 26 rfl rfl
  | 7, _ => exact k2 28 rfl rfl
  | 8, _ => exact k2 30 rfl rfl
  | 9, _ => exact k2 32 rfl rfl
  | 10, _ => exact k2 34 rfl rfl
  | 11, _ => exact k2 36 rfl rfl
  | 12, _ => exact k2 38 rfl rfl
  | 13, _ => exact k2 40 rfl rfl
  | 14, _ => exact k2 42 rfl rfl
  | 15, _ => exact k2 44 rfl rfl
  | k + 16, hk => omega
theorem n_Row : ∀ w ∈ u_ws "WorldEngine$Row" F_Row 19, w ∈ ab_T := by
  intro w hw
  obtain ⟨k, hk, rfl⟩ := List.mem_map.mp hw
  have hk := List.mem_range.mp hk
  match k, hk with
  | 0, _ => exact k2 81 rfl rfl
  | 1, _ => exact k2 83 rfl rfl
  | 2, _ => exact k2 85 rfl rfl
  | 3, _ => exact k2 87 rfl rfl
  | 4, _ => exact k2 89 rfl rfl
  | 5, _ => exact k2 91 rfl rfl
  | 6, _ => exact k2 93 rfl rfl
  | 7, _ => exact k2 95 rfl rfl
  | 8, _ => exact k2 97 rfl rfl
  | 9, _ => exact k2 99 rfl rfl
  | 10, _ => exact k2 101 rfl rfl
  | 11, _ => exact k2 103 rfl rfl
  | 12, _ => exact k2 105 rfl rfl
  | 13, _ => exact k2 107 rfl rfl
  | 14, _ => exact k2 109 rfl rfl
  | 15, _ => exact k2 111 rfl rfl
  | 16, _ => exact k2 113 rfl rfl
  | 17, _ => exact k2 115 rfl rfl
  | 18, _ => exact k2 117 rfl rfl
  | k + 19, hk => omega
theorem n_Ticker : ∀ w ∈ u_ws "WorldEngine$Ticker" F_Ticker 3, w ∈ ab_T := by
  intro w hw
  obtain ⟨k, hk, rfl⟩ := List.mem_map.mp hw
  have hk := List.mem_range.mp hk
  match k, hk with
  | 0, _ => exact k2 123 rfl rfl
  | 1, _ => exact k2 125 rfl rfl
  | 2, _ => exact k2 127 rfl rfl
  | k + 3, hk => omega
theorem n_Play : ∀ w ∈ u_ws "WorldEngine$Play" F_Play 14, w ∈ ab_T := by
  intro w hw
  obtain ⟨k, hk, rfl⟩ := List.mem_map.mp hw
  have hk := List.mem_range.mp hk
  match k, hk with
  | 0, _ => exact k2 150 rfl rfl
  | 1, _ => exact k2 152 rfl rfl
  | 2, _ => exact k2 154 rfl rfl
  | 3, _ => exact k2 156 rfl rfl
  | 4, _ => exact k2 158 rfl rfl
  | 5, _ => exact k2 160 rfl rfl
  | 6, _ => exact k2 162 rfl rfl
  | 7, _ => exact k2 164 rfl rfl
  | 8, _ => exact k2 166 rfl rfl
  | 9, _ => exact k2 168 rfl rfl
  | 10, _ => exact k2 170 rfl rfl
  | 11, _ => exact k2 172 rfl rfl
  | 12, _ => exact k2 174 rfl rfl
  | 13, _ => exact k2 176 rfl rfl
  | k + 14, hk => omega
theorem n_Store : ∀ w ∈ u_ws "WorldEngine$Store" F_Store 6, w ∈ ab_T := by
  intro w hw
  obtain ⟨k, hk, rfl⟩ := List.mem_map.mp hw
  have hk := List.mem_range.mp hk
  match k, hk with
  | 0, _ => exact k2 195 rfl rfl
  | 1, _ => exact k2 197 rfl rfl
  | 2, _ => exact k2 199 rfl rfl
  | 3, _ => exact k2 201 rfl rfl
  | 4, _ => exact k2 203 rfl rfl
  | 5, _ => exact k2 205 rfl rfl
  | k + 6, hk => omega
theorem n_M : ∀ w ∈ u_ws "WorldEngineModel" F_M 29, w ∈ ab_T := by
  intro w hw
  obtain ⟨k, hk, rfl⟩ := List.mem_map.mp hw
  have hk := List.mem_range.mp hk
  match k, hk with
  | 0, _ => exact k10 22 rfl rfl
  | 1, _ => exact k10 24 rfl rfl
  | 2, _ => exact k10 26 rfl rfl
  | 3, _ => exact k10 28 rfl rfl
  | 4, _ => exact k10 30 rfl rfl
  | 5, _ => exact k10 32 rfl rfl
  | 6, _ => exact k10 34 rfl rfl
  | 7, _ => exact k10 36 rfl rfl
  | 8, _ => exact k10 38 rfl rfl
  | 9, _ => exact k10 40 rfl rfl
  | 10, _ => exact k10 42 rfl rfl
  | 11, _ => exact k10 44 rfl rfl
  | 12, _ => exact k10 46 rfl rfl
  | 13, _ => exact k10 48 rfl rfl
  | 14, _ => exact k10 50 rfl rfl
  | 15, _ => exact k10 52 rfl rfl
  | 16, _ => exact k10 54 rfl rfl
  | 17, _ => exact k10 56 rfl rfl
  | 18, _ => exact k10 58 rfl rfl
  | 19, _ => exact k10 60 rfl rfl
  | 20, _ => exact k10 62 rfl rfl
  | 21, _ => exact k10 64 rfl rfl
  | 22, _ => exact k10 66 rfl rfl
  | 23, _ => exact k10 68 rfl rfl
  | 24, _ => exact k10 70 rfl rfl
  | 25, _ => exact k10 72 rfl rfl
  | 26, _ => exact k10 74 rfl rfl
  | 27, _ => exact k10 76 rfl rfl
  | 28, _ => exact k10 78 rfl rfl
  | k + 29, hk => omega
theorem n_MWorld : ∀ w ∈ u_ws "WorldEngineModel$World" F_MWorld 18, w ∈ ab_T := by
  intro w hw
  obtain ⟨k, hk, rfl⟩ := List.mem_map.mp hw
  have hk := List.mem_range.mp hk
  match k, hk with
  | 0, _ => exact k9 139 rfl rfl
  | 1, _ => exact k9 141 rfl rfl
  | 2, _ => exact k9 143 rfl rfl
  | 3, _ => exact k9 145 rfl rfl
  | 4, _ => exact k9 147 rfl rfl
  | 5, _ => exact k9 149 rfl rfl
  | 6, _ => exact k9 151 rfl rfl
  | 7, _ => exact k9 153 rfl rfl
  | 8, _ => exact k9 155 rfl rfl
  | 9, _ => exact k9 157 rfl rfl
  | 10, _ => exact k9 159 rfl rfl
  | 11, _ => exact k9 161 rfl rfl
  | 12, _ => exact k9 163 rfl rfl
  | 13, _ => exact k9 165 rfl rfl
  | 14, _ => exact k9 167 rfl rfl
  | 15, _ => exact k9 169 rfl rfl
  | 16, _ => exact k9 171 rfl rfl
  | 17, _ => exact k9 173 rfl rfl
  | k + 18, hk => omega
theorem n_MText : ∀ w ∈ u_ws "WorldEngineModel$Text" F_MText 43, w ∈ ab_T := by
  intro w hw
  obtain ⟨k, hk, rfl⟩ := List.mem_map.mp hw
  have hk := List.mem_range.mp hk
  match k, hk with
  | 0, _ => exact k8 230 rfl rfl
  | 1, _ => exact k8 232 rfl rfl
  | 2, _ => exact k8 234 rfl rfl
  | 3, _ => exact k8 236 rfl rfl
  | 4, _ => exact k8 238 rfl rfl
  | 5, _ => exact k9 0 rfl rfl
  | 6, _ => exact k9 2 rfl rfl
  | 7, _ => exact k9 4 rfl rfl
  | 8, _ => exact k9 6 rfl rfl
  | 9, _ => exact k9 8 rfl rfl
  | 10, _ => exact k9 10 rfl rfl
  | 11, _ => exact k9 12 rfl rfl
  | 12, _ => exact k9 14 rfl rfl
  | 13, _ => exact k9 16 rfl rfl
  | 14, _ => exact k9 18 rfl rfl
  | 15, _ => exact k9 20 rfl rfl
  | 16, _ => exact k9 22 rfl rfl
  | 17, _ => exact k9 24 rfl rfl
  | 18, _ => exact k9 26 rfl rfl
  | 19, _ => exact k9 28 rfl rfl
  | 20, _ => exact k9 30 rfl rfl
  | 21, _ => exact k9 32 rfl rfl
  | 22, _ => exact k9 34 rfl rfl
  | 23, _ => exact k9 36 rfl rfl
  | 24, _ => exact k9 38 rfl rfl
  | 25, _ => exact k9 40 rfl rfl
  | 26, _ => exact k9 42 rfl rfl
  | 27, _ => exact k9 44 rfl rfl
  | 28, _ => exact k9 46 rfl rfl
  | 29, _ => exact k9 48 rfl rfl
  | 30, _ => exact k9 50 rfl rfl
  | 31, _ => exact k9 52 rfl rfl
  | 32, _ => exact k9 54 rfl rfl
  | 33, _ => exact k9 56 rfl rfl
  | 34, _ => exact k9 58 rfl rfl
  | 35, _ => exact k9 60 rfl rfl
  | 36, _ => exact k9 62 rfl rfl
  | 37, _ => exact k9 64 rfl rfl
  | 38, _ => exact k9 66 rfl rfl
  | 39, _ => exact k9 68 rfl rfl
  | 40, _ => exact k9 70 rfl rfl
  | 41, _ => exact k9 72 rfl rfl
  | 42, _ => exact k9 74 rfl rfl
  | k + 43, hk => omega
theorem n_MRunner : ∀ w ∈ u_ws "WorldEngineModel$Runner" F_MRunner 16, w ∈ ab_T := by
  intro w hw
  obtain ⟨k, hk, rfl⟩ := List.mem_map.mp hw
  have hk := List.mem_range.mp hk
  match k, hk with
  | 0, _ => exact k9 199 rfl rfl
  | 1, _ => exact k9 201 rfl rfl
  | 2, _ => exact k9 203 rfl rfl
  | 3, _ => exact k9 205 rfl rfl
  | 4, _ => exact k9 207 rfl rfl
  | 5, _ => exact k9 209 rfl rfl
  | 6, _ => exact k9 211 rfl rfl
  | 7, _ => exact k9 213 rfl rfl
  | 8, _ => exact k9 215 rfl rfl
  | 9, _ => exact k9 217 rfl rfl
  | 10, _ => exact k9 219 rfl rfl
  | 11, _ => exact k9 221 rfl rfl
  | 12, _ => exact k9 223 rfl rfl
  | 13, _ => exact k9 225 rfl rfl
  | 14, _ => exact k9 227 rfl rfl
  | 15, _ => exact k9 229 rfl rfl
  | k + 16, hk => omega
theorem n_Str : ∀ w ∈ u_ws "java/lang/String" F_Str 4, w ∈ ab_T := by
  intro w hw
  obtain ⟨k, hk, rfl⟩ := List.mem_map.mp hw
  have hk := List.mem_range.mp hk
  match k, hk with
  | 0, _ => exact k4 229 rfl rfl
  | 1, _ => exact k4 231 rfl rfl
  | 2, _ => exact k4 233 rfl rfl
  | 3, _ => exact k4 235 rfl rfl
  | k + 4, hk => omega
theorem ab_clty0 : ab_cl.all (fun r => (List.range r.2.2).all (fun k => (parseFieldDescriptor (r.2.1 k).2.2.1).isSome)) = true := by decide +kernel
theorem ab_clty : ∀ (ci : Nat) (r : vw_C), ab_cl[ci]? = some r → ∀ k, k < r.2.2 → parseFieldDescriptor (r.2.1 k).2.2.1 = some (ab_tyof r k) := by
  intro ci r hr k hk
  have h1 := List.all_eq_true.mp (List.all_eq_true.mp ab_clty0 r (List.mem_of_getElem? hr)) k (List.mem_range.mpr hk)
  unfold ab_tyof
  cases h2 : parseFieldDescriptor (r.2.1 k).2.2.1 with
  | none => rw [h2] at h1; cases h1
  | some t => rfl
theorem ab_clnm0 : ab_cl.all (fun r => (List.range r.2.2).all (fun a => (List.range r.2.2).all (fun b => a == b || !decide ((r.2.1 a).2.1 = (r.2.1 b).2.1)))) = true := by decide +kernel
theorem ab_clnm : ∀ (ci : Nat) (r : vw_C), ab_cl[ci]? = some r → ∀ a, a < r.2.2 → ∀ b, b < r.2.2 → a ≠ b → (r.2.1 a).2.1 ≠ (r.2.1 b).2.1 := by
  intro ci r hr a ha b hb hab
  have h1 := List.all_eq_true.mp (List.all_eq_true.mp (List.all_eq_true.mp ab_clnm0 r (List.mem_of_getElem? hr)) a (List.mem_range.mpr ha)) b (List.mem_range.mpr hb)
  simp only [Bool.or_eq_true, beq_iff_eq, Bool.not_eq_true', decide_eq_false_iff_not] at h1
  rcases h1 with q | q
  · exact absurd q hab
  · exact q
theorem ab_clin : ∀ (ci : Nat) (r : vw_C), ab_cl[ci]? = some r → ∀ w ∈ u_ws r.1 r.2.1 r.2.2, w ∈ ab_T := by
  intro ci r hr
  match ci, hr with
  | 0, hr => cases hr; exact n_W
  | 1, hr => cases hr; exact n_Lexer
  | 2, hr => cases hr; exact n_Named
  | 3, hr => cases hr; exact n_Shapes
  | 4, hr => cases hr; exact n_Program
  | 5, hr => cases hr; exact n_Reader
  | 6, hr => cases hr; exact n_Body
  | 7, hr => cases hr; exact n_World
  | 8, hr => cases hr; exact n_Row
  | 9, hr => cases hr; exact n_Ticker
  | 10, hr => cases hr; exact n_Play
  | 11, hr => cases hr; exact n_Store
  | 12, hr => cases hr; exact n_M
  | 13, hr => cases hr; exact n_MWorld
  | 14, hr => cases hr; exact n_MText
  | 15, hr => cases hr; exact n_MRunner
  | 16, hr => cases hr; exact n_Str
  | 17, hr => cases hr; intro w hw; cases hw
  | 18, hr => cases hr; intro w hw; cases hw
  | k + 19, hr => simp [ab_cl] at hr
/-! the String constants: those with one text are one object -/
def ab_len : List Nat := [214, 0, 16, 20, 27, 19, 17, 14, 14, 23]
def ab_byt : List (List Int32) := [[99, 111, 109, 112, 111, 110, 101, 110, 116, 32, 101, 118, 101, 110, 116, 32, 112, 114, 101, 102, 97, 98, 32, 115, 121, 115, 116, 101, 109, 32, 97, 102, 116, 101, 114, 32, 101, 97, 99, 104, 32, 119, 105, 116, 104, 111, 117, 116, 32, 119, 114, 105, 116, 101, 115, 32, 114, 101, 97, 100, 115, 32, 105, 110, 116, 32, 98, 121, 116, 101, 32, 102, 105, 120, 32, 98, 111, 111, 108, 32, 114, 101, 102, 32, 108, 101, 116, 32, 105, 102, 32, 101, 108, 115, 101, 32, 119, 104, 105, 108, 101, 32, 102, 111, 114, 32, 105, 110, 32, 110, 101, 97, 114, 32, 104, 101, 97, 114, 32, 115, 112, 97, 119, 110, 32, 100, 114, 111, 112, 32, 103, 105, 118, 101, 32, 116, 97, 107, 101, 32, 112, 117, 116, 32, 101, 109, 105, 116, 32, 116, 111, 32, 115, 104, 111, 119, 32, 102, 97, 105, 108, 32, 116, 114, 117, 101, 32, 102, 97, 108, 115, 101, 32, 110, 111, 110, 101, 32, 115, 101, 108, 102, 32, 116, 105, 99, 107, 32, 105, 110, 112, 117, 116, 32, 100, 114, 97, 119, 32, 97, 108, 105, 118, 101, 32, 114, 111, 111, 116, 32, 104, 97, 115, 32], [], [123, 125, 40, 41, 44, 59, 46, 61, 43, 45, 42, 47, 37, 60, 62, 33], [116, 104, 101, 32, 116, 101, 120, 116, 32, 104, 97, 115, 32, 97, 32, 102, 97, 117, 108, 116], [110, 111, 32, 110, 97, 109, 101, 32, 116, 104, 97, 116, 32, 109, 97, 121, 32, 115, 116, 97, 110, 100, 32, 104, 101, 114, 101], [97, 32, 110, 117, 109, 98, 101, 114, 32, 105, 115, 32, 109, 105, 115, 115, 105, 110, 103], [97, 32, 110, 117, 109, 98, 101, 114, 32, 105, 115, 32, 119, 114, 111, 110, 103], [98, 121, 116, 101, 115, 32, 97, 114, 101, 32, 108, 101, 102, 116], [110, 111, 32, 115, 117, 99, 104, 32, 109, 101, 109, 98, 101, 114], [110, 111, 116, 104, 105, 110, 103, 32, 119, 97, 115, 32, 115, 104, 111, 119, 110, 32, 116, 104, 101, 114, 101]]
def ab_cs : List (String × Nat × String × Nat) := [("WorldEngine$Lexer", 30, "component event prefab system after each without writes reads int byte fix bool ref let if else while for in near hear spawn drop give take put emit to show fail true false none self tick input draw alive root has ", 0), ("WorldEngine$Named", 7, "", 1), ("WorldEngine$Lexer", 122, "{}(),;.=+-*/%<>!", 2), ("WorldEngine$Lexer", 129, "the text has a fault", 3), ("WorldEngine$Lexer", 141, "no name that may stand here", 4), ("java/lang/String", 7, "", 1), ("WorldEngine$Store", 146, "a number is missing", 5), ("WorldEngine$Store", 151, "a number is wrong", 6), ("WorldEngine$Store", 153, "bytes are left", 7), ("WorldEngine", 196, "no such member", 8), ("WorldEngine", 229, "nothing was shown there", 9), ("WorldEngineModel$Text", 139, "component event prefab system after each without writes reads int byte fix bool ref let if else while for in near hear spawn drop give take put emit to show fail true false none self tick input draw alive root has ", 0)]
/-- a static of Throwable's that holds a reference, or null -/
def ab_St (n d : String) (b : Nat) (U : State) : Prop := ∃ (c : ClassId) (k : Class) (i : Nat) (f : Field) (a : Nat) (cell : Cell) (v : Value), U.vm.findClass "java/lang/Throwable" = some c ∧ U.fieldFound? "java/lang/Throwable" n d = some (c, k, i, f) ∧ f.isStatic = true ∧ k.statics = some a ∧ U.heap[a]? = some cell ∧ cell.vm.isStatics = true ∧ cell.cls = c ∧ f.slot < cell.slots.size ∧ k.staticTypes[f.slot]? = some f.type ∧ cell.slots[f.slot]? = some v ∧ v.isRef = true ∧ a < b
theorem ab_St_moved {n d : String} {b : Nat} {u U : State} (hvm : u.vm.Alike U.vm) (hk : ∀ q : Nat, q < b → U.heap[q]? = u.heap[q]?) (h : ab_St n d b u) : ab_St n d b U := by
  obtain ⟨c, k, i, f, a, cell, v, h1, h2, h3, h4, h5, h6, h7, h8, h9, h10, h11, h12⟩ := h
  obtain ⟨k', hi', he⟩ := State.fieldFound?_setVm hvm h2
  exact ⟨c, k', i, f, a, cell, v, by rw [hvm.findClass]; exact h1, hi', h3, by rw [he]; exact h4, by rw [hk a h12]; exact h5, h6, h7, h8, by rw [he]; exact h9, h10, h11, h12⟩
theorem ab_St_lays {n d : String} {b : Nat} {U : State} {A : Array Value} (h : ab_St n d b U) : (Cond.laysStatic "java/lang/Throwable" n d).before A U = true := by
  obtain ⟨c, k, i, f, a, cell, v, h1, h2, h3, h4, h5, h6, h7, h8, h9, h10, h11, h12⟩ := h
  exact Cond.laysStatic_of h1 h2 h3 h4 h5 h6 h7 h8 h9
theorem ab_St_ref {n d : String} {b : Nat} {U : State} {A : Array Value} (h : ab_St n d b U) : (Cond.isRef (.static "java/lang/Throwable" n d)).before A U = true := by
  obtain ⟨c, k, i, f, a, cell, v, h1, h2, h3, h4, h5, h6, h7, h8, h9, h10, h11, h12⟩ := h
  have he : (Term.static "java/lang/Throwable" n d).eval A U none [] U = some v := by
    simp [Term.eval, State.fieldNamed?, h2, h3, h4, h5, h6, h10]
  unfold Cond.before Cond.holds
  simp only [Cond.value, he]
  cases v <;> first | rfl | cases h11
/-- what stays of the constants: their bytes, where a pool's entry leads, the statics that are read -/
def ab_Cs (G : Nat × (Nat → Nat) × (FieldType → ClassId) × va_G) (U : State) : Prop :=
  vk_S 10 ab_len ab_byt G.2.1 (fun i => G.2.1 (100 + i)) (fun q => G.1 ≤ q) U U.heap ∧ (∀ q ∈ ab_cs, vk_R q.1 q.2.1 q.2.2.1 (G.2.1 q.2.2.2) U) ∧
  va_Z "java/lang/String" "COMPACT_STRINGS" "Z" (.int 1) (fun q => G.1 ≤ q) U U.heap ∧
  (va_Z "jdk/internal/util/Preconditions" "SIOOBE_FORMATTER" "Ljava/util/function/BiFunction;" .null (fun q => G.1 ≤ q) U U.heap ∨ va_Z "jdk/internal/util/Preconditions" "SIOOBE_FORMATTER" "Ljava/util/function/BiFunction;" (.ref (G.2.1 200)) (fun q => G.1 ≤ q) U U.heap) ∧
  ab_St "UNASSIGNED_STACK" "[Ljava/lang/StackTraceElement;" G.1 U ∧ ab_St "SUPPRESSED_SENTINEL" "Ljava/util/List;" G.1 U
theorem ab_Cs_moved {G : Nat × (Nat → Nat) × (FieldType → ClassId) × va_G} {u U : State} (hW : u.WarmedH U.vm) (hk : ∀ q : Nat, q < G.1 → U.heap[q]? = u.heap[q]?) (h : ab_Cs G u) : ab_Cs G U := by
  obtain ⟨h1, h2, h3, h4, h5, h6⟩ := h
  have hq : ∀ a : Nat, a < u.heap.size → ¬ (G.1 ≤ a) → U.heap[a]? = u.heap[a]? := fun a _ hn => hk a (Nat.lt_of_not_le hn)
  refine ⟨(h1.moved hW.alike).kept hq, fun q hq => (h2 q hq).warm hW, (h3.moved hW.alike).kept hq, ?_, ab_St_moved hW.alike hk h5, ab_St_moved hW.alike hk h6⟩
  rcases h4 with z | z
  · exact Or.inl ((z.moved hW.alike).kept hq)
  · exact Or.inr ((z.moved hW.alike).kept hq)
