def R_Sy : String := "RuleTrees$Symbols"
def F_Sy : u_T := fun k => match k with
  | 0 => ("RuleTrees$Symbols", "items", "[I", true)
  | _ => ("RuleTrees$Symbols", "length", "I", false)
def t_Sy : Nat → FieldType := fun k => match k with
  | 0 => .array .int
  | _ => .int
theorem n_Sy : ∀ a, a < 2 → ∀ b, b < 2 → a ≠ b → (F_Sy a).2.1 ≠ (F_Sy b).2.1 := by decide +kernel
theorem t_Sy_ok : ∀ k, k < 2 → parseFieldDescriptor (F_Sy k).2.2.1 = some (t_Sy k) := by decide +kernel
theorem in_Sy (c : Cond) : ∀ w ∈ u_ws R_Sy F_Sy 2, w ∈ c :: TB := by
  intro w hw
  have h : ∀ w ∈ u_ws R_Sy F_Sy 2, w ∈ lw_tbl ∧ goodWord w = true := by decide +kernel
  exact List.mem_cons_of_mem _ (List.mem_filter.mpr (h w hw))
def R_Gr : String := "RuleTrees$Grammar"
def F_Gr : u_T := fun k => match k with
  | 0 => ("RuleTrees$Grammar", "sorts", "I", false)
  | 1 => ("RuleTrees$Grammar", "variables", "I", false)
  | 2 => ("RuleTrees$Grammar", "rules", "I", false)
  | 3 => ("RuleTrees$Grammar", "begun", "Z", false)
  | 4 => ("RuleTrees$Grammar", "begunVariables", "I", false)
  | 5 => ("RuleTrees$Grammar", "variableSort", "[I", true)
  | 6 => ("RuleTrees$Grammar", "ruleSort", "[I", true)
  | 7 => ("RuleTrees$Grammar", "ruleLength", "[I", true)
  | 8 => ("RuleTrees$Grammar", "ruleSymbols", "[I", true)
  | 9 => ("RuleTrees$Grammar", "symbolSlot", "[I", true)
  | 10 => ("RuleTrees$Grammar", "slotCount", "[I", true)
  | _ => ("RuleTrees$Grammar", "slotSort", "[I", true)
def t_Gr : Nat → FieldType := fun k => match k with
  | 0 => .int
  | 1 => .int
  | 2 => .int
  | 3 => .boolean
  | 4 => .int
  | 5 => .array .int
  | 6 => .array .int
  | 7 => .array .int
  | 8 => .array .int
  | 9 => .array .int
  | 10 => .array .int
  | _ => .array .int
theorem n_Gr : ∀ a, a < 12 → ∀ b, b < 12 → a ≠ b → (F_Gr a).2.1 ≠ (F_Gr b).2.1 := by decide +kernel
theorem t_Gr_ok : ∀ k, k < 12 → parseFieldDescriptor (F_Gr k).2.2.1 = some (t_Gr k) := by decide +kernel
theorem in_Gr (c : Cond) : ∀ w ∈ u_ws R_Gr F_Gr 12, w ∈ c :: TB := by
  intro w hw
  have h : ∀ w ∈ u_ws R_Gr F_Gr 12, w ∈ lw_tbl ∧ goodWord w = true := by decide +kernel
  exact List.mem_cons_of_mem _ (List.mem_filter.mpr (h w hw))
def R_Tt : String := "RuleTrees$TreeTable"
def F_Tt : u_T := fun k => match k with
  | 0 => ("RuleTrees$TreeTable", "sizes", "[I", true)
  | 1 => ("RuleTrees$TreeTable", "heads", "[I", true)
  | 2 => ("RuleTrees$TreeTable", "partCounts", "[I", true)
  | 3 => ("RuleTrees$TreeTable", "parts", "[I", true)
  | 4 => ("RuleTrees$TreeTable", "leftStack", "[I", true)
  | _ => ("RuleTrees$TreeTable", "rightStack", "[I", true)
def t_Tt : Nat → FieldType := fun k => match k with
  | 0 => .array .int
  | 1 => .array .int
  | 2 => .array .int
  | 3 => .array .int
  | 4 => .array .int
  | _ => .array .int
theorem n_Tt : ∀ a, a < 6 → ∀ b, b < 6 → a ≠ b → (F_Tt a).2.1 ≠ (F_Tt b).2.1 := by decide +kernel
theorem t_Tt_ok : ∀ k, k < 6 → parseFieldDescriptor (F_Tt k).2.2.1 = some (t_Tt k) := by decide +kernel
theorem in_Tt (c : Cond) : ∀ w ∈ u_ws R_Tt F_Tt 6, w ∈ c :: TB := by
  intro w hw
  have h : ∀ w ∈ u_ws R_Tt F_Tt 6, w ∈ lw_tbl ∧ goodWord w = true := by decide +kernel
  exact List.mem_cons_of_mem _ (List.mem_filter.mpr (h w hw))
def R_Ch : String := "RuleTrees$Chart"
def F_Ch : u_T := fun k => match k with
  | 0 => ("RuleTrees$Chart", "grammar", "LRuleTrees$Grammar;", true)
  | 1 => ("RuleTrees$Chart", "table", "LRuleTrees$TreeTable;", true)
  | 2 => ("RuleTrees$Chart", "ways", "[I", true)
  | 3 => ("RuleTrees$Chart", "symbols", "[I", true)
  | 4 => ("RuleTrees$Chart", "done", "I", false)
  | 5 => ("RuleTrees$Chart", "rulesSeen", "I", false)
  | 6 => ("RuleTrees$Chart", "unitRules", "[I", true)
  | 7 => ("RuleTrees$Chart", "units", "I", false)
  | 8 => ("RuleTrees$Chart", "unitReach", "[I", true)
  | 9 => ("RuleTrees$Chart", "spanFrom", "[I", true)
  | 10 => ("RuleTrees$Chart", "spanTo", "[I", true)
  | _ => ("RuleTrees$Chart", "ownWays", "[I", true)
def t_Ch : Nat → FieldType := fun k => match k with
  | 0 => .object "RuleTrees$Grammar"
  | 1 => .object "RuleTrees$TreeTable"
  | 2 => .array .int
  | 3 => .array .int
  | 4 => .int
  | 5 => .int
  | 6 => .array .int
  | 7 => .int
  | 8 => .array .int
  | 9 => .array .int
  | 10 => .array .int
  | _ => .array .int
theorem n_Ch : ∀ a, a < 12 → ∀ b, b < 12 → a ≠ b → (F_Ch a).2.1 ≠ (F_Ch b).2.1 := by decide +kernel
theorem t_Ch_ok : ∀ k, k < 12 → parseFieldDescriptor (F_Ch k).2.2.1 = some (t_Ch k) := by decide +kernel
theorem in_Ch (c : Cond) : ∀ w ∈ u_ws R_Ch F_Ch 12, w ∈ c :: TB := by
  intro w hw
  have h : ∀ w ∈ u_ws R_Ch F_Ch 12, w ∈ lw_tbl ∧ goodWord w = true := by decide +kernel
  exact List.mem_cons_of_mem _ (List.mem_filter.mpr (h w hw))
def R_Gw : String := "RuleTrees$Grower"
def F_Gw : u_T := fun k => match k with
  | 0 => ("RuleTrees$Grower", "grammar", "LRuleTrees$Grammar;", true)
  | 1 => ("RuleTrees$Grower", "awaited", "[I", true)
  | 2 => ("RuleTrees$Grower", "grown", "LRuleTrees$Symbols;", true)
  | 3 => ("RuleTrees$Grower", "starts", "[I", true)
  | 4 => ("RuleTrees$Grower", "waiting", "I", false)
  | 5 => ("RuleTrees$Grower", "joined", "LRuleTrees$Symbols;", true)
  | _ => ("RuleTrees$Grower", "faultPlace", "I", false)
def t_Gw : Nat → FieldType := fun k => match k with
  | 0 => .object "RuleTrees$Grammar"
  | 1 => .array .int
  | 2 => .object "RuleTrees$Symbols"
  | 3 => .array .int
  | 4 => .int
  | 5 => .object "RuleTrees$Symbols"
  | _ => .int
theorem n_Gw : ∀ a, a < 7 → ∀ b, b < 7 → a ≠ b → (F_Gw a).2.1 ≠ (F_Gw b).2.1 := by decide +kernel
theorem t_Gw_ok : ∀ k, k < 7 → parseFieldDescriptor (F_Gw k).2.2.1 = some (t_Gw k) := by decide +kernel
theorem in_Gw (c : Cond) : ∀ w ∈ u_ws R_Gw F_Gw 7, w ∈ c :: TB := by
  intro w hw
  have h : ∀ w ∈ u_ws R_Gw F_Gw 7, w ∈ lw_tbl ∧ goodWord w = true := by decide +kernel
  exact List.mem_cons_of_mem _ (List.mem_filter.mpr (h w hw))
def R_Sr : String := "RuleTrees$ShortestRows"
def F_Sr : u_T := fun k => match k with
  | 0 => ("RuleTrees$ShortestRows", "grammar", "LRuleTrees$Grammar;", true)
  | _ => ("RuleTrees$ShortestRows", "lengths", "[I", true)
def t_Sr : Nat → FieldType := fun k => match k with
  | 0 => .object "RuleTrees$Grammar"
  | _ => .array .int
theorem n_Sr : ∀ a, a < 2 → ∀ b, b < 2 → a ≠ b → (F_Sr a).2.1 ≠ (F_Sr b).2.1 := by decide +kernel
theorem t_Sr_ok : ∀ k, k < 2 → parseFieldDescriptor (F_Sr k).2.2.1 = some (t_Sr k) := by decide +kernel
theorem in_Sr (c : Cond) : ∀ w ∈ u_ws R_Sr F_Sr 2, w ∈ c :: TB := by
  intro w hw
  have h : ∀ w ∈ u_ws R_Sr F_Sr 2, w ∈ lw_tbl ∧ goodWord w = true := by decide +kernel
  exact List.mem_cons_of_mem _ (List.mem_filter.mpr (h w hw))
def R_Rt : String := "RuleTrees"
def F_Rt : u_T := fun k => match k with
  | 0 => ("RuleTrees", "grammar", "LRuleTrees$Grammar;", true)
  | 1 => ("RuleTrees", "chart", "LRuleTrees$Chart;", true)
  | 2 => ("RuleTrees", "grower", "LRuleTrees$Grower;", true)
  | 3 => ("RuleTrees", "shortestRows", "LRuleTrees$ShortestRows;", true)
  | 4 => ("RuleTrees", "row", "LRuleTrees$Symbols;", true)
  | 5 => ("RuleTrees", "tape", "LRuleTrees$Symbols;", true)
  | 6 => ("RuleTrees", "leastCodes", "LRuleTrees$Symbols;", true)
  | 7 => ("RuleTrees", "nextCodes", "LRuleTrees$Symbols;", true)
  | _ => ("RuleTrees", "latestPlace", "I", false)
def t_Rt : Nat → FieldType := fun k => match k with
  | 0 => .object "RuleTrees$Grammar"
  | 1 => .object "RuleTrees$Chart"
  | 2 => .object "RuleTrees$Grower"
  | 3 => .object "RuleTrees$ShortestRows"
  | 4 => .object "RuleTrees$Symbols"
  | 5 => .object "RuleTrees$Symbols"
  | 6 => .object "RuleTrees$Symbols"
  | 7 => .object "RuleTrees$Symbols"
  | _ => .int
theorem n_Rt : ∀ a, a < 9 → ∀ b, b < 9 → a ≠ b → (F_Rt a).2.1 ≠ (F_Rt b).2.1 := by decide +kernel
theorem t_Rt_ok : ∀ k, k < 9 → parseFieldDescriptor (F_Rt k).2.2.1 = some (t_Rt k) := by decide +kernel
theorem in_Rt (c : Cond) : ∀ w ∈ u_ws R_Rt F_Rt 9, w ∈ c :: TB := by
  intro w hw
  have h : ∀ w ∈ u_ws R_Rt F_Rt 9, w ∈ lw_tbl ∧ goodWord w = true := by decide +kernel
  exact List.mem_cons_of_mem _ (List.mem_filter.mpr (h w hw))
def R_Md : String := "RuleTreesModel"
def F_Md : u_T := fun k => match k with
  | 0 => ("RuleTreesModel", "thrown", "I", false)
  | 1 => ("RuleTreesModel", "sorts", "I", false)
  | 2 => ("RuleTreesModel", "variables", "I", false)
  | 3 => ("RuleTreesModel", "sortOf", "[I", true)
  | 4 => ("RuleTreesModel", "rules", "I", false)
  | 5 => ("RuleTreesModel", "open", "Z", false)
  | 6 => ("RuleTreesModel", "ruleSorts", "[I", true)
  | 7 => ("RuleTreesModel", "ruleSizes", "[I", true)
  | 8 => ("RuleTreesModel", "symbols", "[I", true)
  | 9 => ("RuleTreesModel", "row", "[I", true)
  | 10 => ("RuleTreesModel", "length", "I", false)
  | 11 => ("RuleTreesModel", "tape", "[I", true)
  | 12 => ("RuleTreesModel", "codes", "I", false)
  | 13 => ("RuleTreesModel", "grownPlace", "I", false)
  | 14 => ("RuleTreesModel", "known", "Z", false)
  | 15 => ("RuleTreesModel", "numbers", "[I", true)
  | 16 => ("RuleTreesModel", "sizes", "[I", true)
  | 17 => ("RuleTreesModel", "trees", "[I", true)
  | 18 => ("RuleTreesModel", "draft", "[I", true)
  | 19 => ("RuleTreesModel", "drafted", "I", false)
  | 20 => ("RuleTreesModel", "lengths", "[I", true)
  | 21 => ("RuleTreesModel", "starts", "[I", true)
  | 22 => ("RuleTreesModel", "firsts", "[I", true)
  | 23 => ("RuleTreesModel", "stands", "[I", true)
  | 24 => ("RuleTreesModel", "firstOf", "[I", true)
  | 25 => ("RuleTreesModel", "standing", "I", false)
  | 26 => ("RuleTreesModel", "different", "I", false)
  | 27 => ("RuleTreesModel", "ways", "[I", true)
  | 28 => ("RuleTreesModel", "found", "[I", true)
  | 29 => ("RuleTreesModel", "comes", "[Z", true)
  | 30 => ("RuleTreesModel", "wanted", "[I", true)
  | 31 => ("RuleTreesModel", "rows", "[I", true)
  | 32 => ("RuleTreesModel", "rowSizes", "[I", true)
  | 33 => ("RuleTreesModel", "stood", "I", false)
  | 34 => ("RuleTreesModel", "made", "[I", true)
  | _ => ("RuleTreesModel", "least", "[J", true)
def t_Md : Nat → FieldType := fun k => match k with
  | 0 => .int
  | 1 => .int
  | 2 => .int
  | 3 => .array .int
  | 4 => .int
  | 5 => .boolean
  | 6 => .array .int
  | 7 => .array .int
  | 8 => .array .int
  | 9 => .array .int
  | 10 => .int
  | 11 => .array .int
  | 12 => .int
  | 13 => .int
  | 14 => .boolean
  | 15 => .array .int
  | 16 => .array .int
  | 17 => .array .int
  | 18 => .array .int
  | 19 => .int
  | 20 => .array .int
  | 21 => .array .int
  | 22 => .array .int
  | 23 => .array .int
  | 24 => .array .int
  | 25 => .int
  | 26 => .int
  | 27 => .array .int
  | 28 => .array .int
  | 29 => .array .boolean
  | 30 => .array .int
  | 31 => .array .int
  | 32 => .array .int
  | 33 => .int
  | 34 => .array .int
  | _ => .array .long
theorem n_Md : ∀ a, a < 36 → ∀ b, b < 36 → a ≠ b → (F_Md a).2.1 ≠ (F_Md b).2.1 := by decide +kernel
theorem t_Md_ok : ∀ k, k < 36 → parseFieldDescriptor (F_Md k).2.2.1 = some (t_Md k) := by decide +kernel
theorem in_Md (c : Cond) : ∀ w ∈ u_ws R_Md F_Md 36, w ∈ c :: TB := by
  intro w hw
  have h : ∀ w ∈ u_ws R_Md F_Md 36, w ∈ lw_tbl ∧ goodWord w = true := by decide +kernel
  exact List.mem_cons_of_mem _ (List.mem_filter.mpr (h w hw))
def R_Wy : String := "RuleTrees$Ways"
def R_Math : String := "java/lang/Math"
abbrev classes : List vw_C := [(R_Sy, F_Sy, 2), (R_Gr, F_Gr, 12), (R_Tt, F_Tt, 6), (R_Ch, F_Ch, 12), (R_Gw, F_Gw, 7), (R_Sr, F_Sr, 2), (R_Rt, F_Rt, 9), (R_Md, F_Md, 36)]
def wd_Sy (K : Nat → ClassId) (a : Nat → Nat) (n : Nat) (σ : Nat → Nat → Int32) : va_W := [(a 0, .inr (0, [.ref (a 1), .int (σ 0 1)])), (a 1, .inl (K 0, n, .inl (σ 1)))]
def wd_Gr (K : Nat → ClassId) (a : Nat → Nat) (σ : Nat → Nat → Int32) : va_W := [(a 0, .inr (1, [.int (σ 0 0), .int (σ 0 1), .int (σ 0 2), .int (σ 0 3), .int (σ 0 4), .ref (a 1), .ref (a 2), .ref (a 3), .ref (a 4), .ref (a 5), .ref (a 6), .ref (a 7)])), (a 1, .inl (K 0, 20, .inl (σ 1))), (a 2, .inl (K 0, 30, .inl (σ 2))), (a 3, .inl (K 0, 30, .inl (σ 3))), (a 4, .inl (K 0, 240, .inl (σ 4))), (a 5, .inl (K 0, 240, .inl (σ 5))), (a 6, .inl (K 0, 30, .inl (σ 6))), (a 7, .inl (K 0, 120, .inl (σ 7)))]
def wd_Tt (K : Nat → ClassId) (a : Nat → Nat) (σ : Nat → Nat → Int32) : va_W := [(a 0, .inr (2, [.ref (a 1), .ref (a 2), .ref (a 3), .ref (a 4), .ref (a 5), .ref (a 6)])), (a 1, .inl (K 0, 937, .inl (σ 1))), (a 2, .inl (K 0, 937, .inl (σ 2))), (a 3, .inl (K 0, 937, .inl (σ 3))), (a 4, .inl (K 0, 3748, .inl (σ 4))), (a 5, .inl (K 0, 150, .inl (σ 5))), (a 6, .inl (K 0, 150, .inl (σ 6)))]
def wd_Ch (K : Nat → ClassId) (a : Nat → Nat) (r_grammar r_table : Nat) (σ : Nat → Nat → Int32) : va_W := [(a 0, .inr (3, [.ref r_grammar, .ref r_table, .ref (a 1), .ref (a 2), .int (σ 0 4), .int (σ 0 5), .ref (a 3), .int (σ 0 7), .ref (a 4), .ref (a 5), .ref (a 6), .ref (a 7)])), (a 1, .inl (K 0, 468, .inl (σ 1))), (a 2, .inl (K 0, 12, .inl (σ 2))), (a 3, .inl (K 0, 30, .inl (σ 3))), (a 4, .inl (K 0, 6, .inl (σ 4))), (a 5, .inl (K 0, 4, .inl (σ 5))), (a 6, .inl (K 0, 4, .inl (σ 6))), (a 7, .inl (K 0, 6, .inl (σ 7)))]
def wd_Gw (K : Nat → ClassId) (a : Nat → Nat) (r_grammar r_grown r_joined : Nat) (σ : Nat → Nat → Int32) : va_W := [(a 0, .inr (4, [.ref r_grammar, .ref (a 1), .ref r_grown, .ref (a 2), .int (σ 0 4), .ref r_joined, .int (σ 0 6)])), (a 1, .inl (K 0, 601, .inl (σ 1))), (a 2, .inl (K 0, 12, .inl (σ 2)))]
def wd_Sr (K : Nat → ClassId) (a : Nat → Nat) (r_grammar : Nat) (σ : Nat → Nat → Int32) : va_W := [(a 0, .inr (5, [.ref r_grammar, .ref (a 1)])), (a 1, .inl (K 0, 6, .inl (σ 1)))]
def wd_Rt (K : Nat → ClassId) (a : Nat → Nat) (r_grammar r_chart r_grower r_shortestRows r_row r_tape r_leastCodes r_nextCodes : Nat) (σ : Nat → Nat → Int32) : va_W := [(a 0, .inr (6, [.ref r_grammar, .ref r_chart, .ref r_grower, .ref r_shortestRows, .ref r_row, .ref r_tape, .ref r_leastCodes, .ref r_nextCodes, .int (σ 0 8)]))]
def wd_Md (K : Nat → ClassId) (a : Nat → Nat) (r_least : Nat) (σ : Nat → Nat → Int32) : va_W := [(a 0, .inr (7, [.int (σ 0 0), .int (σ 0 1), .int (σ 0 2), .ref (a 1), .int (σ 0 4), .int (σ 0 5), .ref (a 2), .ref (a 3), .ref (a 4), .ref (a 5), .int (σ 0 10), .ref (a 6), .int (σ 0 12), .int (σ 0 13), .int (σ 0 14), .ref (a 7), .ref (a 8), .ref (a 9), .ref (a 10), .int (σ 0 19), .ref (a 11), .ref (a 12), .ref (a 13), .ref (a 14), .ref (a 15), .int (σ 0 25), .int (σ 0 26), .ref (a 16), .ref (a 17), .ref (a 18), .ref (a 19), .ref (a 20), .ref (a 21), .int (σ 0 33), .ref (a 22), .ref r_least])), (a 1, .inl (K 0, 20, .inl (σ 1))), (a 2, .inl (K 0, 31, .inl (σ 2))), (a 3, .inl (K 0, 31, .inl (σ 3))), (a 4, .inl (K 0, 248, .inl (σ 4))), (a 5, .inl (K 0, 12, .inl (σ 5))), (a 6, .inl (K 0, 200, .inl (σ 6))), (a 7, .inl (K 0, 936, .inl (σ 7))), (a 8, .inl (K 0, 1872, .inl (σ 8))), (a 9, .inl (K 0, 374400, .inl (σ 9))), (a 10, .inl (K 0, 1000, .inl (σ 10))), (a 11, .inl (K 0, 4, .inl (σ 11))), (a 12, .inl (K 0, 4, .inl (σ 12))), (a 13, .inl (K 0, 4, .inl (σ 13))), (a 14, .inl (K 0, 4, .inl (σ 14))), (a 15, .inl (K 0, 4, .inl (σ 15))), (a 16, .inl (K 0, 6, .inl (σ 16))), (a 17, .inl (K 0, 6, .inl (σ 17))), (a 18, .inl (K 1, 36, .inl (σ 18))), (a 19, .inl (K 0, 1000, .inl (σ 19))), (a 20, .inl (K 0, 2600, .inl (σ 20))), (a 21, .inl (K 0, 200, .inl (σ 21))), (a 22, .inl (K 0, 13, .inl (σ 22)))]
def wd_La (K : Nat → ClassId) (a : Nat → Nat) (σ : Nat → Int64) : va_W := [(a 0, .inl (K 2, 6, .inr (.inl σ)))]
