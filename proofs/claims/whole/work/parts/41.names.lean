/-! My names for this claim: classes, fields, methods, words, decode rows. -/
def gw : List Cond := lw_tbl.filter goodWord
theorem gw_mem {w : Cond} {i : Nat} (h : lw_tbl[i]? = some w) (hg : goodWord w = true) : w ∈ gw := List.mem_filter.mpr ⟨List.mem_of_getElem? h, hg⟩
theorem gw_in {w : Cond} (h : w ∈ gw) : w ∈ lw_tbl := (List.mem_filter.mp h).1
theorem gw_good : ∀ w ∈ gw, w ∈ gw ∧ ((w.onTables && w.keeps) = true ∨ ∃ ty, w = .arrayClass ty) := fun _ h => ⟨h, good_of_word (List.mem_filter.mp h).2⟩
theorem gw_cons {c : Cond} (h : c ∈ gw) : GoodIn gw (c :: gw) := fun w hw => (List.mem_cons.mp hw).elim (fun e => by rw [e]; exact gw_good c h) (gw_good w)
theorem gw_V {own C : String} {i : Nat} {y : MethodName} {c : Cond} (h1 : .methodLink own i y ∈ gw) (h2 : .instanceMethod y ∈ gw) (h3 : .selects C y y ∈ gw) (h4 : .initialized C ∈ gw) (h5 : c ∈ gw) : GoodIn gw (wsV own i C y (c :: gw)) := fun w hw => by
  unfold wsV at hw
  simp only [List.cons_append, List.nil_append, List.mem_cons] at hw
  rcases hw with rfl | rfl | rfl | rfl | hw
  · exact gw_good _ h1
  · exact gw_good _ h2
  · exact gw_good _ h3
  · exact gw_good _ h4
  · exact gw_cons h5 w (List.mem_cons.mpr hw)
theorem gw_S {own : String} {i : Nat} {y : MethodName} {c : Cond} (h1 : .methodLink own i y ∈ gw) (h2 : .static y ∈ gw) (h4 : .initialized own ∈ gw) (h5 : c ∈ gw) : GoodIn gw (wsS own i y (c :: gw)) := fun w hw => by
  unfold wsS at hw
  simp only [List.cons_append, List.nil_append, List.mem_cons] at hw
  rcases hw with rfl | rfl | rfl | hw
  · exact gw_good _ h1
  · exact gw_good _ h2
  · exact gw_good _ h4
  · exact gw_cons h5 w (List.mem_cons.mpr hw)
def R_L : String := "FlowGuardLaw"
def R_G : String := "FlowGuard"
def F_G : u_T := fun k => match k with
  | 0 => ("FlowGuard", "begins", "[I", true)
  | 1 => ("FlowGuard", "ends", "[I", true)
  | 2 => ("FlowGuard", "costs", "[I", true)
  | 3 => ("FlowGuard", "isOn", "[Z", true)
  | 4 => ("FlowGuard", "count", "I", false)
  | 5 => ("FlowGuard", "far", "[I", true)
  | 6 => ("FlowGuard", "flows", "[I", true)
  | _ => ("FlowGuard", "via", "[I", true)
def t_G : Nat → FieldType := fun k => match k with
  | 0 => .array .int
  | 1 => .array .int
  | 2 => .array .int
  | 3 => .array .boolean
  | 4 => .int
  | 5 => .array .int
  | 6 => .array .int
  | _ => .array .int
theorem n_G : ∀ a, a < 8 → ∀ b, b < 8 → a ≠ b → (F_G a).2.1 ≠ (F_G b).2.1 := by decide +kernel
theorem t_G_ok : ∀ k, k < 8 → parseFieldDescriptor (F_G k).2.2.1 = some (t_G k) := by decide +kernel
theorem j_G : ∀ w ∈ u_ws R_G F_G 8, w ∈ lw_tbl := by decide +kernel
theorem k_G : ∀ w ∈ u_ws R_G F_G 8, goodWord w = true := by decide +kernel
theorem i_G : ∀ w ∈ u_ws R_G F_G 8, w ∈ gw := fun w h => List.mem_filter.mpr ⟨j_G w h, k_G w h⟩
theorem in_G : .initialized R_G ∈ gw := gw_mem (i := 23) rfl rfl
def R_M : String := "FlowGuardModel"
def F_M : u_T := fun k => match k with
  | 0 => ("FlowGuardModel", "thrown", "I", false)
  | 1 => ("FlowGuardModel", "rules", "I", false)
  | 2 => ("FlowGuardModel", "from", "[I", true)
  | 3 => ("FlowGuardModel", "to", "[I", true)
  | 4 => ("FlowGuardModel", "costs", "[I", true)
  | 5 => ("FlowGuardModel", "on", "[Z", true)
  | 6 => ("FlowGuardModel", "far", "[I", true)
  | 7 => ("FlowGuardModel", "flows", "[I", true)
  | _ => ("FlowGuardModel", "came", "[I", true)
def t_M : Nat → FieldType := fun k => match k with
  | 0 => .int
  | 1 => .int
  | 2 => .array .int
  | 3 => .array .int
  | 4 => .array .int
  | 5 => .array .boolean
  | 6 => .array .int
  | 7 => .array .int
  | _ => .array .int
theorem n_M : ∀ a, a < 9 → ∀ b, b < 9 → a ≠ b → (F_M a).2.1 ≠ (F_M b).2.1 := by decide +kernel
theorem t_M_ok : ∀ k, k < 9 → parseFieldDescriptor (F_M k).2.2.1 = some (t_M k) := by decide +kernel
theorem j_M : ∀ w ∈ u_ws R_M F_M 9, w ∈ lw_tbl := by decide +kernel
theorem k_M : ∀ w ∈ u_ws R_M F_M 9, goodWord w = true := by decide +kernel
theorem i_M : ∀ w ∈ u_ws R_M F_M 9, w ∈ gw := fun w h => List.mem_filter.mpr ⟨j_M w h, k_M w h⟩
theorem in_M : .initialized R_M ∈ gw := gw_mem (i := 24) rfl rfl
theorem in_L : .initialized R_L ∈ gw := gw_mem (i := 22) rfl rfl
abbrev classes : List vw_C := [(R_G, F_G, 8), (R_M, F_M, 9)]
abbrev b_G_init : ByteArray := prog_1_method_1_code
def y_G_init : MethodName := ⟨R_G, "<init>", "()V"⟩
abbrev w_G_init : List Cond := .code y_G_init b_G_init 1 none :: gw
theorem cd_G_init : .code y_G_init b_G_init 1 none ∈ gw := gw_mem (i := 36) rfl rfl
theorem im_G_init : .instanceMethod y_G_init ∈ gw := gw_mem (i := 35) rfl rfl
abbrev b_G_clear : ByteArray := prog_1_method_2_code
def y_G_clear : MethodName := ⟨R_G, "clear", "()V"⟩
abbrev w_G_clear : List Cond := .code y_G_clear b_G_clear 1 none :: gw
theorem cd_G_clear : .code y_G_clear b_G_clear 1 none ∈ gw := gw_mem (i := 70) rfl rfl
abbrev rm_G_clear : Room := { frames := 0, cells := 0, slots := 0, locals := 0 }
theorem im_G_clear : .instanceMethod y_G_clear ∈ gw := gw_mem (i := 68) rfl rfl
theorem se_G_clear : .selects R_G y_G_clear y_G_clear ∈ gw := gw_mem (i := 69) rfl rfl
abbrev b_G_rule : ByteArray := prog_1_method_3_code
def y_G_rule : MethodName := ⟨R_G, "rule", "(III)I"⟩
abbrev w_G_rule : List Cond := .code y_G_rule b_G_rule 5 (some .int) :: gw
theorem cd_G_rule : .code y_G_rule b_G_rule 5 (some .int) ∈ gw := gw_mem (i := 97) rfl rfl
abbrev rm_G_rule : Room := { frames := 9, cells := 0, slots := 0, locals := 151 }
theorem im_G_rule : .instanceMethod y_G_rule ∈ gw := gw_mem (i := 95) rfl rfl
theorem se_G_rule : .selects R_G y_G_rule y_G_rule ∈ gw := gw_mem (i := 96) rfl rfl
abbrev b_G_turn : ByteArray := prog_1_method_4_code
def y_G_turn : MethodName := ⟨R_G, "turn", "(IZ)Z"⟩
abbrev w_G_turn : List Cond := .code y_G_turn b_G_turn 4 (some .boolean) :: gw
theorem cd_G_turn : .code y_G_turn b_G_turn 4 (some .boolean) ∈ gw := gw_mem (i := 200) rfl rfl
abbrev rm_G_turn : Room := { frames := 6, cells := 0, slots := 0, locals := 89 }
theorem im_G_turn : .instanceMethod y_G_turn ∈ gw := gw_mem (i := 198) rfl rfl
theorem se_G_turn : .selects R_G y_G_turn y_G_turn ∈ gw := gw_mem (i := 199) rfl rfl
abbrev b_G_length : ByteArray := prog_1_method_5_code
def y_G_length : MethodName := ⟨R_G, "length", "(II)I"⟩
abbrev w_G_length : List Cond := .code y_G_length b_G_length 3 (some .int) :: gw
theorem cd_G_length : .code y_G_length b_G_length 3 (some .int) ∈ gw := gw_mem (i := 223) rfl rfl
abbrev rm_G_length : Room := { frames := 8, cells := 0, slots := 0, locals := 130 }
theorem im_G_length : .instanceMethod y_G_length ∈ gw := gw_mem (i := 221) rfl rfl
theorem se_G_length : .selects R_G y_G_length y_G_length ∈ gw := gw_mem (i := 222) rfl rfl
abbrev b_G_step : ByteArray := prog_1_method_6_code
def y_G_step : MethodName := ⟨R_G, "step", "(III)I"⟩
abbrev w_G_step : List Cond := .code y_G_step b_G_step 4 (some .int) :: gw
theorem cd_G_step : .code y_G_step b_G_step 4 (some .int) ∈ gw := gw_mem (i := 238) rfl rfl
abbrev rm_G_step : Room := { frames := 8, cells := 0, slots := 0, locals := 130 }
theorem im_G_step : .instanceMethod y_G_step ∈ gw := gw_mem (i := 236) rfl rfl
theorem se_G_step : .selects R_G y_G_step y_G_step ∈ gw := gw_mem (i := 237) rfl rfl
abbrev b_G_passed : ByteArray := prog_1_method_7_code
def y_G_passed : MethodName := ⟨R_G, "passed", "(II)I"⟩
abbrev w_G_passed : List Cond := .code y_G_passed b_G_passed 7 (some .int) :: gw
theorem cd_G_passed : .code y_G_passed b_G_passed 7 (some .int) ∈ gw := gw_mem (i := 254) rfl rfl
abbrev rm_G_passed : Room := { frames := 8, cells := 0, slots := 0, locals := 130 }
theorem im_G_passed : .instanceMethod y_G_passed ∈ gw := gw_mem (i := 252) rfl rfl
theorem se_G_passed : .selects R_G y_G_passed y_G_passed ∈ gw := gw_mem (i := 253) rfl rfl
abbrev b_G_circle : ByteArray := prog_1_method_8_code
def y_G_circle : MethodName := ⟨R_G, "circle", "(I)I"⟩
abbrev w_G_circle : List Cond := .code y_G_circle b_G_circle 2 (some .int) :: gw
theorem cd_G_circle : .code y_G_circle b_G_circle 2 (some .int) ∈ gw := gw_mem (i := 261) rfl rfl
abbrev rm_G_circle : Room := { frames := 7, cells := 0, slots := 0, locals := 109 }
theorem im_G_circle : .instanceMethod y_G_circle ∈ gw := gw_mem (i := 259) rfl rfl
theorem se_G_circle : .selects R_G y_G_circle y_G_circle ∈ gw := gw_mem (i := 260) rfl rfl
abbrev b_G_circles : ByteArray := prog_1_method_9_code
def y_G_circles : MethodName := ⟨R_G, "circles", "()I"⟩
abbrev w_G_circles : List Cond := .code y_G_circles b_G_circles 4 (some .int) :: gw
theorem cd_G_circles : .code y_G_circles b_G_circles 4 (some .int) ∈ gw := gw_mem (i := 74) rfl rfl
abbrev rm_G_circles : Room := { frames := 4, cells := 0, slots := 0, locals := 90 }
theorem im_G_circles : .instanceMethod y_G_circles ∈ gw := gw_mem (i := 72) rfl rfl
theorem se_G_circles : .selects R_G y_G_circles y_G_circles ∈ gw := gw_mem (i := 73) rfl rfl
abbrev b_G_cut : ByteArray := prog_1_method_10_code
def y_G_cut : MethodName := ⟨R_G, "cut", "(II)I"⟩
abbrev w_G_cut : List Cond := .code y_G_cut b_G_cut 6 (some .int) :: gw
theorem cd_G_cut : .code y_G_cut b_G_cut 6 (some .int) ∈ gw := gw_mem (i := 268) rfl rfl
abbrev rm_G_cut : Room := { frames := 9, cells := 0, slots := 0, locals := 151 }
theorem im_G_cut : .instanceMethod y_G_cut ∈ gw := gw_mem (i := 266) rfl rfl
theorem se_G_cut : .selects R_G y_G_cut y_G_cut ∈ gw := gw_mem (i := 267) rfl rfl
abbrev b_G_cutRule : ByteArray := prog_1_method_11_code
def y_G_cutRule : MethodName := ⟨R_G, "cutRule", "(III)I"⟩
abbrev w_G_cutRule : List Cond := .code y_G_cutRule b_G_cutRule 7 (some .int) :: gw
theorem cd_G_cutRule : .code y_G_cutRule b_G_cutRule 7 (some .int) ∈ gw := gw_mem (i := 310) rfl rfl
abbrev rm_G_cutRule : Room := { frames := 9, cells := 0, slots := 0, locals := 151 }
theorem im_G_cutRule : .instanceMethod y_G_cutRule ∈ gw := gw_mem (i := 308) rfl rfl
theorem se_G_cutRule : .selects R_G y_G_cutRule y_G_cutRule ∈ gw := gw_mem (i := 309) rfl rfl
abbrev b_G_left : ByteArray := prog_1_method_12_code
def y_G_left : MethodName := ⟨R_G, "left", "(II)I"⟩
abbrev w_G_left : List Cond := .code y_G_left b_G_left 3 (some .int) :: gw
theorem cd_G_left : .code y_G_left b_G_left 3 (some .int) ∈ gw := gw_mem (i := 318) rfl rfl
abbrev rm_G_left : Room := { frames := 9, cells := 0, slots := 0, locals := 151 }
theorem im_G_left : .instanceMethod y_G_left ∈ gw := gw_mem (i := 316) rfl rfl
theorem se_G_left : .selects R_G y_G_left y_G_left ∈ gw := gw_mem (i := 317) rfl rfl
abbrev b_G_needNode : ByteArray := prog_1_method_13_code
def y_G_needNode : MethodName := ⟨R_G, "needNode", "(I)V"⟩
abbrev w_G_needNode : List Cond := .code y_G_needNode b_G_needNode 1 none :: gw
theorem cd_G_needNode : .code y_G_needNode b_G_needNode 1 none ∈ gw := gw_mem (i := 106) rfl rfl
abbrev rm_G_needNode : Room := { frames := 6, cells := 0, slots := 0, locals := 89 }
theorem st_G_needNode : .static y_G_needNode ∈ gw := gw_mem (i := 105) rfl rfl
abbrev b_G_needNodes : ByteArray := prog_1_method_14_code
def y_G_needNodes : MethodName := ⟨R_G, "needNodes", "(II)V"⟩
abbrev w_G_needNodes : List Cond := .code y_G_needNodes b_G_needNodes 2 none :: gw
theorem cd_G_needNodes : .code y_G_needNodes b_G_needNodes 2 none ∈ gw := gw_mem (i := 103) rfl rfl
abbrev rm_G_needNodes : Room := { frames := 7, cells := 0, slots := 0, locals := 109 }
theorem st_G_needNodes : .static y_G_needNodes ∈ gw := gw_mem (i := 102) rfl rfl
abbrev b_G_needUnlikeNodes : ByteArray := prog_1_method_15_code
def y_G_needUnlikeNodes : MethodName := ⟨R_G, "needUnlikeNodes", "(II)V"⟩
abbrev w_G_needUnlikeNodes : List Cond := .code y_G_needUnlikeNodes b_G_needUnlikeNodes 2 none :: gw
theorem cd_G_needUnlikeNodes : .code y_G_needUnlikeNodes b_G_needUnlikeNodes 2 none ∈ gw := gw_mem (i := 100) rfl rfl
abbrev rm_G_needUnlikeNodes : Room := { frames := 8, cells := 0, slots := 0, locals := 130 }
theorem st_G_needUnlikeNodes : .static y_G_needUnlikeNodes ∈ gw := gw_mem (i := 99) rfl rfl
abbrev b_G_bit : ByteArray := prog_1_method_16_code
def y_G_bit : MethodName := ⟨R_G, "bit", "(I)I"⟩
abbrev w_G_bit : List Cond := .code y_G_bit b_G_bit 1 (some .int) :: gw
theorem cd_G_bit : .code y_G_bit b_G_bit 1 (some .int) ∈ gw := gw_mem (i := 80) rfl rfl
abbrev rm_G_bit : Room := { frames := 0, cells := 0, slots := 0, locals := 0 }
theorem st_G_bit : .static y_G_bit ∈ gw := gw_mem (i := 79) rfl rfl
abbrev b_G_has : ByteArray := prog_1_method_17_code
def y_G_has : MethodName := ⟨R_G, "has", "(II)Z"⟩
abbrev w_G_has : List Cond := .code y_G_has b_G_has 2 (some .boolean) :: gw
theorem cd_G_has : .code y_G_has b_G_has 2 (some .boolean) ∈ gw := gw_mem (i := 77) rfl rfl
abbrev rm_G_has : Room := { frames := 1, cells := 0, slots := 0, locals := 20 }
theorem st_G_has : .static y_G_has ∈ gw := gw_mem (i := 76) rfl rfl
abbrev b_G_measureWaysTo : ByteArray := prog_1_method_18_code
def y_G_measureWaysTo : MethodName := ⟨R_G, "measureWaysTo", "(I)V"⟩
abbrev w_G_measureWaysTo : List Cond := .code y_G_measureWaysTo b_G_measureWaysTo 4 none :: gw
theorem cd_G_measureWaysTo : .code y_G_measureWaysTo b_G_measureWaysTo 4 none ∈ gw := gw_mem (i := 227) rfl rfl
abbrev rm_G_measureWaysTo : Room := { frames := 1, cells := 0, slots := 0, locals := 24 }
theorem im_G_measureWaysTo : .instanceMethod y_G_measureWaysTo ∈ gw := gw_mem (i := 226) rfl rfl
theorem se_G_measureWaysTo : .selects R_G y_G_measureWaysTo y_G_measureWaysTo ∈ gw := gw_mem (i := 3) rfl rfl
abbrev b_G_measureWaysOf : ByteArray := prog_1_method_19_code
def y_G_measureWaysOf : MethodName := ⟨R_G, "measureWaysOf", "(I)Z"⟩
abbrev w_G_measureWaysOf : List Cond := .code y_G_measureWaysOf b_G_measureWaysOf 5 (some .boolean) :: gw
theorem cd_G_measureWaysOf : .code y_G_measureWaysOf b_G_measureWaysOf 5 (some .boolean) ∈ gw := gw_mem (i := 231) rfl rfl
abbrev rm_G_measureWaysOf : Room := { frames := 0, cells := 0, slots := 0, locals := 0 }
theorem im_G_measureWaysOf : .instanceMethod y_G_measureWaysOf ∈ gw := gw_mem (i := 230) rfl rfl
theorem se_G_measureWaysOf : .selects R_G y_G_measureWaysOf y_G_measureWaysOf ∈ gw := gw_mem (i := 4) rfl rfl
abbrev b_G_ruleOfLeastWay : ByteArray := prog_1_method_20_code
def y_G_ruleOfLeastWay : MethodName := ⟨R_G, "ruleOfLeastWay", "(II)I"⟩
abbrev w_G_ruleOfLeastWay : List Cond := .code y_G_ruleOfLeastWay b_G_ruleOfLeastWay 6 (some .int) :: gw
theorem cd_G_ruleOfLeastWay : .code y_G_ruleOfLeastWay b_G_ruleOfLeastWay 6 (some .int) ∈ gw := gw_mem (i := 243) rfl rfl
abbrev rm_G_ruleOfLeastWay : Room := { frames := 1, cells := 0, slots := 0, locals := 22 }
theorem im_G_ruleOfLeastWay : .instanceMethod y_G_ruleOfLeastWay ∈ gw := gw_mem (i := 242) rfl rfl
theorem se_G_ruleOfLeastWay : .selects R_G y_G_ruleOfLeastWay y_G_ruleOfLeastWay ∈ gw := gw_mem (i := 5) rfl rfl
abbrev b_G_leastRuleOnward : ByteArray := prog_1_method_21_code
def y_G_leastRuleOnward : MethodName := ⟨R_G, "leastRuleOnward", "(I)I"⟩
abbrev w_G_leastRuleOnward : List Cond := .code y_G_leastRuleOnward b_G_leastRuleOnward 3 (some .int) :: gw
theorem cd_G_leastRuleOnward : .code y_G_leastRuleOnward b_G_leastRuleOnward 3 (some .int) ∈ gw := gw_mem (i := 247) rfl rfl
abbrev rm_G_leastRuleOnward : Room := { frames := 0, cells := 0, slots := 0, locals := 0 }
theorem im_G_leastRuleOnward : .instanceMethod y_G_leastRuleOnward ∈ gw := gw_mem (i := 246) rfl rfl
theorem se_G_leastRuleOnward : .selects R_G y_G_leastRuleOnward y_G_leastRuleOnward ∈ gw := gw_mem (i := 6) rfl rfl
abbrev b_G_reach : ByteArray := prog_1_method_22_code
def y_G_reach : MethodName := ⟨R_G, "reach", "([I[III)I"⟩
abbrev w_G_reach : List Cond := .code y_G_reach b_G_reach 9 (some .int) :: gw
theorem cd_G_reach : .code y_G_reach b_G_reach 9 (some .int) ∈ gw := gw_mem (i := 88) rfl rfl
abbrev rm_G_reach : Room := { frames := 2, cells := 0, slots := 0, locals := 41 }
theorem im_G_reach : .instanceMethod y_G_reach ∈ gw := gw_mem (i := 87) rfl rfl
theorem se_G_reach : .selects R_G y_G_reach y_G_reach ∈ gw := gw_mem (i := 1) rfl rfl
abbrev b_G_circleOf : ByteArray := prog_1_method_23_code
def y_G_circleOf : MethodName := ⟨R_G, "circleOf", "(I)I"⟩
abbrev w_G_circleOf : List Cond := .code y_G_circleOf b_G_circleOf 2 (some .int) :: gw
theorem cd_G_circleOf : .code y_G_circleOf b_G_circleOf 2 (some .int) ∈ gw := gw_mem (i := 84) rfl rfl
abbrev rm_G_circleOf : Room := { frames := 3, cells := 0, slots := 0, locals := 69 }
theorem im_G_circleOf : .instanceMethod y_G_circleOf ∈ gw := gw_mem (i := 83) rfl rfl
theorem se_G_circleOf : .selects R_G y_G_circleOf y_G_circleOf ∈ gw := gw_mem (i := 0) rfl rfl
abbrev b_G_leaves : ByteArray := prog_1_method_24_code
def y_G_leaves : MethodName := ⟨R_G, "leaves", "(II)Z"⟩
abbrev w_G_leaves : List Cond := .code y_G_leaves b_G_leaves 3 (some .boolean) :: gw
theorem cd_G_leaves : .code y_G_leaves b_G_leaves 3 (some .boolean) ∈ gw := gw_mem (i := 303) rfl rfl
abbrev rm_G_leaves : Room := { frames := 2, cells := 0, slots := 0, locals := 41 }
theorem im_G_leaves : .instanceMethod y_G_leaves ∈ gw := gw_mem (i := 302) rfl rfl
theorem se_G_leaves : .selects R_G y_G_leaves y_G_leaves ∈ gw := gw_mem (i := 14) rfl rfl
abbrev b_G_nearSide : ByteArray := prog_1_method_25_code
def y_G_nearSide : MethodName := ⟨R_G, "nearSide", "(II)I"⟩
abbrev w_G_nearSide : List Cond := .code y_G_nearSide b_G_nearSide 5 (some .int) :: gw
theorem cd_G_nearSide : .code y_G_nearSide b_G_nearSide 5 (some .int) ∈ gw := gw_mem (i := 272) rfl rfl
abbrev rm_G_nearSide : Room := { frames := 4, cells := 0, slots := 0, locals := 93 }
theorem im_G_nearSide : .instanceMethod y_G_nearSide ∈ gw := gw_mem (i := 271) rfl rfl
theorem se_G_nearSide : .selects R_G y_G_nearSide y_G_nearSide ∈ gw := gw_mem (i := 7) rfl rfl
abbrev b_G_spread : ByteArray := prog_1_method_26_code
def y_G_spread : MethodName := ⟨R_G, "spread", "(II)I"⟩
abbrev w_G_spread : List Cond := .code y_G_spread b_G_spread 6 (some .int) :: gw
theorem cd_G_spread : .code y_G_spread b_G_spread 6 (some .int) ∈ gw := gw_mem (i := 276) rfl rfl
abbrev rm_G_spread : Room := { frames := 3, cells := 0, slots := 0, locals := 68 }
theorem im_G_spread : .instanceMethod y_G_spread ∈ gw := gw_mem (i := 275) rfl rfl
theorem se_G_spread : .selects R_G y_G_spread y_G_spread ∈ gw := gw_mem (i := 8) rfl rfl
abbrev b_G_spreadByEachRule : ByteArray := prog_1_method_27_code
def y_G_spreadByEachRule : MethodName := ⟨R_G, "spreadByEachRule", "(I)I"⟩
abbrev w_G_spreadByEachRule : List Cond := .code y_G_spreadByEachRule b_G_spreadByEachRule 8 (some .int) :: gw
theorem cd_G_spreadByEachRule : .code y_G_spreadByEachRule b_G_spreadByEachRule 8 (some .int) ∈ gw := gw_mem (i := 280) rfl rfl
abbrev rm_G_spreadByEachRule : Room := { frames := 2, cells := 0, slots := 0, locals := 41 }
theorem im_G_spreadByEachRule : .instanceMethod y_G_spreadByEachRule ∈ gw := gw_mem (i := 279) rfl rfl
theorem se_G_spreadByEachRule : .selects R_G y_G_spreadByEachRule y_G_spreadByEachRule ∈ gw := gw_mem (i := 9) rfl rfl
abbrev b_G_pushAlong : ByteArray := prog_1_method_28_code
def y_G_pushAlong : MethodName := ⟨R_G, "pushAlong", "(II)V"⟩
abbrev w_G_pushAlong : List Cond := .code y_G_pushAlong b_G_pushAlong 6 none :: gw
theorem cd_G_pushAlong : .code y_G_pushAlong b_G_pushAlong 6 none ∈ gw := gw_mem (i := 284) rfl rfl
abbrev rm_G_pushAlong : Room := { frames := 1, cells := 0, slots := 0, locals := 23 }
theorem im_G_pushAlong : .instanceMethod y_G_pushAlong ∈ gw := gw_mem (i := 283) rfl rfl
theorem se_G_pushAlong : .selects R_G y_G_pushAlong y_G_pushAlong ∈ gw := gw_mem (i := 10) rfl rfl
abbrev b_G_nodeBefore : ByteArray := prog_1_method_29_code
def y_G_nodeBefore : MethodName := ⟨R_G, "nodeBefore", "(I)I"⟩
abbrev w_G_nodeBefore : List Cond := .code y_G_nodeBefore b_G_nodeBefore 3 (some .int) :: gw
theorem cd_G_nodeBefore : .code y_G_nodeBefore b_G_nodeBefore 3 (some .int) ∈ gw := gw_mem (i := 295) rfl rfl
abbrev rm_G_nodeBefore : Room := { frames := 0, cells := 0, slots := 0, locals := 0 }
theorem im_G_nodeBefore : .instanceMethod y_G_nodeBefore ∈ gw := gw_mem (i := 294) rfl rfl
theorem se_G_nodeBefore : .selects R_G y_G_nodeBefore y_G_nodeBefore ∈ gw := gw_mem (i := 12) rfl rfl
abbrev b_G_roomInto : ByteArray := prog_1_method_30_code
def y_G_roomInto : MethodName := ⟨R_G, "roomInto", "(I)I"⟩
abbrev w_G_roomInto : List Cond := .code y_G_roomInto b_G_roomInto 3 (some .int) :: gw
theorem cd_G_roomInto : .code y_G_roomInto b_G_roomInto 3 (some .int) ∈ gw := gw_mem (i := 288) rfl rfl
abbrev rm_G_roomInto : Room := { frames := 0, cells := 0, slots := 0, locals := 0 }
theorem im_G_roomInto : .instanceMethod y_G_roomInto ∈ gw := gw_mem (i := 287) rfl rfl
theorem se_G_roomInto : .selects R_G y_G_roomInto y_G_roomInto ∈ gw := gw_mem (i := 11) rfl rfl
abbrev b_G_pushInto : ByteArray := prog_1_method_31_code
def y_G_pushInto : MethodName := ⟨R_G, "pushInto", "(II)V"⟩
abbrev w_G_pushInto : List Cond := .code y_G_pushInto b_G_pushInto 4 none :: gw
theorem cd_G_pushInto : .code y_G_pushInto b_G_pushInto 4 none ∈ gw := gw_mem (i := 299) rfl rfl
abbrev rm_G_pushInto : Room := { frames := 0, cells := 0, slots := 0, locals := 0 }
theorem im_G_pushInto : .instanceMethod y_G_pushInto ∈ gw := gw_mem (i := 298) rfl rfl
theorem se_G_pushInto : .selects R_G y_G_pushInto y_G_pushInto ∈ gw := gw_mem (i := 13) rfl rfl
abbrev b_M_init : ByteArray := prog_3_method_1_code
def y_M_init : MethodName := ⟨R_M, "<init>", "()V"⟩
abbrev w_M_init : List Cond := .code y_M_init b_M_init 1 none :: gw
theorem cd_M_init : .code y_M_init b_M_init 1 none ∈ gw := gw_mem (i := 323) rfl rfl
theorem im_M_init : .instanceMethod y_M_init ∈ gw := gw_mem (i := 322) rfl rfl
abbrev b_M_thrown : ByteArray := prog_3_method_2_code
def y_M_thrown : MethodName := ⟨R_M, "thrown", "()I"⟩
abbrev w_M_thrown : List Cond := .code y_M_thrown b_M_thrown 1 (some .int) :: gw
theorem cd_M_thrown : .code y_M_thrown b_M_thrown 1 (some .int) ∈ gw := gw_mem (i := 356) rfl rfl
abbrev rm_M_thrown : Room := { frames := 0, cells := 0, slots := 0, locals := 0 }
theorem im_M_thrown : .instanceMethod y_M_thrown ∈ gw := gw_mem (i := 354) rfl rfl
theorem se_M_thrown : .selects R_M y_M_thrown y_M_thrown ∈ gw := gw_mem (i := 355) rfl rfl
abbrev b_M_refuse : ByteArray := prog_3_method_3_code
def y_M_refuse : MethodName := ⟨R_M, "refuse", "(ZZ)Z"⟩
abbrev w_M_refuse : List Cond := .code y_M_refuse b_M_refuse 3 (some .boolean) :: gw
theorem cd_M_refuse : .code y_M_refuse b_M_refuse 3 (some .boolean) ∈ gw := gw_mem (i := 374) rfl rfl
abbrev rm_M_refuse : Room := { frames := 0, cells := 0, slots := 0, locals := 0 }
theorem im_M_refuse : .instanceMethod y_M_refuse ∈ gw := gw_mem (i := 373) rfl rfl
theorem se_M_refuse : .selects R_M y_M_refuse y_M_refuse ∈ gw := gw_mem (i := 15) rfl rfl
abbrev b_M_in : ByteArray := prog_3_method_4_code
def y_M_in : MethodName := ⟨R_M, "in", "(III)Z"⟩
abbrev w_M_in : List Cond := .code y_M_in b_M_in 3 (some .boolean) :: gw
theorem cd_M_in : .code y_M_in b_M_in 3 (some .boolean) ∈ gw := gw_mem (i := 370) rfl rfl
abbrev rm_M_in : Room := { frames := 0, cells := 0, slots := 0, locals := 0 }
theorem st_M_in : .static y_M_in ∈ gw := gw_mem (i := 369) rfl rfl
abbrev b_M_isNode : ByteArray := prog_3_method_5_code
def y_M_isNode : MethodName := ⟨R_M, "isNode", "(I)Z"⟩
abbrev w_M_isNode : List Cond := .code y_M_isNode b_M_isNode 1 (some .boolean) :: gw
theorem cd_M_isNode : .code y_M_isNode b_M_isNode 1 (some .boolean) ∈ gw := gw_mem (i := 367) rfl rfl
abbrev rm_M_isNode : Room := { frames := 1, cells := 0, slots := 0, locals := 22 }
theorem st_M_isNode : .static y_M_isNode ∈ gw := gw_mem (i := 366) rfl rfl
abbrev b_M_clear : ByteArray := prog_3_method_6_code
def y_M_clear : MethodName := ⟨R_M, "clear", "()V"⟩
abbrev w_M_clear : List Cond := .code y_M_clear b_M_clear 1 none :: gw
theorem cd_M_clear : .code y_M_clear b_M_clear 1 none ∈ gw := gw_mem (i := 360) rfl rfl
abbrev rm_M_clear : Room := { frames := 0, cells := 0, slots := 0, locals := 0 }
theorem im_M_clear : .instanceMethod y_M_clear ∈ gw := gw_mem (i := 358) rfl rfl
theorem se_M_clear : .selects R_M y_M_clear y_M_clear ∈ gw := gw_mem (i := 359) rfl rfl
abbrev b_M_rule : ByteArray := prog_3_method_7_code
def y_M_rule : MethodName := ⟨R_M, "rule", "(III)I"⟩
abbrev w_M_rule : List Cond := .code y_M_rule b_M_rule 4 (some .int) :: gw
theorem cd_M_rule : .code y_M_rule b_M_rule 4 (some .int) ∈ gw := gw_mem (i := 364) rfl rfl
abbrev rm_M_rule : Room := { frames := 2, cells := 0, slots := 0, locals := 42 }
theorem im_M_rule : .instanceMethod y_M_rule ∈ gw := gw_mem (i := 362) rfl rfl
theorem se_M_rule : .selects R_M y_M_rule y_M_rule ∈ gw := gw_mem (i := 363) rfl rfl
abbrev b_M_turn : ByteArray := prog_3_method_8_code
def y_M_turn : MethodName := ⟨R_M, "turn", "(IZ)Z"⟩
abbrev w_M_turn : List Cond := .code y_M_turn b_M_turn 4 (some .boolean) :: gw
theorem cd_M_turn : .code y_M_turn b_M_turn 4 (some .boolean) ∈ gw := gw_mem (i := 378) rfl rfl
abbrev rm_M_turn : Room := { frames := 1, cells := 0, slots := 0, locals := 22 }
theorem im_M_turn : .instanceMethod y_M_turn ∈ gw := gw_mem (i := 376) rfl rfl
theorem se_M_turn : .selects R_M y_M_turn y_M_turn ∈ gw := gw_mem (i := 377) rfl rfl
abbrev b_M_measure : ByteArray := prog_3_method_9_code
def y_M_measure : MethodName := ⟨R_M, "measure", "(II)V"⟩
abbrev w_M_measure : List Cond := .code y_M_measure b_M_measure 7 none :: gw
theorem cd_M_measure : .code y_M_measure b_M_measure 7 none ∈ gw := gw_mem (i := 386) rfl rfl
abbrev rm_M_measure : Room := { frames := 0, cells := 0, slots := 0, locals := 0 }
theorem im_M_measure : .instanceMethod y_M_measure ∈ gw := gw_mem (i := 385) rfl rfl
theorem se_M_measure : .selects R_M y_M_measure y_M_measure ∈ gw := gw_mem (i := 16) rfl rfl
abbrev b_M_length : ByteArray := prog_3_method_10_code
def y_M_length : MethodName := ⟨R_M, "length", "(II)I"⟩
abbrev w_M_length : List Cond := .code y_M_length b_M_length 3 (some .int) :: gw
theorem cd_M_length : .code y_M_length b_M_length 3 (some .int) ∈ gw := gw_mem (i := 382) rfl rfl
abbrev rm_M_length : Room := { frames := 2, cells := 0, slots := 0, locals := 42 }
theorem im_M_length : .instanceMethod y_M_length ∈ gw := gw_mem (i := 380) rfl rfl
theorem se_M_length : .selects R_M y_M_length y_M_length ∈ gw := gw_mem (i := 381) rfl rfl
abbrev b_M_step : ByteArray := prog_3_method_11_code
def y_M_step : MethodName := ⟨R_M, "step", "(III)I"⟩
abbrev w_M_step : List Cond := .code y_M_step b_M_step 9 (some .int) :: gw
theorem cd_M_step : .code y_M_step b_M_step 9 (some .int) ∈ gw := gw_mem (i := 390) rfl rfl
abbrev rm_M_step : Room := { frames := 2, cells := 0, slots := 0, locals := 42 }
theorem im_M_step : .instanceMethod y_M_step ∈ gw := gw_mem (i := 388) rfl rfl
theorem se_M_step : .selects R_M y_M_step y_M_step ∈ gw := gw_mem (i := 389) rfl rfl
abbrev b_M_passed : ByteArray := prog_3_method_12_code
def y_M_passed : MethodName := ⟨R_M, "passed", "(II)I"⟩
abbrev w_M_passed : List Cond := .code y_M_passed b_M_passed 6 (some .int) :: gw
theorem cd_M_passed : .code y_M_passed b_M_passed 6 (some .int) ∈ gw := gw_mem (i := 394) rfl rfl
abbrev rm_M_passed : Room := { frames := 2, cells := 0, slots := 0, locals := 42 }
theorem im_M_passed : .instanceMethod y_M_passed ∈ gw := gw_mem (i := 392) rfl rfl
theorem se_M_passed : .selects R_M y_M_passed y_M_passed ∈ gw := gw_mem (i := 393) rfl rfl
abbrev b_M_before : ByteArray := prog_3_method_13_code
def y_M_before : MethodName := ⟨R_M, "before", "(I)I"⟩
abbrev w_M_before : List Cond := .code y_M_before b_M_before 4 (some .int) :: gw
theorem cd_M_before : .code y_M_before b_M_before 4 (some .int) ∈ gw := gw_mem (i := 406) rfl rfl
abbrev rm_M_before : Room := { frames := 1, cells := 0, slots := 0, locals := 26 }
theorem im_M_before : .instanceMethod y_M_before ∈ gw := gw_mem (i := 405) rfl rfl
theorem se_M_before : .selects R_M y_M_before y_M_before ∈ gw := gw_mem (i := 18) rfl rfl
abbrev b_M_circleOf : ByteArray := prog_3_method_14_code
def y_M_circleOf : MethodName := ⟨R_M, "circleOf", "(I)I"⟩
abbrev w_M_circleOf : List Cond := .code y_M_circleOf b_M_circleOf 5 (some .int) :: gw
theorem cd_M_circleOf : .code y_M_circleOf b_M_circleOf 5 (some .int) ∈ gw := gw_mem (i := 402) rfl rfl
abbrev rm_M_circleOf : Room := { frames := 2, cells := 0, slots := 0, locals := 49 }
theorem im_M_circleOf : .instanceMethod y_M_circleOf ∈ gw := gw_mem (i := 401) rfl rfl
theorem se_M_circleOf : .selects R_M y_M_circleOf y_M_circleOf ∈ gw := gw_mem (i := 17) rfl rfl
abbrev b_M_circle : ByteArray := prog_3_method_15_code
def y_M_circle : MethodName := ⟨R_M, "circle", "(I)I"⟩
abbrev w_M_circle : List Cond := .code y_M_circle b_M_circle 2 (some .int) :: gw
theorem cd_M_circle : .code y_M_circle b_M_circle 2 (some .int) ∈ gw := gw_mem (i := 398) rfl rfl
abbrev rm_M_circle : Room := { frames := 3, cells := 0, slots := 0, locals := 73 }
theorem im_M_circle : .instanceMethod y_M_circle ∈ gw := gw_mem (i := 396) rfl rfl
theorem se_M_circle : .selects R_M y_M_circle y_M_circle ∈ gw := gw_mem (i := 397) rfl rfl
abbrev b_M_circles : ByteArray := prog_3_method_16_code
def y_M_circles : MethodName := ⟨R_M, "circles", "()I"⟩
abbrev w_M_circles : List Cond := .code y_M_circles b_M_circles 3 (some .int) :: gw
theorem cd_M_circles : .code y_M_circles b_M_circles 3 (some .int) ∈ gw := gw_mem (i := 410) rfl rfl
abbrev rm_M_circles : Room := { frames := 3, cells := 0, slots := 0, locals := 73 }
theorem im_M_circles : .instanceMethod y_M_circles ∈ gw := gw_mem (i := 408) rfl rfl
theorem se_M_circles : .selects R_M y_M_circles y_M_circles ∈ gw := gw_mem (i := 409) rfl rfl
abbrev b_M_spread : ByteArray := prog_3_method_17_code
def y_M_spread : MethodName := ⟨R_M, "spread", "(I)V"⟩
abbrev w_M_spread : List Cond := .code y_M_spread b_M_spread 4 none :: gw
theorem cd_M_spread : .code y_M_spread b_M_spread 4 none ∈ gw := gw_mem (i := 425) rfl rfl
abbrev rm_M_spread : Room := { frames := 0, cells := 0, slots := 0, locals := 0 }
theorem im_M_spread : .instanceMethod y_M_spread ∈ gw := gw_mem (i := 424) rfl rfl
theorem se_M_spread : .selects R_M y_M_spread y_M_spread ∈ gw := gw_mem (i := 20) rfl rfl
abbrev b_M_push : ByteArray := prog_3_method_18_code
def y_M_push : MethodName := ⟨R_M, "push", "(II)V"⟩
abbrev w_M_push : List Cond := .code y_M_push b_M_push 6 none :: gw
theorem cd_M_push : .code y_M_push b_M_push 6 none ∈ gw := gw_mem (i := 429) rfl rfl
abbrev rm_M_push : Room := { frames := 0, cells := 0, slots := 0, locals := 0 }
theorem im_M_push : .instanceMethod y_M_push ∈ gw := gw_mem (i := 428) rfl rfl
theorem se_M_push : .selects R_M y_M_push y_M_push ∈ gw := gw_mem (i := 21) rfl rfl
abbrev b_M_flow : ByteArray := prog_3_method_19_code
def y_M_flow : MethodName := ⟨R_M, "flow", "(II)I"⟩
abbrev w_M_flow : List Cond := .code y_M_flow b_M_flow 4 (some .int) :: gw
theorem cd_M_flow : .code y_M_flow b_M_flow 4 (some .int) ∈ gw := gw_mem (i := 421) rfl rfl
abbrev rm_M_flow : Room := { frames := 1, cells := 0, slots := 0, locals := 25 }
theorem im_M_flow : .instanceMethod y_M_flow ∈ gw := gw_mem (i := 420) rfl rfl
theorem se_M_flow : .selects R_M y_M_flow y_M_flow ∈ gw := gw_mem (i := 19) rfl rfl
abbrev b_M_areUnlike : ByteArray := prog_3_method_20_code
def y_M_areUnlike : MethodName := ⟨R_M, "areUnlike", "(II)Z"⟩
abbrev w_M_areUnlike : List Cond := .code y_M_areUnlike b_M_areUnlike 2 (some .boolean) :: gw
theorem cd_M_areUnlike : .code y_M_areUnlike b_M_areUnlike 2 (some .boolean) ∈ gw := gw_mem (i := 417) rfl rfl
abbrev rm_M_areUnlike : Room := { frames := 2, cells := 0, slots := 0, locals := 42 }
theorem st_M_areUnlike : .static y_M_areUnlike ∈ gw := gw_mem (i := 416) rfl rfl
abbrev b_M_cut : ByteArray := prog_3_method_21_code
def y_M_cut : MethodName := ⟨R_M, "cut", "(II)I"⟩
abbrev w_M_cut : List Cond := .code y_M_cut b_M_cut 3 (some .int) :: gw
theorem cd_M_cut : .code y_M_cut b_M_cut 3 (some .int) ∈ gw := gw_mem (i := 414) rfl rfl
abbrev rm_M_cut : Room := { frames := 3, cells := 0, slots := 0, locals := 63 }
theorem im_M_cut : .instanceMethod y_M_cut ∈ gw := gw_mem (i := 412) rfl rfl
theorem se_M_cut : .selects R_M y_M_cut y_M_cut ∈ gw := gw_mem (i := 413) rfl rfl
abbrev b_M_left : ByteArray := prog_3_method_22_code
def y_M_left : MethodName := ⟨R_M, "left", "(II)I"⟩
abbrev w_M_left : List Cond := .code y_M_left b_M_left 5 (some .int) :: gw
theorem cd_M_left : .code y_M_left b_M_left 5 (some .int) ∈ gw := gw_mem (i := 433) rfl rfl
abbrev rm_M_left : Room := { frames := 3, cells := 0, slots := 0, locals := 63 }
theorem im_M_left : .instanceMethod y_M_left ∈ gw := gw_mem (i := 431) rfl rfl
theorem se_M_left : .selects R_M y_M_left y_M_left ∈ gw := gw_mem (i := 432) rfl rfl
abbrev b_M_cutRule : ByteArray := prog_3_method_23_code
def y_M_cutRule : MethodName := ⟨R_M, "cutRule", "(III)I"⟩
abbrev w_M_cutRule : List Cond := .code y_M_cutRule b_M_cutRule 6 (some .int) :: gw
theorem cd_M_cutRule : .code y_M_cutRule b_M_cutRule 6 (some .int) ∈ gw := gw_mem (i := 437) rfl rfl
abbrev rm_M_cutRule : Room := { frames := 3, cells := 0, slots := 0, locals := 63 }
theorem im_M_cutRule : .instanceMethod y_M_cutRule ∈ gw := gw_mem (i := 435) rfl rfl
theorem se_M_cutRule : .selects R_M y_M_cutRule y_M_cutRule ∈ gw := gw_mem (i := 436) rfl rfl
theorem ml_G_3 : .methodLink R_G 3 objectInit ∈ gw := gw_mem (i := 37) rfl rfl
theorem fl_G_9 : .fieldLink R_G 9 "FlowGuard" "begins" "[I" ∈ gw := gw_mem (i := 40) rfl rfl
theorem fl_G_13 : .fieldLink R_G 13 "FlowGuard" "ends" "[I" ∈ gw := gw_mem (i := 41) rfl rfl
theorem fl_G_16 : .fieldLink R_G 16 "FlowGuard" "costs" "[I" ∈ gw := gw_mem (i := 42) rfl rfl
theorem fl_G_19 : .fieldLink R_G 19 "FlowGuard" "isOn" "[Z" ∈ gw := gw_mem (i := 43) rfl rfl
theorem fl_G_23 : .fieldLink R_G 23 "FlowGuard" "count" "I" ∈ gw := gw_mem (i := 44) rfl rfl
theorem fl_G_27 : .fieldLink R_G 27 "FlowGuard" "far" "[I" ∈ gw := gw_mem (i := 45) rfl rfl
theorem fl_G_30 : .fieldLink R_G 30 "FlowGuard" "flows" "[I" ∈ gw := gw_mem (i := 46) rfl rfl
theorem fl_G_33 : .fieldLink R_G 33 "FlowGuard" "via" "[I" ∈ gw := gw_mem (i := 47) rfl rfl
theorem ml_G_36 : .methodLink R_G 36 y_G_needUnlikeNodes ∈ gw := gw_mem (i := 98) rfl rfl
theorem gs_G_36 : GoodIn gw (wsS R_G 36 y_G_needUnlikeNodes w_G_needUnlikeNodes) := gw_S ml_G_36 st_G_needUnlikeNodes in_G cd_G_needUnlikeNodes
theorem ml_G_57 : .methodLink R_G 57 y_G_needNodes ∈ gw := gw_mem (i := 101) rfl rfl
theorem gs_G_57 : GoodIn gw (wsS R_G 57 y_G_needNodes w_G_needNodes) := gw_S ml_G_57 st_G_needNodes in_G cd_G_needNodes
theorem ml_G_60 : .methodLink R_G 60 y_G_measureWaysTo ∈ gw := gw_mem (i := 224) rfl rfl
theorem gv_G_60 : GoodIn gw (wsV R_G 60 R_G y_G_measureWaysTo w_G_measureWaysTo) := gw_V ml_G_60 im_G_measureWaysTo se_G_measureWaysTo in_G cd_G_measureWaysTo
theorem ml_G_66 : .methodLink R_G 66 y_G_ruleOfLeastWay ∈ gw := gw_mem (i := 240) rfl rfl
theorem gv_G_66 : GoodIn gw (wsV R_G 66 R_G y_G_ruleOfLeastWay w_G_ruleOfLeastWay) := gw_V ml_G_66 im_G_ruleOfLeastWay se_G_ruleOfLeastWay in_G cd_G_ruleOfLeastWay
theorem ml_G_70 : .methodLink R_G 70 y_G_reach ∈ gw := gw_mem (i := 85) rfl rfl
theorem gv_G_70 : GoodIn gw (wsV R_G 70 R_G y_G_reach w_G_reach) := gw_V ml_G_70 im_G_reach se_G_reach in_G cd_G_reach
theorem ml_G_74 : .methodLink R_G 74 y_G_has ∈ gw := gw_mem (i := 75) rfl rfl
theorem gs_G_74 : GoodIn gw (wsS R_G 74 y_G_has w_G_has) := gw_S ml_G_74 st_G_has in_G cd_G_has
theorem ml_G_78 : .methodLink R_G 78 y_G_bit ∈ gw := gw_mem (i := 78) rfl rfl
theorem gs_G_78 : GoodIn gw (wsS R_G 78 y_G_bit w_G_bit) := gw_S ml_G_78 st_G_bit in_G cd_G_bit
theorem ml_G_82 : .methodLink R_G 82 y_G_needNode ∈ gw := gw_mem (i := 104) rfl rfl
theorem gs_G_82 : GoodIn gw (wsS R_G 82 y_G_needNode w_G_needNode) := gw_S ml_G_82 st_G_needNode in_G cd_G_needNode
theorem ml_G_85 : .methodLink R_G 85 y_G_circleOf ∈ gw := gw_mem (i := 81) rfl rfl
theorem gv_G_85 : GoodIn gw (wsV R_G 85 R_G y_G_circleOf w_G_circleOf) := gw_V ml_G_85 im_G_circleOf se_G_circleOf in_G cd_G_circleOf
theorem ml_G_88 : .methodLink R_G 88 y_G_nearSide ∈ gw := gw_mem (i := 269) rfl rfl
theorem gv_G_88 : GoodIn gw (wsV R_G 88 R_G y_G_nearSide w_G_nearSide) := gw_V ml_G_88 im_G_nearSide se_G_nearSide in_G cd_G_nearSide
theorem ml_G_91 : .methodLink R_G 91 y_G_leaves ∈ gw := gw_mem (i := 300) rfl rfl
theorem gv_G_91 : GoodIn gw (wsV R_G 91 R_G y_G_leaves w_G_leaves) := gw_V ml_G_91 im_G_leaves se_G_leaves in_G cd_G_leaves
theorem ml_G_100 : .methodLink R_G 100 y_G_measureWaysOf ∈ gw := gw_mem (i := 228) rfl rfl
theorem gv_G_100 : GoodIn gw (wsV R_G 100 R_G y_G_measureWaysOf w_G_measureWaysOf) := gw_V ml_G_100 im_G_measureWaysOf se_G_measureWaysOf in_G cd_G_measureWaysOf
theorem ml_G_104 : .methodLink R_G 104 y_G_leastRuleOnward ∈ gw := gw_mem (i := 244) rfl rfl
theorem gv_G_104 : GoodIn gw (wsV R_G 104 R_G y_G_leastRuleOnward w_G_leastRuleOnward) := gw_V ml_G_104 im_G_leastRuleOnward se_G_leastRuleOnward in_G cd_G_leastRuleOnward
theorem ml_G_107 : .methodLink R_G 107 y_G_spread ∈ gw := gw_mem (i := 273) rfl rfl
theorem gv_G_107 : GoodIn gw (wsV R_G 107 R_G y_G_spread w_G_spread) := gw_V ml_G_107 im_G_spread se_G_spread in_G cd_G_spread
theorem ml_G_110 : .methodLink R_G 110 y_G_pushAlong ∈ gw := gw_mem (i := 281) rfl rfl
theorem gv_G_110 : GoodIn gw (wsV R_G 110 R_G y_G_pushAlong w_G_pushAlong) := gw_V ml_G_110 im_G_pushAlong se_G_pushAlong in_G cd_G_pushAlong
theorem ml_G_113 : .methodLink R_G 113 y_G_spreadByEachRule ∈ gw := gw_mem (i := 277) rfl rfl
theorem gv_G_113 : GoodIn gw (wsV R_G 113 R_G y_G_spreadByEachRule w_G_spreadByEachRule) := gw_V ml_G_113 im_G_spreadByEachRule se_G_spreadByEachRule in_G cd_G_spreadByEachRule
theorem ml_G_116 : .methodLink R_G 116 y_G_roomInto ∈ gw := gw_mem (i := 285) rfl rfl
theorem gv_G_116 : GoodIn gw (wsV R_G 116 R_G y_G_roomInto w_G_roomInto) := gw_V ml_G_116 im_G_roomInto se_G_roomInto in_G cd_G_roomInto
theorem ml_G_119 : .methodLink R_G 119 Lib.Math.min.name ∈ gw := gw_mem (i := 289) rfl rfl
theorem st_min : .static Lib.Math.min.name ∈ gw := gw_mem (i := 290) rfl rfl
theorem in_Math : .initialized "java/lang/Math" ∈ gw := gw_mem (i := 31) rfl rfl
theorem cd_min : .code Lib.Math.min.name Lib.Math.min.code 2 (some .int) ∈ gw := gw_mem (i := 291) rfl rfl
theorem ml_G_124 : .methodLink R_G 124 y_G_nodeBefore ∈ gw := gw_mem (i := 292) rfl rfl
theorem gv_G_124 : GoodIn gw (wsV R_G 124 R_G y_G_nodeBefore w_G_nodeBefore) := gw_V ml_G_124 im_G_nodeBefore se_G_nodeBefore in_G cd_G_nodeBefore
theorem ml_G_127 : .methodLink R_G 127 y_G_pushInto ∈ gw := gw_mem (i := 296) rfl rfl
theorem gv_G_127 : GoodIn gw (wsV R_G 127 R_G y_G_pushInto w_G_pushInto) := gw_V ml_G_127 im_G_pushInto se_G_pushInto in_G cd_G_pushInto
theorem ml_M_1 : .methodLink R_M 1 objectInit ∈ gw := gw_mem (i := 324) rfl rfl
theorem fl_M_7 : .fieldLink R_M 7 "FlowGuardModel" "from" "[I" ∈ gw := gw_mem (i := 327) rfl rfl
theorem fl_M_13 : .fieldLink R_M 13 "FlowGuardModel" "to" "[I" ∈ gw := gw_mem (i := 328) rfl rfl
theorem fl_M_16 : .fieldLink R_M 16 "FlowGuardModel" "costs" "[I" ∈ gw := gw_mem (i := 329) rfl rfl
theorem fl_M_19 : .fieldLink R_M 19 "FlowGuardModel" "on" "[Z" ∈ gw := gw_mem (i := 330) rfl rfl
theorem fl_M_23 : .fieldLink R_M 23 "FlowGuardModel" "far" "[I" ∈ gw := gw_mem (i := 331) rfl rfl
theorem fl_M_26 : .fieldLink R_M 26 "FlowGuardModel" "flows" "[I" ∈ gw := gw_mem (i := 332) rfl rfl
theorem fl_M_29 : .fieldLink R_M 29 "FlowGuardModel" "came" "[I" ∈ gw := gw_mem (i := 333) rfl rfl
theorem fl_M_32 : .fieldLink R_M 32 "FlowGuardModel" "thrown" "I" ∈ gw := gw_mem (i := 325) rfl rfl
theorem ml_M_36 : .methodLink R_M 36 y_M_in ∈ gw := gw_mem (i := 368) rfl rfl
theorem gs_M_36 : GoodIn gw (wsS R_M 36 y_M_in w_M_in) := gw_S ml_M_36 st_M_in in_M cd_M_in
theorem fl_M_40 : .fieldLink R_M 40 "FlowGuardModel" "rules" "I" ∈ gw := gw_mem (i := 326) rfl rfl
theorem ml_M_43 : .methodLink R_M 43 y_M_isNode ∈ gw := gw_mem (i := 365) rfl rfl
theorem gs_M_43 : GoodIn gw (wsS R_M 43 y_M_isNode w_M_isNode) := gw_S ml_M_43 st_M_isNode in_M cd_M_isNode
theorem ml_M_47 : .methodLink R_M 47 y_M_refuse ∈ gw := gw_mem (i := 371) rfl rfl
theorem gv_M_47 : GoodIn gw (wsV R_M 47 R_M y_M_refuse w_M_refuse) := gw_V ml_M_47 im_M_refuse se_M_refuse in_M cd_M_refuse
theorem ml_M_51 : .methodLink R_M 51 y_M_measure ∈ gw := gw_mem (i := 383) rfl rfl
theorem gv_M_51 : GoodIn gw (wsV R_M 51 R_M y_M_measure w_M_measure) := gw_V ml_M_51 im_M_measure se_M_measure in_M cd_M_measure
theorem ml_M_55 : .methodLink R_M 55 y_M_before ∈ gw := gw_mem (i := 403) rfl rfl
theorem gv_M_55 : GoodIn gw (wsV R_M 55 R_M y_M_before w_M_before) := gw_V ml_M_55 im_M_before se_M_before in_M cd_M_before
theorem ml_M_59 : .methodLink R_M 59 y_M_circleOf ∈ gw := gw_mem (i := 399) rfl rfl
theorem gv_M_59 : GoodIn gw (wsV R_M 59 R_M y_M_circleOf w_M_circleOf) := gw_V ml_M_59 im_M_circleOf se_M_circleOf in_M cd_M_circleOf
theorem ml_M_62 : .methodLink R_M 62 y_M_spread ∈ gw := gw_mem (i := 422) rfl rfl
theorem gv_M_62 : GoodIn gw (wsV R_M 62 R_M y_M_spread w_M_spread) := gw_V ml_M_62 im_M_spread se_M_spread in_M cd_M_spread
theorem ml_M_66 : .methodLink R_M 66 y_M_push ∈ gw := gw_mem (i := 426) rfl rfl
theorem gv_M_66 : GoodIn gw (wsV R_M 66 R_M y_M_push w_M_push) := gw_V ml_M_66 im_M_push se_M_push in_M cd_M_push
theorem ml_M_69 : .methodLink R_M 69 y_M_areUnlike ∈ gw := gw_mem (i := 415) rfl rfl
theorem gs_M_69 : GoodIn gw (wsS R_M 69 y_M_areUnlike w_M_areUnlike) := gw_S ml_M_69 st_M_areUnlike in_M cd_M_areUnlike
theorem ml_M_73 : .methodLink R_M 73 y_M_flow ∈ gw := gw_mem (i := 418) rfl rfl
theorem gv_M_73 : GoodIn gw (wsV R_M 73 R_M y_M_flow w_M_flow) := gw_V ml_M_73 im_M_flow se_M_flow in_M cd_M_flow
