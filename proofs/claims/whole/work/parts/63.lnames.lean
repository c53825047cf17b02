/-! Names of the law and of its helpers. -/
theorem gw_SW {own : String} {i : Nat} {y : MethodName} {c : Cond} (h1 : .methodLink own i y ∈ gw) (h2 : .static y ∈ gw) (h4 : .initialized y.cls ∈ gw) (h5 : c ∈ gw) : GoodIn gw (va_wsS own i y (c :: gw)) := fun w hw => by
  unfold va_wsS at hw
  simp only [List.cons_append, List.nil_append, List.mem_cons] at hw
  rcases hw with rfl | rfl | rfl | hw
  · exact gw_good _ h1
  · exact gw_good _ h2
  · exact gw_good _ h4
  · exact gw_cons h5 w (List.mem_cons.mpr hw)
abbrev b_L_rule : ByteArray := method_3_code
def y_L_rule : MethodName := ⟨R_L, "rule", "(LFlowGuard;III[J)I"⟩
abbrev hh_L_rule : List (Nat × Nat × Nat × Nat) := [(0, 12, 15, 13), (0, 12, 19, 15)]
abbrev w_L_rule : List Cond := .codeWith y_L_rule b_L_rule 6 (some .int) hh_L_rule :: gw
theorem cd_L_rule : .codeWith y_L_rule b_L_rule 6 (some .int) hh_L_rule ∈ gw := gw_mem (i := 91) rfl rfl
theorem st_L_rule : .static y_L_rule ∈ gw := gw_mem (i := 90) rfl rfl
abbrev rm_L_rule : Room := { frames := 10, cells := 1, slots := 6, locals := 175 }
theorem cl_L_13 : .classLink R_L 13 "java/lang/IllegalArgumentException" ∈ gw := gw_mem (i := 92) rfl rfl
theorem cl_L_15 : .classLink R_L 15 "java/lang/UnsupportedOperationException" ∈ gw := gw_mem (i := 93) rfl rfl
abbrev b_L_turn : ByteArray := method_4_code
def y_L_turn : MethodName := ⟨R_L, "turn", "(LFlowGuard;IZ[J)I"⟩
abbrev hh_L_turn : List (Nat × Nat × Nat × Nat) := [(0, 17, 20, 21)]
abbrev w_L_turn : List Cond := .codeWith y_L_turn b_L_turn 5 (some .int) hh_L_turn :: gw
theorem cd_L_turn : .codeWith y_L_turn b_L_turn 5 (some .int) hh_L_turn ∈ gw := gw_mem (i := 195) rfl rfl
theorem st_L_turn : .static y_L_turn ∈ gw := gw_mem (i := 194) rfl rfl
abbrev rm_L_turn : Room := { frames := 7, cells := 1, slots := 6, locals := 112 }
theorem cl_L_21 : .classLink R_L 21 "java/lang/IndexOutOfBoundsException" ∈ gw := gw_mem (i := 196) rfl rfl
abbrev b_L_length : ByteArray := method_5_code
def y_L_length : MethodName := ⟨R_L, "length", "(LFlowGuard;II[J)I"⟩
abbrev hh_L_length : List (Nat × Nat × Nat × Nat) := [(0, 10, 13, 13)]
abbrev w_L_length : List Cond := .codeWith y_L_length b_L_length 5 (some .int) hh_L_length :: gw
theorem cd_L_length : .codeWith y_L_length b_L_length 5 (some .int) hh_L_length ∈ gw := gw_mem (i := 219) rfl rfl
theorem st_L_length : .static y_L_length ∈ gw := gw_mem (i := 218) rfl rfl
abbrev rm_L_length : Room := { frames := 9, cells := 1, slots := 6, locals := 152 }
abbrev b_L_step : ByteArray := method_6_code
def y_L_step : MethodName := ⟨R_L, "step", "(LFlowGuard;III[J)I"⟩
abbrev hh_L_step : List (Nat × Nat × Nat × Nat) := [(0, 12, 15, 13), (0, 12, 19, 21)]
abbrev w_L_step : List Cond := .codeWith y_L_step b_L_step 6 (some .int) hh_L_step :: gw
theorem cd_L_step : .codeWith y_L_step b_L_step 6 (some .int) hh_L_step ∈ gw := gw_mem (i := 234) rfl rfl
theorem st_L_step : .static y_L_step ∈ gw := gw_mem (i := 233) rfl rfl
abbrev rm_L_step : Room := { frames := 9, cells := 1, slots := 6, locals := 153 }
abbrev b_L_passed : ByteArray := method_7_code
def y_L_passed : MethodName := ⟨R_L, "passed", "(LFlowGuard;II[J)I"⟩
abbrev hh_L_passed : List (Nat × Nat × Nat × Nat) := [(0, 10, 13, 13)]
abbrev w_L_passed : List Cond := .codeWith y_L_passed b_L_passed 5 (some .int) hh_L_passed :: gw
theorem cd_L_passed : .codeWith y_L_passed b_L_passed 5 (some .int) hh_L_passed ∈ gw := gw_mem (i := 250) rfl rfl
theorem st_L_passed : .static y_L_passed ∈ gw := gw_mem (i := 249) rfl rfl
abbrev rm_L_passed : Room := { frames := 9, cells := 1, slots := 6, locals := 156 }
abbrev b_L_circle : ByteArray := method_8_code
def y_L_circle : MethodName := ⟨R_L, "circle", "(LFlowGuard;I[J)I"⟩
abbrev hh_L_circle : List (Nat × Nat × Nat × Nat) := [(0, 9, 12, 13)]
abbrev w_L_circle : List Cond := .codeWith y_L_circle b_L_circle 4 (some .int) hh_L_circle :: gw
theorem cd_L_circle : .codeWith y_L_circle b_L_circle 4 (some .int) hh_L_circle ∈ gw := gw_mem (i := 257) rfl rfl
theorem st_L_circle : .static y_L_circle ∈ gw := gw_mem (i := 256) rfl rfl
abbrev rm_L_circle : Room := { frames := 8, cells := 1, slots := 6, locals := 130 }
abbrev b_L_cut : ByteArray := method_9_code
def y_L_cut : MethodName := ⟨R_L, "cut", "(LFlowGuard;II[J)I"⟩
abbrev hh_L_cut : List (Nat × Nat × Nat × Nat) := [(0, 10, 13, 13)]
abbrev w_L_cut : List Cond := .codeWith y_L_cut b_L_cut 5 (some .int) hh_L_cut :: gw
theorem cd_L_cut : .codeWith y_L_cut b_L_cut 5 (some .int) hh_L_cut ∈ gw := gw_mem (i := 264) rfl rfl
theorem st_L_cut : .static y_L_cut ∈ gw := gw_mem (i := 263) rfl rfl
abbrev rm_L_cut : Room := { frames := 10, cells := 1, slots := 6, locals := 176 }
abbrev b_L_cutRule : ByteArray := method_10_code
def y_L_cutRule : MethodName := ⟨R_L, "cutRule", "(LFlowGuard;III[J)I"⟩
abbrev hh_L_cutRule : List (Nat × Nat × Nat × Nat) := [(0, 12, 15, 13)]
abbrev w_L_cutRule : List Cond := .codeWith y_L_cutRule b_L_cutRule 6 (some .int) hh_L_cutRule :: gw
theorem cd_L_cutRule : .codeWith y_L_cutRule b_L_cutRule 6 (some .int) hh_L_cutRule ∈ gw := gw_mem (i := 306) rfl rfl
theorem st_L_cutRule : .static y_L_cutRule ∈ gw := gw_mem (i := 305) rfl rfl
abbrev rm_L_cutRule : Room := { frames := 10, cells := 1, slots := 6, locals := 177 }
abbrev b_L_left : ByteArray := method_11_code
def y_L_left : MethodName := ⟨R_L, "left", "(LFlowGuard;II[J)I"⟩
abbrev hh_L_left : List (Nat × Nat × Nat × Nat) := [(0, 10, 13, 13)]
abbrev w_L_left : List Cond := .codeWith y_L_left b_L_left 5 (some .int) hh_L_left :: gw
theorem cd_L_left : .codeWith y_L_left b_L_left 5 (some .int) hh_L_left ∈ gw := gw_mem (i := 314) rfl rfl
theorem st_L_left : .static y_L_left ∈ gw := gw_mem (i := 313) rfl rfl
abbrev rm_L_left : Room := { frames := 10, cells := 1, slots := 6, locals := 173 }
abbrev b_L_law : ByteArray := code
theorem ml_L_7 : .methodLink R_L 7 y_G_rule ∈ gw := gw_mem (i := 94) rfl rfl
theorem gv_L_7 : GoodIn gw (wsV R_L 7 R_G y_G_rule w_G_rule) := gw_V ml_L_7 im_G_rule se_G_rule in_G cd_G_rule
theorem ml_L_17 : .methodLink R_L 17 y_G_turn ∈ gw := gw_mem (i := 197) rfl rfl
theorem gv_L_17 : GoodIn gw (wsV R_L 17 R_G y_G_turn w_G_turn) := gw_V ml_L_17 im_G_turn se_G_turn in_G cd_G_turn
theorem ml_L_23 : .methodLink R_L 23 y_G_length ∈ gw := gw_mem (i := 220) rfl rfl
theorem gv_L_23 : GoodIn gw (wsV R_L 23 R_G y_G_length w_G_length) := gw_V ml_L_23 im_G_length se_G_length in_G cd_G_length
theorem ml_L_27 : .methodLink R_L 27 y_G_step ∈ gw := gw_mem (i := 235) rfl rfl
theorem gv_L_27 : GoodIn gw (wsV R_L 27 R_G y_G_step w_G_step) := gw_V ml_L_27 im_G_step se_G_step in_G cd_G_step
theorem ml_L_30 : .methodLink R_L 30 y_G_passed ∈ gw := gw_mem (i := 251) rfl rfl
theorem gv_L_30 : GoodIn gw (wsV R_L 30 R_G y_G_passed w_G_passed) := gw_V ml_L_30 im_G_passed se_G_passed in_G cd_G_passed
theorem ml_L_33 : .methodLink R_L 33 y_G_circle ∈ gw := gw_mem (i := 258) rfl rfl
theorem gv_L_33 : GoodIn gw (wsV R_L 33 R_G y_G_circle w_G_circle) := gw_V ml_L_33 im_G_circle se_G_circle in_G cd_G_circle
theorem ml_L_37 : .methodLink R_L 37 y_G_cut ∈ gw := gw_mem (i := 265) rfl rfl
theorem gv_L_37 : GoodIn gw (wsV R_L 37 R_G y_G_cut w_G_cut) := gw_V ml_L_37 im_G_cut se_G_cut in_G cd_G_cut
theorem ml_L_40 : .methodLink R_L 40 y_G_cutRule ∈ gw := gw_mem (i := 307) rfl rfl
theorem gv_L_40 : GoodIn gw (wsV R_L 40 R_G y_G_cutRule w_G_cutRule) := gw_V ml_L_40 im_G_cutRule se_G_cutRule in_G cd_G_cutRule
theorem ml_L_43 : .methodLink R_L 43 y_G_left ∈ gw := gw_mem (i := 315) rfl rfl
theorem gv_L_43 : GoodIn gw (wsV R_L 43 R_G y_G_left w_G_left) := gw_V ml_L_43 im_G_left se_G_left in_G cd_G_left
theorem cl_L_8 : .classLink R_L 8 R_G ∈ gw := gw_mem (i := 32) rfl rfl
theorem ml_L_46 : .methodLink R_L 46 y_G_init ∈ gw := gw_mem (i := 34) rfl rfl
theorem cl_L_47 : .classLink R_L 47 R_M ∈ gw := gw_mem (i := 319) rfl rfl
theorem ml_L_49 : .methodLink R_L 49 y_M_init ∈ gw := gw_mem (i := 321) rfl rfl
theorem ml_L_50 : .methodLink R_L 50 y_G_clear ∈ gw := gw_mem (i := 67) rfl rfl
theorem gv_L_50 : GoodIn gw (wsV R_L 50 R_G y_G_clear w_G_clear) := gw_V ml_L_50 im_G_clear se_G_clear in_G cd_G_clear
theorem ml_L_53 : .methodLink R_L 53 y_M_clear ∈ gw := gw_mem (i := 357) rfl rfl
theorem gv_L_53 : GoodIn gw (wsV R_L 53 R_M y_M_clear w_M_clear) := gw_V ml_L_53 im_M_clear se_M_clear in_M cd_M_clear
theorem ml_L_54 : .methodLink R_L 54 y_L_rule ∈ gw := gw_mem (i := 89) rfl rfl
theorem gw_L_54 : GoodIn gw (va_wsS R_L 54 y_L_rule w_L_rule) := gw_SW ml_L_54 st_L_rule in_L cd_L_rule
theorem ml_L_59 : .methodLink R_L 59 y_M_rule ∈ gw := gw_mem (i := 361) rfl rfl
theorem gv_L_59 : GoodIn gw (wsV R_L 59 R_M y_M_rule w_M_rule) := gw_V ml_L_59 im_M_rule se_M_rule in_M cd_M_rule
theorem ml_L_60 : .methodLink R_L 60 y_M_thrown ∈ gw := gw_mem (i := 353) rfl rfl
theorem gv_L_60 : GoodIn gw (wsV R_L 60 R_M y_M_thrown w_M_thrown) := gw_V ml_L_60 im_M_thrown se_M_thrown in_M cd_M_thrown
theorem ml_L_64 : .methodLink R_L 64 y_L_turn ∈ gw := gw_mem (i := 193) rfl rfl
theorem gw_L_64 : GoodIn gw (va_wsS R_L 64 y_L_turn w_L_turn) := gw_SW ml_L_64 st_L_turn in_L cd_L_turn
theorem ml_L_67 : .methodLink R_L 67 y_M_turn ∈ gw := gw_mem (i := 375) rfl rfl
theorem gv_L_67 : GoodIn gw (wsV R_L 67 R_M y_M_turn w_M_turn) := gw_V ml_L_67 im_M_turn se_M_turn in_M cd_M_turn
theorem ml_L_68 : .methodLink R_L 68 y_L_length ∈ gw := gw_mem (i := 217) rfl rfl
theorem gw_L_68 : GoodIn gw (va_wsS R_L 68 y_L_length w_L_length) := gw_SW ml_L_68 st_L_length in_L cd_L_length
theorem ml_L_71 : .methodLink R_L 71 y_M_length ∈ gw := gw_mem (i := 379) rfl rfl
theorem gv_L_71 : GoodIn gw (wsV R_L 71 R_M y_M_length w_M_length) := gw_V ml_L_71 im_M_length se_M_length in_M cd_M_length
theorem ml_L_72 : .methodLink R_L 72 y_L_step ∈ gw := gw_mem (i := 232) rfl rfl
theorem gw_L_72 : GoodIn gw (va_wsS R_L 72 y_L_step w_L_step) := gw_SW ml_L_72 st_L_step in_L cd_L_step
theorem ml_L_74 : .methodLink R_L 74 y_M_step ∈ gw := gw_mem (i := 387) rfl rfl
theorem gv_L_74 : GoodIn gw (wsV R_L 74 R_M y_M_step w_M_step) := gw_V ml_L_74 im_M_step se_M_step in_M cd_M_step
theorem ml_L_75 : .methodLink R_L 75 y_L_passed ∈ gw := gw_mem (i := 248) rfl rfl
theorem gw_L_75 : GoodIn gw (va_wsS R_L 75 y_L_passed w_L_passed) := gw_SW ml_L_75 st_L_passed in_L cd_L_passed
theorem ml_L_77 : .methodLink R_L 77 y_M_passed ∈ gw := gw_mem (i := 391) rfl rfl
theorem gv_L_77 : GoodIn gw (wsV R_L 77 R_M y_M_passed w_M_passed) := gw_V ml_L_77 im_M_passed se_M_passed in_M cd_M_passed
theorem ml_L_78 : .methodLink R_L 78 y_L_circle ∈ gw := gw_mem (i := 255) rfl rfl
theorem gw_L_78 : GoodIn gw (va_wsS R_L 78 y_L_circle w_L_circle) := gw_SW ml_L_78 st_L_circle in_L cd_L_circle
theorem ml_L_81 : .methodLink R_L 81 y_M_circle ∈ gw := gw_mem (i := 395) rfl rfl
theorem gv_L_81 : GoodIn gw (wsV R_L 81 R_M y_M_circle w_M_circle) := gw_V ml_L_81 im_M_circle se_M_circle in_M cd_M_circle
theorem ml_L_82 : .methodLink R_L 82 y_G_circles ∈ gw := gw_mem (i := 71) rfl rfl
theorem gv_L_82 : GoodIn gw (wsV R_L 82 R_G y_G_circles w_G_circles) := gw_V ml_L_82 im_G_circles se_G_circles in_G cd_G_circles
theorem ml_L_85 : .methodLink R_L 85 y_M_circles ∈ gw := gw_mem (i := 407) rfl rfl
theorem gv_L_85 : GoodIn gw (wsV R_L 85 R_M y_M_circles w_M_circles) := gw_V ml_L_85 im_M_circles se_M_circles in_M cd_M_circles
theorem ml_L_86 : .methodLink R_L 86 y_L_cut ∈ gw := gw_mem (i := 262) rfl rfl
theorem gw_L_86 : GoodIn gw (va_wsS R_L 86 y_L_cut w_L_cut) := gw_SW ml_L_86 st_L_cut in_L cd_L_cut
theorem ml_L_88 : .methodLink R_L 88 y_M_cut ∈ gw := gw_mem (i := 411) rfl rfl
theorem gv_L_88 : GoodIn gw (wsV R_L 88 R_M y_M_cut w_M_cut) := gw_V ml_L_88 im_M_cut se_M_cut in_M cd_M_cut
theorem ml_L_89 : .methodLink R_L 89 y_L_cutRule ∈ gw := gw_mem (i := 304) rfl rfl
theorem gw_L_89 : GoodIn gw (va_wsS R_L 89 y_L_cutRule w_L_cutRule) := gw_SW ml_L_89 st_L_cutRule in_L cd_L_cutRule
theorem ml_L_91 : .methodLink R_L 91 y_M_cutRule ∈ gw := gw_mem (i := 434) rfl rfl
theorem gv_L_91 : GoodIn gw (wsV R_L 91 R_M y_M_cutRule w_M_cutRule) := gw_V ml_L_91 im_M_cutRule se_M_cutRule in_M cd_M_cutRule
theorem ml_L_92 : .methodLink R_L 92 y_L_left ∈ gw := gw_mem (i := 312) rfl rfl
theorem gw_L_92 : GoodIn gw (va_wsS R_L 92 y_L_left w_L_left) := gw_SW ml_L_92 st_L_left in_L cd_L_left
theorem ml_L_94 : .methodLink R_L 94 y_M_left ∈ gw := gw_mem (i := 430) rfl rfl
theorem gv_L_94 : GoodIn gw (wsV R_L 94 R_M y_M_left w_M_left) := gw_V ml_L_94 im_M_left se_M_left in_M cd_M_left
theorem it_G : .instantiable R_G 8 ∈ gw := gw_mem (i := 33) rfl rfl
theorem it_M : .instantiable R_M 9 ∈ gw := gw_mem (i := 320) rfl rfl
