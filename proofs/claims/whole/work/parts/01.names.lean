/-! names, by program: classes, their fields, the common list of words, each method's code and name -/
theorem wd_mem {w : Cond} (h : w ∈ tables_1) (g : goodWord w = true) : w ∈ lw_tbl.filter goodWord := List.mem_filter.mpr ⟨List.mem_append_right _ h, g⟩
/-- the words that every method gets -/
def CW : List Cond := lw_tbl.filter goodWord
theorem cw_good {w : Cond} (h : w ∈ CW) : goodWord w = true := (List.mem_filter.mp h).2
theorem cw_in {w : Cond} (i : Nat) (h : tables_1[i]? = some w) (g : goodWord w = true) : w ∈ CW := wd_mem (List.mem_of_getElem? h) g
theorem cw_sel {w : Cond} (i : Nat) (h : (k2_sels lw_privs)[i]? = some w) (g : goodWord w = true) : w ∈ CW := List.mem_filter.mpr ⟨List.mem_append_left _ (List.mem_of_getElem? h), g⟩
theorem g_V {cm cy : Cond} {own C : String} {i : Nat} {y : MethodName} (h1 : Cond.methodLink own i y ∈ CW) (h2 : Cond.instanceMethod y ∈ CW) (h3 : Cond.selects C y y ∈ CW) (h4 : Cond.initialized C ∈ CW) (h5 : cy ∈ CW) : GoodIn CW (wsV own i C y (cy :: CW)) := by
  intro w hw
  have h : w ∈ CW := by
    simp only [wsV, List.mem_append, List.mem_cons, List.not_mem_nil, or_false] at hw
    rcases hw with (rfl | rfl | rfl | rfl) | rfl | h
    · exact h1
    · exact h2
    · exact h3
    · exact h4
    · exact h5
    · exact h
  exact ⟨h, good_of_word (cw_good h)⟩
theorem g_S {cy : Cond} {own : String} {i : Nat} {y : MethodName} (h1 : Cond.methodLink own i y ∈ CW) (h2 : Cond.static y ∈ CW) (h3 : Cond.initialized y.cls ∈ CW) (h5 : cy ∈ CW) : GoodIn CW (va_wsS own i y (cy :: CW)) := by
  intro w hw
  have h : w ∈ CW := by
    simp only [va_wsS, List.mem_append, List.mem_cons, List.not_mem_nil, or_false] at hw
    rcases hw with (rfl | rfl | rfl) | rfl | h
    · exact h1
    · exact h2
    · exact h3
    · exact h5
    · exact h
  exact ⟨h, good_of_word (cw_good h)⟩
theorem g_I {cy : Cond} (h5 : cy ∈ CW) : GoodIn CW (cy :: CW) := by
  intro w hw
  have h : w ∈ CW := by
    rcases List.mem_cons.mp hw with rfl | h
    · exact h5
    · exact h
  exact ⟨h, good_of_word (cw_good h)⟩
def RX : String := "LadderScan"
def TX : u_T := fun k => match k with
  | 0 => ("LadderScan", "memory", "LLadderScan$Memory;", true)
  | 1 => ("LadderScan", "blocks", "[LLadderScan$Block;", true)
  | 2 => ("LadderScan", "written", "LLadderScan$Ladder;", true)
  | 3 => ("LadderScan", "program", "LLadderScan$Ladder;", true)
  | 4 => ("LadderScan", "blocksMade", "I", false)
  | 5 => ("LadderScan", "fullScans", "I", false)
  | 6 => ("LadderScan", "failedScans", "I", false)
  | _ => ("LadderScan", "stopped", "Z", false)
def tyX : Nat → FieldType := fun k => match k with
  | 0 => .object "LadderScan$Memory"
  | 1 => .array (.object "LadderScan$Block")
  | 2 => .object "LadderScan$Ladder"
  | 3 => .object "LadderScan$Ladder"
  | 4 => .int
  | 5 => .int
  | 6 => .int
  | _ => .boolean
theorem nmX : ∀ a, a < 8 → ∀ b, b < 8 → a ≠ b → (TX a).2.1 ≠ (TX b).2.1 := by decide +kernel
theorem tyX_ok : ∀ k, k < 8 → parseFieldDescriptor (TX k).2.2.1 = some (tyX k) := by decide +kernel
theorem inX : ∀ w ∈ u_ws RX TX 8, w ∈ CW := by
  have h : ∀ w ∈ u_ws RX TX 8, w ∈ tables_1 ∧ goodWord w = true := by decide +kernel
  exact fun w hw => wd_mem (h w hw).1 (h w hw).2
def RMe : String := "LadderScan$Memory"
def TMe : u_T := fun k => match k with
  | 0 => ("LadderScan$Memory", "bits", "[I", true)
  | 1 => ("LadderScan$Memory", "forces", "[I", true)
  | 2 => ("LadderScan$Memory", "inputWires", "[I", true)
  | 3 => ("LadderScan$Memory", "outputWires", "[I", true)
  | _ => ("LadderScan$Memory", "registers", "[I", true)
def tyMe : Nat → FieldType := fun k => match k with
  | 0 => .array .int
  | 1 => .array .int
  | 2 => .array .int
  | 3 => .array .int
  | _ => .array .int
theorem nmMe : ∀ a, a < 5 → ∀ b, b < 5 → a ≠ b → (TMe a).2.1 ≠ (TMe b).2.1 := by decide +kernel
theorem tyMe_ok : ∀ k, k < 5 → parseFieldDescriptor (TMe k).2.2.1 = some (tyMe k) := by decide +kernel
theorem inMe : ∀ w ∈ u_ws RMe TMe 5, w ∈ CW := by
  have h : ∀ w ∈ u_ws RMe TMe 5, w ∈ tables_1 ∧ goodWord w = true := by decide +kernel
  exact fun w hw => wd_mem (h w hw).1 (h w hw).2
def RBl : String := "LadderScan$Block"
def TBl : u_T := fun k => match k with
  | 0 => ("LadderScan$Block", "kind", "I", false)
  | 1 => ("LadderScan$Block", "p", "I", false)
  | 2 => ("LadderScan$Block", "q", "I", false)
  | 3 => ("LadderScan$Block", "factor", "I", false)
  | 4 => ("LadderScan$Block", "offset", "I", false)
  | 5 => ("LadderScan$Block", "output", "I", false)
  | 6 => ("LadderScan$Block", "counted", "I", false)
  | _ => ("LadderScan$Block", "lastInput", "I", false)
def tyBl : Nat → FieldType := fun k => match k with
  | 0 => .int
  | 1 => .int
  | 2 => .int
  | 3 => .int
  | 4 => .int
  | 5 => .int
  | 6 => .int
  | _ => .int
theorem nmBl : ∀ a, a < 8 → ∀ b, b < 8 → a ≠ b → (TBl a).2.1 ≠ (TBl b).2.1 := by decide +kernel
theorem tyBl_ok : ∀ k, k < 8 → parseFieldDescriptor (TBl k).2.2.1 = some (tyBl k) := by decide +kernel
theorem inBl : ∀ w ∈ u_ws RBl TBl 8, w ∈ CW := by
  have h : ∀ w ∈ u_ws RBl TBl 8, w ∈ tables_1 ∧ goodWord w = true := by decide +kernel
  exact fun w hw => wd_mem (h w hw).1 (h w hw).2
def RLa : String := "LadderScan$Ladder"
def TLa : u_T := fun k => match k with
  | 0 => ("LadderScan$Ladder", "ops", "[I", true)
  | 1 => ("LadderScan$Ladder", "operands", "[I", true)
  | 2 => ("LadderScan$Ladder", "lengths", "[I", true)
  | _ => ("LadderScan$Ladder", "depths", "[I", true)
def tyLa : Nat → FieldType := fun k => match k with
  | 0 => .array .int
  | 1 => .array .int
  | 2 => .array .int
  | _ => .array .int
theorem nmLa : ∀ a, a < 4 → ∀ b, b < 4 → a ≠ b → (TLa a).2.1 ≠ (TLa b).2.1 := by decide +kernel
theorem tyLa_ok : ∀ k, k < 4 → parseFieldDescriptor (TLa k).2.2.1 = some (tyLa k) := by decide +kernel
theorem inLa : ∀ w ∈ u_ws RLa TLa 4, w ∈ CW := by
  have h : ∀ w ∈ u_ws RLa TLa 4, w ∈ tables_1 ∧ goodWord w = true := by decide +kernel
  exact fun w hw => wd_mem (h w hw).1 (h w hw).2
def RMo : String := "LadderScanModel"
def TMo : u_T := fun k => match k with
  | 0 => ("LadderScanModel", "thrown", "I", false)
  | 1 => ("LadderScanModel", "raw", "[I", true)
  | 2 => ("LadderScanModel", "forced", "[I", true)
  | 3 => ("LadderScanModel", "wires", "[I", true)
  | 4 => ("LadderScanModel", "outs", "[I", true)
  | 5 => ("LadderScanModel", "registers", "[J", true)
  | 6 => ("LadderScanModel", "kind", "[I", true)
  | 7 => ("LadderScanModel", "bp", "[I", true)
  | 8 => ("LadderScanModel", "bq", "[I", true)
  | 9 => ("LadderScanModel", "factor", "[J", true)
  | 10 => ("LadderScanModel", "offset", "[J", true)
  | 11 => ("LadderScanModel", "output", "[I", true)
  | 12 => ("LadderScanModel", "count", "[I", true)
  | 13 => ("LadderScanModel", "was", "[I", true)
  | 14 => ("LadderScanModel", "blocks", "I", false)
  | 15 => ("LadderScanModel", "op", "[I", true)
  | 16 => ("LadderScanModel", "arg", "[I", true)
  | 17 => ("LadderScanModel", "size", "[I", true)
  | 18 => ("LadderScanModel", "height", "[I", true)
  | 19 => ("LadderScanModel", "runOp", "[I", true)
  | 20 => ("LadderScanModel", "runArg", "[I", true)
  | 21 => ("LadderScanModel", "runSize", "[I", true)
  | 22 => ("LadderScanModel", "stack", "[I", true)
  | 23 => ("LadderScanModel", "top", "I", false)
  | 24 => ("LadderScanModel", "scans", "I", false)
  | 25 => ("LadderScanModel", "failed", "I", false)
  | 26 => ("LadderScanModel", "stopped", "Z", false)
  | 27 => ("LadderScanModel", "begun", "I", false)
  | _ => ("LadderScanModel", "trouble", "I", false)
def tyMo : Nat → FieldType := fun k => match k with
  | 0 => .int
  | 1 => .array .int
  | 2 => .array .int
  | 3 => .array .int
  | 4 => .array .int
  | 5 => .array .long
  | 6 => .array .int
  | 7 => .array .int
  | 8 => .array .int
  | 9 => .array .long
  | 10 => .array .long
  | 11 => .array .int
  | 12 => .array .int
  | 13 => .array .int
  | 14 => .int
  | 15 => .array .int
  | 16 => .array .int
  | 17 => .array .int
  | 18 => .array .int
  | 19 => .array .int
  | 20 => .array .int
  | 21 => .array .int
  | 22 => .array .int
  | 23 => .int
  | 24 => .int
  | 25 => .int
  | 26 => .boolean
  | 27 => .int
  | _ => .int
theorem nmMo : ∀ a, a < 29 → ∀ b, b < 29 → a ≠ b → (TMo a).2.1 ≠ (TMo b).2.1 := by decide +kernel
theorem tyMo_ok : ∀ k, k < 29 → parseFieldDescriptor (TMo k).2.2.1 = some (tyMo k) := by decide +kernel
theorem inMo : ∀ w ∈ u_ws RMo TMo 29, w ∈ CW := by
  have h : ∀ w ∈ u_ws RMo TMo 29, w ∈ tables_1 ∧ goodWord w = true := by decide +kernel
  exact fun w hw => wd_mem (h w hw).1 (h w hw).2
def RLw : String := "LadderScanLaw"
def RMa : String := "java/lang/Math"
abbrev vwCl : List vw_C := [(RX, TX, 8), (RMe, TMe, 5), (RBl, TBl, 8), (RLa, TLa, 4), (RMo, TMo, 29)]
abbrev bX_init : ByteArray := prog_1_method_1_code
def yX_init : MethodName := ⟨RX, "<init>", "()V"⟩
def kX_init : Cond := .code yX_init bX_init 2 none
set_option maxRecDepth 20000 in
theorem qX_init : kX_init ∈ CW := cw_in 20 rfl rfl
abbrev bX_bit : ByteArray := prog_1_method_13_code
def yX_bit : MethodName := ⟨RX, "bit", "(I)I"⟩
def kX_bit : Cond := .code yX_bit bX_bit 2 (some .int)
set_option maxRecDepth 20000 in
theorem qX_bit : kX_bit ∈ CW := cw_in 522 rfl rfl
abbrev bX_block : ByteArray := prog_1_method_2_code
def yX_block : MethodName := ⟨RX, "block", "(III)I"⟩
def kX_block : Cond := .code yX_block bX_block 4 (some .int)
set_option maxRecDepth 20000 in
theorem qX_block : kX_block ∈ CW := cw_in 183 rfl rfl
abbrev bX_count : ByteArray := prog_1_method_17_code
def yX_count : MethodName := ⟨RX, "count", "(I)I"⟩
def kX_count : Cond := .code yX_count bX_count 2 (some .int)
set_option maxRecDepth 20000 in
theorem qX_count : kX_count ∈ CW := cw_in 550 rfl rfl
abbrev bX_download : ByteArray := prog_1_method_6_code
def yX_download : MethodName := ⟨RX, "download", "()I"⟩
def kX_download : Cond := .code yX_download bX_download 1 (some .int)
set_option maxRecDepth 20000 in
theorem qX_download : kX_download ∈ CW := cw_in 139 rfl rfl
abbrev bX_eighthsAtMost : ByteArray := prog_1_method_27_code
def yX_eighthsAtMost : MethodName := ⟨RX, "eighthsAtMost", "(D)I"⟩
def kX_eighthsAtMost : Cond := .code yX_eighthsAtMost bX_eighthsAtMost 5 (some .int)
set_option maxRecDepth 20000 in
theorem qX_eighthsAtMost : kX_eighthsAtMost ∈ CW := cw_in 333 rfl rfl
abbrev bX_erase : ByteArray := prog_1_method_5_code
def yX_erase : MethodName := ⟨RX, "erase", "(I)I"⟩
def kX_erase : Cond := .code yX_erase bX_erase 2 (some .int)
set_option maxRecDepth 20000 in
theorem qX_erase : kX_erase ∈ CW := cw_in 382 rfl rfl
abbrev bX_fail : ByteArray := prog_1_method_12_code
def yX_fail : MethodName := ⟨RX, "fail", "()I"⟩
def kX_fail : Cond := .code yX_fail bX_fail 2 (some .int)
set_option maxRecDepth 20000 in
theorem qX_fail : kX_fail ∈ CW := cw_in 158 rfl rfl
abbrev bX_force : ByteArray := prog_1_method_9_code
def yX_force : MethodName := ⟨RX, "force", "(II)I"⟩
def kX_force : Cond := .code yX_force bX_force 4 (some .int)
set_option maxRecDepth 20000 in
theorem qX_force : kX_force ∈ CW := cw_in 407 rfl rfl
abbrev bX_isBit : ByteArray := prog_1_method_19_code
def yX_isBit : MethodName := ⟨RX, "isBit", "(I)Z"⟩
def kX_isBit : Cond := .code yX_isBit bX_isBit 1 (some .boolean)
set_option maxRecDepth 20000 in
theorem qX_isBit : kX_isBit ∈ CW := cw_in 192 rfl rfl
abbrev bX_isBlock : ByteArray := prog_1_method_23_code
def yX_isBlock : MethodName := ⟨RX, "isBlock", "(III)Z"⟩
def kX_isBlock : Cond := .code yX_isBlock bX_isBlock 3 (some .boolean)
set_option maxRecDepth 20000 in
theorem qX_isBlock : kX_isBlock ∈ CW := cw_in 186 rfl rfl
abbrev bX_isInRange : ByteArray := prog_1_method_25_code
def yX_isInRange : MethodName := ⟨RX, "isInRange", "(D)Z"⟩
def kX_isInRange : Cond := .code yX_isInRange bX_isInRange 2 (some .boolean)
set_option maxRecDepth 20000 in
theorem qX_isInRange : kX_isInRange ∈ CW := cw_in 328 rfl rfl
abbrev bX_isMade : ByteArray := prog_1_method_22_code
def yX_isMade : MethodName := ⟨RX, "isMade", "(I)Z"⟩
def kX_isMade : Cond := .code yX_isMade bX_isMade 2 (some .boolean)
set_option maxRecDepth 20000 in
theorem qX_isMade : kX_isMade ∈ CW := cw_in 292 rfl rfl
abbrev bX_isRegister : ByteArray := prog_1_method_20_code
def yX_isRegister : MethodName := ⟨RX, "isRegister", "(I)Z"⟩
def kX_isRegister : Cond := .code yX_isRegister bX_isRegister 1 (some .boolean)
set_option maxRecDepth 20000 in
theorem qX_isRegister : kX_isRegister ∈ CW := cw_in 195 rfl rfl
abbrev bX_isRung : ByteArray := prog_1_method_21_code
def yX_isRung : MethodName := ⟨RX, "isRung", "(I)Z"⟩
def kX_isRung : Cond := .code yX_isRung bX_isRung 1 (some .boolean)
set_option maxRecDepth 20000 in
theorem qX_isRung : kX_isRung ∈ CW := cw_in 347 rfl rfl
abbrev bX_isStep : ByteArray := prog_1_method_24_code
def yX_isStep : MethodName := ⟨RX, "isStep", "(II)Z"⟩
def kX_isStep : Cond := .code yX_isStep bX_isStep 3 (some .boolean)
set_option maxRecDepth 20000 in
theorem qX_isStep : kX_isStep ∈ CW := cw_in 351 rfl rfl
abbrev bX_isWholeEighths : ByteArray := prog_1_method_26_code
def yX_isWholeEighths : MethodName := ⟨RX, "isWholeEighths", "(D)Z"⟩
def kX_isWholeEighths : Cond := .code yX_isWholeEighths bX_isWholeEighths 2 (some .boolean)
set_option maxRecDepth 20000 in
theorem qX_isWholeEighths : kX_isWholeEighths ∈ CW := cw_in 325 rfl rfl
abbrev bX_isWithin : ByteArray := prog_1_method_18_code
def yX_isWithin : MethodName := ⟨RX, "isWithin", "(III)Z"⟩
def kX_isWithin : Cond := .code yX_isWithin bX_isWithin 3 (some .boolean)
set_option maxRecDepth 20000 in
theorem qX_isWithin : kX_isWithin ∈ CW := cw_in 189 rfl rfl
abbrev bX_numberOf : ByteArray := prog_1_method_28_code
def yX_numberOf : MethodName := ⟨RX, "numberOf", "(I)D"⟩
def kX_numberOf : Cond := .code yX_numberOf bX_numberOf 1 (some .double)
set_option maxRecDepth 20000 in
theorem qX_numberOf : kX_numberOf ∈ CW := cw_in 337 rfl rfl
abbrev bX_out : ByteArray := prog_1_method_14_code
def yX_out : MethodName := ⟨RX, "out", "(I)I"⟩
def kX_out : Cond := .code yX_out bX_out 2 (some .int)
set_option maxRecDepth 20000 in
theorem qX_out : kX_out ∈ CW := cw_in 529 rfl rfl
abbrev bX_put : ByteArray := prog_1_method_8_code
def yX_put : MethodName := ⟨RX, "put", "(ID)D"⟩
def kX_put : Cond := .code yX_put bX_put 6 (some .double)
set_option maxRecDepth 20000 in
theorem qX_put : kX_put ∈ CW := cw_in 400 rfl rfl
abbrev bX_register : ByteArray := prog_1_method_15_code
def yX_register : MethodName := ⟨RX, "register", "(I)D"⟩
def kX_register : Cond := .code yX_register bX_register 2 (some .double)
set_option maxRecDepth 20000 in
theorem qX_register : kX_register ∈ CW := cw_in 536 rfl rfl
abbrev bX_restart : ByteArray := prog_1_method_11_code
def yX_restart : MethodName := ⟨RX, "restart", "()I"⟩
def kX_restart : Cond := .code yX_restart bX_restart 2 (some .int)
set_option maxRecDepth 20000 in
theorem qX_restart : kX_restart ∈ CW := cw_in 154 rfl rfl
abbrev bX_runProgram : ByteArray := prog_1_method_30_code
def yX_runProgram : MethodName := ⟨RX, "runProgram", "()I"⟩
def kX_runProgram : Cond := .code yX_runProgram bX_runProgram 3 (some .int)
set_option maxRecDepth 20000 in
theorem qX_runProgram : kX_runProgram ∈ CW := cw_in 427 rfl rfl
abbrev bX_runRung : ByteArray := prog_1_method_31_code
def yX_runRung : MethodName := ⟨RX, "runRung", "(I)I"⟩
def kX_runRung : Cond := .code yX_runRung bX_runRung 8 (some .int)
set_option maxRecDepth 20000 in
theorem qX_runRung : kX_runRung ∈ CW := cw_in 431 rfl rfl
abbrev bX_scan : ByteArray := prog_1_method_10_code
def yX_scan : MethodName := ⟨RX, "scan", "(I)I"⟩
def kX_scan : Cond := .code yX_scan bX_scan 5 (some .int)
set_option maxRecDepth 20000 in
theorem qX_scan : kX_scan ∈ CW := cw_in 415 rfl rfl
abbrev bX_scanOnce : ByteArray := prog_1_method_29_code
def yX_scanOnce : MethodName := ⟨RX, "scanOnce", "()I"⟩
def kX_scanOnce : Cond := .code yX_scanOnce bX_scanOnce 2 (some .int)
set_option maxRecDepth 20000 in
theorem qX_scanOnce : kX_scanOnce ∈ CW := cw_in 419 rfl rfl
abbrev bX_stackAfter : ByteArray := prog_1_method_32_code
def yX_stackAfter : MethodName := ⟨RX, "stackAfter", "(III)I"⟩
def kX_stackAfter : Cond := .code yX_stackAfter bX_stackAfter 4 (some .int)
set_option maxRecDepth 20000 in
theorem qX_stackAfter : kX_stackAfter ∈ CW := cw_in 486 rfl rfl
abbrev bX_state : ByteArray := prog_1_method_16_code
def yX_state : MethodName := ⟨RX, "state", "(II)I"⟩
def kX_state : Cond := .code yX_state bX_state 3 (some .int)
set_option maxRecDepth 20000 in
theorem qX_state : kX_state ∈ CW := cw_in 543 rfl rfl
abbrev bX_step : ByteArray := prog_1_method_4_code
def yX_step : MethodName := ⟨RX, "step", "(III)I"⟩
def kX_step : Cond := .code yX_step bX_step 4 (some .int)
set_option maxRecDepth 20000 in
theorem qX_step : kX_step ∈ CW := cw_in 344 rfl rfl
abbrev bX_tune : ByteArray := prog_1_method_3_code
def yX_tune : MethodName := ⟨RX, "tune", "(IDD)D"⟩
def kX_tune : Cond := .code yX_tune bX_tune 9 (some .double)
set_option maxRecDepth 20000 in
theorem qX_tune : kX_tune ∈ CW := cw_in 288 rfl rfl
abbrev bX_wire : ByteArray := prog_1_method_7_code
def yX_wire : MethodName := ⟨RX, "wire", "(II)I"⟩
def kX_wire : Cond := .code yX_wire bX_wire 4 (some .int)
set_option maxRecDepth 20000 in
theorem qX_wire : kX_wire ∈ CW := cw_in 393 rfl rfl
abbrev bX_withPushed : ByteArray := prog_1_method_33_code
def yX_withPushed : MethodName := ⟨RX, "withPushed", "(II)I"⟩
def kX_withPushed : Cond := .code yX_withPushed bX_withPushed 2 (some .int)
set_option maxRecDepth 20000 in
theorem qX_withPushed : kX_withPushed ∈ CW := cw_in 490 rfl rfl
abbrev bX_withTop : ByteArray := prog_1_method_34_code
def yX_withTop : MethodName := ⟨RX, "withTop", "(II)I"⟩
def kX_withTop : Cond := .code yX_withTop bX_withTop 2 (some .int)
set_option maxRecDepth 20000 in
theorem qX_withTop : kX_withTop ∈ CW := cw_in 478 rfl rfl
abbrev bBl_init : ByteArray := prog_2_method_1_code
def yBl_init : MethodName := ⟨RBl, "<init>", "()V"⟩
def kBl_init : Cond := .code yBl_init bBl_init 1 none
set_option maxRecDepth 20000 in
theorem qBl_init : kBl_init ∈ CW := cw_in 79 rfl rfl
abbrev bBl_become : ByteArray := prog_2_method_2_code
def yBl_become : MethodName := ⟨RBl, "become", "(III)V"⟩
def kBl_become : Cond := .code yBl_become bBl_become 4 none
set_option maxRecDepth 20000 in
theorem qBl_become : kBl_become ∈ CW := cw_in 279 rfl rfl
abbrev bBl_countWith : ByteArray := prog_2_method_6_code
def yBl_countWith : MethodName := ⟨RBl, "countWith", "(II)I"⟩
def kBl_countWith : Cond := .code yBl_countWith bBl_countWith 3 (some .int)
set_option maxRecDepth 20000 in
theorem qBl_countWith : kBl_countWith ∈ CW := cw_in 453 rfl rfl
abbrev bBl_failsWith : ByteArray := prog_2_method_4_code
def yBl_failsWith : MethodName := ⟨RBl, "failsWith", "(I)Z"⟩
def kBl_failsWith : Cond := .code yBl_failsWith bBl_failsWith 2 (some .boolean)
set_option maxRecDepth 20000 in
theorem qBl_failsWith : kBl_failsWith ∈ CW := cw_in 435 rfl rfl
abbrev bBl_losePower : ByteArray := prog_2_method_3_code
def yBl_losePower : MethodName := ⟨RBl, "losePower", "()V"⟩
def kBl_losePower : Cond := .code yBl_losePower bBl_losePower 1 none
set_option maxRecDepth 20000 in
theorem qBl_losePower : kBl_losePower ∈ CW := cw_in 170 rfl rfl
abbrev bBl_reckon : ByteArray := prog_2_method_7_code
def yBl_reckon : MethodName := ⟨RBl, "reckon", "(J)J"⟩
def kBl_reckon : Cond := .code yBl_reckon bBl_reckon 3 (some .long)
set_option maxRecDepth 20000 in
theorem qBl_reckon : kBl_reckon ∈ CW := cw_in 457 rfl rfl
abbrev bBl_work : ByteArray := prog_2_method_5_code
def yBl_work : MethodName := ⟨RBl, "work", "(ILLadderScan$Memory;)I"⟩
def kBl_work : Cond := .code yBl_work bBl_work 3 (some .int)
set_option maxRecDepth 20000 in
theorem qBl_work : kBl_work ∈ CW := cw_in 439 rfl rfl
abbrev bLa_init : ByteArray := prog_3_method_1_code
def yLa_init : MethodName := ⟨RLa, "<init>", "()V"⟩
def kLa_init : Cond := .code yLa_init bLa_init 1 none
set_option maxRecDepth 20000 in
theorem qLa_init : kLa_init ∈ CW := cw_in 58 rfl rfl
abbrev bLa_add : ByteArray := prog_3_method_4_code
def yLa_add : MethodName := ⟨RLa, "add", "(III)I"⟩
def kLa_add : Cond := .code yLa_add bLa_add 5 (some .int)
set_option maxRecDepth 20000 in
theorem qLa_add : kLa_add ∈ CW := cw_in 375 rfl rfl
abbrev bLa_copyFrom : ByteArray := prog_3_method_6_code
def yLa_copyFrom : MethodName := ⟨RLa, "copyFrom", "(LLadderScan$Ladder;)V"⟩
def kLa_copyFrom : Cond := .code yLa_copyFrom bLa_copyFrom 2 none
set_option maxRecDepth 20000 in
theorem qLa_copyFrom : kLa_copyFrom ∈ CW := cw_in 143 rfl rfl
abbrev bLa_empty : ByteArray := prog_3_method_5_code
def yLa_empty : MethodName := ⟨RLa, "empty", "(I)I"⟩
def kLa_empty : Cond := .code yLa_empty bLa_empty 3 (some .int)
set_option maxRecDepth 20000 in
theorem qLa_empty : kLa_empty ∈ CW := cw_in 386 rfl rfl
abbrev bLa_growth : ByteArray := prog_3_method_11_code
def yLa_growth : MethodName := ⟨RLa, "growth", "(I)I"⟩
def kLa_growth : Cond := .code yLa_growth bLa_growth 1 (some .int)
set_option maxRecDepth 20000 in
theorem qLa_growth : kLa_growth ∈ CW := cw_in 367 rfl rfl
abbrev bLa_isFull : ByteArray := prog_3_method_2_code
def yLa_isFull : MethodName := ⟨RLa, "isFull", "(I)Z"⟩
def kLa_isFull : Cond := .code yLa_isFull bLa_isFull 2 (some .boolean)
set_option maxRecDepth 20000 in
theorem qLa_isFull : kLa_isFull ∈ CW := cw_in 371 rfl rfl
abbrev bLa_joins : ByteArray := prog_3_method_9_code
def yLa_joins : MethodName := ⟨RLa, "joins", "(I)Z"⟩
def kLa_joins : Cond := .code yLa_joins bLa_joins 1 (some .boolean)
set_option maxRecDepth 20000 in
theorem qLa_joins : kLa_joins ∈ CW := cw_in 364 rfl rfl
abbrev bLa_needed : ByteArray := prog_3_method_10_code
def yLa_needed : MethodName := ⟨RLa, "needed", "(I)I"⟩
def kLa_needed : Cond := .code yLa_needed bLa_needed 1 (some .int)
set_option maxRecDepth 20000 in
theorem qLa_needed : kLa_needed ∈ CW := cw_in 358 rfl rfl
abbrev bLa_pushes : ByteArray := prog_3_method_8_code
def yLa_pushes : MethodName := ⟨RLa, "pushes", "(I)Z"⟩
def kLa_pushes : Cond := .code yLa_pushes bLa_pushes 1 (some .boolean)
set_option maxRecDepth 20000 in
theorem qLa_pushes : kLa_pushes ∈ CW := cw_in 361 rfl rfl
abbrev bLa_size : ByteArray := prog_3_method_7_code
def yLa_size : MethodName := ⟨RLa, "size", "()I"⟩
def kLa_size : Cond := .code yLa_size bLa_size 3 (some .int)
set_option maxRecDepth 20000 in
theorem qLa_size : kLa_size ∈ CW := cw_in 150 rfl rfl
abbrev bLa_stackAllows : ByteArray := prog_3_method_3_code
def yLa_stackAllows : MethodName := ⟨RLa, "stackAllows", "(II)Z"⟩
def kLa_stackAllows : Cond := .code yLa_stackAllows bLa_stackAllows 3 (some .boolean)
set_option maxRecDepth 20000 in
theorem qLa_stackAllows : kLa_stackAllows ∈ CW := cw_in 355 rfl rfl
abbrev bMe_init : ByteArray := prog_4_method_1_code
def yMe_init : MethodName := ⟨RMe, "<init>", "()V"⟩
def kMe_init : Cond := .code yMe_init bMe_init 2 none
set_option maxRecDepth 20000 in
theorem qMe_init : kMe_init ∈ CW := cw_in 28 rfl rfl
abbrev bMe_assign : ByteArray := prog_4_method_3_code
def yMe_assign : MethodName := ⟨RMe, "assign", "(III)V"⟩
def kMe_assign : Cond := .code yMe_assign bMe_assign 4 none
set_option maxRecDepth 20000 in
theorem qMe_assign : kMe_assign ∈ CW := cw_in 482 rfl rfl
abbrev bMe_clearOutputWires : ByteArray := prog_4_method_8_code
def yMe_clearOutputWires : MethodName := ⟨RMe, "clearOutputWires", "()V"⟩
def kMe_clearOutputWires : Cond := .code yMe_clearOutputWires bMe_clearOutputWires 2 none
set_option maxRecDepth 20000 in
theorem qMe_clearOutputWires : kMe_clearOutputWires ∈ CW := cw_in 166 rfl rfl
abbrev bMe_forcedBits : ByteArray := prog_4_method_11_code
def yMe_forcedBits : MethodName := ⟨RMe, "forcedBits", "()I"⟩
def kMe_forcedBits : Cond := .code yMe_forcedBits bMe_forcedBits 3 (some .int)
set_option maxRecDepth 20000 in
theorem qMe_forcedBits : kMe_forcedBits ∈ CW := cw_in 554 rfl rfl
abbrev bMe_isAbove : ByteArray := prog_4_method_4_code
def yMe_isAbove : MethodName := ⟨RMe, "isAbove", "(II)Z"⟩
def kMe_isAbove : Cond := .code yMe_isAbove bMe_isAbove 3 (some .boolean)
set_option maxRecDepth 20000 in
theorem qMe_isAbove : kMe_isAbove ∈ CW := cw_in 494 rfl rfl
abbrev bMe_keptOnes : ByteArray := prog_4_method_10_code
def yMe_keptOnes : MethodName := ⟨RMe, "keptOnes", "()I"⟩
def kMe_keptOnes : Cond := .code yMe_keptOnes bMe_keptOnes 3 (some .int)
set_option maxRecDepth 20000 in
theorem qMe_keptOnes : kMe_keptOnes ∈ CW := cw_in 174 rfl rfl
abbrev bMe_losePower : ByteArray := prog_4_method_9_code
def yMe_losePower : MethodName := ⟨RMe, "losePower", "()V"⟩
def kMe_losePower : Cond := .code yMe_losePower bMe_losePower 2 none
set_option maxRecDepth 20000 in
theorem qMe_losePower : kMe_losePower ∈ CW := cw_in 162 rfl rfl
abbrev bMe_read : ByteArray := prog_4_method_2_code
def yMe_read : MethodName := ⟨RMe, "read", "(I)I"⟩
def kMe_read : Cond := .code yMe_read bMe_read 2 (some .int)
set_option maxRecDepth 20000 in
theorem qMe_read : kMe_read ∈ CW := cw_in 449 rfl rfl
abbrev bMe_sendOutputs : ByteArray := prog_4_method_7_code
def yMe_sendOutputs : MethodName := ⟨RMe, "sendOutputs", "()V"⟩
def kMe_sendOutputs : Cond := .code yMe_sendOutputs bMe_sendOutputs 2 none
set_option maxRecDepth 20000 in
theorem qMe_sendOutputs : kMe_sendOutputs ∈ CW := cw_in 499 rfl rfl
abbrev bMe_store : ByteArray := prog_4_method_5_code
def yMe_store : MethodName := ⟨RMe, "store", "(IJ)V"⟩
def kMe_store : Cond := .code yMe_store bMe_store 4 none
set_option maxRecDepth 20000 in
theorem qMe_store : kMe_store ∈ CW := cw_in 471 rfl rfl
abbrev bMe_takeInputs : ByteArray := prog_4_method_6_code
def yMe_takeInputs : MethodName := ⟨RMe, "takeInputs", "()V"⟩
def kMe_takeInputs : Cond := .code yMe_takeInputs bMe_takeInputs 2 none
set_option maxRecDepth 20000 in
theorem qMe_takeInputs : kMe_takeInputs ∈ CW := cw_in 423 rfl rfl
abbrev bLw_bit : ByteArray := method_11_code
def yLw_bit : MethodName := ⟨RLw, "bit", "(LLadderScan;I[J)I"⟩
def kLw_bit : Cond := .codeWith yLw_bit bLw_bit 4 (some .int) [(0, 9, 12, 13)]
set_option maxRecDepth 20000 in
theorem qLw_bit : kLw_bit ∈ CW := cw_in 518 rfl rfl
abbrev bLw_block : ByteArray := method_3_code
def yLw_block : MethodName := ⟨RLw, "block", "(LLadderScan;III[J)I"⟩
def kLw_block : Cond := .codeWith yLw_block bLw_block 6 (some .int) [(0, 12, 15, 13), (0, 12, 19, 15)]
set_option maxRecDepth 20000 in
theorem qLw_block : kLw_block ∈ CW := cw_in 177 rfl rfl
abbrev bLw_count : ByteArray := method_15_code
def yLw_count : MethodName := ⟨RLw, "count", "(LLadderScan;I[J)I"⟩
def kLw_count : Cond := .codeWith yLw_count bLw_count 4 (some .int) [(0, 9, 12, 13)]
set_option maxRecDepth 20000 in
theorem qLw_count : kLw_count ∈ CW := cw_in 546 rfl rfl
abbrev bLw_erase : ByteArray := method_6_code
def yLw_erase : MethodName := ⟨RLw, "erase", "(LLadderScan;I[J)I"⟩
def kLw_erase : Cond := .codeWith yLw_erase bLw_erase 4 (some .int) [(0, 9, 12, 13)]
set_option maxRecDepth 20000 in
theorem qLw_erase : kLw_erase ∈ CW := cw_in 378 rfl rfl
abbrev bLw_force : ByteArray := method_9_code
def yLw_force : MethodName := ⟨RLw, "force", "(LLadderScan;II[J)I"⟩
def kLw_force : Cond := .codeWith yLw_force bLw_force 5 (some .int) [(0, 10, 13, 13)]
set_option maxRecDepth 20000 in
theorem qLw_force : kLw_force ∈ CW := cw_in 403 rfl rfl
abbrev bLw_out : ByteArray := method_12_code
def yLw_out : MethodName := ⟨RLw, "out", "(LLadderScan;I[J)I"⟩
def kLw_out : Cond := .codeWith yLw_out bLw_out 4 (some .int) [(0, 9, 12, 13)]
set_option maxRecDepth 20000 in
theorem qLw_out : kLw_out ∈ CW := cw_in 525 rfl rfl
abbrev bLw_put : ByteArray := method_8_code
def yLw_put : MethodName := ⟨RLw, "put", "(LLadderScan;ID[D)I"⟩
def kLw_put : Cond := .codeWith yLw_put bLw_put 6 (some .int) [(0, 10, 13, 13)]
set_option maxRecDepth 20000 in
theorem qLw_put : kLw_put ∈ CW := cw_in 396 rfl rfl
abbrev bLw_register : ByteArray := method_13_code
def yLw_register : MethodName := ⟨RLw, "register", "(LLadderScan;I[D)I"⟩
def kLw_register : Cond := .codeWith yLw_register bLw_register 4 (some .int) [(0, 8, 11, 13)]
set_option maxRecDepth 20000 in
theorem qLw_register : kLw_register ∈ CW := cw_in 532 rfl rfl
abbrev bLw_scan : ByteArray := method_10_code
def yLw_scan : MethodName := ⟨RLw, "scan", "(LLadderScan;I[J)I"⟩
def kLw_scan : Cond := .codeWith yLw_scan bLw_scan 4 (some .int) [(0, 9, 12, 13), (0, 9, 15, 15), (0, 9, 18, 46)]
set_option maxRecDepth 20000 in
theorem qLw_scan : kLw_scan ∈ CW := cw_in 410 rfl rfl
abbrev bLw_state : ByteArray := method_14_code
def yLw_state : MethodName := ⟨RLw, "state", "(LLadderScan;II[J)I"⟩
def kLw_state : Cond := .codeWith yLw_state bLw_state 5 (some .int) [(0, 10, 13, 21), (0, 10, 17, 13)]
set_option maxRecDepth 20000 in
theorem qLw_state : kLw_state ∈ CW := cw_in 539 rfl rfl
abbrev bLw_step : ByteArray := method_5_code
def yLw_step : MethodName := ⟨RLw, "step", "(LLadderScan;III[J)I"⟩
def kLw_step : Cond := .codeWith yLw_step bLw_step 6 (some .int) [(0, 12, 15, 13), (0, 12, 19, 23), (0, 12, 23, 15)]
set_option maxRecDepth 20000 in
theorem qLw_step : kLw_step ∈ CW := cw_in 340 rfl rfl
abbrev bLw_tune : ByteArray := method_4_code
def yLw_tune : MethodName := ⟨RLw, "tune", "(LLadderScan;IDD[D)I"⟩
def kLw_tune : Cond := .codeWith yLw_tune bLw_tune 8 (some .int) [(0, 12, 15, 21), (0, 12, 19, 23), (0, 12, 23, 13)]
set_option maxRecDepth 20000 in
theorem qLw_tune : kLw_tune ∈ CW := cw_in 282 rfl rfl
abbrev bLw_wire : ByteArray := method_7_code
def yLw_wire : MethodName := ⟨RLw, "wire", "(LLadderScan;II[J)I"⟩
def kLw_wire : Cond := .codeWith yLw_wire bLw_wire 5 (some .int) [(0, 10, 13, 13)]
set_option maxRecDepth 20000 in
theorem qLw_wire : kLw_wire ∈ CW := cw_in 389 rfl rfl
abbrev bMo_init : ByteArray := prog_6_method_1_code
def yMo_init : MethodName := ⟨RMo, "<init>", "()V"⟩
def kMo_init : Cond := .code yMo_init bMo_init 2 none
set_option maxRecDepth 20000 in
theorem qMo_init : kMo_init ∈ CW := cw_in 559 rfl rfl
abbrev bMo_bit : ByteArray := prog_6_method_31_code
def yMo_bit : MethodName := ⟨RMo, "bit", "(I)I"⟩
def kMo_bit : Cond := .code yMo_bit bMo_bit 2 (some .int)
set_option maxRecDepth 20000 in
theorem qMo_bit : kMo_bit ∈ CW := cw_in 768 rfl rfl
abbrev bMo_block : ByteArray := prog_6_method_10_code
def yMo_block : MethodName := ⟨RMo, "block", "(III)I"⟩
def kMo_block : Cond := .code yMo_block bMo_block 4 (some .int)
set_option maxRecDepth 20000 in
theorem qMo_block : kMo_block ∈ CW := cw_in 657 rfl rfl
abbrev bMo_calculate : ByteArray := prog_6_method_22_code
def yMo_calculate : MethodName := ⟨RMo, "calculate", "(I)V"⟩
def kMo_calculate : Cond := .code yMo_calculate bMo_calculate 4 none
set_option maxRecDepth 20000 in
theorem qMo_calculate : kMo_calculate ∈ CW := cw_in 747 rfl rfl
abbrev bMo_count : ByteArray := prog_6_method_35_code
def yMo_count : MethodName := ⟨RMo, "count", "(I)I"⟩
def kMo_count : Cond := .code yMo_count bMo_count 4 (some .int)
set_option maxRecDepth 20000 in
theorem qMo_count : kMo_count ∈ CW := cw_in 784 rfl rfl
abbrev bMo_down : ByteArray := prog_6_method_8_code
def yMo_down : MethodName := ⟨RMo, "down", "(JJ)J"⟩
def kMo_down : Cond := .code yMo_down bMo_down 4 (some .long)
set_option maxRecDepth 20000 in
theorem qMo_down : kMo_down ∈ CW := cw_in 751 rfl rfl
abbrev bMo_download : ByteArray := prog_6_method_17_code
def yMo_download : MethodName := ⟨RMo, "download", "()I"⟩
def kMo_download : Cond := .code yMo_download bMo_download 3 (some .int)
set_option maxRecDepth 20000 in
theorem qMo_download : kMo_download ∈ CW := cw_in 703 rfl rfl
abbrev bMo_eighths : ByteArray := prog_6_method_6_code
def yMo_eighths : MethodName := ⟨RMo, "eighths", "(D)J"⟩
def kMo_eighths : Cond := .code yMo_eighths bMo_eighths 4 (some .long)
set_option maxRecDepth 20000 in
theorem qMo_eighths : kMo_eighths ∈ CW := cw_in 680 rfl rfl
abbrev bMo_erase : ByteArray := prog_6_method_16_code
def yMo_erase : MethodName := ⟨RMo, "erase", "(I)I"⟩
def kMo_erase : Cond := .code yMo_erase bMo_erase 3 (some .int)
set_option maxRecDepth 20000 in
theorem qMo_erase : kMo_erase ∈ CW := cw_in 699 rfl rfl
abbrev bMo_fail : ByteArray := prog_6_method_30_code
def yMo_fail : MethodName := ⟨RMo, "fail", "()I"⟩
def kMo_fail : Cond := .code yMo_fail bMo_fail 3 (some .int)
set_option maxRecDepth 20000 in
theorem qMo_fail : kMo_fail ∈ CW := cw_in 764 rfl rfl
abbrev bMo_fit : ByteArray := prog_6_method_9_code
def yMo_fit : MethodName := ⟨RMo, "fit", "(J)J"⟩
def kMo_fit : Cond := .code yMo_fit bMo_fit 2 (some .long)
set_option maxRecDepth 20000 in
theorem qMo_fit : kMo_fit ∈ CW := cw_in 754 rfl rfl
abbrev bMo_fits : ByteArray := prog_6_method_12_code
def yMo_fits : MethodName := ⟨RMo, "fits", "(II)Z"⟩
def kMo_fits : Cond := .code yMo_fits bMo_fits 3 (some .boolean)
set_option maxRecDepth 20000 in
theorem qMo_fits : kMo_fits ∈ CW := cw_in 689 rfl rfl
abbrev bMo_force : ByteArray := prog_6_method_20_code
def yMo_force : MethodName := ⟨RMo, "force", "(II)I"⟩
def kMo_force : Cond := .code yMo_force bMo_force 4 (some .int)
set_option maxRecDepth 20000 in
theorem qMo_force : kMo_force ∈ CW := cw_in 715 rfl rfl
abbrev bMo_in : ByteArray := prog_6_method_4_code
def yMo_in : MethodName := ⟨RMo, "in", "(III)Z"⟩
def kMo_in : Cond := .code yMo_in bMo_in 3 (some .boolean)
set_option maxRecDepth 20000 in
theorem qMo_in : kMo_in ∈ CW := cw_in 660 rfl rfl
abbrev bMo_joins : ByteArray := prog_6_method_14_code
def yMo_joins : MethodName := ⟨RMo, "joins", "(I)Z"⟩
def kMo_joins : Cond := .code yMo_joins bMo_joins 1 (some .boolean)
set_option maxRecDepth 20000 in
theorem qMo_joins : kMo_joins ∈ CW := cw_in 695 rfl rfl
abbrev bMo_number : ByteArray := prog_6_method_5_code
def yMo_number : MethodName := ⟨RMo, "number", "(D)Z"⟩
def kMo_number : Cond := .code yMo_number bMo_number 2 (some .boolean)
set_option maxRecDepth 20000 in
theorem qMo_number : kMo_number ∈ CW := cw_in 671 rfl rfl
abbrev bMo_out : ByteArray := prog_6_method_32_code
def yMo_out : MethodName := ⟨RMo, "out", "(I)I"⟩
def kMo_out : Cond := .code yMo_out bMo_out 2 (some .int)
set_option maxRecDepth 20000 in
theorem qMo_out : kMo_out ∈ CW := cw_in 772 rfl rfl
abbrev bMo_perform : ByteArray := prog_6_method_25_code
def yMo_perform : MethodName := ⟨RMo, "perform", "(II)V"⟩
def kMo_perform : Cond := .code yMo_perform bMo_perform 4 none
set_option maxRecDepth 20000 in
theorem qMo_perform : kMo_perform ∈ CW := cw_in 731 rfl rfl
abbrev bMo_push : ByteArray := prog_6_method_24_code
def yMo_push : MethodName := ⟨RMo, "push", "(I)V"⟩
def kMo_push : Cond := .code yMo_push bMo_push 2 none
set_option maxRecDepth 20000 in
theorem qMo_push : kMo_push ∈ CW := cw_in 739 rfl rfl
abbrev bMo_pushes : ByteArray := prog_6_method_13_code
def yMo_pushes : MethodName := ⟨RMo, "pushes", "(I)Z"⟩
def kMo_pushes : Cond := .code yMo_pushes bMo_pushes 1 (some .boolean)
set_option maxRecDepth 20000 in
theorem qMo_pushes : kMo_pushes ∈ CW := cw_in 692 rfl rfl
abbrev bMo_put : ByteArray := prog_6_method_19_code
def yMo_put : MethodName := ⟨RMo, "put", "(ID)D"⟩
def kMo_put : Cond := .code yMo_put bMo_put 6 (some .double)
set_option maxRecDepth 20000 in
theorem qMo_put : kMo_put ∈ CW := cw_in 711 rfl rfl
abbrev bMo_raise : ByteArray := prog_6_method_3_code
def yMo_raise : MethodName := ⟨RMo, "raise", "(I)I"⟩
def kMo_raise : Cond := .code yMo_raise bMo_raise 2 (some .int)
set_option maxRecDepth 20000 in
theorem qMo_raise : kMo_raise ∈ CW := cw_in 664 rfl rfl
abbrev bMo_read : ByteArray := prog_6_method_21_code
def yMo_read : MethodName := ⟨RMo, "read", "(I)I"⟩
def kMo_read : Cond := .code yMo_read bMo_read 2 (some .int)
set_option maxRecDepth 20000 in
theorem qMo_read : kMo_read ∈ CW := cw_in 735 rfl rfl
abbrev bMo_register : ByteArray := prog_6_method_33_code
def yMo_register : MethodName := ⟨RMo, "register", "(I)D"⟩
def kMo_register : Cond := .code yMo_register bMo_register 2 (some .double)
set_option maxRecDepth 20000 in
theorem qMo_register : kMo_register ∈ CW := cw_in 776 rfl rfl
abbrev bMo_restart : ByteArray := prog_6_method_29_code
def yMo_restart : MethodName := ⟨RMo, "restart", "()I"⟩
def kMo_restart : Cond := .code yMo_restart bMo_restart 2 (some .int)
set_option maxRecDepth 20000 in
theorem qMo_restart : kMo_restart ∈ CW := cw_in 760 rfl rfl
abbrev bMo_rung : ByteArray := prog_6_method_26_code
def yMo_rung : MethodName := ⟨RMo, "rung", "(I)I"⟩
def kMo_rung : Cond := .code yMo_rung bMo_rung 3 (some .int)
set_option maxRecDepth 20000 in
theorem qMo_rung : kMo_rung ∈ CW := cw_in 727 rfl rfl
abbrev bMo_scan : ByteArray := prog_6_method_28_code
def yMo_scan : MethodName := ⟨RMo, "scan", "(I)I"⟩
def kMo_scan : Cond := .code yMo_scan bMo_scan 3 (some .int)
set_option maxRecDepth 20000 in
theorem qMo_scan : kMo_scan ∈ CW := cw_in 719 rfl rfl
abbrev bMo_scanOnce : ByteArray := prog_6_method_27_code
def yMo_scanOnce : MethodName := ⟨RMo, "scanOnce", "()V"⟩
def kMo_scanOnce : Cond := .code yMo_scanOnce bMo_scanOnce 4 none
set_option maxRecDepth 20000 in
theorem qMo_scanOnce : kMo_scanOnce ∈ CW := cw_in 723 rfl rfl
abbrev bMo_state : ByteArray := prog_6_method_34_code
def yMo_state : MethodName := ⟨RMo, "state", "(II)I"⟩
def kMo_state : Cond := .code yMo_state bMo_state 3 (some .int)
set_option maxRecDepth 20000 in
theorem qMo_state : kMo_state ∈ CW := cw_in 780 rfl rfl
abbrev bMo_step : ByteArray := prog_6_method_15_code
def yMo_step : MethodName := ⟨RMo, "step", "(III)I"⟩
def kMo_step : Cond := .code yMo_step bMo_step 5 (some .int)
set_option maxRecDepth 20000 in
theorem qMo_step : kMo_step ∈ CW := cw_in 685 rfl rfl
abbrev bMo_thrown : ByteArray := prog_6_method_2_code
def yMo_thrown : MethodName := ⟨RMo, "thrown", "()I"⟩
def kMo_thrown : Cond := .code yMo_thrown bMo_thrown 1 (some .int)
set_option maxRecDepth 20000 in
theorem qMo_thrown : kMo_thrown ∈ CW := cw_in 653 rfl rfl
abbrev bMo_tune : ByteArray := prog_6_method_11_code
def yMo_tune : MethodName := ⟨RMo, "tune", "(IDD)D"⟩
def kMo_tune : Cond := .code yMo_tune bMo_tune 8 (some .double)
set_option maxRecDepth 20000 in
theorem qMo_tune : kMo_tune ∈ CW := cw_in 668 rfl rfl
abbrev bMo_whole : ByteArray := prog_6_method_7_code
def yMo_whole : MethodName := ⟨RMo, "whole", "(D)Z"⟩
def kMo_whole : Cond := .code yMo_whole bMo_whole 2 (some .boolean)
set_option maxRecDepth 20000 in
theorem qMo_whole : kMo_whole ∈ CW := cw_in 676 rfl rfl
abbrev bMo_wire : ByteArray := prog_6_method_18_code
def yMo_wire : MethodName := ⟨RMo, "wire", "(II)I"⟩
def kMo_wire : Cond := .code yMo_wire bMo_wire 4 (some .int)
set_option maxRecDepth 20000 in
theorem qMo_wire : kMo_wire ∈ CW := cw_in 707 rfl rfl
abbrev bMo_work : ByteArray := prog_6_method_23_code
def yMo_work : MethodName := ⟨RMo, "work", "(II)V"⟩
def kMo_work : Cond := .code yMo_work bMo_work 4 none
set_option maxRecDepth 20000 in
theorem qMo_work : kMo_work ∈ CW := cw_in 743 rfl rfl
abbrev bMa_floorDiv : ByteArray := prog_11_method_49_code
def yMa_floorDiv : MethodName := ⟨RMa, "floorDiv", "(JJ)J"⟩
def kMa_floorDiv : Cond := .code yMa_floorDiv bMa_floorDiv 6 (some .long)
set_option maxRecDepth 20000 in
theorem qMa_floorDiv : kMa_floorDiv ∈ CW := cw_in 461 rfl rfl
