def R_E : String := "StartTimes$Lesson"
def F_E : u_T := fun k => match k with
  | 0 => ("StartTimes$Lesson", "above", "J", false)
  | _ => ("StartTimes$Lesson", "below", "J", false)
def t_E : Nat → FieldType := fun k => match k with
  | 0 => .long
  | _ => .long
theorem n_E : ∀ a, a < 2 → ∀ b, b < 2 → a ≠ b → (F_E a).2.1 ≠ (F_E b).2.1 := by decide +kernel
theorem t_E_ok : ∀ k, k < 2 → parseFieldDescriptor (F_E k).2.2.1 = some (t_E k) := by decide +kernel
def R_Z : String := "StartTimes$Zone"
def F_Z : u_T := fun k => match k with
  | 0 => ("StartTimes$Zone", "holds", "I", true)
  | 1 => ("StartTimes$Zone", "leads", "I", true)
  | 2 => ("StartTimes$Zone", "firstWarmth", "I", false)
  | 3 => ("StartTimes$Zone", "power", "I", false)
  | 4 => ("StartTimes$Zone", "rank", "I", false)
  | 5 => ("StartTimes$Zone", "wantedMinute", "I", false)
  | 6 => ("StartTimes$Zone", "wantedWarmth", "I", false)
  | 7 => ("StartTimes$Zone", "lesson", "LStartTimes$Lesson;", true)
  | 8 => ("StartTimes$Zone", "start", "I", false)
  | _ => ("StartTimes$Zone", "warmths", "[I", true)
def t_Z : Nat → FieldType := fun k => match k with
  | 0 => .int
  | 1 => .int
  | 2 => .int
  | 3 => .int
  | 4 => .int
  | 5 => .int
  | 6 => .int
  | 7 => .object "StartTimes$Lesson"
  | 8 => .int
  | _ => .array .int
theorem n_Z : ∀ a, a < 10 → ∀ b, b < 10 → a ≠ b → (F_Z a).2.1 ≠ (F_Z b).2.1 := by decide +kernel
theorem t_Z_ok : ∀ k, k < 10 → parseFieldDescriptor (F_Z k).2.2.1 = some (t_Z k) := by decide +kernel
def R_C : String := "StartTimes"
def F_C : u_T := fun k => match k with
  | 0 => ("StartTimes", "zones", "[LStartTimes$Zone;", true)
  | 1 => ("StartTimes", "zoneCount", "I", false)
  | 2 => ("StartTimes", "outsideWarmths", "[I", true)
  | 3 => ("StartTimes", "outsideRows", "I", false)
  | 4 => ("StartTimes", "lastOutsideMinute", "I", false)
  | 5 => ("StartTimes", "machinePower", "I", false)
  | 6 => ("StartTimes", "given", "[I", true)
  | 7 => ("StartTimes", "planned", "Z", false)
  | 8 => ("StartTimes", "fadeAbove", "I", false)
  | 9 => ("StartTimes", "fadeBelow", "I", false)
  | 10 => ("StartTimes", "prices", "[I", true)
  | 11 => ("StartTimes", "setWarmths", "[I", true)
  | _ => ("StartTimes", "setCosts", "[J", true)
def t_C : Nat → FieldType := fun k => match k with
  | 0 => .array (.object "StartTimes$Zone")
  | 1 => .int
  | 2 => .array .int
  | 3 => .int
  | 4 => .int
  | 5 => .int
  | 6 => .array .int
  | 7 => .boolean
  | 8 => .int
  | 9 => .int
  | 10 => .array .int
  | 11 => .array .int
  | _ => .array .long
theorem n_C : ∀ a, a < 13 → ∀ b, b < 13 → a ≠ b → (F_C a).2.1 ≠ (F_C b).2.1 := by decide +kernel
theorem t_C_ok : ∀ k, k < 13 → parseFieldDescriptor (F_C k).2.2.1 = some (t_C k) := by decide +kernel
def R_M : String := "StartTimesModel"
def F_M : u_T := fun k => match k with
  | 0 => ("StartTimesModel", "thrown", "I", false)
  | 1 => ("StartTimesModel", "zones", "I", false)
  | 2 => ("StartTimesModel", "holds", "[I", true)
  | 3 => ("StartTimesModel", "leads", "[I", true)
  | 4 => ("StartTimesModel", "begins", "[I", true)
  | 5 => ("StartTimesModel", "powers", "[I", true)
  | 6 => ("StartTimesModel", "ranks", "[I", true)
  | 7 => ("StartTimesModel", "wantedAt", "[I", true)
  | 8 => ("StartTimesModel", "wanted", "[I", true)
  | 9 => ("StartTimesModel", "above", "[J", true)
  | 10 => ("StartTimesModel", "below", "[J", true)
  | 11 => ("StartTimesModel", "rows", "I", false)
  | 12 => ("StartTimesModel", "rowMinutes", "[I", true)
  | 13 => ("StartTimesModel", "rowWarmths", "[I", true)
  | 14 => ("StartTimesModel", "machine", "I", false)
  | 15 => ("StartTimesModel", "prices", "[I", true)
  | 16 => ("StartTimesModel", "fadeAbove", "I", false)
  | 17 => ("StartTimesModel", "fadeBelow", "I", false)
  | 18 => ("StartTimesModel", "known", "Z", false)
  | 19 => ("StartTimesModel", "outsides", "[I", true)
  | 20 => ("StartTimesModel", "left", "[I", true)
  | 21 => ("StartTimesModel", "starts", "[I", true)
  | 22 => ("StartTimesModel", "lates", "[Z", true)
  | 23 => ("StartTimesModel", "warmths", "[I", true)
  | _ => ("StartTimesModel", "done", "[Z", true)
def t_M : Nat → FieldType := fun k => match k with
  | 0 => .int
  | 1 => .int
  | 2 => .array .int
  | 3 => .array .int
  | 4 => .array .int
  | 5 => .array .int
  | 6 => .array .int
  | 7 => .array .int
  | 8 => .array .int
  | 9 => .array .long
  | 10 => .array .long
  | 11 => .int
  | 12 => .array .int
  | 13 => .array .int
  | 14 => .int
  | 15 => .array .int
  | 16 => .int
  | 17 => .int
  | 18 => .boolean
  | 19 => .array .int
  | 20 => .array .int
  | 21 => .array .int
  | 22 => .array .boolean
  | 23 => .array .int
  | _ => .array .boolean
theorem n_M : ∀ a, a < 25 → ∀ b, b < 25 → a ≠ b → (F_M a).2.1 ≠ (F_M b).2.1 := by decide +kernel
theorem t_M_ok : ∀ k, k < 25 → parseFieldDescriptor (F_M k).2.2.1 = some (t_M k) := by decide +kernel
def R_L : String := "StartTimesLaw"
abbrev vwCl : List vw_C := [(R_E, F_E, 2), (R_Z, F_Z, 10), (R_C, F_C, 13), (R_M, F_M, 25)]
/-- all good words of the tables: every method takes these -/
def GG : List Cond := lw_tbl.filter goodWord
theorem goodG {ws : List Cond} (h : ∀ w ∈ ws, w ∈ GG) : GoodIn GG ws := fun w hw => ⟨(h w hw), good_of_word (List.mem_filter.mp (h w hw)).2⟩
theorem tms {w : Cond} (h : w ∈ k2_sels lw_privs) (g : goodWord w = true) : w ∈ GG := List.mem_filter.mpr ⟨List.mem_append_left _ h, g⟩
theorem tn0 {w : Cond} (h : w ∈ tables_1_1) : w ∈ tables_1 := (List.mem_append_left _ h)
theorem tm0 {w : Cond} (h : w ∈ tables_1_1) (g : goodWord w = true) : w ∈ GG := List.mem_filter.mpr ⟨List.mem_append_right _ (tn0 h), g⟩
theorem tn1 {w : Cond} (h : w ∈ tables_1_2) : w ∈ tables_1 := (List.mem_append_right _ (List.mem_append_left _ h))
theorem tm1 {w : Cond} (h : w ∈ tables_1_2) (g : goodWord w = true) : w ∈ GG := List.mem_filter.mpr ⟨List.mem_append_right _ (tn1 h), g⟩
theorem tn2 {w : Cond} (h : w ∈ tables_1_3) : w ∈ tables_1 := (List.mem_append_right _ (List.mem_append_right _ h))
theorem tm2 {w : Cond} (h : w ∈ tables_1_3) (g : goodWord w = true) : w ∈ GG := List.mem_filter.mpr ⟨List.mem_append_right _ (tn2 h), g⟩
theorem i_E : ∀ w ∈ u_ws R_E F_E 2, w ∈ GG := by decide +kernel
theorem i_Z : ∀ w ∈ u_ws R_Z F_Z 10, w ∈ GG := by decide +kernel
theorem i_C : ∀ w ∈ u_ws R_C F_C 13, w ∈ GG := by decide +kernel
theorem i_M : ∀ w ∈ u_ws R_M F_M 25, w ∈ GG := by decide +kernel
abbrev b_C_init : ByteArray := prog_1_method_1_code
abbrev y_C_init : MethodName := ⟨"StartTimes", "<init>", "()V"⟩
abbrev w_C_init : List Cond := .code y_C_init b_C_init 1 none :: GG
abbrev b_C_zone : ByteArray := prog_1_method_2_code
abbrev y_C_zone : MethodName := ⟨"StartTimes", "zone", "(II)I"⟩
abbrev w_C_zone : List Cond := .code y_C_zone b_C_zone 4 (some .int) :: GG
abbrev b_C_set : ByteArray := prog_1_method_3_code
abbrev y_C_set : MethodName := ⟨"StartTimes", "set", "(III)I"⟩
abbrev w_C_set : List Cond := .code y_C_set b_C_set 6 (some .int) :: GG
abbrev b_C_want : ByteArray := prog_1_method_4_code
abbrev y_C_want : MethodName := ⟨"StartTimes", "want", "(III)V"⟩
abbrev w_C_want : List Cond := .code y_C_want b_C_want 5 none :: GG
abbrev b_C_outside : ByteArray := prog_1_method_5_code
abbrev y_C_outside : MethodName := ⟨"StartTimes", "outside", "(II)I"⟩
abbrev w_C_outside : List Cond := .code y_C_outside b_C_outside 4 (some .int) :: GG
abbrev b_C_machine : ByteArray := prog_1_method_6_code
abbrev y_C_machine : MethodName := ⟨"StartTimes", "machine", "(I)I"⟩
abbrev w_C_machine : List Cond := .code y_C_machine b_C_machine 3 (some .int) :: GG
abbrev b_C_start : ByteArray := prog_1_method_7_code
abbrev y_C_start : MethodName := ⟨"StartTimes", "start", "(I)I"⟩
abbrev w_C_start : List Cond := .code y_C_start b_C_start 2 (some .int) :: GG
abbrev b_C_late : ByteArray := prog_1_method_8_code
abbrev y_C_late : MethodName := ⟨"StartTimes", "late", "(I)Z"⟩
abbrev w_C_late : List Cond := .code y_C_late b_C_late 3 (some .boolean) :: GG
abbrev b_C_at : ByteArray := prog_1_method_9_code
abbrev y_C_at : MethodName := ⟨"StartTimes", "at", "(II)I"⟩
abbrev w_C_at : List Cond := .code y_C_at b_C_at 3 (some .int) :: GG
abbrev b_C_used : ByteArray := prog_1_method_10_code
abbrev y_C_used : MethodName := ⟨"StartTimes", "used", "(I)I"⟩
abbrev w_C_used : List Cond := .code y_C_used b_C_used 2 (some .int) :: GG
abbrev b_C_cold : ByteArray := prog_1_method_11_code
abbrev y_C_cold : MethodName := ⟨"StartTimes", "cold", "(I)I"⟩
abbrev w_C_cold : List Cond := .code y_C_cold b_C_cold 5 (some .int) :: GG
abbrev b_C_fade : ByteArray := prog_1_method_12_code
abbrev y_C_fade : MethodName := ⟨"StartTimes", "fade", "(II)V"⟩
abbrev w_C_fade : List Cond := .code y_C_fade b_C_fade 3 none :: GG
abbrev b_C_day : ByteArray := prog_1_method_13_code
abbrev y_C_day : MethodName := ⟨"StartTimes", "day", "(II)V"⟩
abbrev w_C_day : List Cond := .code y_C_day b_C_day 4 none :: GG
abbrev b_C_lesson : ByteArray := prog_1_method_14_code
abbrev y_C_lesson : MethodName := ⟨"StartTimes", "lesson", "(II)J"⟩
abbrev w_C_lesson : List Cond := .code y_C_lesson b_C_lesson 4 (some .long) :: GG
abbrev b_C_taught : ByteArray := prog_1_method_15_code
abbrev y_C_taught : MethodName := ⟨"StartTimes", "taught", "(I)I"⟩
abbrev w_C_taught : List Cond := .code y_C_taught b_C_taught 4 (some .int) :: GG
abbrev b_C_price : ByteArray := prog_1_method_16_code
abbrev y_C_price : MethodName := ⟨"StartTimes", "price", "(II)I"⟩
abbrev w_C_price : List Cond := .code y_C_price b_C_price 4 (some .int) :: GG
abbrev b_C_cheapest : ByteArray := prog_1_method_17_code
abbrev y_C_cheapest : MethodName := ⟨"StartTimes", "cheapest", "(III)I"⟩
abbrev w_C_cheapest : List Cond := .code y_C_cheapest b_C_cheapest 8 (some .int) :: GG
abbrev b_C_costs : ByteArray := prog_1_method_18_code
abbrev y_C_costs : MethodName := ⟨"StartTimes", "costs", "(IIII)J"⟩
abbrev w_C_costs : List Cond := .code y_C_costs b_C_costs 13 (some .long) :: GG
abbrev b_C_checkBounds : ByteArray := prog_1_method_19_code
abbrev y_C_checkBounds : MethodName := ⟨"StartTimes", "checkBounds", "(III)V"⟩
abbrev w_C_checkBounds : List Cond := .code y_C_checkBounds b_C_checkBounds 3 none :: GG
abbrev b_C_checkQuarters : ByteArray := prog_1_method_20_code
abbrev y_C_checkQuarters : MethodName := ⟨"StartTimes", "checkQuarters", "(II)V"⟩
abbrev w_C_checkQuarters : List Cond := .code y_C_checkQuarters b_C_checkQuarters 2 none :: GG
abbrev b_C_checkWants : ByteArray := prog_1_method_21_code
abbrev y_C_checkWants : MethodName := ⟨"StartTimes", "checkWants", "(LStartTimes$Zone;)V"⟩
abbrev w_C_checkWants : List Cond := .code y_C_checkWants b_C_checkWants 1 none :: GG
abbrev b_C_knownZone : ByteArray := prog_1_method_22_code
abbrev y_C_knownZone : MethodName := ⟨"StartTimes", "knownZone", "(I)LStartTimes$Zone;"⟩
abbrev w_C_knownZone : List Cond := .code y_C_knownZone b_C_knownZone 2 (some (.object "StartTimes$Zone")) :: GG
abbrev b_C_plannedZone : ByteArray := prog_1_method_23_code
abbrev y_C_plannedZone : MethodName := ⟨"StartTimes", "plannedZone", "(I)LStartTimes$Zone;"⟩
abbrev w_C_plannedZone : List Cond := .code y_C_plannedZone b_C_plannedZone 3 (some (.object "StartTimes$Zone")) :: GG
abbrev b_C_warmthAfter : ByteArray := prog_1_method_24_code
abbrev y_C_warmthAfter : MethodName := ⟨"StartTimes", "warmthAfter", "(LStartTimes$Zone;III)I"⟩
abbrev w_C_warmthAfter : List Cond := .code y_C_warmthAfter b_C_warmthAfter 5 (some .int) :: GG
abbrev b_C_warmthThrough : ByteArray := prog_1_method_25_code
abbrev y_C_warmthThrough : MethodName := ⟨"StartTimes", "warmthThrough", "(LStartTimes$Zone;IIII)I"⟩
abbrev w_C_warmthThrough : List Cond := .code y_C_warmthThrough b_C_warmthThrough 8 (some .int) :: GG
abbrev b_C_makePlan : ByteArray := prog_1_method_26_code
abbrev y_C_makePlan : MethodName := ⟨"StartTimes", "makePlan", "()V"⟩
abbrev w_C_makePlan : List Cond := .code y_C_makePlan b_C_makePlan 3 none :: GG
abbrev b_C_planZone : ByteArray := prog_1_method_27_code
abbrev y_C_planZone : MethodName := ⟨"StartTimes", "planZone", "(LStartTimes$Zone;)V"⟩
abbrev w_C_planZone : List Cond := .code y_C_planZone b_C_planZone 2 none :: GG
abbrev b_C_leaveUnheated : ByteArray := prog_1_method_28_code
abbrev y_C_leaveUnheated : MethodName := ⟨"StartTimes", "leaveUnheated", "(LStartTimes$Zone;I)V"⟩
abbrev w_C_leaveUnheated : List Cond := .code y_C_leaveUnheated b_C_leaveUnheated 4 none :: GG
abbrev b_C_latestStart : ByteArray := prog_1_method_29_code
abbrev y_C_latestStart : MethodName := ⟨"StartTimes", "latestStart", "(LStartTimes$Zone;)I"⟩
abbrev w_C_latestStart : List Cond := .code y_C_latestStart b_C_latestStart 5 (some .int) :: GG
abbrev b_C_warmthIfStarted : ByteArray := prog_1_method_30_code
abbrev y_C_warmthIfStarted : MethodName := ⟨"StartTimes", "warmthIfStarted", "(LStartTimes$Zone;I)I"⟩
abbrev w_C_warmthIfStarted : List Cond := .code y_C_warmthIfStarted b_C_warmthIfStarted 5 (some .int) :: GG
abbrev b_C_heatFromStart : ByteArray := prog_1_method_31_code
abbrev y_C_heatFromStart : MethodName := ⟨"StartTimes", "heatFromStart", "(LStartTimes$Zone;)V"⟩
abbrev w_C_heatFromStart : List Cond := .code y_C_heatFromStart b_C_heatFromStart 4 none :: GG
abbrev b_C_shareOf : ByteArray := prog_1_method_32_code
abbrev y_C_shareOf : MethodName := ⟨"StartTimes", "shareOf", "(LStartTimes$Zone;I)I"⟩
abbrev w_C_shareOf : List Cond := .code y_C_shareOf b_C_shareOf 4 (some .int) :: GG
abbrev b_C_quarterBegin : ByteArray := prog_1_method_33_code
abbrev y_C_quarterBegin : MethodName := ⟨"StartTimes", "quarterBegin", "(LStartTimes$Zone;II)I"⟩
abbrev w_C_quarterBegin : List Cond := .code y_C_quarterBegin b_C_quarterBegin 3 (some .int) :: GG
abbrev b_C_costOfMinutes : ByteArray := prog_1_method_34_code
abbrev y_C_costOfMinutes : MethodName := ⟨"StartTimes", "costOfMinutes", "(LStartTimes$Zone;II)J"⟩
abbrev w_C_costOfMinutes : List Cond := .code y_C_costOfMinutes b_C_costOfMinutes 7 (some .long) :: GG
abbrev b_C_weighSets : ByteArray := prog_1_method_35_code
abbrev y_C_weighSets : MethodName := ⟨"StartTimes", "weighSets", "(LStartTimes$Zone;II)V"⟩
abbrev w_C_weighSets : List Cond := .code y_C_weighSets b_C_weighSets 12 none :: GG
abbrev b_M_init : ByteArray := prog_5_method_1_code
abbrev y_M_init : MethodName := ⟨"StartTimesModel", "<init>", "()V"⟩
abbrev w_M_init : List Cond := .code y_M_init b_M_init 1 none :: GG
abbrev b_M_thrown : ByteArray := prog_5_method_2_code
abbrev y_M_thrown : MethodName := ⟨"StartTimesModel", "thrown", "()I"⟩
abbrev w_M_thrown : List Cond := .code y_M_thrown b_M_thrown 1 (some .int) :: GG
abbrev b_M_fails : ByteArray := prog_5_method_3_code
abbrev y_M_fails : MethodName := ⟨"StartTimesModel", "fails", "(ZI)Z"⟩
abbrev w_M_fails : List Cond := .code y_M_fails b_M_fails 3 (some .boolean) :: GG
abbrev b_M_within : ByteArray := prog_5_method_4_code
abbrev y_M_within : MethodName := ⟨"StartTimesModel", "within", "(III)Z"⟩
abbrev w_M_within : List Cond := .code y_M_within b_M_within 3 (some .boolean) :: GG
abbrev b_M_isZone : ByteArray := prog_5_method_5_code
abbrev y_M_isZone : MethodName := ⟨"StartTimesModel", "isZone", "(I)Z"⟩
abbrev w_M_isZone : List Cond := .code y_M_isZone b_M_isZone 2 (some .boolean) :: GG
abbrev b_M_zone : ByteArray := prog_5_method_6_code
abbrev y_M_zone : MethodName := ⟨"StartTimesModel", "zone", "(II)I"⟩
abbrev w_M_zone : List Cond := .code y_M_zone b_M_zone 3 (some .int) :: GG
abbrev b_M_set : ByteArray := prog_5_method_7_code
abbrev y_M_set : MethodName := ⟨"StartTimesModel", "set", "(III)I"⟩
abbrev w_M_set : List Cond := .code y_M_set b_M_set 6 (some .int) :: GG
abbrev b_M_want : ByteArray := prog_5_method_8_code
abbrev y_M_want : MethodName := ⟨"StartTimesModel", "want", "(III)V"⟩
abbrev w_M_want : List Cond := .code y_M_want b_M_want 4 none :: GG
abbrev b_M_outside : ByteArray := prog_5_method_9_code
abbrev y_M_outside : MethodName := ⟨"StartTimesModel", "outside", "(II)I"⟩
abbrev w_M_outside : List Cond := .code y_M_outside b_M_outside 3 (some .int) :: GG
abbrev b_M_machine : ByteArray := prog_5_method_10_code
abbrev y_M_machine : MethodName := ⟨"StartTimesModel", "machine", "(I)I"⟩
abbrev w_M_machine : List Cond := .code y_M_machine b_M_machine 3 (some .int) :: GG
abbrev b_M_stepped : ByteArray := prog_5_method_11_code
abbrev y_M_stepped : MethodName := ⟨"StartTimesModel", "stepped", "(IIII)I"⟩
abbrev w_M_stepped : List Cond := .code y_M_stepped b_M_stepped 5 (some .int) :: GG
abbrev b_M_heatIn : ByteArray := prog_5_method_12_code
abbrev y_M_heatIn : MethodName := ⟨"StartTimesModel", "heatIn", "(II)I"⟩
abbrev w_M_heatIn : List Cond := .code y_M_heatIn b_M_heatIn 3 (some .int) :: GG
abbrev b_M_findOutsides : ByteArray := prog_5_method_13_code
abbrev y_M_findOutsides : MethodName := ⟨"StartTimesModel", "findOutsides", "()V"⟩
abbrev w_M_findOutsides : List Cond := .code y_M_findOutsides b_M_findOutsides 4 none :: GG
abbrev b_M_isWarm : ByteArray := prog_5_method_14_code
abbrev y_M_isWarm : MethodName := ⟨"StartTimesModel", "isWarm", "(III)Z"⟩
abbrev w_M_isWarm : List Cond := .code y_M_isWarm b_M_isWarm 6 (some .boolean) :: GG
abbrev b_M_planZone : ByteArray := prog_5_method_15_code
abbrev y_M_planZone : MethodName := ⟨"StartTimesModel", "planZone", "(I)V"⟩
abbrev w_M_planZone : List Cond := .code y_M_planZone b_M_planZone 6 none :: GG
abbrev b_M_plan : ByteArray := prog_5_method_16_code
abbrev y_M_plan : MethodName := ⟨"StartTimesModel", "plan", "()V"⟩
abbrev w_M_plan : List Cond := .code y_M_plan b_M_plan 4 none :: GG
abbrev b_M_start : ByteArray := prog_5_method_17_code
abbrev y_M_start : MethodName := ⟨"StartTimesModel", "start", "(I)I"⟩
abbrev w_M_start : List Cond := .code y_M_start b_M_start 2 (some .int) :: GG
abbrev b_M_late : ByteArray := prog_5_method_18_code
abbrev y_M_late : MethodName := ⟨"StartTimesModel", "late", "(I)Z"⟩
abbrev w_M_late : List Cond := .code y_M_late b_M_late 2 (some .boolean) :: GG
abbrev b_M_at : ByteArray := prog_5_method_19_code
abbrev y_M_at : MethodName := ⟨"StartTimesModel", "at", "(II)I"⟩
abbrev w_M_at : List Cond := .code y_M_at b_M_at 3 (some .int) :: GG
abbrev b_M_used : ByteArray := prog_5_method_20_code
abbrev y_M_used : MethodName := ⟨"StartTimesModel", "used", "(I)I"⟩
abbrev w_M_used : List Cond := .code y_M_used b_M_used 2 (some .int) :: GG
abbrev b_M_cold : ByteArray := prog_5_method_21_code
abbrev y_M_cold : MethodName := ⟨"StartTimesModel", "cold", "(I)I"⟩
abbrev w_M_cold : List Cond := .code y_M_cold b_M_cold 4 (some .int) :: GG
abbrev b_M_fade : ByteArray := prog_5_method_22_code
abbrev y_M_fade : MethodName := ⟨"StartTimesModel", "fade", "(II)V"⟩
abbrev w_M_fade : List Cond := .code y_M_fade b_M_fade 3 none :: GG
abbrev b_M_divisor : ByteArray := prog_5_method_23_code
abbrev y_M_divisor : MethodName := ⟨"StartTimesModel", "divisor", "(JJ)J"⟩
abbrev w_M_divisor : List Cond := .code y_M_divisor b_M_divisor 10 (some .long) :: GG
abbrev b_M_day : ByteArray := prog_5_method_24_code
abbrev y_M_day : MethodName := ⟨"StartTimesModel", "day", "(II)V"⟩
abbrev w_M_day : List Cond := .code y_M_day b_M_day 9 none :: GG
abbrev b_M_lesson : ByteArray := prog_5_method_25_code
abbrev y_M_lesson : MethodName := ⟨"StartTimesModel", "lesson", "(II)J"⟩
abbrev w_M_lesson : List Cond := .code y_M_lesson b_M_lesson 3 (some .long) :: GG
abbrev b_M_taught : ByteArray := prog_5_method_26_code
abbrev y_M_taught : MethodName := ⟨"StartTimesModel", "taught", "(I)I"⟩
abbrev w_M_taught : List Cond := .code y_M_taught b_M_taught 4 (some .int) :: GG
abbrev b_M_price : ByteArray := prog_5_method_27_code
abbrev y_M_price : MethodName := ⟨"StartTimesModel", "price", "(II)I"⟩
abbrev w_M_price : List Cond := .code y_M_price b_M_price 4 (some .int) :: GG
abbrev b_M_areQuarters : ByteArray := prog_5_method_28_code
abbrev y_M_areQuarters : MethodName := ⟨"StartTimesModel", "areQuarters", "(III)Z"⟩
abbrev w_M_areQuarters : List Cond := .code y_M_areQuarters b_M_areQuarters 4 (some .boolean) :: GG
abbrev b_M_reckoned : ByteArray := prog_5_method_29_code
abbrev y_M_reckoned : MethodName := ⟨"StartTimesModel", "reckoned", "(IIII)J"⟩
abbrev w_M_reckoned : List Cond := .code y_M_reckoned b_M_reckoned 11 (some .long) :: GG
abbrev b_M_cheapest : ByteArray := prog_5_method_30_code
abbrev y_M_cheapest : MethodName := ⟨"StartTimesModel", "cheapest", "(III)I"⟩
abbrev w_M_cheapest : List Cond := .code y_M_cheapest b_M_cheapest 10 (some .int) :: GG
abbrev b_M_costs : ByteArray := prog_5_method_31_code
abbrev y_M_costs : MethodName := ⟨"StartTimesModel", "costs", "(IIII)J"⟩
abbrev w_M_costs : List Cond := .code y_M_costs b_M_costs 5 (some .long) :: GG
abbrev b_E_init : ByteArray := prog_2_method_1_code
abbrev y_E_init : MethodName := ⟨"StartTimes$Lesson", "<init>", "()V"⟩
abbrev w_E_init : List Cond := .code y_E_init b_E_init 1 none :: GG
abbrev b_E_learn : ByteArray := prog_2_method_2_code
abbrev y_E_learn : MethodName := ⟨"StartTimes$Lesson", "learn", "(III)V"⟩
abbrev w_E_learn : List Cond := .code y_E_learn b_E_learn 8 none :: GG
abbrev b_E_millionths : ByteArray := prog_2_method_3_code
abbrev y_E_millionths : MethodName := ⟨"StartTimes$Lesson", "millionths", "()J"⟩
abbrev w_E_millionths : List Cond := .code y_E_millionths b_E_millionths 1 (some .long) :: GG
abbrev b_E_keepInLowestTerms : ByteArray := prog_2_method_4_code
abbrev y_E_keepInLowestTerms : MethodName := ⟨"StartTimes$Lesson", "keepInLowestTerms", "(JJ)V"⟩
abbrev w_E_keepInLowestTerms : List Cond := .code y_E_keepInLowestTerms b_E_keepInLowestTerms 7 none :: GG
abbrev b_E_commonDivisor : ByteArray := prog_2_method_5_code
abbrev y_E_commonDivisor : MethodName := ⟨"StartTimes$Lesson", "commonDivisor", "(JJ)J"⟩
abbrev w_E_commonDivisor : List Cond := .code y_E_commonDivisor b_E_commonDivisor 11 (some .long) :: GG
abbrev b_E_wholeMinutes : ByteArray := prog_2_method_6_code
abbrev y_E_wholeMinutes : MethodName := ⟨"StartTimes$Lesson", "wholeMinutes", "()I"⟩
abbrev w_E_wholeMinutes : List Cond := .code y_E_wholeMinutes b_E_wholeMinutes 1 (some .int) :: GG
abbrev b_Z_init : ByteArray := prog_3_method_1_code
abbrev y_Z_init : MethodName := ⟨"StartTimes$Zone", "<init>", "(II)V"⟩
abbrev w_Z_init : List Cond := .code y_Z_init b_Z_init 3 none :: GG
abbrev b_Z_wantsWarmth : ByteArray := prog_3_method_2_code
abbrev y_Z_wantsWarmth : MethodName := ⟨"StartTimes$Zone", "wantsWarmth", "()Z"⟩
abbrev w_Z_wantsWarmth : List Cond := .code y_Z_wantsWarmth b_Z_wantsWarmth 1 (some .boolean) :: GG
abbrev b_L_zone : ByteArray := method_3_code
abbrev y_L_zone : MethodName := ⟨"StartTimesLaw", "zone", "(LStartTimes;II[J)I"⟩
abbrev w_L_zone : List Cond := .codeWith y_L_zone b_L_zone 5 (some .int) [((0), (10), (13), (13)), ((0), (10), (17), (15))] :: GG
abbrev b_L_set : ByteArray := method_4_code
abbrev y_L_set : MethodName := ⟨"StartTimesLaw", "set", "(LStartTimes;III[J)I"⟩
abbrev w_L_set : List Cond := .codeWith y_L_set b_L_set 6 (some .int) [((0), (12), (15), (13))] :: GG
abbrev b_L_want : ByteArray := method_5_code
abbrev y_L_want : MethodName := ⟨"StartTimesLaw", "want", "(LStartTimes;III)I"⟩
abbrev w_L_want : List Cond := .codeWith y_L_want b_L_want 5 (some .int) [((0), (7), (10), (13))] :: GG
abbrev b_L_outside : ByteArray := method_6_code
abbrev y_L_outside : MethodName := ⟨"StartTimesLaw", "outside", "(LStartTimes;II[J)I"⟩
abbrev w_L_outside : List Cond := .codeWith y_L_outside b_L_outside 5 (some .int) [((0), (10), (13), (13)), ((0), (10), (17), (15))] :: GG
abbrev b_L_machine : ByteArray := method_7_code
abbrev y_L_machine : MethodName := ⟨"StartTimesLaw", "machine", "(LStartTimes;I[J)I"⟩
abbrev w_L_machine : List Cond := .codeWith y_L_machine b_L_machine 4 (some .int) [((0), (9), (12), (13))] :: GG
abbrev b_L_start : ByteArray := method_8_code
abbrev y_L_start : MethodName := ⟨"StartTimesLaw", "start", "(LStartTimes;I[J)I"⟩
abbrev w_L_start : List Cond := .codeWith y_L_start b_L_start 4 (some .int) [((0), (9), (12), (13))] :: GG
abbrev b_L_late : ByteArray := method_9_code
abbrev y_L_late : MethodName := ⟨"StartTimesLaw", "late", "(LStartTimes;I[J)I"⟩
abbrev w_L_late : List Cond := .codeWith y_L_late b_L_late 4 (some .int) [((0), (16), (19), (13))] :: GG
abbrev b_L_at : ByteArray := method_10_code
abbrev y_L_at : MethodName := ⟨"StartTimesLaw", "at", "(LStartTimes;II[J)I"⟩
abbrev w_L_at : List Cond := .codeWith y_L_at b_L_at 5 (some .int) [((0), (10), (13), (13))] :: GG
abbrev b_L_used : ByteArray := method_11_code
abbrev y_L_used : MethodName := ⟨"StartTimesLaw", "used", "(LStartTimes;I[J)I"⟩
abbrev w_L_used : List Cond := .codeWith y_L_used b_L_used 4 (some .int) [((0), (9), (12), (13))] :: GG
abbrev b_L_cold : ByteArray := method_12_code
abbrev y_L_cold : MethodName := ⟨"StartTimesLaw", "cold", "(LStartTimes;I[J)I"⟩
abbrev w_L_cold : List Cond := .codeWith y_L_cold b_L_cold 4 (some .int) [((0), (9), (12), (13))] :: GG
abbrev b_L_fade : ByteArray := method_13_code
abbrev y_L_fade : MethodName := ⟨"StartTimesLaw", "fade", "(LStartTimes;II)I"⟩
abbrev w_L_fade : List Cond := .codeWith y_L_fade b_L_fade 4 (some .int) [((0), (6), (9), (13))] :: GG
abbrev b_L_day : ByteArray := method_14_code
abbrev y_L_day : MethodName := ⟨"StartTimesLaw", "day", "(LStartTimes;II)I"⟩
abbrev w_L_day : List Cond := .codeWith y_L_day b_L_day 4 (some .int) [((0), (6), (9), (13))] :: GG
abbrev b_L_lesson : ByteArray := method_15_code
abbrev y_L_lesson : MethodName := ⟨"StartTimesLaw", "lesson", "(LStartTimes;II[J)I"⟩
abbrev w_L_lesson : List Cond := .codeWith y_L_lesson b_L_lesson 5 (some .int) [((0), (9), (12), (13))] :: GG
abbrev b_L_taught : ByteArray := method_16_code
abbrev y_L_taught : MethodName := ⟨"StartTimesLaw", "taught", "(LStartTimes;I[J)I"⟩
abbrev w_L_taught : List Cond := .codeWith y_L_taught b_L_taught 4 (some .int) [((0), (9), (12), (13))] :: GG
abbrev b_L_price : ByteArray := method_17_code
abbrev y_L_price : MethodName := ⟨"StartTimesLaw", "price", "(LStartTimes;II[J)I"⟩
abbrev w_L_price : List Cond := .codeWith y_L_price b_L_price 5 (some .int) [((0), (10), (13), (13))] :: GG
abbrev b_L_cheapest : ByteArray := method_18_code
abbrev y_L_cheapest : MethodName := ⟨"StartTimesLaw", "cheapest", "(LStartTimes;III[J)I"⟩
abbrev w_L_cheapest : List Cond := .codeWith y_L_cheapest b_L_cheapest 6 (some .int) [((0), (12), (15), (13)), ((0), (12), (19), (15))] :: GG
abbrev b_L_costs : ByteArray := method_19_code
abbrev y_L_costs : MethodName := ⟨"StartTimesLaw", "costs", "(LStartTimes;IIII[J)I"⟩
abbrev w_L_costs : List Cond := .codeWith y_L_costs b_L_costs 7 (some .int) [((0), (13), (16), (13)), ((0), (13), (20), (15))] :: GG
theorem k_0 : ((.initialized "StartTimesLaw") : Cond) ∈ GG := tm0 (List.mem_of_getElem? (i := 0) rfl) rfl
theorem k_1 : ((.initialized "StartTimes") : Cond) ∈ GG := tm0 (List.mem_of_getElem? (i := 1) rfl) rfl
theorem k_2 : ((.initialized "StartTimesModel") : Cond) ∈ GG := tm0 (List.mem_of_getElem? (i := 2) rfl) rfl
theorem k_3 : ((.initialized "java/lang/Throwable") : Cond) ∈ GG := tm0 (List.mem_of_getElem? (i := 3) rfl) rfl
theorem k_4 : ((.initialized "java/lang/Exception") : Cond) ∈ GG := tm0 (List.mem_of_getElem? (i := 4) rfl) rfl
theorem k_5 : ((.initialized "java/lang/RuntimeException") : Cond) ∈ GG := tm0 (List.mem_of_getElem? (i := 5) rfl) rfl
theorem k_6 : ((.initialized "java/lang/IllegalArgumentException") : Cond) ∈ GG := tm0 (List.mem_of_getElem? (i := 6) rfl) rfl
theorem k_7 : ((.initialized "java/lang/IllegalStateException") : Cond) ∈ GG := tm0 (List.mem_of_getElem? (i := 7) rfl) rfl
theorem k_8 : ((.initialized "StartTimes$Zone") : Cond) ∈ GG := tm0 (List.mem_of_getElem? (i := 8) rfl) rfl
theorem k_9 : ((.initialized "StartTimes$Lesson") : Cond) ∈ GG := tm0 (List.mem_of_getElem? (i := 9) rfl) rfl
theorem k_10 : ((.initialized "java/lang/Math") : Cond) ∈ GG := tm0 (List.mem_of_getElem? (i := 10) rfl) rfl
theorem k_11 : ((.classLink "StartTimesLaw" (8 : Nat) "StartTimes") : Cond) ∈ GG := tm0 (List.mem_of_getElem? (i := 11) rfl) rfl
theorem k_12 : ((.instantiable "StartTimes" (13 : Nat)) : Cond) ∈ GG := tm0 (List.mem_of_getElem? (i := 12) rfl) rfl
theorem k_13 : ((.methodLink "StartTimesLaw" (72 : Nat) ⟨"StartTimes", "<init>", "()V"⟩) : Cond) ∈ GG := tm0 (List.mem_of_getElem? (i := 13) rfl) rfl
theorem k_14 : ((.instanceMethod ⟨"StartTimes", "<init>", "()V"⟩) : Cond) ∈ GG := tm0 (List.mem_of_getElem? (i := 14) rfl) rfl
theorem k_15 : ((.code ⟨"StartTimes", "<init>", "()V"⟩ prog_1_method_1_code (1 : Nat) (Option.none : Option Jvm.ClassFile.FieldType)) : Cond) ∈ GG := tm0 (List.mem_of_getElem? (i := 15) rfl) rfl
theorem k_16 : ((.methodLink "StartTimes" (3 : Nat) ⟨"java/lang/Object", "<init>", "()V"⟩) : Cond) ∈ GG := tm0 (List.mem_of_getElem? (i := 16) rfl) rfl
theorem k_17 : ((.instanceMethod ⟨"java/lang/Object", "<init>", "()V"⟩) : Cond) ∈ GG := tm0 (List.mem_of_getElem? (i := 17) rfl) rfl
theorem k_18 : ((.code ⟨"java/lang/Object", "<init>", "()V"⟩ object_method_1_code (1 : Nat) (Option.none : Option Jvm.ClassFile.FieldType)) : Cond) ∈ GG := tm0 (List.mem_of_getElem? (i := 18) rfl) rfl
theorem k_19 : ((.classLink "StartTimes" (9 : Nat) "StartTimes$Zone") : Cond) ∈ GG := tm0 (List.mem_of_getElem? (i := 19) rfl) rfl
theorem k_21 : ((.constant "StartTimes" (29 : Nat) (100000 : Int32)) : Cond) ∈ GG := tm0 (List.mem_of_getElem? (i := 21) rfl) rfl
theorem k_22 : ((.fieldLink "StartTimes" (11 : Nat) "StartTimes" "zones" "[LStartTimes$Zone;") : Cond) ∈ GG := tm0 (List.mem_of_getElem? (i := 22) rfl) rfl
theorem k_23 : ((.fieldLink "StartTimes" (15 : Nat) "StartTimes" "zoneCount" "I") : Cond) ∈ GG := tm0 (List.mem_of_getElem? (i := 23) rfl) rfl
theorem k_24 : ((.fieldLink "StartTimes" (19 : Nat) "StartTimes" "outsideWarmths" "[I") : Cond) ∈ GG := tm0 (List.mem_of_getElem? (i := 24) rfl) rfl
theorem k_25 : ((.fieldLink "StartTimes" (23 : Nat) "StartTimes" "outsideRows" "I") : Cond) ∈ GG := tm0 (List.mem_of_getElem? (i := 25) rfl) rfl
theorem k_26 : ((.fieldLink "StartTimes" (26 : Nat) "StartTimes" "lastOutsideMinute" "I") : Cond) ∈ GG := tm0 (List.mem_of_getElem? (i := 26) rfl) rfl
theorem k_27 : ((.fieldLink "StartTimes" (30 : Nat) "StartTimes" "machinePower" "I") : Cond) ∈ GG := tm0 (List.mem_of_getElem? (i := 27) rfl) rfl
theorem k_28 : ((.fieldLink "StartTimes" (33 : Nat) "StartTimes" "given" "[I") : Cond) ∈ GG := tm0 (List.mem_of_getElem? (i := 28) rfl) rfl
theorem k_29 : ((.fieldLink "StartTimes" (36 : Nat) "StartTimes" "planned" "Z") : Cond) ∈ GG := tm0 (List.mem_of_getElem? (i := 29) rfl) rfl
theorem k_30 : ((.fieldLink "StartTimes" (40 : Nat) "StartTimes" "fadeAbove" "I") : Cond) ∈ GG := tm0 (List.mem_of_getElem? (i := 30) rfl) rfl
theorem k_31 : ((.fieldLink "StartTimes" (43 : Nat) "StartTimes" "fadeBelow" "I") : Cond) ∈ GG := tm0 (List.mem_of_getElem? (i := 31) rfl) rfl
theorem k_32 : ((.fieldLink "StartTimes" (46 : Nat) "StartTimes" "prices" "[I") : Cond) ∈ GG := tm0 (List.mem_of_getElem? (i := 32) rfl) rfl
theorem k_33 : ((.fieldLink "StartTimes" (49 : Nat) "StartTimes" "setWarmths" "[I") : Cond) ∈ GG := tm0 (List.mem_of_getElem? (i := 33) rfl) rfl
theorem k_34 : ((.fieldLink "StartTimes" (52 : Nat) "StartTimes" "setCosts" "[J") : Cond) ∈ GG := tm0 (List.mem_of_getElem? (i := 34) rfl) rfl
theorem k_62 : ((.arrayClass Jvm.ClassFile.FieldType.int) : Cond) ∈ GG := tm0 (List.mem_of_getElem? (i := 62) rfl) rfl
theorem k_63 : ((.arrayClass Jvm.ClassFile.FieldType.long) : Cond) ∈ GG := tm0 (List.mem_of_getElem? (i := 63) rfl) rfl
theorem k_64 : ((.methodLink "StartTimesLaw" (76 : Nat) ⟨"StartTimesLaw", "zone", "(LStartTimes;II[J)I"⟩) : Cond) ∈ GG := tm0 (List.mem_of_getElem? (i := 64) rfl) rfl
theorem k_65 : ((.static ⟨"StartTimesLaw", "zone", "(LStartTimes;II[J)I"⟩) : Cond) ∈ GG := tm0 (List.mem_of_getElem? (i := 65) rfl) rfl
theorem k_66 : ((.codeWith ⟨"StartTimesLaw", "zone", "(LStartTimes;II[J)I"⟩ method_3_code (5 : Nat) (Option.some Jvm.ClassFile.FieldType.int) [((0 : Nat), (10 : Nat), (13 : Nat), (13 : Nat)), ((0 : Nat), (10 : Nat), (17 : Nat), (15 : Nat))]) : Cond) ∈ GG := tm0 (List.mem_of_getElem? (i := 66) rfl) rfl
theorem k_67 : ((.classLink "StartTimesLaw" (13 : Nat) "java/lang/IllegalArgumentException") : Cond) ∈ GG := tm0 (List.mem_of_getElem? (i := 67) rfl) rfl
theorem k_68 : ((.classLink "StartTimesLaw" (15 : Nat) "java/lang/IllegalStateException") : Cond) ∈ GG := tm0 (List.mem_of_getElem? (i := 68) rfl) rfl
theorem k_69 : ((.methodLink "StartTimesLaw" (7 : Nat) ⟨"StartTimes", "zone", "(II)I"⟩) : Cond) ∈ GG := tm0 (List.mem_of_getElem? (i := 69) rfl) rfl
theorem k_70 : ((.instanceMethod ⟨"StartTimes", "zone", "(II)I"⟩) : Cond) ∈ GG := tm0 (List.mem_of_getElem? (i := 70) rfl) rfl
theorem k_71 : ((.selects "StartTimes" ⟨"StartTimes", "zone", "(II)I"⟩ ⟨"StartTimes", "zone", "(II)I"⟩) : Cond) ∈ GG := tm0 (List.mem_of_getElem? (i := 71) rfl) rfl
theorem k_72 : ((.code ⟨"StartTimes", "zone", "(II)I"⟩ prog_1_method_2_code (4 : Nat) (Option.some Jvm.ClassFile.FieldType.int)) : Cond) ∈ GG := tm0 (List.mem_of_getElem? (i := 72) rfl) rfl
theorem k_73 : ((.methodLink "StartTimes" (56 : Nat) ⟨"StartTimes", "checkBounds", "(III)V"⟩) : Cond) ∈ GG := tm0 (List.mem_of_getElem? (i := 73) rfl) rfl
theorem k_74 : ((.static ⟨"StartTimes", "checkBounds", "(III)V"⟩) : Cond) ∈ GG := tm0 (List.mem_of_getElem? (i := 74) rfl) rfl
theorem k_75 : ((.code ⟨"StartTimes", "checkBounds", "(III)V"⟩ prog_1_method_19_code (3 : Nat) (Option.none : Option Jvm.ClassFile.FieldType)) : Cond) ∈ GG := tm0 (List.mem_of_getElem? (i := 75) rfl) rfl
theorem k_76 : ((.classLink "StartTimes" (164 : Nat) "java/lang/IllegalArgumentException") : Cond) ∈ GG := tm0 (List.mem_of_getElem? (i := 76) rfl) rfl
theorem k_77 : ((.instantiable "java/lang/IllegalArgumentException" (6 : Nat)) : Cond) ∈ GG := tm0 (List.mem_of_getElem? (i := 77) rfl) rfl
theorem k_78 : ((.castable "java/lang/IllegalArgumentException" "java/lang/IllegalArgumentException") : Cond) ∈ tables_1 := tn0 (List.mem_of_getElem? (i := 78) rfl)
theorem k_85 : ((.selects "java/lang/IllegalArgumentException" ⟨"java/lang/Throwable", "fillInStackTrace", "(I)Ljava/lang/Throwable;"⟩ ⟨"java/lang/Throwable", "fillInStackTrace", "(I)Ljava/lang/Throwable;"⟩) : Cond) ∈ GG := tm0 (List.mem_of_getElem? (i := 85) rfl) rfl
theorem k_86 : ((.selects "java/lang/IllegalArgumentException" ⟨"java/lang/Throwable", "fillInStackTrace", "()Ljava/lang/Throwable;"⟩ ⟨"java/lang/Throwable", "fillInStackTrace", "()Ljava/lang/Throwable;"⟩) : Cond) ∈ GG := tm0 (List.mem_of_getElem? (i := 86) rfl) rfl
theorem k_97 : ((.fieldLink "java/lang/Throwable" (198 : Nat) "java/lang/Throwable" "backtrace" "Ljava/lang/Object;") : Cond) ∈ GG := tm0 (List.mem_of_getElem? (i := 97) rfl) rfl
theorem k_99 : ((.instanceMethod ⟨"java/lang/Throwable", "<init>", "()V"⟩) : Cond) ∈ GG := tm0 (List.mem_of_getElem? (i := 99) rfl) rfl
theorem k_100 : ((.code ⟨"java/lang/Throwable", "<init>", "()V"⟩ prog_12_method_1_code (1 : Nat) (Option.none : Option Jvm.ClassFile.FieldType)) : Cond) ∈ GG := tm0 (List.mem_of_getElem? (i := 100) rfl) rfl
theorem k_101 : ((.methodLink "java/lang/Throwable" (1 : Nat) ⟨"java/lang/Object", "<init>", "()V"⟩) : Cond) ∈ GG := tm0 (List.mem_of_getElem? (i := 101) rfl) rfl
theorem k_102 : ((.fieldLink "java/lang/Throwable" (13 : Nat) "java/lang/Throwable" "UNASSIGNED_STACK" "[Ljava/lang/StackTraceElement;") : Cond) ∈ GG := tm0 (List.mem_of_getElem? (i := 102) rfl) rfl
theorem k_104 : ((.fieldLink "java/lang/Throwable" (20 : Nat) "java/lang/Throwable" "SUPPRESSED_SENTINEL" "Ljava/util/List;") : Cond) ∈ GG := tm0 (List.mem_of_getElem? (i := 104) rfl) rfl
theorem k_106 : ((.methodLink "java/lang/Throwable" (27 : Nat) ⟨"java/lang/Throwable", "fillInStackTrace", "()Ljava/lang/Throwable;"⟩) : Cond) ∈ GG := tm0 (List.mem_of_getElem? (i := 106) rfl) rfl
theorem k_107 : ((.instanceMethod ⟨"java/lang/Throwable", "fillInStackTrace", "()Ljava/lang/Throwable;"⟩) : Cond) ∈ GG := tm0 (List.mem_of_getElem? (i := 107) rfl) rfl
theorem k_109 : ((.selects "java/lang/IllegalStateException" ⟨"java/lang/Throwable", "fillInStackTrace", "()Ljava/lang/Throwable;"⟩ ⟨"java/lang/Throwable", "fillInStackTrace", "()Ljava/lang/Throwable;"⟩) : Cond) ∈ GG := tm0 (List.mem_of_getElem? (i := 109) rfl) rfl
theorem k_111 : ((.methodLink "java/lang/Throwable" (202 : Nat) ⟨"java/lang/Throwable", "fillInStackTrace", "(I)Ljava/lang/Throwable;"⟩) : Cond) ∈ GG := tm0 (List.mem_of_getElem? (i := 111) rfl) rfl
theorem k_113 : ((.instanceMethod ⟨"java/lang/Throwable", "fillInStackTrace", "(I)Ljava/lang/Throwable;"⟩) : Cond) ∈ GG := tm0 (List.mem_of_getElem? (i := 113) rfl) rfl
theorem k_114 : ((.instantiable "java/lang/Throwable" (6 : Nat)) : Cond) ∈ GG := tm0 (List.mem_of_getElem? (i := 114) rfl) rfl
theorem k_117 : ((.methodLink "StartTimes" (168 : Nat) ⟨"java/lang/IllegalArgumentException", "<init>", "(Ljava/lang/String;)V"⟩) : Cond) ∈ GG := tm0 (List.mem_of_getElem? (i := 117) rfl) rfl
theorem k_118 : ((.instanceMethod ⟨"java/lang/IllegalArgumentException", "<init>", "(Ljava/lang/String;)V"⟩) : Cond) ∈ GG := tm0 (List.mem_of_getElem? (i := 118) rfl) rfl
theorem k_119 : ((.code ⟨"java/lang/IllegalArgumentException", "<init>", "(Ljava/lang/String;)V"⟩ prog_7_method_2_code (2 : Nat) (Option.none : Option Jvm.ClassFile.FieldType)) : Cond) ∈ GG := tm0 (List.mem_of_getElem? (i := 119) rfl) rfl
theorem k_120 : ((.methodLink "java/lang/IllegalArgumentException" (7 : Nat) ⟨"java/lang/RuntimeException", "<init>", "(Ljava/lang/String;)V"⟩) : Cond) ∈ GG := tm0 (List.mem_of_getElem? (i := 120) rfl) rfl
theorem k_121 : ((.instanceMethod ⟨"java/lang/RuntimeException", "<init>", "(Ljava/lang/String;)V"⟩) : Cond) ∈ GG := tm0 (List.mem_of_getElem? (i := 121) rfl) rfl
theorem k_122 : ((.code ⟨"java/lang/RuntimeException", "<init>", "(Ljava/lang/String;)V"⟩ prog_10_method_2_code (2 : Nat) (Option.none : Option Jvm.ClassFile.FieldType)) : Cond) ∈ GG := tm0 (List.mem_of_getElem? (i := 122) rfl) rfl
theorem k_123 : ((.methodLink "java/lang/RuntimeException" (7 : Nat) ⟨"java/lang/Exception", "<init>", "(Ljava/lang/String;)V"⟩) : Cond) ∈ GG := tm0 (List.mem_of_getElem? (i := 123) rfl) rfl
theorem k_124 : ((.instanceMethod ⟨"java/lang/Exception", "<init>", "(Ljava/lang/String;)V"⟩) : Cond) ∈ GG := tm0 (List.mem_of_getElem? (i := 124) rfl) rfl
theorem k_125 : ((.code ⟨"java/lang/Exception", "<init>", "(Ljava/lang/String;)V"⟩ prog_6_method_2_code (2 : Nat) (Option.none : Option Jvm.ClassFile.FieldType)) : Cond) ∈ GG := tm0 (List.mem_of_getElem? (i := 125) rfl) rfl
theorem k_126 : ((.methodLink "java/lang/Exception" (7 : Nat) ⟨"java/lang/Throwable", "<init>", "(Ljava/lang/String;)V"⟩) : Cond) ∈ GG := tm0 (List.mem_of_getElem? (i := 126) rfl) rfl
theorem k_127 : ((.instanceMethod ⟨"java/lang/Throwable", "<init>", "(Ljava/lang/String;)V"⟩) : Cond) ∈ GG := tm0 (List.mem_of_getElem? (i := 127) rfl) rfl
theorem k_128 : ((.code ⟨"java/lang/Throwable", "<init>", "(Ljava/lang/String;)V"⟩ prog_12_method_2_code (2 : Nat) (Option.none : Option Jvm.ClassFile.FieldType)) : Cond) ∈ GG := tm0 (List.mem_of_getElem? (i := 128) rfl) rfl
theorem k_129 : ((.fieldLink "java/lang/Throwable" (198 : Nat) "java/lang/Throwable" "backtrace" "Ljava/lang/Object;") : Cond) ∈ GG := tm0 (List.mem_of_getElem? (i := 129) rfl) rfl
theorem k_130 : ((.fieldLink "java/lang/Throwable" (31 : Nat) "java/lang/Throwable" "detailMessage" "Ljava/lang/String;") : Cond) ∈ GG := tm0 (List.mem_of_getElem? (i := 130) rfl) rfl
theorem k_131 : ((.fieldLink "java/lang/Throwable" (7 : Nat) "java/lang/Throwable" "cause" "Ljava/lang/Throwable;") : Cond) ∈ GG := tm0 (List.mem_of_getElem? (i := 131) rfl) rfl
theorem k_132 : ((.fieldLink "java/lang/Throwable" (17 : Nat) "java/lang/Throwable" "stackTrace" "[Ljava/lang/StackTraceElement;") : Cond) ∈ GG := tm0 (List.mem_of_getElem? (i := 132) rfl) rfl
theorem k_133 : ((.fieldLink "java/lang/Throwable" (24 : Nat) "java/lang/Throwable" "suppressedExceptions" "Ljava/util/List;") : Cond) ∈ GG := tm0 (List.mem_of_getElem? (i := 133) rfl) rfl
theorem k_142 : ((.arrayClass Jvm.ClassFile.FieldType.byte) : Cond) ∈ GG := tm0 (List.mem_of_getElem? (i := 142) rfl) rfl
theorem k_143 : ((.classLink "StartTimes" (60 : Nat) "java/lang/IllegalStateException") : Cond) ∈ GG := tm0 (List.mem_of_getElem? (i := 143) rfl) rfl
theorem k_144 : ((.instantiable "java/lang/IllegalStateException" (6 : Nat)) : Cond) ∈ GG := tm0 (List.mem_of_getElem? (i := 144) rfl) rfl
theorem k_145 : ((.castable "java/lang/IllegalStateException" "java/lang/IllegalStateException") : Cond) ∈ tables_1 := tn0 (List.mem_of_getElem? (i := 145) rfl)
theorem k_146 : ((.selects "java/lang/IllegalStateException" ⟨"java/lang/Throwable", "fillInStackTrace", "(I)Ljava/lang/Throwable;"⟩ ⟨"java/lang/Throwable", "fillInStackTrace", "(I)Ljava/lang/Throwable;"⟩) : Cond) ∈ GG := tm0 (List.mem_of_getElem? (i := 146) rfl) rfl
theorem k_153 : ((.methodLink "StartTimes" (64 : Nat) ⟨"java/lang/IllegalStateException", "<init>", "(Ljava/lang/String;)V"⟩) : Cond) ∈ GG := tm0 (List.mem_of_getElem? (i := 153) rfl) rfl
theorem k_154 : ((.instanceMethod ⟨"java/lang/IllegalStateException", "<init>", "(Ljava/lang/String;)V"⟩) : Cond) ∈ GG := tm0 (List.mem_of_getElem? (i := 154) rfl) rfl
theorem k_155 : ((.code ⟨"java/lang/IllegalStateException", "<init>", "(Ljava/lang/String;)V"⟩ prog_8_method_2_code (2 : Nat) (Option.none : Option Jvm.ClassFile.FieldType)) : Cond) ∈ GG := tm0 (List.mem_of_getElem? (i := 155) rfl) rfl
theorem k_156 : ((.methodLink "java/lang/IllegalStateException" (7 : Nat) ⟨"java/lang/RuntimeException", "<init>", "(Ljava/lang/String;)V"⟩) : Cond) ∈ GG := tm0 (List.mem_of_getElem? (i := 156) rfl) rfl
theorem k_159 : ((.instantiable "StartTimes$Zone" (10 : Nat)) : Cond) ∈ GG := tm0 (List.mem_of_getElem? (i := 159) rfl) rfl
theorem k_160 : ((.methodLinkNest "StartTimes" (67 : Nat) ⟨"StartTimes$Zone", "<init>", "(II)V"⟩ "StartTimes") : Cond) ∈ tables_1 := tn0 (List.mem_of_getElem? (i := 160) rfl)
theorem k_161 : ((.instanceMethod ⟨"StartTimes$Zone", "<init>", "(II)V"⟩) : Cond) ∈ GG := tm0 (List.mem_of_getElem? (i := 161) rfl) rfl
theorem k_162 : ((.code ⟨"StartTimes$Zone", "<init>", "(II)V"⟩ prog_3_method_1_code (3 : Nat) (Option.none : Option Jvm.ClassFile.FieldType)) : Cond) ∈ GG := tm0 (List.mem_of_getElem? (i := 162) rfl) rfl
theorem k_163 : ((.methodLink "StartTimes$Zone" (3 : Nat) ⟨"java/lang/Object", "<init>", "()V"⟩) : Cond) ∈ GG := tm0 (List.mem_of_getElem? (i := 163) rfl) rfl
theorem k_164 : ((.classLink "StartTimes$Zone" (27 : Nat) "StartTimes$Lesson") : Cond) ∈ GG := tm0 (List.mem_of_getElem? (i := 164) rfl) rfl
theorem k_165 : ((.instantiable "StartTimes$Lesson" (2 : Nat)) : Cond) ∈ GG := tm0 (List.mem_of_getElem? (i := 165) rfl) rfl
theorem k_166 : ((.methodLinkNest "StartTimes$Zone" (29 : Nat) ⟨"StartTimes$Lesson", "<init>", "()V"⟩ "StartTimes") : Cond) ∈ tables_1 := tn0 (List.mem_of_getElem? (i := 166) rfl)
theorem k_167 : ((.instanceMethod ⟨"StartTimes$Lesson", "<init>", "()V"⟩) : Cond) ∈ GG := tm0 (List.mem_of_getElem? (i := 167) rfl) rfl
theorem k_168 : ((.code ⟨"StartTimes$Lesson", "<init>", "()V"⟩ prog_2_method_1_code (1 : Nat) (Option.none : Option Jvm.ClassFile.FieldType)) : Cond) ∈ GG := tm0 (List.mem_of_getElem? (i := 168) rfl) rfl
theorem k_169 : ((.methodLink "StartTimes$Lesson" (1 : Nat) ⟨"java/lang/Object", "<init>", "()V"⟩) : Cond) ∈ GG := tm0 (List.mem_of_getElem? (i := 169) rfl) rfl
theorem k_170 : ((.fieldLink "StartTimes$Lesson" (7 : Nat) "StartTimes$Lesson" "above" "J") : Cond) ∈ GG := tm0 (List.mem_of_getElem? (i := 170) rfl) rfl
theorem k_171 : ((.fieldLinkNest "StartTimes" (119 : Nat) "StartTimes$Lesson" "above" "J" "StartTimes") : Cond) ∈ tables_1 := tn0 (List.mem_of_getElem? (i := 171) rfl)
theorem k_172 : ((.fieldLink "StartTimes$Lesson" (13 : Nat) "StartTimes$Lesson" "below" "J") : Cond) ∈ GG := tm0 (List.mem_of_getElem? (i := 172) rfl) rfl
theorem k_173 : ((.fieldLinkNest "StartTimes" (123 : Nat) "StartTimes$Lesson" "below" "J" "StartTimes") : Cond) ∈ tables_1 := tn0 (List.mem_of_getElem? (i := 173) rfl)
theorem k_179 : ((.fieldLink "StartTimes$Zone" (41 : Nat) "StartTimes$Zone" "holds" "I") : Cond) ∈ GG := tm0 (List.mem_of_getElem? (i := 179) rfl) rfl
theorem k_180 : ((.fieldLinkNest "StartTimes" (176 : Nat) "StartTimes$Zone" "holds" "I" "StartTimes") : Cond) ∈ tables_1 := tn0 (List.mem_of_getElem? (i := 180) rfl)
theorem k_181 : ((.fieldLink "StartTimes$Zone" (44 : Nat) "StartTimes$Zone" "leads" "I") : Cond) ∈ GG := tm0 (List.mem_of_getElem? (i := 181) rfl) rfl
theorem k_182 : ((.fieldLinkNest "StartTimes" (173 : Nat) "StartTimes$Zone" "leads" "I" "StartTimes") : Cond) ∈ tables_1 := tn0 (List.mem_of_getElem? (i := 182) rfl)
theorem k_183 : ((.fieldLink "StartTimes$Zone" (9 : Nat) "StartTimes$Zone" "firstWarmth" "I") : Cond) ∈ GG := tm0 (List.mem_of_getElem? (i := 183) rfl) rfl
theorem k_184 : ((.fieldLinkNest "StartTimes" (74 : Nat) "StartTimes$Zone" "firstWarmth" "I" "StartTimes") : Cond) ∈ tables_1 := tn0 (List.mem_of_getElem? (i := 184) rfl)
theorem k_185 : ((.fieldLink "StartTimes$Zone" (15 : Nat) "StartTimes$Zone" "power" "I") : Cond) ∈ GG := tm0 (List.mem_of_getElem? (i := 185) rfl) rfl
theorem k_186 : ((.fieldLinkNest "StartTimes" (77 : Nat) "StartTimes$Zone" "power" "I" "StartTimes") : Cond) ∈ tables_1 := tn0 (List.mem_of_getElem? (i := 186) rfl)
theorem k_187 : ((.fieldLink "StartTimes$Zone" (18 : Nat) "StartTimes$Zone" "rank" "I") : Cond) ∈ GG := tm0 (List.mem_of_getElem? (i := 187) rfl) rfl
theorem k_188 : ((.fieldLinkNest "StartTimes" (80 : Nat) "StartTimes$Zone" "rank" "I" "StartTimes") : Cond) ∈ tables_1 := tn0 (List.mem_of_getElem? (i := 188) rfl)
theorem k_189 : ((.fieldLink "StartTimes$Zone" (21 : Nat) "StartTimes$Zone" "wantedMinute" "I") : Cond) ∈ GG := tm0 (List.mem_of_getElem? (i := 189) rfl) rfl
theorem k_190 : ((.fieldLinkNest "StartTimes" (83 : Nat) "StartTimes$Zone" "wantedMinute" "I" "StartTimes") : Cond) ∈ tables_1 := tn0 (List.mem_of_getElem? (i := 190) rfl)
theorem k_191 : ((.fieldLink "StartTimes$Zone" (24 : Nat) "StartTimes$Zone" "wantedWarmth" "I") : Cond) ∈ GG := tm0 (List.mem_of_getElem? (i := 191) rfl) rfl
theorem k_192 : ((.fieldLinkNest "StartTimes" (86 : Nat) "StartTimes$Zone" "wantedWarmth" "I" "StartTimes") : Cond) ∈ tables_1 := tn0 (List.mem_of_getElem? (i := 192) rfl)
theorem k_193 : ((.fieldLink "StartTimes$Zone" (30 : Nat) "StartTimes$Zone" "lesson" "LStartTimes$Lesson;") : Cond) ∈ GG := tm0 (List.mem_of_getElem? (i := 193) rfl) rfl
theorem k_194 : ((.fieldLinkNest "StartTimes" (110 : Nat) "StartTimes$Zone" "lesson" "LStartTimes$Lesson;" "StartTimes") : Cond) ∈ tables_1 := tn0 (List.mem_of_getElem? (i := 194) rfl)
theorem k_195 : ((.fieldLink "StartTimes$Zone" (34 : Nat) "StartTimes$Zone" "start" "I") : Cond) ∈ GG := tm0 (List.mem_of_getElem? (i := 195) rfl) rfl
theorem k_196 : ((.fieldLinkNest "StartTimes" (97 : Nat) "StartTimes$Zone" "start" "I" "StartTimes") : Cond) ∈ tables_1 := tn0 (List.mem_of_getElem? (i := 196) rfl)
theorem k_197 : ((.fieldLink "StartTimes$Zone" (37 : Nat) "StartTimes$Zone" "warmths" "[I") : Cond) ∈ GG := tm0 (List.mem_of_getElem? (i := 197) rfl) rfl
theorem k_198 : ((.fieldLinkNest "StartTimes" (104 : Nat) "StartTimes$Zone" "warmths" "[I" "StartTimes") : Cond) ∈ tables_1 := tn0 (List.mem_of_getElem? (i := 198) rfl)
theorem k_220 : ((.methodLink "StartTimesLaw" (86 : Nat) ⟨"StartTimesLaw", "set", "(LStartTimes;III[J)I"⟩) : Cond) ∈ GG := tm0 (List.mem_of_getElem? (i := 220) rfl) rfl
theorem k_221 : ((.static ⟨"StartTimesLaw", "set", "(LStartTimes;III[J)I"⟩) : Cond) ∈ GG := tm0 (List.mem_of_getElem? (i := 221) rfl) rfl
theorem k_222 : ((.codeWith ⟨"StartTimesLaw", "set", "(LStartTimes;III[J)I"⟩ method_4_code (6 : Nat) (Option.some Jvm.ClassFile.FieldType.int) [((0 : Nat), (12 : Nat), (15 : Nat), (13 : Nat))]) : Cond) ∈ GG := tm0 (List.mem_of_getElem? (i := 222) rfl) rfl
theorem k_223 : ((.methodLink "StartTimesLaw" (17 : Nat) ⟨"StartTimes", "set", "(III)I"⟩) : Cond) ∈ GG := tm0 (List.mem_of_getElem? (i := 223) rfl) rfl
theorem k_224 : ((.instanceMethod ⟨"StartTimes", "set", "(III)I"⟩) : Cond) ∈ GG := tm0 (List.mem_of_getElem? (i := 224) rfl) rfl
theorem k_225 : ((.selects "StartTimes" ⟨"StartTimes", "set", "(III)I"⟩ ⟨"StartTimes", "set", "(III)I"⟩) : Cond) ∈ GG := tm0 (List.mem_of_getElem? (i := 225) rfl) rfl
theorem k_226 : ((.code ⟨"StartTimes", "set", "(III)I"⟩ prog_1_method_3_code (6 : Nat) (Option.some Jvm.ClassFile.FieldType.int)) : Cond) ∈ GG := tm0 (List.mem_of_getElem? (i := 226) rfl) rfl
theorem k_227 : ((.methodLink "StartTimes" (70 : Nat) ⟨"StartTimes", "knownZone", "(I)LStartTimes$Zone;"⟩) : Cond) ∈ GG := tm0 (List.mem_of_getElem? (i := 227) rfl) rfl
theorem k_229 : ((.instanceMethod ⟨"StartTimes", "knownZone", "(I)LStartTimes$Zone;"⟩) : Cond) ∈ GG := tm0 (List.mem_of_getElem? (i := 229) rfl) rfl
theorem k_230 : ((.code ⟨"StartTimes", "knownZone", "(I)LStartTimes$Zone;"⟩ prog_1_method_22_code (2 : Nat) (Option.some (Jvm.ClassFile.FieldType.object "StartTimes$Zone"))) : Cond) ∈ GG := tm0 (List.mem_of_getElem? (i := 230) rfl) rfl
theorem k_232 : ((.methodLink "StartTimesLaw" (90 : Nat) ⟨"StartTimesLaw", "want", "(LStartTimes;III)I"⟩) : Cond) ∈ GG := tm0 (List.mem_of_getElem? (i := 232) rfl) rfl
theorem k_233 : ((.static ⟨"StartTimesLaw", "want", "(LStartTimes;III)I"⟩) : Cond) ∈ GG := tm0 (List.mem_of_getElem? (i := 233) rfl) rfl
theorem k_234 : ((.codeWith ⟨"StartTimesLaw", "want", "(LStartTimes;III)I"⟩ method_5_code (5 : Nat) (Option.some Jvm.ClassFile.FieldType.int) [((0 : Nat), (7 : Nat), (10 : Nat), (13 : Nat))]) : Cond) ∈ GG := tm0 (List.mem_of_getElem? (i := 234) rfl) rfl
theorem k_235 : ((.methodLink "StartTimesLaw" (21 : Nat) ⟨"StartTimes", "want", "(III)V"⟩) : Cond) ∈ GG := tm0 (List.mem_of_getElem? (i := 235) rfl) rfl
theorem k_236 : ((.instanceMethod ⟨"StartTimes", "want", "(III)V"⟩) : Cond) ∈ GG := tm0 (List.mem_of_getElem? (i := 236) rfl) rfl
theorem k_237 : ((.selects "StartTimes" ⟨"StartTimes", "want", "(III)V"⟩ ⟨"StartTimes", "want", "(III)V"⟩) : Cond) ∈ GG := tm0 (List.mem_of_getElem? (i := 237) rfl) rfl
theorem k_238 : ((.code ⟨"StartTimes", "want", "(III)V"⟩ prog_1_method_4_code (5 : Nat) (Option.none : Option Jvm.ClassFile.FieldType)) : Cond) ∈ GG := tm0 (List.mem_of_getElem? (i := 238) rfl) rfl
theorem k_239 : ((.methodLink "StartTimesLaw" (94 : Nat) ⟨"StartTimesLaw", "outside", "(LStartTimes;II[J)I"⟩) : Cond) ∈ GG := tm0 (List.mem_of_getElem? (i := 239) rfl) rfl
theorem k_240 : ((.static ⟨"StartTimesLaw", "outside", "(LStartTimes;II[J)I"⟩) : Cond) ∈ GG := tm1 (List.mem_of_getElem? (i := 0) rfl) rfl
theorem k_241 : ((.codeWith ⟨"StartTimesLaw", "outside", "(LStartTimes;II[J)I"⟩ method_6_code (5 : Nat) (Option.some Jvm.ClassFile.FieldType.int) [((0 : Nat), (10 : Nat), (13 : Nat), (13 : Nat)), ((0 : Nat), (10 : Nat), (17 : Nat), (15 : Nat))]) : Cond) ∈ GG := tm1 (List.mem_of_getElem? (i := 1) rfl) rfl
theorem k_242 : ((.methodLink "StartTimesLaw" (25 : Nat) ⟨"StartTimes", "outside", "(II)I"⟩) : Cond) ∈ GG := tm1 (List.mem_of_getElem? (i := 2) rfl) rfl
theorem k_243 : ((.instanceMethod ⟨"StartTimes", "outside", "(II)I"⟩) : Cond) ∈ GG := tm1 (List.mem_of_getElem? (i := 3) rfl) rfl
theorem k_244 : ((.selects "StartTimes" ⟨"StartTimes", "outside", "(II)I"⟩ ⟨"StartTimes", "outside", "(II)I"⟩) : Cond) ∈ GG := tm1 (List.mem_of_getElem? (i := 4) rfl) rfl
theorem k_245 : ((.code ⟨"StartTimes", "outside", "(II)I"⟩ prog_1_method_5_code (4 : Nat) (Option.some Jvm.ClassFile.FieldType.int)) : Cond) ∈ GG := tm1 (List.mem_of_getElem? (i := 5) rfl) rfl
theorem k_248 : ((.methodLink "StartTimesLaw" (97 : Nat) ⟨"StartTimesLaw", "machine", "(LStartTimes;I[J)I"⟩) : Cond) ∈ GG := tm1 (List.mem_of_getElem? (i := 8) rfl) rfl
theorem k_249 : ((.static ⟨"StartTimesLaw", "machine", "(LStartTimes;I[J)I"⟩) : Cond) ∈ GG := tm1 (List.mem_of_getElem? (i := 9) rfl) rfl
theorem k_250 : ((.codeWith ⟨"StartTimesLaw", "machine", "(LStartTimes;I[J)I"⟩ method_7_code (4 : Nat) (Option.some Jvm.ClassFile.FieldType.int) [((0 : Nat), (9 : Nat), (12 : Nat), (13 : Nat))]) : Cond) ∈ GG := tm1 (List.mem_of_getElem? (i := 10) rfl) rfl
theorem k_251 : ((.methodLink "StartTimesLaw" (28 : Nat) ⟨"StartTimes", "machine", "(I)I"⟩) : Cond) ∈ GG := tm1 (List.mem_of_getElem? (i := 11) rfl) rfl
theorem k_252 : ((.instanceMethod ⟨"StartTimes", "machine", "(I)I"⟩) : Cond) ∈ GG := tm1 (List.mem_of_getElem? (i := 12) rfl) rfl
theorem k_253 : ((.selects "StartTimes" ⟨"StartTimes", "machine", "(I)I"⟩ ⟨"StartTimes", "machine", "(I)I"⟩) : Cond) ∈ GG := tm1 (List.mem_of_getElem? (i := 13) rfl) rfl
theorem k_254 : ((.code ⟨"StartTimes", "machine", "(I)I"⟩ prog_1_method_6_code (3 : Nat) (Option.some Jvm.ClassFile.FieldType.int)) : Cond) ∈ GG := tm1 (List.mem_of_getElem? (i := 14) rfl) rfl
theorem k_255 : ((.constant "StartTimes" (93 : Nat) (1000000 : Int32)) : Cond) ∈ GG := tm1 (List.mem_of_getElem? (i := 15) rfl) rfl
theorem k_256 : ((.methodLink "StartTimesLaw" (101 : Nat) ⟨"StartTimesLaw", "start", "(LStartTimes;I[J)I"⟩) : Cond) ∈ GG := tm1 (List.mem_of_getElem? (i := 16) rfl) rfl
theorem k_257 : ((.static ⟨"StartTimesLaw", "start", "(LStartTimes;I[J)I"⟩) : Cond) ∈ GG := tm1 (List.mem_of_getElem? (i := 17) rfl) rfl
theorem k_258 : ((.codeWith ⟨"StartTimesLaw", "start", "(LStartTimes;I[J)I"⟩ method_8_code (4 : Nat) (Option.some Jvm.ClassFile.FieldType.int) [((0 : Nat), (9 : Nat), (12 : Nat), (13 : Nat))]) : Cond) ∈ GG := tm1 (List.mem_of_getElem? (i := 18) rfl) rfl
theorem k_259 : ((.methodLink "StartTimesLaw" (32 : Nat) ⟨"StartTimes", "start", "(I)I"⟩) : Cond) ∈ GG := tm1 (List.mem_of_getElem? (i := 19) rfl) rfl
theorem k_260 : ((.instanceMethod ⟨"StartTimes", "start", "(I)I"⟩) : Cond) ∈ GG := tm1 (List.mem_of_getElem? (i := 20) rfl) rfl
theorem k_261 : ((.selects "StartTimes" ⟨"StartTimes", "start", "(I)I"⟩ ⟨"StartTimes", "start", "(I)I"⟩) : Cond) ∈ GG := tm1 (List.mem_of_getElem? (i := 21) rfl) rfl
theorem k_262 : ((.code ⟨"StartTimes", "start", "(I)I"⟩ prog_1_method_7_code (2 : Nat) (Option.some Jvm.ClassFile.FieldType.int)) : Cond) ∈ GG := tm1 (List.mem_of_getElem? (i := 22) rfl) rfl
theorem k_263 : ((.methodLink "StartTimes" (94 : Nat) ⟨"StartTimes", "plannedZone", "(I)LStartTimes$Zone;"⟩) : Cond) ∈ GG := tm1 (List.mem_of_getElem? (i := 23) rfl) rfl
theorem k_265 : ((.instanceMethod ⟨"StartTimes", "plannedZone", "(I)LStartTimes$Zone;"⟩) : Cond) ∈ GG := tm1 (List.mem_of_getElem? (i := 25) rfl) rfl
theorem k_266 : ((.code ⟨"StartTimes", "plannedZone", "(I)LStartTimes$Zone;"⟩ prog_1_method_23_code (3 : Nat) (Option.some (Jvm.ClassFile.FieldType.object "StartTimes$Zone"))) : Cond) ∈ GG := tm1 (List.mem_of_getElem? (i := 26) rfl) rfl
theorem k_267 : ((.methodLink "StartTimes" (107 : Nat) ⟨"StartTimes", "makePlan", "()V"⟩) : Cond) ∈ GG := tm1 (List.mem_of_getElem? (i := 27) rfl) rfl
theorem k_269 : ((.instanceMethod ⟨"StartTimes", "makePlan", "()V"⟩) : Cond) ∈ GG := tm1 (List.mem_of_getElem? (i := 29) rfl) rfl
theorem k_270 : ((.code ⟨"StartTimes", "makePlan", "()V"⟩ prog_1_method_26_code (3 : Nat) (Option.none : Option Jvm.ClassFile.FieldType)) : Cond) ∈ GG := tm1 (List.mem_of_getElem? (i := 30) rfl) rfl
theorem k_271 : ((.methodLink "StartTimes" (183 : Nat) ⟨"StartTimes", "planZone", "(LStartTimes$Zone;)V"⟩) : Cond) ∈ GG := tm1 (List.mem_of_getElem? (i := 31) rfl) rfl
theorem k_273 : ((.instanceMethod ⟨"StartTimes", "planZone", "(LStartTimes$Zone;)V"⟩) : Cond) ∈ GG := tm1 (List.mem_of_getElem? (i := 33) rfl) rfl
theorem k_274 : ((.code ⟨"StartTimes", "planZone", "(LStartTimes$Zone;)V"⟩ prog_1_method_27_code (2 : Nat) (Option.none : Option Jvm.ClassFile.FieldType)) : Cond) ∈ GG := tm1 (List.mem_of_getElem? (i := 34) rfl) rfl
theorem k_275 : ((.methodLink "StartTimes" (186 : Nat) ⟨"StartTimes", "leaveUnheated", "(LStartTimes$Zone;I)V"⟩) : Cond) ∈ GG := tm1 (List.mem_of_getElem? (i := 35) rfl) rfl
theorem k_277 : ((.instanceMethod ⟨"StartTimes", "leaveUnheated", "(LStartTimes$Zone;I)V"⟩) : Cond) ∈ GG := tm1 (List.mem_of_getElem? (i := 37) rfl) rfl
theorem k_278 : ((.code ⟨"StartTimes", "leaveUnheated", "(LStartTimes$Zone;I)V"⟩ prog_1_method_28_code (4 : Nat) (Option.none : Option Jvm.ClassFile.FieldType)) : Cond) ∈ GG := tm1 (List.mem_of_getElem? (i := 38) rfl) rfl
theorem k_279 : ((.methodLink "StartTimes" (179 : Nat) ⟨"StartTimes", "warmthAfter", "(LStartTimes$Zone;III)I"⟩) : Cond) ∈ GG := tm1 (List.mem_of_getElem? (i := 39) rfl) rfl
theorem k_281 : ((.instanceMethod ⟨"StartTimes", "warmthAfter", "(LStartTimes$Zone;III)I"⟩) : Cond) ∈ GG := tm1 (List.mem_of_getElem? (i := 41) rfl) rfl
theorem k_282 : ((.code ⟨"StartTimes", "warmthAfter", "(LStartTimes$Zone;III)I"⟩ prog_1_method_24_code (5 : Nat) (Option.some Jvm.ClassFile.FieldType.int)) : Cond) ∈ GG := tm1 (List.mem_of_getElem? (i := 42) rfl) rfl
theorem k_283 : ((.methodLinkNest "StartTimes" (100 : Nat) ⟨"StartTimes$Zone", "wantsWarmth", "()Z"⟩ "StartTimes") : Cond) ∈ tables_1 := tn1 (List.mem_of_getElem? (i := 43) rfl)
theorem k_285 : ((.instanceMethod ⟨"StartTimes$Zone", "wantsWarmth", "()Z"⟩) : Cond) ∈ GG := tm1 (List.mem_of_getElem? (i := 45) rfl) rfl
theorem k_286 : ((.code ⟨"StartTimes$Zone", "wantsWarmth", "()Z"⟩ prog_3_method_2_code (1 : Nat) (Option.some Jvm.ClassFile.FieldType.boolean)) : Cond) ∈ GG := tm1 (List.mem_of_getElem? (i := 46) rfl) rfl
theorem k_287 : ((.methodLink "StartTimes" (190 : Nat) ⟨"StartTimes", "latestStart", "(LStartTimes$Zone;)I"⟩) : Cond) ∈ GG := tm1 (List.mem_of_getElem? (i := 47) rfl) rfl
theorem k_289 : ((.instanceMethod ⟨"StartTimes", "latestStart", "(LStartTimes$Zone;)I"⟩) : Cond) ∈ GG := tm1 (List.mem_of_getElem? (i := 49) rfl) rfl
theorem k_290 : ((.code ⟨"StartTimes", "latestStart", "(LStartTimes$Zone;)I"⟩ prog_1_method_29_code (5 : Nat) (Option.some Jvm.ClassFile.FieldType.int)) : Cond) ∈ GG := tm1 (List.mem_of_getElem? (i := 50) rfl) rfl
theorem k_291 : ((.methodLink "StartTimes" (197 : Nat) ⟨"StartTimes", "warmthIfStarted", "(LStartTimes$Zone;I)I"⟩) : Cond) ∈ GG := tm1 (List.mem_of_getElem? (i := 51) rfl) rfl
theorem k_293 : ((.instanceMethod ⟨"StartTimes", "warmthIfStarted", "(LStartTimes$Zone;I)I"⟩) : Cond) ∈ GG := tm1 (List.mem_of_getElem? (i := 53) rfl) rfl
theorem k_294 : ((.code ⟨"StartTimes", "warmthIfStarted", "(LStartTimes$Zone;I)I"⟩ prog_1_method_30_code (5 : Nat) (Option.some Jvm.ClassFile.FieldType.int)) : Cond) ∈ GG := tm1 (List.mem_of_getElem? (i := 54) rfl) rfl
theorem k_295 : ((.methodLink "StartTimes" (201 : Nat) ⟨"StartTimes", "shareOf", "(LStartTimes$Zone;I)I"⟩) : Cond) ∈ GG := tm1 (List.mem_of_getElem? (i := 55) rfl) rfl
theorem k_297 : ((.instanceMethod ⟨"StartTimes", "shareOf", "(LStartTimes$Zone;I)I"⟩) : Cond) ∈ GG := tm1 (List.mem_of_getElem? (i := 57) rfl) rfl
theorem k_298 : ((.code ⟨"StartTimes", "shareOf", "(LStartTimes$Zone;I)I"⟩ prog_1_method_32_code (4 : Nat) (Option.some Jvm.ClassFile.FieldType.int)) : Cond) ∈ GG := tm1 (List.mem_of_getElem? (i := 58) rfl) rfl
theorem k_299 : ((.methodLink "StartTimes" (194 : Nat) ⟨"StartTimes", "heatFromStart", "(LStartTimes$Zone;)V"⟩) : Cond) ∈ GG := tm1 (List.mem_of_getElem? (i := 59) rfl) rfl
theorem k_301 : ((.instanceMethod ⟨"StartTimes", "heatFromStart", "(LStartTimes$Zone;)V"⟩) : Cond) ∈ GG := tm1 (List.mem_of_getElem? (i := 61) rfl) rfl
theorem k_302 : ((.code ⟨"StartTimes", "heatFromStart", "(LStartTimes$Zone;)V"⟩ prog_1_method_31_code (4 : Nat) (Option.none : Option Jvm.ClassFile.FieldType)) : Cond) ∈ GG := tm1 (List.mem_of_getElem? (i := 62) rfl) rfl
theorem k_303 : ((.methodLink "StartTimesLaw" (104 : Nat) ⟨"StartTimesLaw", "late", "(LStartTimes;I[J)I"⟩) : Cond) ∈ GG := tm1 (List.mem_of_getElem? (i := 63) rfl) rfl
theorem k_304 : ((.static ⟨"StartTimesLaw", "late", "(LStartTimes;I[J)I"⟩) : Cond) ∈ GG := tm1 (List.mem_of_getElem? (i := 64) rfl) rfl
theorem k_305 : ((.codeWith ⟨"StartTimesLaw", "late", "(LStartTimes;I[J)I"⟩ method_9_code (4 : Nat) (Option.some Jvm.ClassFile.FieldType.int) [((0 : Nat), (16 : Nat), (19 : Nat), (13 : Nat))]) : Cond) ∈ GG := tm1 (List.mem_of_getElem? (i := 65) rfl) rfl
theorem k_306 : ((.methodLink "StartTimesLaw" (35 : Nat) ⟨"StartTimes", "late", "(I)Z"⟩) : Cond) ∈ GG := tm1 (List.mem_of_getElem? (i := 66) rfl) rfl
theorem k_307 : ((.instanceMethod ⟨"StartTimes", "late", "(I)Z"⟩) : Cond) ∈ GG := tm1 (List.mem_of_getElem? (i := 67) rfl) rfl
theorem k_308 : ((.selects "StartTimes" ⟨"StartTimes", "late", "(I)Z"⟩ ⟨"StartTimes", "late", "(I)Z"⟩) : Cond) ∈ GG := tm1 (List.mem_of_getElem? (i := 68) rfl) rfl
theorem k_309 : ((.code ⟨"StartTimes", "late", "(I)Z"⟩ prog_1_method_8_code (3 : Nat) (Option.some Jvm.ClassFile.FieldType.boolean)) : Cond) ∈ GG := tm1 (List.mem_of_getElem? (i := 69) rfl) rfl
theorem k_310 : ((.methodLink "StartTimesLaw" (107 : Nat) ⟨"StartTimesLaw", "at", "(LStartTimes;II[J)I"⟩) : Cond) ∈ GG := tm1 (List.mem_of_getElem? (i := 70) rfl) rfl
theorem k_311 : ((.static ⟨"StartTimesLaw", "at", "(LStartTimes;II[J)I"⟩) : Cond) ∈ GG := tm1 (List.mem_of_getElem? (i := 71) rfl) rfl
theorem k_312 : ((.codeWith ⟨"StartTimesLaw", "at", "(LStartTimes;II[J)I"⟩ method_10_code (5 : Nat) (Option.some Jvm.ClassFile.FieldType.int) [((0 : Nat), (10 : Nat), (13 : Nat), (13 : Nat))]) : Cond) ∈ GG := tm1 (List.mem_of_getElem? (i := 72) rfl) rfl
theorem k_313 : ((.methodLink "StartTimesLaw" (39 : Nat) ⟨"StartTimes", "at", "(II)I"⟩) : Cond) ∈ GG := tm1 (List.mem_of_getElem? (i := 73) rfl) rfl
theorem k_314 : ((.instanceMethod ⟨"StartTimes", "at", "(II)I"⟩) : Cond) ∈ GG := tm1 (List.mem_of_getElem? (i := 74) rfl) rfl
theorem k_315 : ((.selects "StartTimes" ⟨"StartTimes", "at", "(II)I"⟩ ⟨"StartTimes", "at", "(II)I"⟩) : Cond) ∈ GG := tm1 (List.mem_of_getElem? (i := 75) rfl) rfl
theorem k_316 : ((.code ⟨"StartTimes", "at", "(II)I"⟩ prog_1_method_9_code (3 : Nat) (Option.some Jvm.ClassFile.FieldType.int)) : Cond) ∈ GG := tm1 (List.mem_of_getElem? (i := 76) rfl) rfl
theorem k_317 : ((.methodLink "StartTimesLaw" (110 : Nat) ⟨"StartTimesLaw", "used", "(LStartTimes;I[J)I"⟩) : Cond) ∈ GG := tm1 (List.mem_of_getElem? (i := 77) rfl) rfl
theorem k_318 : ((.static ⟨"StartTimesLaw", "used", "(LStartTimes;I[J)I"⟩) : Cond) ∈ GG := tm1 (List.mem_of_getElem? (i := 78) rfl) rfl
theorem k_319 : ((.codeWith ⟨"StartTimesLaw", "used", "(LStartTimes;I[J)I"⟩ method_11_code (4 : Nat) (Option.some Jvm.ClassFile.FieldType.int) [((0 : Nat), (9 : Nat), (12 : Nat), (13 : Nat))]) : Cond) ∈ GG := tm1 (List.mem_of_getElem? (i := 79) rfl) rfl
theorem k_320 : ((.methodLink "StartTimesLaw" (42 : Nat) ⟨"StartTimes", "used", "(I)I"⟩) : Cond) ∈ GG := tm1 (List.mem_of_getElem? (i := 80) rfl) rfl
theorem k_321 : ((.instanceMethod ⟨"StartTimes", "used", "(I)I"⟩) : Cond) ∈ GG := tm1 (List.mem_of_getElem? (i := 81) rfl) rfl
theorem k_322 : ((.selects "StartTimes" ⟨"StartTimes", "used", "(I)I"⟩ ⟨"StartTimes", "used", "(I)I"⟩) : Cond) ∈ GG := tm1 (List.mem_of_getElem? (i := 82) rfl) rfl
theorem k_323 : ((.code ⟨"StartTimes", "used", "(I)I"⟩ prog_1_method_10_code (2 : Nat) (Option.some Jvm.ClassFile.FieldType.int)) : Cond) ∈ GG := tm1 (List.mem_of_getElem? (i := 83) rfl) rfl
theorem k_324 : ((.methodLink "StartTimesLaw" (113 : Nat) ⟨"StartTimesLaw", "cold", "(LStartTimes;I[J)I"⟩) : Cond) ∈ GG := tm1 (List.mem_of_getElem? (i := 84) rfl) rfl
theorem k_325 : ((.static ⟨"StartTimesLaw", "cold", "(LStartTimes;I[J)I"⟩) : Cond) ∈ GG := tm1 (List.mem_of_getElem? (i := 85) rfl) rfl
theorem k_326 : ((.codeWith ⟨"StartTimesLaw", "cold", "(LStartTimes;I[J)I"⟩ method_12_code (4 : Nat) (Option.some Jvm.ClassFile.FieldType.int) [((0 : Nat), (9 : Nat), (12 : Nat), (13 : Nat))]) : Cond) ∈ GG := tm1 (List.mem_of_getElem? (i := 86) rfl) rfl
theorem k_327 : ((.methodLink "StartTimesLaw" (45 : Nat) ⟨"StartTimes", "cold", "(I)I"⟩) : Cond) ∈ GG := tm1 (List.mem_of_getElem? (i := 87) rfl) rfl
theorem k_328 : ((.instanceMethod ⟨"StartTimes", "cold", "(I)I"⟩) : Cond) ∈ GG := tm1 (List.mem_of_getElem? (i := 88) rfl) rfl
theorem k_329 : ((.selects "StartTimes" ⟨"StartTimes", "cold", "(I)I"⟩ ⟨"StartTimes", "cold", "(I)I"⟩) : Cond) ∈ GG := tm1 (List.mem_of_getElem? (i := 89) rfl) rfl
theorem k_330 : ((.code ⟨"StartTimes", "cold", "(I)I"⟩ prog_1_method_11_code (5 : Nat) (Option.some Jvm.ClassFile.FieldType.int)) : Cond) ∈ GG := tm1 (List.mem_of_getElem? (i := 90) rfl) rfl
theorem k_331 : ((.methodLink "StartTimesLaw" (116 : Nat) ⟨"StartTimesLaw", "fade", "(LStartTimes;II)I"⟩) : Cond) ∈ GG := tm1 (List.mem_of_getElem? (i := 91) rfl) rfl
theorem k_332 : ((.static ⟨"StartTimesLaw", "fade", "(LStartTimes;II)I"⟩) : Cond) ∈ GG := tm1 (List.mem_of_getElem? (i := 92) rfl) rfl
theorem k_333 : ((.codeWith ⟨"StartTimesLaw", "fade", "(LStartTimes;II)I"⟩ method_13_code (4 : Nat) (Option.some Jvm.ClassFile.FieldType.int) [((0 : Nat), (6 : Nat), (9 : Nat), (13 : Nat))]) : Cond) ∈ GG := tm1 (List.mem_of_getElem? (i := 93) rfl) rfl
theorem k_334 : ((.methodLink "StartTimesLaw" (48 : Nat) ⟨"StartTimes", "fade", "(II)V"⟩) : Cond) ∈ GG := tm1 (List.mem_of_getElem? (i := 94) rfl) rfl
theorem k_335 : ((.instanceMethod ⟨"StartTimes", "fade", "(II)V"⟩) : Cond) ∈ GG := tm1 (List.mem_of_getElem? (i := 95) rfl) rfl
theorem k_336 : ((.selects "StartTimes" ⟨"StartTimes", "fade", "(II)V"⟩ ⟨"StartTimes", "fade", "(II)V"⟩) : Cond) ∈ GG := tm1 (List.mem_of_getElem? (i := 96) rfl) rfl
theorem k_337 : ((.code ⟨"StartTimes", "fade", "(II)V"⟩ prog_1_method_12_code (3 : Nat) (Option.none : Option Jvm.ClassFile.FieldType)) : Cond) ∈ GG := tm1 (List.mem_of_getElem? (i := 97) rfl) rfl
theorem k_338 : ((.methodLink "StartTimesLaw" (120 : Nat) ⟨"StartTimesLaw", "day", "(LStartTimes;II)I"⟩) : Cond) ∈ GG := tm1 (List.mem_of_getElem? (i := 98) rfl) rfl
theorem k_339 : ((.static ⟨"StartTimesLaw", "day", "(LStartTimes;II)I"⟩) : Cond) ∈ GG := tm1 (List.mem_of_getElem? (i := 99) rfl) rfl
theorem k_340 : ((.codeWith ⟨"StartTimesLaw", "day", "(LStartTimes;II)I"⟩ method_14_code (4 : Nat) (Option.some Jvm.ClassFile.FieldType.int) [((0 : Nat), (6 : Nat), (9 : Nat), (13 : Nat))]) : Cond) ∈ GG := tm1 (List.mem_of_getElem? (i := 100) rfl) rfl
theorem k_341 : ((.methodLink "StartTimesLaw" (52 : Nat) ⟨"StartTimes", "day", "(II)V"⟩) : Cond) ∈ GG := tm1 (List.mem_of_getElem? (i := 101) rfl) rfl
theorem k_342 : ((.instanceMethod ⟨"StartTimes", "day", "(II)V"⟩) : Cond) ∈ GG := tm1 (List.mem_of_getElem? (i := 102) rfl) rfl
theorem k_343 : ((.selects "StartTimes" ⟨"StartTimes", "day", "(II)V"⟩ ⟨"StartTimes", "day", "(II)V"⟩) : Cond) ∈ GG := tm1 (List.mem_of_getElem? (i := 103) rfl) rfl
theorem k_344 : ((.code ⟨"StartTimes", "day", "(II)V"⟩ prog_1_method_13_code (4 : Nat) (Option.none : Option Jvm.ClassFile.FieldType)) : Cond) ∈ GG := tm1 (List.mem_of_getElem? (i := 104) rfl) rfl
theorem k_345 : ((.methodLinkNest "StartTimes" (114 : Nat) ⟨"StartTimes$Lesson", "learn", "(III)V"⟩ "StartTimes") : Cond) ∈ tables_1 := tn1 (List.mem_of_getElem? (i := 105) rfl)
theorem k_347 : ((.instanceMethod ⟨"StartTimes$Lesson", "learn", "(III)V"⟩) : Cond) ∈ GG := tm1 (List.mem_of_getElem? (i := 107) rfl) rfl
theorem k_348 : ((.code ⟨"StartTimes$Lesson", "learn", "(III)V"⟩ prog_2_method_2_code (8 : Nat) (Option.none : Option Jvm.ClassFile.FieldType)) : Cond) ∈ GG := tm1 (List.mem_of_getElem? (i := 108) rfl) rfl
theorem k_349 : ((.methodLink "StartTimes$Lesson" (16 : Nat) ⟨"StartTimes$Lesson", "keepInLowestTerms", "(JJ)V"⟩) : Cond) ∈ GG := tm1 (List.mem_of_getElem? (i := 109) rfl) rfl
theorem k_351 : ((.instanceMethod ⟨"StartTimes$Lesson", "keepInLowestTerms", "(JJ)V"⟩) : Cond) ∈ GG := tm1 (List.mem_of_getElem? (i := 111) rfl) rfl
theorem k_352 : ((.code ⟨"StartTimes$Lesson", "keepInLowestTerms", "(JJ)V"⟩ prog_2_method_4_code (7 : Nat) (Option.none : Option Jvm.ClassFile.FieldType)) : Cond) ∈ GG := tm1 (List.mem_of_getElem? (i := 112) rfl) rfl
theorem k_353 : ((.methodLink "StartTimes$Lesson" (28 : Nat) ⟨"java/lang/Math", "abs", "(J)J"⟩) : Cond) ∈ GG := tm1 (List.mem_of_getElem? (i := 113) rfl) rfl
theorem k_354 : ((.static ⟨"java/lang/Math", "abs", "(J)J"⟩) : Cond) ∈ GG := tm1 (List.mem_of_getElem? (i := 114) rfl) rfl
theorem k_355 : ((.code ⟨"java/lang/Math", "abs", "(J)J"⟩ prog_9_method_61_code (2 : Nat) (Option.some Jvm.ClassFile.FieldType.long)) : Cond) ∈ GG := tm1 (List.mem_of_getElem? (i := 115) rfl) rfl
theorem k_356 : ((.methodLink "StartTimes$Lesson" (34 : Nat) ⟨"StartTimes$Lesson", "commonDivisor", "(JJ)J"⟩) : Cond) ∈ GG := tm1 (List.mem_of_getElem? (i := 116) rfl) rfl
theorem k_357 : ((.static ⟨"StartTimes$Lesson", "commonDivisor", "(JJ)J"⟩) : Cond) ∈ GG := tm1 (List.mem_of_getElem? (i := 117) rfl) rfl
theorem k_358 : ((.code ⟨"StartTimes$Lesson", "commonDivisor", "(JJ)J"⟩ prog_2_method_5_code (11 : Nat) (Option.some Jvm.ClassFile.FieldType.long)) : Cond) ∈ GG := tm1 (List.mem_of_getElem? (i := 118) rfl) rfl
theorem k_359 : ((.constantLong "StartTimes$Lesson" (20 : Nat) (1000000000 : Int64)) : Cond) ∈ GG := tm1 (List.mem_of_getElem? (i := 119) rfl) rfl
theorem k_360 : ((.methodLink "StartTimes$Lesson" (22 : Nat) ⟨"StartTimes$Lesson", "millionths", "()J"⟩) : Cond) ∈ GG := tm1 (List.mem_of_getElem? (i := 120) rfl) rfl
theorem k_362 : ((.instanceMethod ⟨"StartTimes$Lesson", "millionths", "()J"⟩) : Cond) ∈ GG := tm1 (List.mem_of_getElem? (i := 122) rfl) rfl
theorem k_363 : ((.code ⟨"StartTimes$Lesson", "millionths", "()J"⟩ prog_2_method_3_code (1 : Nat) (Option.some Jvm.ClassFile.FieldType.long)) : Cond) ∈ GG := tm1 (List.mem_of_getElem? (i := 123) rfl) rfl
theorem k_364 : ((.constantLong "StartTimes$Lesson" (26 : Nat) (1000000 : Int64)) : Cond) ∈ GG := tm1 (List.mem_of_getElem? (i := 124) rfl) rfl
theorem k_365 : ((.methodLink "StartTimesLaw" (123 : Nat) ⟨"StartTimesLaw", "lesson", "(LStartTimes;II[J)I"⟩) : Cond) ∈ GG := tm1 (List.mem_of_getElem? (i := 125) rfl) rfl
theorem k_366 : ((.static ⟨"StartTimesLaw", "lesson", "(LStartTimes;II[J)I"⟩) : Cond) ∈ GG := tm1 (List.mem_of_getElem? (i := 126) rfl) rfl
theorem k_367 : ((.codeWith ⟨"StartTimesLaw", "lesson", "(LStartTimes;II[J)I"⟩ method_15_code (5 : Nat) (Option.some Jvm.ClassFile.FieldType.int) [((0 : Nat), (9 : Nat), (12 : Nat), (13 : Nat))]) : Cond) ∈ GG := tm1 (List.mem_of_getElem? (i := 127) rfl) rfl
theorem k_368 : ((.methodLink "StartTimesLaw" (55 : Nat) ⟨"StartTimes", "lesson", "(II)J"⟩) : Cond) ∈ GG := tm1 (List.mem_of_getElem? (i := 128) rfl) rfl
theorem k_369 : ((.instanceMethod ⟨"StartTimes", "lesson", "(II)J"⟩) : Cond) ∈ GG := tm1 (List.mem_of_getElem? (i := 129) rfl) rfl
theorem k_370 : ((.selects "StartTimes" ⟨"StartTimes", "lesson", "(II)J"⟩ ⟨"StartTimes", "lesson", "(II)J"⟩) : Cond) ∈ GG := tm1 (List.mem_of_getElem? (i := 130) rfl) rfl
theorem k_371 : ((.code ⟨"StartTimes", "lesson", "(II)J"⟩ prog_1_method_14_code (4 : Nat) (Option.some Jvm.ClassFile.FieldType.long)) : Cond) ∈ GG := tm1 (List.mem_of_getElem? (i := 131) rfl) rfl
theorem k_372 : ((.methodLink "StartTimesLaw" (126 : Nat) ⟨"StartTimesLaw", "taught", "(LStartTimes;I[J)I"⟩) : Cond) ∈ GG := tm1 (List.mem_of_getElem? (i := 132) rfl) rfl
theorem k_373 : ((.static ⟨"StartTimesLaw", "taught", "(LStartTimes;I[J)I"⟩) : Cond) ∈ GG := tm1 (List.mem_of_getElem? (i := 133) rfl) rfl
theorem k_374 : ((.codeWith ⟨"StartTimesLaw", "taught", "(LStartTimes;I[J)I"⟩ method_16_code (4 : Nat) (Option.some Jvm.ClassFile.FieldType.int) [((0 : Nat), (9 : Nat), (12 : Nat), (13 : Nat))]) : Cond) ∈ GG := tm1 (List.mem_of_getElem? (i := 134) rfl) rfl
theorem k_375 : ((.methodLink "StartTimesLaw" (59 : Nat) ⟨"StartTimes", "taught", "(I)I"⟩) : Cond) ∈ GG := tm1 (List.mem_of_getElem? (i := 135) rfl) rfl
theorem k_376 : ((.instanceMethod ⟨"StartTimes", "taught", "(I)I"⟩) : Cond) ∈ GG := tm1 (List.mem_of_getElem? (i := 136) rfl) rfl
theorem k_377 : ((.selects "StartTimes" ⟨"StartTimes", "taught", "(I)I"⟩ ⟨"StartTimes", "taught", "(I)I"⟩) : Cond) ∈ GG := tm1 (List.mem_of_getElem? (i := 137) rfl) rfl
theorem k_378 : ((.code ⟨"StartTimes", "taught", "(I)I"⟩ prog_1_method_15_code (4 : Nat) (Option.some Jvm.ClassFile.FieldType.int)) : Cond) ∈ GG := tm1 (List.mem_of_getElem? (i := 138) rfl) rfl
theorem k_379 : ((.methodLinkNest "StartTimes" (126 : Nat) ⟨"StartTimes$Lesson", "wholeMinutes", "()I"⟩ "StartTimes") : Cond) ∈ tables_1 := tn1 (List.mem_of_getElem? (i := 139) rfl)
theorem k_381 : ((.instanceMethod ⟨"StartTimes$Lesson", "wholeMinutes", "()I"⟩) : Cond) ∈ GG := tm1 (List.mem_of_getElem? (i := 141) rfl) rfl
theorem k_382 : ((.code ⟨"StartTimes$Lesson", "wholeMinutes", "()I"⟩ prog_2_method_6_code (1 : Nat) (Option.some Jvm.ClassFile.FieldType.int)) : Cond) ∈ GG := tm1 (List.mem_of_getElem? (i := 142) rfl) rfl
theorem k_383 : ((.methodLink "StartTimes" (130 : Nat) ⟨"java/lang/Math", "min", "(II)I"⟩) : Cond) ∈ GG := tm1 (List.mem_of_getElem? (i := 143) rfl) rfl
theorem k_384 : ((.static ⟨"java/lang/Math", "min", "(II)I"⟩) : Cond) ∈ GG := tm1 (List.mem_of_getElem? (i := 144) rfl) rfl
theorem k_385 : ((.code ⟨"java/lang/Math", "min", "(II)I"⟩ prog_9_method_69_code (2 : Nat) (Option.some Jvm.ClassFile.FieldType.int)) : Cond) ∈ GG := tm1 (List.mem_of_getElem? (i := 145) rfl) rfl
theorem k_386 : ((.methodLink "StartTimes" (136 : Nat) ⟨"java/lang/Math", "max", "(II)I"⟩) : Cond) ∈ GG := tm1 (List.mem_of_getElem? (i := 146) rfl) rfl
theorem k_387 : ((.static ⟨"java/lang/Math", "max", "(II)I"⟩) : Cond) ∈ GG := tm1 (List.mem_of_getElem? (i := 147) rfl) rfl
theorem k_388 : ((.code ⟨"java/lang/Math", "max", "(II)I"⟩ prog_9_method_65_code (2 : Nat) (Option.some Jvm.ClassFile.FieldType.int)) : Cond) ∈ GG := tm1 (List.mem_of_getElem? (i := 148) rfl) rfl
theorem k_389 : ((.methodLink "StartTimesLaw" (129 : Nat) ⟨"StartTimesLaw", "price", "(LStartTimes;II[J)I"⟩) : Cond) ∈ GG := tm1 (List.mem_of_getElem? (i := 149) rfl) rfl
theorem k_390 : ((.static ⟨"StartTimesLaw", "price", "(LStartTimes;II[J)I"⟩) : Cond) ∈ GG := tm1 (List.mem_of_getElem? (i := 150) rfl) rfl
theorem k_391 : ((.codeWith ⟨"StartTimesLaw", "price", "(LStartTimes;II[J)I"⟩ method_17_code (5 : Nat) (Option.some Jvm.ClassFile.FieldType.int) [((0 : Nat), (10 : Nat), (13 : Nat), (13 : Nat))]) : Cond) ∈ GG := tm1 (List.mem_of_getElem? (i := 151) rfl) rfl
theorem k_392 : ((.methodLink "StartTimesLaw" (62 : Nat) ⟨"StartTimes", "price", "(II)I"⟩) : Cond) ∈ GG := tm1 (List.mem_of_getElem? (i := 152) rfl) rfl
theorem k_393 : ((.instanceMethod ⟨"StartTimes", "price", "(II)I"⟩) : Cond) ∈ GG := tm1 (List.mem_of_getElem? (i := 153) rfl) rfl
theorem k_394 : ((.selects "StartTimes" ⟨"StartTimes", "price", "(II)I"⟩ ⟨"StartTimes", "price", "(II)I"⟩) : Cond) ∈ GG := tm1 (List.mem_of_getElem? (i := 154) rfl) rfl
theorem k_395 : ((.code ⟨"StartTimes", "price", "(II)I"⟩ prog_1_method_16_code (4 : Nat) (Option.some Jvm.ClassFile.FieldType.int)) : Cond) ∈ GG := tm1 (List.mem_of_getElem? (i := 155) rfl) rfl
theorem k_396 : ((.methodLink "StartTimesLaw" (132 : Nat) ⟨"StartTimesLaw", "cheapest", "(LStartTimes;III[J)I"⟩) : Cond) ∈ GG := tm1 (List.mem_of_getElem? (i := 156) rfl) rfl
theorem k_397 : ((.static ⟨"StartTimesLaw", "cheapest", "(LStartTimes;III[J)I"⟩) : Cond) ∈ GG := tm1 (List.mem_of_getElem? (i := 157) rfl) rfl
theorem k_398 : ((.codeWith ⟨"StartTimesLaw", "cheapest", "(LStartTimes;III[J)I"⟩ method_18_code (6 : Nat) (Option.some Jvm.ClassFile.FieldType.int) [((0 : Nat), (12 : Nat), (15 : Nat), (13 : Nat)), ((0 : Nat), (12 : Nat), (19 : Nat), (15 : Nat))]) : Cond) ∈ GG := tm1 (List.mem_of_getElem? (i := 158) rfl) rfl
theorem k_399 : ((.methodLink "StartTimesLaw" (65 : Nat) ⟨"StartTimes", "cheapest", "(III)I"⟩) : Cond) ∈ GG := tm1 (List.mem_of_getElem? (i := 159) rfl) rfl
theorem k_400 : ((.instanceMethod ⟨"StartTimes", "cheapest", "(III)I"⟩) : Cond) ∈ GG := tm1 (List.mem_of_getElem? (i := 160) rfl) rfl
theorem k_401 : ((.selects "StartTimes" ⟨"StartTimes", "cheapest", "(III)I"⟩ ⟨"StartTimes", "cheapest", "(III)I"⟩) : Cond) ∈ GG := tm1 (List.mem_of_getElem? (i := 161) rfl) rfl
theorem k_402 : ((.code ⟨"StartTimes", "cheapest", "(III)I"⟩ prog_1_method_17_code (8 : Nat) (Option.some Jvm.ClassFile.FieldType.int)) : Cond) ∈ GG := tm1 (List.mem_of_getElem? (i := 162) rfl) rfl
theorem k_403 : ((.methodLink "StartTimes" (139 : Nat) ⟨"StartTimes", "checkQuarters", "(II)V"⟩) : Cond) ∈ GG := tm1 (List.mem_of_getElem? (i := 163) rfl) rfl
theorem k_404 : ((.static ⟨"StartTimes", "checkQuarters", "(II)V"⟩) : Cond) ∈ GG := tm1 (List.mem_of_getElem? (i := 164) rfl) rfl
theorem k_405 : ((.code ⟨"StartTimes", "checkQuarters", "(II)V"⟩ prog_1_method_20_code (2 : Nat) (Option.none : Option Jvm.ClassFile.FieldType)) : Cond) ∈ GG := tm1 (List.mem_of_getElem? (i := 165) rfl) rfl
theorem k_406 : ((.methodLink "StartTimes" (142 : Nat) ⟨"StartTimes", "checkWants", "(LStartTimes$Zone;)V"⟩) : Cond) ∈ GG := tm1 (List.mem_of_getElem? (i := 166) rfl) rfl
theorem k_407 : ((.static ⟨"StartTimes", "checkWants", "(LStartTimes$Zone;)V"⟩) : Cond) ∈ GG := tm1 (List.mem_of_getElem? (i := 167) rfl) rfl
theorem k_408 : ((.code ⟨"StartTimes", "checkWants", "(LStartTimes$Zone;)V"⟩ prog_1_method_21_code (1 : Nat) (Option.none : Option Jvm.ClassFile.FieldType)) : Cond) ∈ GG := tm1 (List.mem_of_getElem? (i := 168) rfl) rfl
theorem k_410 : ((.methodLink "StartTimes" (146 : Nat) ⟨"StartTimes", "weighSets", "(LStartTimes$Zone;II)V"⟩) : Cond) ∈ GG := tm1 (List.mem_of_getElem? (i := 170) rfl) rfl
theorem k_412 : ((.instanceMethod ⟨"StartTimes", "weighSets", "(LStartTimes$Zone;II)V"⟩) : Cond) ∈ GG := tm1 (List.mem_of_getElem? (i := 172) rfl) rfl
theorem k_413 : ((.code ⟨"StartTimes", "weighSets", "(LStartTimes$Zone;II)V"⟩ prog_1_method_35_code (12 : Nat) (Option.none : Option Jvm.ClassFile.FieldType)) : Cond) ∈ GG := tm1 (List.mem_of_getElem? (i := 173) rfl) rfl
theorem k_414 : ((.methodLink "StartTimes" (150 : Nat) ⟨"StartTimes", "quarterBegin", "(LStartTimes$Zone;II)I"⟩) : Cond) ∈ GG := tm1 (List.mem_of_getElem? (i := 174) rfl) rfl
theorem k_415 : ((.static ⟨"StartTimes", "quarterBegin", "(LStartTimes$Zone;II)I"⟩) : Cond) ∈ GG := tm1 (List.mem_of_getElem? (i := 175) rfl) rfl
theorem k_416 : ((.code ⟨"StartTimes", "quarterBegin", "(LStartTimes$Zone;II)I"⟩ prog_1_method_33_code (3 : Nat) (Option.some Jvm.ClassFile.FieldType.int)) : Cond) ∈ GG := tm1 (List.mem_of_getElem? (i := 176) rfl) rfl
theorem k_417 : ((.methodLink "StartTimes" (154 : Nat) ⟨"StartTimes", "warmthThrough", "(LStartTimes$Zone;IIII)I"⟩) : Cond) ∈ GG := tm1 (List.mem_of_getElem? (i := 177) rfl) rfl
theorem k_419 : ((.instanceMethod ⟨"StartTimes", "warmthThrough", "(LStartTimes$Zone;IIII)I"⟩) : Cond) ∈ GG := tm1 (List.mem_of_getElem? (i := 179) rfl) rfl
theorem k_420 : ((.code ⟨"StartTimes", "warmthThrough", "(LStartTimes$Zone;IIII)I"⟩ prog_1_method_25_code (8 : Nat) (Option.some Jvm.ClassFile.FieldType.int)) : Cond) ∈ GG := tm1 (List.mem_of_getElem? (i := 180) rfl) rfl
theorem k_421 : ((.methodLink "StartTimes" (158 : Nat) ⟨"StartTimes", "costOfMinutes", "(LStartTimes$Zone;II)J"⟩) : Cond) ∈ GG := tm1 (List.mem_of_getElem? (i := 181) rfl) rfl
theorem k_423 : ((.instanceMethod ⟨"StartTimes", "costOfMinutes", "(LStartTimes$Zone;II)J"⟩) : Cond) ∈ GG := tm1 (List.mem_of_getElem? (i := 183) rfl) rfl
theorem k_424 : ((.code ⟨"StartTimes", "costOfMinutes", "(LStartTimes$Zone;II)J"⟩ prog_1_method_34_code (7 : Nat) (Option.some Jvm.ClassFile.FieldType.long)) : Cond) ∈ GG := tm1 (List.mem_of_getElem? (i := 184) rfl) rfl
theorem k_425 : ((.methodLink "StartTimesLaw" (135 : Nat) ⟨"StartTimesLaw", "costs", "(LStartTimes;IIII[J)I"⟩) : Cond) ∈ GG := tm1 (List.mem_of_getElem? (i := 185) rfl) rfl
theorem k_426 : ((.static ⟨"StartTimesLaw", "costs", "(LStartTimes;IIII[J)I"⟩) : Cond) ∈ GG := tm1 (List.mem_of_getElem? (i := 186) rfl) rfl
theorem k_427 : ((.codeWith ⟨"StartTimesLaw", "costs", "(LStartTimes;IIII[J)I"⟩ method_19_code (7 : Nat) (Option.some Jvm.ClassFile.FieldType.int) [((0 : Nat), (13 : Nat), (16 : Nat), (13 : Nat)), ((0 : Nat), (13 : Nat), (20 : Nat), (15 : Nat))]) : Cond) ∈ GG := tm1 (List.mem_of_getElem? (i := 187) rfl) rfl
theorem k_428 : ((.methodLink "StartTimesLaw" (68 : Nat) ⟨"StartTimes", "costs", "(IIII)J"⟩) : Cond) ∈ GG := tm1 (List.mem_of_getElem? (i := 188) rfl) rfl
theorem k_429 : ((.instanceMethod ⟨"StartTimes", "costs", "(IIII)J"⟩) : Cond) ∈ GG := tm1 (List.mem_of_getElem? (i := 189) rfl) rfl
theorem k_430 : ((.selects "StartTimes" ⟨"StartTimes", "costs", "(IIII)J"⟩ ⟨"StartTimes", "costs", "(IIII)J"⟩) : Cond) ∈ GG := tm1 (List.mem_of_getElem? (i := 190) rfl) rfl
theorem k_431 : ((.code ⟨"StartTimes", "costs", "(IIII)J"⟩ prog_1_method_18_code (13 : Nat) (Option.some Jvm.ClassFile.FieldType.long)) : Cond) ∈ GG := tm1 (List.mem_of_getElem? (i := 191) rfl) rfl
theorem k_432 : ((.constantLong "StartTimes" (162 : Nat) (-1 : Int64)) : Cond) ∈ GG := tm1 (List.mem_of_getElem? (i := 192) rfl) rfl
theorem k_433 : ((.classLink "StartTimesLaw" (73 : Nat) "StartTimesModel") : Cond) ∈ GG := tm1 (List.mem_of_getElem? (i := 193) rfl) rfl
theorem k_434 : ((.instantiable "StartTimesModel" (25 : Nat)) : Cond) ∈ GG := tm1 (List.mem_of_getElem? (i := 194) rfl) rfl
theorem k_435 : ((.methodLink "StartTimesLaw" (75 : Nat) ⟨"StartTimesModel", "<init>", "()V"⟩) : Cond) ∈ GG := tm1 (List.mem_of_getElem? (i := 195) rfl) rfl
theorem k_436 : ((.instanceMethod ⟨"StartTimesModel", "<init>", "()V"⟩) : Cond) ∈ GG := tm1 (List.mem_of_getElem? (i := 196) rfl) rfl
theorem k_437 : ((.code ⟨"StartTimesModel", "<init>", "()V"⟩ prog_5_method_1_code (1 : Nat) (Option.none : Option Jvm.ClassFile.FieldType)) : Cond) ∈ GG := tm1 (List.mem_of_getElem? (i := 197) rfl) rfl
theorem k_438 : ((.methodLink "StartTimesModel" (1 : Nat) ⟨"java/lang/Object", "<init>", "()V"⟩) : Cond) ∈ GG := tm1 (List.mem_of_getElem? (i := 198) rfl) rfl
theorem k_439 : ((.constant "StartTimesModel" (44 : Nat) (100000 : Int32)) : Cond) ∈ GG := tm1 (List.mem_of_getElem? (i := 199) rfl) rfl
theorem k_440 : ((.fieldLink "StartTimesModel" (77 : Nat) "StartTimesModel" "thrown" "I") : Cond) ∈ GG := tm1 (List.mem_of_getElem? (i := 200) rfl) rfl
theorem k_441 : ((.fieldLink "StartTimesModel" (80 : Nat) "StartTimesModel" "zones" "I") : Cond) ∈ GG := tm1 (List.mem_of_getElem? (i := 201) rfl) rfl
theorem k_442 : ((.fieldLink "StartTimesModel" (7 : Nat) "StartTimesModel" "holds" "[I") : Cond) ∈ GG := tm1 (List.mem_of_getElem? (i := 202) rfl) rfl
theorem k_443 : ((.fieldLink "StartTimesModel" (13 : Nat) "StartTimesModel" "leads" "[I") : Cond) ∈ GG := tm1 (List.mem_of_getElem? (i := 203) rfl) rfl
theorem k_444 : ((.fieldLink "StartTimesModel" (16 : Nat) "StartTimesModel" "begins" "[I") : Cond) ∈ GG := tm1 (List.mem_of_getElem? (i := 204) rfl) rfl
theorem k_445 : ((.fieldLink "StartTimesModel" (19 : Nat) "StartTimesModel" "powers" "[I") : Cond) ∈ GG := tm1 (List.mem_of_getElem? (i := 205) rfl) rfl
theorem k_446 : ((.fieldLink "StartTimesModel" (22 : Nat) "StartTimesModel" "ranks" "[I") : Cond) ∈ GG := tm1 (List.mem_of_getElem? (i := 206) rfl) rfl
theorem k_447 : ((.fieldLink "StartTimesModel" (25 : Nat) "StartTimesModel" "wantedAt" "[I") : Cond) ∈ GG := tm1 (List.mem_of_getElem? (i := 207) rfl) rfl
theorem k_448 : ((.fieldLink "StartTimesModel" (28 : Nat) "StartTimesModel" "wanted" "[I") : Cond) ∈ GG := tm1 (List.mem_of_getElem? (i := 208) rfl) rfl
theorem k_449 : ((.fieldLink "StartTimesModel" (31 : Nat) "StartTimesModel" "above" "[J") : Cond) ∈ GG := tm1 (List.mem_of_getElem? (i := 209) rfl) rfl
theorem k_450 : ((.fieldLink "StartTimesModel" (35 : Nat) "StartTimesModel" "below" "[J") : Cond) ∈ GG := tm1 (List.mem_of_getElem? (i := 210) rfl) rfl
theorem k_451 : ((.fieldLink "StartTimesModel" (99 : Nat) "StartTimesModel" "rows" "I") : Cond) ∈ GG := tm1 (List.mem_of_getElem? (i := 211) rfl) rfl
theorem k_452 : ((.fieldLink "StartTimesModel" (38 : Nat) "StartTimesModel" "rowMinutes" "[I") : Cond) ∈ GG := tm1 (List.mem_of_getElem? (i := 212) rfl) rfl
theorem k_453 : ((.fieldLink "StartTimesModel" (41 : Nat) "StartTimesModel" "rowWarmths" "[I") : Cond) ∈ GG := tm1 (List.mem_of_getElem? (i := 213) rfl) rfl
theorem k_454 : ((.fieldLink "StartTimesModel" (45 : Nat) "StartTimesModel" "machine" "I") : Cond) ∈ GG := tm1 (List.mem_of_getElem? (i := 214) rfl) rfl
theorem k_455 : ((.fieldLink "StartTimesModel" (49 : Nat) "StartTimesModel" "prices" "[I") : Cond) ∈ GG := tm1 (List.mem_of_getElem? (i := 215) rfl) rfl
theorem k_456 : ((.fieldLink "StartTimesModel" (52 : Nat) "StartTimesModel" "fadeAbove" "I") : Cond) ∈ GG := tm1 (List.mem_of_getElem? (i := 216) rfl) rfl
theorem k_457 : ((.fieldLink "StartTimesModel" (55 : Nat) "StartTimesModel" "fadeBelow" "I") : Cond) ∈ GG := tm1 (List.mem_of_getElem? (i := 217) rfl) rfl
theorem k_458 : ((.fieldLink "StartTimesModel" (91 : Nat) "StartTimesModel" "known" "Z") : Cond) ∈ GG := tm1 (List.mem_of_getElem? (i := 218) rfl) rfl
theorem k_459 : ((.fieldLink "StartTimesModel" (58 : Nat) "StartTimesModel" "outsides" "[I") : Cond) ∈ GG := tm1 (List.mem_of_getElem? (i := 219) rfl) rfl
theorem k_460 : ((.fieldLink "StartTimesModel" (61 : Nat) "StartTimesModel" "left" "[I") : Cond) ∈ GG := tm1 (List.mem_of_getElem? (i := 220) rfl) rfl
theorem k_461 : ((.fieldLink "StartTimesModel" (64 : Nat) "StartTimesModel" "starts" "[I") : Cond) ∈ GG := tm1 (List.mem_of_getElem? (i := 221) rfl) rfl
theorem k_462 : ((.fieldLink "StartTimesModel" (67 : Nat) "StartTimesModel" "lates" "[Z") : Cond) ∈ GG := tm1 (List.mem_of_getElem? (i := 222) rfl) rfl
theorem k_463 : ((.fieldLink "StartTimesModel" (71 : Nat) "StartTimesModel" "warmths" "[I") : Cond) ∈ GG := tm1 (List.mem_of_getElem? (i := 223) rfl) rfl
theorem k_464 : ((.fieldLink "StartTimesModel" (74 : Nat) "StartTimesModel" "done" "[Z") : Cond) ∈ GG := tm1 (List.mem_of_getElem? (i := 224) rfl) rfl
theorem k_516 : ((.arrayClass Jvm.ClassFile.FieldType.boolean) : Cond) ∈ GG := tm2 (List.mem_of_getElem? (i := 36) rfl) rfl
theorem k_517 : ((.methodLink "StartTimesLaw" (82 : Nat) ⟨"StartTimesModel", "thrown", "()I"⟩) : Cond) ∈ GG := tm2 (List.mem_of_getElem? (i := 37) rfl) rfl
theorem k_518 : ((.instanceMethod ⟨"StartTimesModel", "thrown", "()I"⟩) : Cond) ∈ GG := tm2 (List.mem_of_getElem? (i := 38) rfl) rfl
theorem k_519 : ((.selects "StartTimesModel" ⟨"StartTimesModel", "thrown", "()I"⟩ ⟨"StartTimesModel", "thrown", "()I"⟩) : Cond) ∈ GG := tm2 (List.mem_of_getElem? (i := 39) rfl) rfl
theorem k_520 : ((.code ⟨"StartTimesModel", "thrown", "()I"⟩ prog_5_method_2_code (1 : Nat) (Option.some Jvm.ClassFile.FieldType.int)) : Cond) ∈ GG := tm2 (List.mem_of_getElem? (i := 40) rfl) rfl
theorem k_521 : ((.methodLink "StartTimesLaw" (81 : Nat) ⟨"StartTimesModel", "zone", "(II)I"⟩) : Cond) ∈ GG := tm2 (List.mem_of_getElem? (i := 41) rfl) rfl
theorem k_522 : ((.instanceMethod ⟨"StartTimesModel", "zone", "(II)I"⟩) : Cond) ∈ GG := tm2 (List.mem_of_getElem? (i := 42) rfl) rfl
theorem k_523 : ((.selects "StartTimesModel" ⟨"StartTimesModel", "zone", "(II)I"⟩ ⟨"StartTimesModel", "zone", "(II)I"⟩) : Cond) ∈ GG := tm2 (List.mem_of_getElem? (i := 43) rfl) rfl
theorem k_524 : ((.code ⟨"StartTimesModel", "zone", "(II)I"⟩ prog_5_method_6_code (3 : Nat) (Option.some Jvm.ClassFile.FieldType.int)) : Cond) ∈ GG := tm2 (List.mem_of_getElem? (i := 44) rfl) rfl
theorem k_525 : ((.methodLink "StartTimesModel" (83 : Nat) ⟨"StartTimesModel", "within", "(III)Z"⟩) : Cond) ∈ GG := tm2 (List.mem_of_getElem? (i := 45) rfl) rfl
theorem k_526 : ((.static ⟨"StartTimesModel", "within", "(III)Z"⟩) : Cond) ∈ GG := tm2 (List.mem_of_getElem? (i := 46) rfl) rfl
theorem k_527 : ((.code ⟨"StartTimesModel", "within", "(III)Z"⟩ prog_5_method_4_code (3 : Nat) (Option.some Jvm.ClassFile.FieldType.boolean)) : Cond) ∈ GG := tm2 (List.mem_of_getElem? (i := 47) rfl) rfl
theorem k_528 : ((.methodLink "StartTimesModel" (87 : Nat) ⟨"StartTimesModel", "fails", "(ZI)Z"⟩) : Cond) ∈ GG := tm2 (List.mem_of_getElem? (i := 48) rfl) rfl
theorem k_530 : ((.instanceMethod ⟨"StartTimesModel", "fails", "(ZI)Z"⟩) : Cond) ∈ GG := tm2 (List.mem_of_getElem? (i := 50) rfl) rfl
theorem k_531 : ((.code ⟨"StartTimesModel", "fails", "(ZI)Z"⟩ prog_5_method_3_code (3 : Nat) (Option.some Jvm.ClassFile.FieldType.boolean)) : Cond) ∈ GG := tm2 (List.mem_of_getElem? (i := 51) rfl) rfl
theorem k_532 : ((.methodLink "StartTimesLaw" (89 : Nat) ⟨"StartTimesModel", "set", "(III)I"⟩) : Cond) ∈ GG := tm2 (List.mem_of_getElem? (i := 52) rfl) rfl
theorem k_533 : ((.instanceMethod ⟨"StartTimesModel", "set", "(III)I"⟩) : Cond) ∈ GG := tm2 (List.mem_of_getElem? (i := 53) rfl) rfl
theorem k_534 : ((.selects "StartTimesModel" ⟨"StartTimesModel", "set", "(III)I"⟩ ⟨"StartTimesModel", "set", "(III)I"⟩) : Cond) ∈ GG := tm2 (List.mem_of_getElem? (i := 54) rfl) rfl
theorem k_535 : ((.code ⟨"StartTimesModel", "set", "(III)I"⟩ prog_5_method_7_code (6 : Nat) (Option.some Jvm.ClassFile.FieldType.int)) : Cond) ∈ GG := tm2 (List.mem_of_getElem? (i := 55) rfl) rfl
theorem k_536 : ((.methodLink "StartTimesModel" (95 : Nat) ⟨"StartTimesModel", "isZone", "(I)Z"⟩) : Cond) ∈ GG := tm2 (List.mem_of_getElem? (i := 56) rfl) rfl
theorem k_538 : ((.instanceMethod ⟨"StartTimesModel", "isZone", "(I)Z"⟩) : Cond) ∈ GG := tm2 (List.mem_of_getElem? (i := 58) rfl) rfl
theorem k_539 : ((.code ⟨"StartTimesModel", "isZone", "(I)Z"⟩ prog_5_method_5_code (2 : Nat) (Option.some Jvm.ClassFile.FieldType.boolean)) : Cond) ∈ GG := tm2 (List.mem_of_getElem? (i := 59) rfl) rfl
theorem k_540 : ((.methodLink "StartTimesLaw" (93 : Nat) ⟨"StartTimesModel", "want", "(III)V"⟩) : Cond) ∈ GG := tm2 (List.mem_of_getElem? (i := 60) rfl) rfl
theorem k_541 : ((.instanceMethod ⟨"StartTimesModel", "want", "(III)V"⟩) : Cond) ∈ GG := tm2 (List.mem_of_getElem? (i := 61) rfl) rfl
theorem k_542 : ((.selects "StartTimesModel" ⟨"StartTimesModel", "want", "(III)V"⟩ ⟨"StartTimesModel", "want", "(III)V"⟩) : Cond) ∈ GG := tm2 (List.mem_of_getElem? (i := 62) rfl) rfl
theorem k_543 : ((.code ⟨"StartTimesModel", "want", "(III)V"⟩ prog_5_method_8_code (4 : Nat) (Option.none : Option Jvm.ClassFile.FieldType)) : Cond) ∈ GG := tm2 (List.mem_of_getElem? (i := 63) rfl) rfl
theorem k_544 : ((.methodLink "StartTimesLaw" (96 : Nat) ⟨"StartTimesModel", "outside", "(II)I"⟩) : Cond) ∈ GG := tm2 (List.mem_of_getElem? (i := 64) rfl) rfl
theorem k_545 : ((.instanceMethod ⟨"StartTimesModel", "outside", "(II)I"⟩) : Cond) ∈ GG := tm2 (List.mem_of_getElem? (i := 65) rfl) rfl
theorem k_546 : ((.selects "StartTimesModel" ⟨"StartTimesModel", "outside", "(II)I"⟩ ⟨"StartTimesModel", "outside", "(II)I"⟩) : Cond) ∈ GG := tm2 (List.mem_of_getElem? (i := 66) rfl) rfl
theorem k_547 : ((.code ⟨"StartTimesModel", "outside", "(II)I"⟩ prog_5_method_9_code (3 : Nat) (Option.some Jvm.ClassFile.FieldType.int)) : Cond) ∈ GG := tm2 (List.mem_of_getElem? (i := 67) rfl) rfl
theorem k_548 : ((.methodLink "StartTimesLaw" (100 : Nat) ⟨"StartTimesModel", "machine", "(I)I"⟩) : Cond) ∈ GG := tm2 (List.mem_of_getElem? (i := 68) rfl) rfl
theorem k_549 : ((.instanceMethod ⟨"StartTimesModel", "machine", "(I)I"⟩) : Cond) ∈ GG := tm2 (List.mem_of_getElem? (i := 69) rfl) rfl
theorem k_550 : ((.selects "StartTimesModel" ⟨"StartTimesModel", "machine", "(I)I"⟩ ⟨"StartTimesModel", "machine", "(I)I"⟩) : Cond) ∈ GG := tm2 (List.mem_of_getElem? (i := 70) rfl) rfl
theorem k_551 : ((.code ⟨"StartTimesModel", "machine", "(I)I"⟩ prog_5_method_10_code (3 : Nat) (Option.some Jvm.ClassFile.FieldType.int)) : Cond) ∈ GG := tm2 (List.mem_of_getElem? (i := 71) rfl) rfl
theorem k_552 : ((.constant "StartTimesModel" (102 : Nat) (1000000 : Int32)) : Cond) ∈ GG := tm2 (List.mem_of_getElem? (i := 72) rfl) rfl
theorem k_553 : ((.methodLink "StartTimesLaw" (103 : Nat) ⟨"StartTimesModel", "start", "(I)I"⟩) : Cond) ∈ GG := tm2 (List.mem_of_getElem? (i := 73) rfl) rfl
theorem k_554 : ((.instanceMethod ⟨"StartTimesModel", "start", "(I)I"⟩) : Cond) ∈ GG := tm2 (List.mem_of_getElem? (i := 74) rfl) rfl
theorem k_555 : ((.selects "StartTimesModel" ⟨"StartTimesModel", "start", "(I)I"⟩ ⟨"StartTimesModel", "start", "(I)I"⟩) : Cond) ∈ GG := tm2 (List.mem_of_getElem? (i := 75) rfl) rfl
theorem k_556 : ((.code ⟨"StartTimesModel", "start", "(I)I"⟩ prog_5_method_17_code (2 : Nat) (Option.some Jvm.ClassFile.FieldType.int)) : Cond) ∈ GG := tm2 (List.mem_of_getElem? (i := 76) rfl) rfl
theorem k_557 : ((.methodLink "StartTimesModel" (121 : Nat) ⟨"StartTimesModel", "plan", "()V"⟩) : Cond) ∈ GG := tm2 (List.mem_of_getElem? (i := 77) rfl) rfl
theorem k_559 : ((.instanceMethod ⟨"StartTimesModel", "plan", "()V"⟩) : Cond) ∈ GG := tm2 (List.mem_of_getElem? (i := 79) rfl) rfl
theorem k_560 : ((.code ⟨"StartTimesModel", "plan", "()V"⟩ prog_5_method_16_code (4 : Nat) (Option.none : Option Jvm.ClassFile.FieldType)) : Cond) ∈ GG := tm2 (List.mem_of_getElem? (i := 80) rfl) rfl
theorem k_561 : ((.methodLink "StartTimesModel" (114 : Nat) ⟨"StartTimesModel", "findOutsides", "()V"⟩) : Cond) ∈ GG := tm2 (List.mem_of_getElem? (i := 81) rfl) rfl
theorem k_563 : ((.instanceMethod ⟨"StartTimesModel", "findOutsides", "()V"⟩) : Cond) ∈ GG := tm2 (List.mem_of_getElem? (i := 83) rfl) rfl
theorem k_564 : ((.code ⟨"StartTimesModel", "findOutsides", "()V"⟩ prog_5_method_13_code (4 : Nat) (Option.none : Option Jvm.ClassFile.FieldType)) : Cond) ∈ GG := tm2 (List.mem_of_getElem? (i := 84) rfl) rfl
theorem k_565 : ((.methodLink "StartTimesModel" (117 : Nat) ⟨"StartTimesModel", "planZone", "(I)V"⟩) : Cond) ∈ GG := tm2 (List.mem_of_getElem? (i := 85) rfl) rfl
theorem k_567 : ((.instanceMethod ⟨"StartTimesModel", "planZone", "(I)V"⟩) : Cond) ∈ GG := tm2 (List.mem_of_getElem? (i := 87) rfl) rfl
theorem k_568 : ((.code ⟨"StartTimesModel", "planZone", "(I)V"⟩ prog_5_method_15_code (6 : Nat) (Option.none : Option Jvm.ClassFile.FieldType)) : Cond) ∈ GG := tm2 (List.mem_of_getElem? (i := 88) rfl) rfl
theorem k_569 : ((.methodLink "StartTimesModel" (107 : Nat) ⟨"StartTimesModel", "stepped", "(IIII)I"⟩) : Cond) ∈ GG := tm2 (List.mem_of_getElem? (i := 89) rfl) rfl
theorem k_571 : ((.instanceMethod ⟨"StartTimesModel", "stepped", "(IIII)I"⟩) : Cond) ∈ GG := tm2 (List.mem_of_getElem? (i := 91) rfl) rfl
theorem k_572 : ((.code ⟨"StartTimesModel", "stepped", "(IIII)I"⟩ prog_5_method_11_code (5 : Nat) (Option.some Jvm.ClassFile.FieldType.int)) : Cond) ∈ GG := tm2 (List.mem_of_getElem? (i := 92) rfl) rfl
theorem k_573 : ((.methodLink "StartTimesModel" (111 : Nat) ⟨"StartTimesModel", "isWarm", "(III)Z"⟩) : Cond) ∈ GG := tm2 (List.mem_of_getElem? (i := 93) rfl) rfl
theorem k_575 : ((.instanceMethod ⟨"StartTimesModel", "isWarm", "(III)Z"⟩) : Cond) ∈ GG := tm2 (List.mem_of_getElem? (i := 95) rfl) rfl
theorem k_576 : ((.code ⟨"StartTimesModel", "isWarm", "(III)Z"⟩ prog_5_method_14_code (6 : Nat) (Option.some Jvm.ClassFile.FieldType.boolean)) : Cond) ∈ GG := tm2 (List.mem_of_getElem? (i := 96) rfl) rfl
theorem k_577 : ((.methodLink "StartTimesModel" (103 : Nat) ⟨"StartTimesModel", "heatIn", "(II)I"⟩) : Cond) ∈ GG := tm2 (List.mem_of_getElem? (i := 97) rfl) rfl
theorem k_579 : ((.instanceMethod ⟨"StartTimesModel", "heatIn", "(II)I"⟩) : Cond) ∈ GG := tm2 (List.mem_of_getElem? (i := 99) rfl) rfl
theorem k_580 : ((.code ⟨"StartTimesModel", "heatIn", "(II)I"⟩ prog_5_method_12_code (3 : Nat) (Option.some Jvm.ClassFile.FieldType.int)) : Cond) ∈ GG := tm2 (List.mem_of_getElem? (i := 100) rfl) rfl
theorem k_581 : ((.methodLink "StartTimesLaw" (106 : Nat) ⟨"StartTimesModel", "late", "(I)Z"⟩) : Cond) ∈ GG := tm2 (List.mem_of_getElem? (i := 101) rfl) rfl
theorem k_582 : ((.instanceMethod ⟨"StartTimesModel", "late", "(I)Z"⟩) : Cond) ∈ GG := tm2 (List.mem_of_getElem? (i := 102) rfl) rfl
theorem k_583 : ((.selects "StartTimesModel" ⟨"StartTimesModel", "late", "(I)Z"⟩ ⟨"StartTimesModel", "late", "(I)Z"⟩) : Cond) ∈ GG := tm2 (List.mem_of_getElem? (i := 103) rfl) rfl
theorem k_584 : ((.code ⟨"StartTimesModel", "late", "(I)Z"⟩ prog_5_method_18_code (2 : Nat) (Option.some Jvm.ClassFile.FieldType.boolean)) : Cond) ∈ GG := tm2 (List.mem_of_getElem? (i := 104) rfl) rfl
theorem k_585 : ((.methodLink "StartTimesLaw" (109 : Nat) ⟨"StartTimesModel", "at", "(II)I"⟩) : Cond) ∈ GG := tm2 (List.mem_of_getElem? (i := 105) rfl) rfl
theorem k_586 : ((.instanceMethod ⟨"StartTimesModel", "at", "(II)I"⟩) : Cond) ∈ GG := tm2 (List.mem_of_getElem? (i := 106) rfl) rfl
theorem k_587 : ((.selects "StartTimesModel" ⟨"StartTimesModel", "at", "(II)I"⟩ ⟨"StartTimesModel", "at", "(II)I"⟩) : Cond) ∈ GG := tm2 (List.mem_of_getElem? (i := 107) rfl) rfl
theorem k_588 : ((.code ⟨"StartTimesModel", "at", "(II)I"⟩ prog_5_method_19_code (3 : Nat) (Option.some Jvm.ClassFile.FieldType.int)) : Cond) ∈ GG := tm2 (List.mem_of_getElem? (i := 108) rfl) rfl
theorem k_589 : ((.methodLink "StartTimesLaw" (112 : Nat) ⟨"StartTimesModel", "used", "(I)I"⟩) : Cond) ∈ GG := tm2 (List.mem_of_getElem? (i := 109) rfl) rfl
theorem k_590 : ((.instanceMethod ⟨"StartTimesModel", "used", "(I)I"⟩) : Cond) ∈ GG := tm2 (List.mem_of_getElem? (i := 110) rfl) rfl
theorem k_591 : ((.selects "StartTimesModel" ⟨"StartTimesModel", "used", "(I)I"⟩ ⟨"StartTimesModel", "used", "(I)I"⟩) : Cond) ∈ GG := tm2 (List.mem_of_getElem? (i := 111) rfl) rfl
theorem k_592 : ((.code ⟨"StartTimesModel", "used", "(I)I"⟩ prog_5_method_20_code (2 : Nat) (Option.some Jvm.ClassFile.FieldType.int)) : Cond) ∈ GG := tm2 (List.mem_of_getElem? (i := 112) rfl) rfl
theorem k_593 : ((.methodLink "StartTimesLaw" (115 : Nat) ⟨"StartTimesModel", "cold", "(I)I"⟩) : Cond) ∈ GG := tm2 (List.mem_of_getElem? (i := 113) rfl) rfl
theorem k_594 : ((.instanceMethod ⟨"StartTimesModel", "cold", "(I)I"⟩) : Cond) ∈ GG := tm2 (List.mem_of_getElem? (i := 114) rfl) rfl
theorem k_595 : ((.selects "StartTimesModel" ⟨"StartTimesModel", "cold", "(I)I"⟩ ⟨"StartTimesModel", "cold", "(I)I"⟩) : Cond) ∈ GG := tm2 (List.mem_of_getElem? (i := 115) rfl) rfl
theorem k_596 : ((.code ⟨"StartTimesModel", "cold", "(I)I"⟩ prog_5_method_21_code (4 : Nat) (Option.some Jvm.ClassFile.FieldType.int)) : Cond) ∈ GG := tm2 (List.mem_of_getElem? (i := 116) rfl) rfl
theorem k_597 : ((.methodLink "StartTimesLaw" (119 : Nat) ⟨"StartTimesModel", "fade", "(II)V"⟩) : Cond) ∈ GG := tm2 (List.mem_of_getElem? (i := 117) rfl) rfl
theorem k_598 : ((.instanceMethod ⟨"StartTimesModel", "fade", "(II)V"⟩) : Cond) ∈ GG := tm2 (List.mem_of_getElem? (i := 118) rfl) rfl
theorem k_599 : ((.selects "StartTimesModel" ⟨"StartTimesModel", "fade", "(II)V"⟩ ⟨"StartTimesModel", "fade", "(II)V"⟩) : Cond) ∈ GG := tm2 (List.mem_of_getElem? (i := 119) rfl) rfl
theorem k_600 : ((.code ⟨"StartTimesModel", "fade", "(II)V"⟩ prog_5_method_22_code (3 : Nat) (Option.none : Option Jvm.ClassFile.FieldType)) : Cond) ∈ GG := tm2 (List.mem_of_getElem? (i := 120) rfl) rfl
theorem k_601 : ((.methodLink "StartTimesLaw" (122 : Nat) ⟨"StartTimesModel", "day", "(II)V"⟩) : Cond) ∈ GG := tm2 (List.mem_of_getElem? (i := 121) rfl) rfl
theorem k_602 : ((.instanceMethod ⟨"StartTimesModel", "day", "(II)V"⟩) : Cond) ∈ GG := tm2 (List.mem_of_getElem? (i := 122) rfl) rfl
theorem k_603 : ((.selects "StartTimesModel" ⟨"StartTimesModel", "day", "(II)V"⟩ ⟨"StartTimesModel", "day", "(II)V"⟩) : Cond) ∈ GG := tm2 (List.mem_of_getElem? (i := 123) rfl) rfl
theorem k_604 : ((.code ⟨"StartTimesModel", "day", "(II)V"⟩ prog_5_method_24_code (9 : Nat) (Option.none : Option Jvm.ClassFile.FieldType)) : Cond) ∈ GG := tm2 (List.mem_of_getElem? (i := 124) rfl) rfl
theorem k_605 : ((.methodLink "StartTimesModel" (124 : Nat) ⟨"StartTimesModel", "divisor", "(JJ)J"⟩) : Cond) ∈ GG := tm2 (List.mem_of_getElem? (i := 125) rfl) rfl
theorem k_606 : ((.static ⟨"StartTimesModel", "divisor", "(JJ)J"⟩) : Cond) ∈ GG := tm2 (List.mem_of_getElem? (i := 126) rfl) rfl
theorem k_607 : ((.code ⟨"StartTimesModel", "divisor", "(JJ)J"⟩ prog_5_method_23_code (10 : Nat) (Option.some Jvm.ClassFile.FieldType.long)) : Cond) ∈ GG := tm2 (List.mem_of_getElem? (i := 127) rfl) rfl
theorem k_608 : ((.constantLong "StartTimesModel" (128 : Nat) (1000000000 : Int64)) : Cond) ∈ GG := tm2 (List.mem_of_getElem? (i := 128) rfl) rfl
theorem k_609 : ((.constantLong "StartTimesModel" (130 : Nat) (1000000 : Int64)) : Cond) ∈ GG := tm2 (List.mem_of_getElem? (i := 129) rfl) rfl
theorem k_610 : ((.methodLink "StartTimesLaw" (125 : Nat) ⟨"StartTimesModel", "lesson", "(II)J"⟩) : Cond) ∈ GG := tm2 (List.mem_of_getElem? (i := 130) rfl) rfl
theorem k_611 : ((.instanceMethod ⟨"StartTimesModel", "lesson", "(II)J"⟩) : Cond) ∈ GG := tm2 (List.mem_of_getElem? (i := 131) rfl) rfl
theorem k_612 : ((.selects "StartTimesModel" ⟨"StartTimesModel", "lesson", "(II)J"⟩ ⟨"StartTimesModel", "lesson", "(II)J"⟩) : Cond) ∈ GG := tm2 (List.mem_of_getElem? (i := 132) rfl) rfl
theorem k_613 : ((.code ⟨"StartTimesModel", "lesson", "(II)J"⟩ prog_5_method_25_code (3 : Nat) (Option.some Jvm.ClassFile.FieldType.long)) : Cond) ∈ GG := tm2 (List.mem_of_getElem? (i := 133) rfl) rfl
theorem k_614 : ((.methodLink "StartTimesLaw" (128 : Nat) ⟨"StartTimesModel", "taught", "(I)I"⟩) : Cond) ∈ GG := tm2 (List.mem_of_getElem? (i := 134) rfl) rfl
theorem k_615 : ((.instanceMethod ⟨"StartTimesModel", "taught", "(I)I"⟩) : Cond) ∈ GG := tm2 (List.mem_of_getElem? (i := 135) rfl) rfl
theorem k_616 : ((.selects "StartTimesModel" ⟨"StartTimesModel", "taught", "(I)I"⟩ ⟨"StartTimesModel", "taught", "(I)I"⟩) : Cond) ∈ GG := tm2 (List.mem_of_getElem? (i := 136) rfl) rfl
theorem k_617 : ((.code ⟨"StartTimesModel", "taught", "(I)I"⟩ prog_5_method_26_code (4 : Nat) (Option.some Jvm.ClassFile.FieldType.int)) : Cond) ∈ GG := tm2 (List.mem_of_getElem? (i := 137) rfl) rfl
theorem k_618 : ((.constantLong "StartTimesModel" (132 : Nat) (1439 : Int64)) : Cond) ∈ GG := tm2 (List.mem_of_getElem? (i := 138) rfl) rfl
theorem k_619 : ((.methodLink "StartTimesLaw" (131 : Nat) ⟨"StartTimesModel", "price", "(II)I"⟩) : Cond) ∈ GG := tm2 (List.mem_of_getElem? (i := 139) rfl) rfl
theorem k_620 : ((.instanceMethod ⟨"StartTimesModel", "price", "(II)I"⟩) : Cond) ∈ GG := tm2 (List.mem_of_getElem? (i := 140) rfl) rfl
theorem k_621 : ((.selects "StartTimesModel" ⟨"StartTimesModel", "price", "(II)I"⟩ ⟨"StartTimesModel", "price", "(II)I"⟩) : Cond) ∈ GG := tm2 (List.mem_of_getElem? (i := 141) rfl) rfl
theorem k_622 : ((.code ⟨"StartTimesModel", "price", "(II)I"⟩ prog_5_method_27_code (4 : Nat) (Option.some Jvm.ClassFile.FieldType.int)) : Cond) ∈ GG := tm2 (List.mem_of_getElem? (i := 142) rfl) rfl
theorem k_623 : ((.methodLink "StartTimesLaw" (134 : Nat) ⟨"StartTimesModel", "cheapest", "(III)I"⟩) : Cond) ∈ GG := tm2 (List.mem_of_getElem? (i := 143) rfl) rfl
theorem k_624 : ((.instanceMethod ⟨"StartTimesModel", "cheapest", "(III)I"⟩) : Cond) ∈ GG := tm2 (List.mem_of_getElem? (i := 144) rfl) rfl
theorem k_625 : ((.selects "StartTimesModel" ⟨"StartTimesModel", "cheapest", "(III)I"⟩ ⟨"StartTimesModel", "cheapest", "(III)I"⟩) : Cond) ∈ GG := tm2 (List.mem_of_getElem? (i := 145) rfl) rfl
theorem k_626 : ((.code ⟨"StartTimesModel", "cheapest", "(III)I"⟩ prog_5_method_30_code (10 : Nat) (Option.some Jvm.ClassFile.FieldType.int)) : Cond) ∈ GG := tm2 (List.mem_of_getElem? (i := 146) rfl) rfl
theorem k_627 : ((.methodLink "StartTimesModel" (136 : Nat) ⟨"StartTimesModel", "areQuarters", "(III)Z"⟩) : Cond) ∈ GG := tm2 (List.mem_of_getElem? (i := 147) rfl) rfl
theorem k_629 : ((.instanceMethod ⟨"StartTimesModel", "areQuarters", "(III)Z"⟩) : Cond) ∈ GG := tm2 (List.mem_of_getElem? (i := 149) rfl) rfl
theorem k_630 : ((.code ⟨"StartTimesModel", "areQuarters", "(III)Z"⟩ prog_5_method_28_code (4 : Nat) (Option.some Jvm.ClassFile.FieldType.boolean)) : Cond) ∈ GG := tm2 (List.mem_of_getElem? (i := 150) rfl) rfl
theorem k_631 : ((.methodLink "StartTimesModel" (139 : Nat) ⟨"StartTimesModel", "reckoned", "(IIII)J"⟩) : Cond) ∈ GG := tm2 (List.mem_of_getElem? (i := 151) rfl) rfl
theorem k_633 : ((.instanceMethod ⟨"StartTimesModel", "reckoned", "(IIII)J"⟩) : Cond) ∈ GG := tm2 (List.mem_of_getElem? (i := 153) rfl) rfl
theorem k_634 : ((.code ⟨"StartTimesModel", "reckoned", "(IIII)J"⟩ prog_5_method_29_code (11 : Nat) (Option.some Jvm.ClassFile.FieldType.long)) : Cond) ∈ GG := tm2 (List.mem_of_getElem? (i := 154) rfl) rfl
theorem k_635 : ((.constantLong "StartTimesModel" (134 : Nat) (-1 : Int64)) : Cond) ∈ GG := tm2 (List.mem_of_getElem? (i := 155) rfl) rfl
theorem k_636 : ((.methodLink "StartTimesLaw" (138 : Nat) ⟨"StartTimesModel", "costs", "(IIII)J"⟩) : Cond) ∈ GG := tm2 (List.mem_of_getElem? (i := 156) rfl) rfl
theorem k_637 : ((.instanceMethod ⟨"StartTimesModel", "costs", "(IIII)J"⟩) : Cond) ∈ GG := tm2 (List.mem_of_getElem? (i := 157) rfl) rfl
theorem k_638 : ((.selects "StartTimesModel" ⟨"StartTimesModel", "costs", "(IIII)J"⟩ ⟨"StartTimesModel", "costs", "(IIII)J"⟩) : Cond) ∈ GG := tm2 (List.mem_of_getElem? (i := 158) rfl) rfl
theorem k_639 : ((.code ⟨"StartTimesModel", "costs", "(IIII)J"⟩ prog_5_method_31_code (5 : Nat) (Option.some Jvm.ClassFile.FieldType.long)) : Cond) ∈ GG := tm2 (List.mem_of_getElem? (i := 159) rfl) rfl
theorem ks_0 : (.selects "java/lang/Throwable" ⟨"java/lang/Throwable", "fillInStackTrace", "(I)Ljava/lang/Throwable;"⟩ ⟨"java/lang/Throwable", "fillInStackTrace", "(I)Ljava/lang/Throwable;"⟩ : Cond) ∈ GG := tms (List.mem_of_getElem? (i := 0) rfl) rfl
theorem ks_1 : (.selects "StartTimes" ⟨"StartTimes", "knownZone", "(I)LStartTimes$Zone;"⟩ ⟨"StartTimes", "knownZone", "(I)LStartTimes$Zone;"⟩ : Cond) ∈ GG := tms (List.mem_of_getElem? (i := 1) rfl) rfl
theorem ks_2 : (.selects "StartTimes" ⟨"StartTimes", "plannedZone", "(I)LStartTimes$Zone;"⟩ ⟨"StartTimes", "plannedZone", "(I)LStartTimes$Zone;"⟩ : Cond) ∈ GG := tms (List.mem_of_getElem? (i := 2) rfl) rfl
theorem ks_3 : (.selects "StartTimes" ⟨"StartTimes", "makePlan", "()V"⟩ ⟨"StartTimes", "makePlan", "()V"⟩ : Cond) ∈ GG := tms (List.mem_of_getElem? (i := 3) rfl) rfl
theorem ks_4 : (.selects "StartTimes" ⟨"StartTimes", "planZone", "(LStartTimes$Zone;)V"⟩ ⟨"StartTimes", "planZone", "(LStartTimes$Zone;)V"⟩ : Cond) ∈ GG := tms (List.mem_of_getElem? (i := 4) rfl) rfl
theorem ks_5 : (.selects "StartTimes" ⟨"StartTimes", "leaveUnheated", "(LStartTimes$Zone;I)V"⟩ ⟨"StartTimes", "leaveUnheated", "(LStartTimes$Zone;I)V"⟩ : Cond) ∈ GG := tms (List.mem_of_getElem? (i := 5) rfl) rfl
theorem ks_6 : (.selects "StartTimes" ⟨"StartTimes", "warmthAfter", "(LStartTimes$Zone;III)I"⟩ ⟨"StartTimes", "warmthAfter", "(LStartTimes$Zone;III)I"⟩ : Cond) ∈ GG := tms (List.mem_of_getElem? (i := 6) rfl) rfl
theorem ks_7 : (.selects "StartTimes$Zone" ⟨"StartTimes$Zone", "wantsWarmth", "()Z"⟩ ⟨"StartTimes$Zone", "wantsWarmth", "()Z"⟩ : Cond) ∈ GG := tms (List.mem_of_getElem? (i := 7) rfl) rfl
theorem ks_8 : (.selects "StartTimes" ⟨"StartTimes", "latestStart", "(LStartTimes$Zone;)I"⟩ ⟨"StartTimes", "latestStart", "(LStartTimes$Zone;)I"⟩ : Cond) ∈ GG := tms (List.mem_of_getElem? (i := 8) rfl) rfl
theorem ks_9 : (.selects "StartTimes" ⟨"StartTimes", "warmthIfStarted", "(LStartTimes$Zone;I)I"⟩ ⟨"StartTimes", "warmthIfStarted", "(LStartTimes$Zone;I)I"⟩ : Cond) ∈ GG := tms (List.mem_of_getElem? (i := 9) rfl) rfl
theorem ks_10 : (.selects "StartTimes" ⟨"StartTimes", "shareOf", "(LStartTimes$Zone;I)I"⟩ ⟨"StartTimes", "shareOf", "(LStartTimes$Zone;I)I"⟩ : Cond) ∈ GG := tms (List.mem_of_getElem? (i := 10) rfl) rfl
theorem ks_11 : (.selects "StartTimes" ⟨"StartTimes", "heatFromStart", "(LStartTimes$Zone;)V"⟩ ⟨"StartTimes", "heatFromStart", "(LStartTimes$Zone;)V"⟩ : Cond) ∈ GG := tms (List.mem_of_getElem? (i := 11) rfl) rfl
theorem ks_12 : (.selects "StartTimes$Lesson" ⟨"StartTimes$Lesson", "learn", "(III)V"⟩ ⟨"StartTimes$Lesson", "learn", "(III)V"⟩ : Cond) ∈ GG := tms (List.mem_of_getElem? (i := 12) rfl) rfl
theorem ks_13 : (.selects "StartTimes$Lesson" ⟨"StartTimes$Lesson", "keepInLowestTerms", "(JJ)V"⟩ ⟨"StartTimes$Lesson", "keepInLowestTerms", "(JJ)V"⟩ : Cond) ∈ GG := tms (List.mem_of_getElem? (i := 13) rfl) rfl
theorem ks_14 : (.selects "StartTimes$Lesson" ⟨"StartTimes$Lesson", "millionths", "()J"⟩ ⟨"StartTimes$Lesson", "millionths", "()J"⟩ : Cond) ∈ GG := tms (List.mem_of_getElem? (i := 14) rfl) rfl
theorem ks_15 : (.selects "StartTimes$Lesson" ⟨"StartTimes$Lesson", "wholeMinutes", "()I"⟩ ⟨"StartTimes$Lesson", "wholeMinutes", "()I"⟩ : Cond) ∈ GG := tms (List.mem_of_getElem? (i := 15) rfl) rfl
theorem ks_16 : (.selects "StartTimes" ⟨"StartTimes", "weighSets", "(LStartTimes$Zone;II)V"⟩ ⟨"StartTimes", "weighSets", "(LStartTimes$Zone;II)V"⟩ : Cond) ∈ GG := tms (List.mem_of_getElem? (i := 16) rfl) rfl
theorem ks_17 : (.selects "StartTimes" ⟨"StartTimes", "warmthThrough", "(LStartTimes$Zone;IIII)I"⟩ ⟨"StartTimes", "warmthThrough", "(LStartTimes$Zone;IIII)I"⟩ : Cond) ∈ GG := tms (List.mem_of_getElem? (i := 17) rfl) rfl
theorem ks_18 : (.selects "StartTimes" ⟨"StartTimes", "costOfMinutes", "(LStartTimes$Zone;II)J"⟩ ⟨"StartTimes", "costOfMinutes", "(LStartTimes$Zone;II)J"⟩ : Cond) ∈ GG := tms (List.mem_of_getElem? (i := 18) rfl) rfl
theorem ks_19 : (.selects "StartTimesModel" ⟨"StartTimesModel", "fails", "(ZI)Z"⟩ ⟨"StartTimesModel", "fails", "(ZI)Z"⟩ : Cond) ∈ GG := tms (List.mem_of_getElem? (i := 19) rfl) rfl
theorem ks_20 : (.selects "StartTimesModel" ⟨"StartTimesModel", "isZone", "(I)Z"⟩ ⟨"StartTimesModel", "isZone", "(I)Z"⟩ : Cond) ∈ GG := tms (List.mem_of_getElem? (i := 20) rfl) rfl
theorem ks_21 : (.selects "StartTimesModel" ⟨"StartTimesModel", "plan", "()V"⟩ ⟨"StartTimesModel", "plan", "()V"⟩ : Cond) ∈ GG := tms (List.mem_of_getElem? (i := 21) rfl) rfl
theorem ks_22 : (.selects "StartTimesModel" ⟨"StartTimesModel", "findOutsides", "()V"⟩ ⟨"StartTimesModel", "findOutsides", "()V"⟩ : Cond) ∈ GG := tms (List.mem_of_getElem? (i := 22) rfl) rfl
theorem ks_23 : (.selects "StartTimesModel" ⟨"StartTimesModel", "planZone", "(I)V"⟩ ⟨"StartTimesModel", "planZone", "(I)V"⟩ : Cond) ∈ GG := tms (List.mem_of_getElem? (i := 23) rfl) rfl
theorem ks_24 : (.selects "StartTimesModel" ⟨"StartTimesModel", "stepped", "(IIII)I"⟩ ⟨"StartTimesModel", "stepped", "(IIII)I"⟩ : Cond) ∈ GG := tms (List.mem_of_getElem? (i := 24) rfl) rfl
theorem ks_25 : (.selects "StartTimesModel" ⟨"StartTimesModel", "isWarm", "(III)Z"⟩ ⟨"StartTimesModel", "isWarm", "(III)Z"⟩ : Cond) ∈ GG := tms (List.mem_of_getElem? (i := 25) rfl) rfl
theorem ks_26 : (.selects "StartTimesModel" ⟨"StartTimesModel", "heatIn", "(II)I"⟩ ⟨"StartTimesModel", "heatIn", "(II)I"⟩ : Cond) ∈ GG := tms (List.mem_of_getElem? (i := 26) rfl) rfl
theorem ks_27 : (.selects "StartTimesModel" ⟨"StartTimesModel", "areQuarters", "(III)Z"⟩ ⟨"StartTimesModel", "areQuarters", "(III)Z"⟩ : Cond) ∈ GG := tms (List.mem_of_getElem? (i := 27) rfl) rfl
theorem ks_28 : (.selects "StartTimesModel" ⟨"StartTimesModel", "reckoned", "(IIII)J"⟩ ⟨"StartTimesModel", "reckoned", "(IIII)J"⟩ : Cond) ∈ GG := tms (List.mem_of_getElem? (i := 28) rfl) rfl
