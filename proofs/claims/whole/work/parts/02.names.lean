def R_Dr : String := "RateChains$Draw"
def T_Dr : u_T := fun k => match k with
  | 0 => ("RateChains$Draw", "rows", "[I", true)
  | _ => ("RateChains$Draw", "count", "I", false)
def t_Dr : Nat → FieldType := fun k => match k with
  | 0 => .array .int
  | _ => .int
theorem n_Dr : ∀ a, a < 2 → ∀ b, b < 2 → a ≠ b → (T_Dr a).2.1 ≠ (T_Dr b).2.1 := by decide +kernel
theorem t_Dr_ok : ∀ k, k < 2 → parseFieldDescriptor (T_Dr k).2.2.1 = some (t_Dr k) := by decide +kernel
set_option maxRecDepth 20000 in
theorem i_Dr : ∀ w ∈ u_ws R_Dr T_Dr 2, w ∈ am_G := by
  have h : ∀ w ∈ u_ws R_Dr T_Dr 2, w ∈ lw_tbl ∧ goodWord w = true := by decide +kernel
  exact fun w hw => List.mem_filter.mpr (h w hw)
def R_Fe : String := "RateChains$Feeds"
def T_Fe : u_T := fun k => match k with
  | 0 => ("RateChains$Feeds", "plants", "[I", true)
  | 1 => ("RateChains$Feeds", "kinds", "[I", true)
  | 2 => ("RateChains$Feeds", "years", "[I", true)
  | 3 => ("RateChains$Feeds", "countries", "[I", true)
  | 4 => ("RateChains$Feeds", "grams", "[J", true)
  | _ => ("RateChains$Feeds", "size", "I", false)
def t_Fe : Nat → FieldType := fun k => match k with
  | 0 => .array .int
  | 1 => .array .int
  | 2 => .array .int
  | 3 => .array .int
  | 4 => .array .long
  | _ => .int
theorem n_Fe : ∀ a, a < 6 → ∀ b, b < 6 → a ≠ b → (T_Fe a).2.1 ≠ (T_Fe b).2.1 := by decide +kernel
theorem t_Fe_ok : ∀ k, k < 6 → parseFieldDescriptor (T_Fe k).2.2.1 = some (t_Fe k) := by decide +kernel
set_option maxRecDepth 20000 in
theorem i_Fe : ∀ w ∈ u_ws R_Fe T_Fe 6, w ∈ am_G := by
  have h : ∀ w ∈ u_ws R_Fe T_Fe 6, w ∈ lw_tbl ∧ goodWord w = true := by decide +kernel
  exact fun w hw => List.mem_filter.mpr (h w hw)
def R_Pl : String := "RateChains$Plants"
def T_Pl : u_T := fun k => match k with
  | 0 => ("RateChains$Plants", "shares", "[I", true)
  | 1 => ("RateChains$Plants", "shareSums", "[I", true)
  | 2 => ("RateChains$Plants", "points", "[Z", true)
  | 3 => ("RateChains$Plants", "averaged", "[Z", true)
  | 4 => ("RateChains$Plants", "losses", "[I", true)
  | 5 => ("RateChains$Plants", "ends", "[Z", true)
  | _ => ("RateChains$Plants", "size", "I", false)
def t_Pl : Nat → FieldType := fun k => match k with
  | 0 => .array .int
  | 1 => .array .int
  | 2 => .array .boolean
  | 3 => .array .boolean
  | 4 => .array .int
  | 5 => .array .boolean
  | _ => .int
theorem n_Pl : ∀ a, a < 7 → ∀ b, b < 7 → a ≠ b → (T_Pl a).2.1 ≠ (T_Pl b).2.1 := by decide +kernel
theorem t_Pl_ok : ∀ k, k < 7 → parseFieldDescriptor (T_Pl k).2.2.1 = some (t_Pl k) := by decide +kernel
set_option maxRecDepth 20000 in
theorem i_Pl : ∀ w ∈ u_ws R_Pl T_Pl 7, w ∈ am_G := by
  have h : ∀ w ∈ u_ws R_Pl T_Pl 7, w ∈ lw_tbl ∧ goodWord w = true := by decide +kernel
  exact fun w hw => List.mem_filter.mpr (h w hw)
def R_So : String := "RateChains$Solved"
def T_So : u_T := fun k => match k with
  | 0 => ("RateChains$Solved", "worths", "LRateChains$Worths;", true)
  | 1 => ("RateChains$Solved", "below", "[J", true)
  | 2 => ("RateChains$Solved", "worthAbove", "[J", true)
  | 3 => ("RateChains$Solved", "fedGrams", "[J", true)
  | 4 => ("RateChains$Solved", "broughtGrams", "[J", true)
  | 5 => ("RateChains$Solved", "countedAbove", "[J", true)
  | 6 => ("RateChains$Solved", "stocks", "[J", true)
  | 7 => ("RateChains$Solved", "came", "[Z", true)
  | 8 => ("RateChains$Solved", "lostBare", "[Z", true)
  | _ => ("RateChains$Solved", "there", "Z", false)
def t_So : Nat → FieldType := fun k => match k with
  | 0 => .object "RateChains$Worths"
  | 1 => .array .long
  | 2 => .array .long
  | 3 => .array .long
  | 4 => .array .long
  | 5 => .array .long
  | 6 => .array .long
  | 7 => .array .boolean
  | 8 => .array .boolean
  | _ => .boolean
theorem n_So : ∀ a, a < 10 → ∀ b, b < 10 → a ≠ b → (T_So a).2.1 ≠ (T_So b).2.1 := by decide +kernel
theorem t_So_ok : ∀ k, k < 10 → parseFieldDescriptor (T_So k).2.2.1 = some (t_So k) := by decide +kernel
set_option maxRecDepth 20000 in
theorem i_So : ∀ w ∈ u_ws R_So T_So 10, w ∈ am_G := by
  have h : ∀ w ∈ u_ws R_So T_So 10, w ∈ lw_tbl ∧ goodWord w = true := by decide +kernel
  exact fun w hw => List.mem_filter.mpr (h w hw)
def R_Te : String := "RateChains$Text"
def T_Te : u_T := fun k => match k with
  | 0 => ("RateChains$Text", "units", "[I", true)
  | _ => ("RateChains$Text", "size", "I", false)
def t_Te : Nat → FieldType := fun k => match k with
  | 0 => .array .int
  | _ => .int
theorem n_Te : ∀ a, a < 2 → ∀ b, b < 2 → a ≠ b → (T_Te a).2.1 ≠ (T_Te b).2.1 := by decide +kernel
theorem t_Te_ok : ∀ k, k < 2 → parseFieldDescriptor (T_Te k).2.2.1 = some (t_Te k) := by decide +kernel
set_option maxRecDepth 20000 in
theorem i_Te : ∀ w ∈ u_ws R_Te T_Te 2, w ∈ am_G := by
  have h : ∀ w ∈ u_ws R_Te T_Te 2, w ∈ lw_tbl ∧ goodWord w = true := by decide +kernel
  exact fun w hw => List.mem_filter.mpr (h w hw)
def R_Wo : String := "RateChains$Worths"
def T_Wo : u_T := fun k => match k with
  | _ => ("RateChains$Worths", "rows", "[[J", true)
def t_Wo : Nat → FieldType := fun k => match k with
  | _ => .array (.array .long)
theorem n_Wo : ∀ a, a < 1 → ∀ b, b < 1 → a ≠ b → (T_Wo a).2.1 ≠ (T_Wo b).2.1 := by decide +kernel
theorem t_Wo_ok : ∀ k, k < 1 → parseFieldDescriptor (T_Wo k).2.2.1 = some (t_Wo k) := by decide +kernel
set_option maxRecDepth 20000 in
theorem i_Wo : ∀ w ∈ u_ws R_Wo T_Wo 1, w ∈ am_G := by
  have h : ∀ w ∈ u_ws R_Wo T_Wo 1, w ∈ lw_tbl ∧ goodWord w = true := by decide +kernel
  exact fun w hw => List.mem_filter.mpr (h w hw)
def R_RC : String := "RateChains"
def T_RC : u_T := fun k => match k with
  | 0 => ("RateChains", "plants", "LRateChains$Plants;", true)
  | 1 => ("RateChains", "feeds", "LRateChains$Feeds;", true)
  | 2 => ("RateChains", "metalGrams", "[J", true)
  | 3 => ("RateChains", "placedGrams", "[J", true)
  | 4 => ("RateChains", "solved", "LRateChains$Solved;", true)
  | 5 => ("RateChains", "draw", "LRateChains$Draw;", true)
  | _ => ("RateChains", "text", "LRateChains$Text;", true)
def t_RC : Nat → FieldType := fun k => match k with
  | 0 => .object "RateChains$Plants"
  | 1 => .object "RateChains$Feeds"
  | 2 => .array .long
  | 3 => .array .long
  | 4 => .object "RateChains$Solved"
  | 5 => .object "RateChains$Draw"
  | _ => .object "RateChains$Text"
theorem n_RC : ∀ a, a < 7 → ∀ b, b < 7 → a ≠ b → (T_RC a).2.1 ≠ (T_RC b).2.1 := by decide +kernel
theorem t_RC_ok : ∀ k, k < 7 → parseFieldDescriptor (T_RC k).2.2.1 = some (t_RC k) := by decide +kernel
set_option maxRecDepth 20000 in
theorem i_RC : ∀ w ∈ u_ws R_RC T_RC 7, w ∈ am_G := by
  have h : ∀ w ∈ u_ws R_RC T_RC 7, w ∈ lw_tbl ∧ goodWord w = true := by decide +kernel
  exact fun w hw => List.mem_filter.mpr (h w hw)
def R_Mo : String := "RateChainsModel"
def T_Mo : u_T := fun k => match k with
  | 0 => ("RateChainsModel", "plants", "I", false)
  | 1 => ("RateChainsModel", "shares", "[I", true)
  | 2 => ("RateChainsModel", "points", "[Z", true)
  | 3 => ("RateChainsModel", "hasAverage", "[Z", true)
  | 4 => ("RateChainsModel", "averages", "[I", true)
  | 5 => ("RateChainsModel", "feeds", "I", false)
  | 6 => ("RateChainsModel", "feedPlant", "[I", true)
  | 7 => ("RateChainsModel", "feedKind", "[I", true)
  | 8 => ("RateChainsModel", "feedYear", "[I", true)
  | 9 => ("RateChainsModel", "feedCountry", "[I", true)
  | 10 => ("RateChainsModel", "feedGrams", "[J", true)
  | 11 => ("RateChainsModel", "metals", "[J", true)
  | 12 => ("RateChainsModel", "placed", "[J", true)
  | 13 => ("RateChainsModel", "isSolved", "Z", false)
  | 14 => ("RateChainsModel", "worthOver", "[J", true)
  | 15 => ("RateChainsModel", "worthUnder", "[J", true)
  | 16 => ("RateChainsModel", "wasBare", "[Z", true)
  | 17 => ("RateChainsModel", "solvedPlants", "I", false)
  | 18 => ("RateChainsModel", "solvedFeeds", "I", false)
  | 19 => ("RateChainsModel", "solvedMetals", "[J", true)
  | 20 => ("RateChainsModel", "taken", "[J", true)
  | 21 => ("RateChainsModel", "drawn", "I", false)
  | 22 => ("RateChainsModel", "draws", "[I", true)
  | 23 => ("RateChainsModel", "text", "[I", true)
  | 24 => ("RateChainsModel", "size", "I", false)
  | 25 => ("RateChainsModel", "over", "[J", true)
  | 26 => ("RateChainsModel", "under", "[J", true)
  | 27 => ("RateChainsModel", "sumOver", "J", false)
  | _ => ("RateChainsModel", "sumUnder", "J", false)
def t_Mo : Nat → FieldType := fun k => match k with
  | 0 => .int
  | 1 => .array .int
  | 2 => .array .boolean
  | 3 => .array .boolean
  | 4 => .array .int
  | 5 => .int
  | 6 => .array .int
  | 7 => .array .int
  | 8 => .array .int
  | 9 => .array .int
  | 10 => .array .long
  | 11 => .array .long
  | 12 => .array .long
  | 13 => .boolean
  | 14 => .array .long
  | 15 => .array .long
  | 16 => .array .boolean
  | 17 => .int
  | 18 => .int
  | 19 => .array .long
  | 20 => .array .long
  | 21 => .int
  | 22 => .array .int
  | 23 => .array .int
  | 24 => .int
  | 25 => .array .long
  | 26 => .array .long
  | 27 => .long
  | _ => .long
theorem n_Mo : ∀ a, a < 29 → ∀ b, b < 29 → a ≠ b → (T_Mo a).2.1 ≠ (T_Mo b).2.1 := by decide +kernel
theorem t_Mo_ok : ∀ k, k < 29 → parseFieldDescriptor (T_Mo k).2.2.1 = some (t_Mo k) := by decide +kernel
set_option maxRecDepth 20000 in
theorem i_Mo : ∀ w ∈ u_ws R_Mo T_Mo 29, w ∈ am_G := by
  have h : ∀ w ∈ u_ws R_Mo T_Mo 29, w ∈ lw_tbl ∧ goodWord w = true := by decide +kernel
  exact fun w hw => List.mem_filter.mpr (h w hw)
abbrev am_cl : List vw_C := [(R_Dr, T_Dr, 2), (R_Fe, T_Fe, 6), (R_Pl, T_Pl, 7), (R_So, T_So, 10), (R_Te, T_Te, 2), (R_Wo, T_Wo, 1), (R_RC, T_RC, 7), (R_Mo, T_Mo, 29)]
/-- the types of the arrays: int, long, boolean, byte (none is made), long[] -/
def am_nt : Nat := 5
def am_ty : Nat → FieldType := fun k => match k with
  | 0 => .int
  | 1 => .long
  | 2 => .boolean
  | 3 => .int
  | _ => .array .long
def am_N : List Cond := [.methodLinkNest "RateChains" 9 ⟨"RateChains$Plants", "<init>", "()V"⟩ "RateChains", .methodLinkNest "RateChains" 18 ⟨"RateChains$Feeds", "<init>", "()V"⟩ "RateChains", .methodLinkNest "RateChains" 32 ⟨"RateChains$Solved", "<init>", "()V"⟩ "RateChains", .methodLinkNest "RateChains$Solved" 11 ⟨"RateChains$Worths", "<init>", "()V"⟩ "RateChains", .methodLinkNest "RateChains" 39 ⟨"RateChains$Draw", "<init>", "()V"⟩ "RateChains", .methodLinkNest "RateChains" 46 ⟨"RateChains$Text", "<init>", "()V"⟩ "RateChains", .methodLinkNest "RateChains$Plants" 43 ⟨"RateChains", "slotOf", "(II)I"⟩ "RateChains", .methodLinkNest "RateChains$Solved" 64 ⟨"RateChains", "slotOf", "(II)I"⟩ "RateChains", .methodLinkNest "RateChains$Solved" 68 ⟨"RateChains", "cell", "(II)I"⟩ "RateChains", .methodLinkNest "RateChains$Text" 31 ⟨"RateChains", "isKind", "(I)Z"⟩ "RateChains", .methodLinkNest "RateChains$Text" 34 ⟨"RateChains", "isYear", "(I)Z"⟩ "RateChains"]
def am_X9 (U : State) : Prop := ∃ (comp c : ClassId) (k : Class), U.vm.findClass "[J" = some comp ∧ (U.vm.classes.findIdx? fun (x : Class) => match x.kind with | .array component _ => component == comp | _ => false) = some c ∧ U.vm.classes[c]? = some k ∧ k.kind = .array comp (.array .long) ∧ U.vm.findClass "[[J" = some c
abbrev am_Y : Type := MethodName × ByteArray × Nat × Option FieldType
abbrev y_Dr_init : am_Y := (⟨"RateChains$Draw", "<init>", "()V"⟩, prog_2_method_1_code, 1, none)
abbrev y_Dr_take : am_Y := (⟨"RateChains$Draw", "take", "(JII)V"⟩, prog_2_method_2_code, 8, none)
abbrev y_Dr_swap : am_Y := (⟨"RateChains$Draw", "swap", "(II)V"⟩, prog_2_method_4_code, 4, none)
abbrev y_Dr_row : am_Y := (⟨"RateChains$Draw", "row", "(I)I"⟩, prog_2_method_3_code, 2, (some .int))
abbrev y_Fe_init : am_Y := (⟨"RateChains$Feeds", "<init>", "()V"⟩, prog_3_method_1_code, 1, none)
abbrev y_Fe_add : am_Y := (⟨"RateChains$Feeds", "add", "(IIJII)Z"⟩, prog_3_method_2_code, 7, (some .boolean))
abbrev y_Fe_size : am_Y := (⟨"RateChains$Feeds", "size", "()I"⟩, prog_3_method_3_code, 1, (some .int))
abbrev y_Fe_kindOf : am_Y := (⟨"RateChains$Feeds", "kindOf", "(I)I"⟩, prog_3_method_5_code, 2, (some .int))
abbrev y_Fe_yearOf : am_Y := (⟨"RateChains$Feeds", "yearOf", "(I)I"⟩, prog_3_method_6_code, 2, (some .int))
abbrev y_Fe_plantOf : am_Y := (⟨"RateChains$Feeds", "plantOf", "(I)I"⟩, prog_3_method_4_code, 2, (some .int))
abbrev y_Fe_gramsOf : am_Y := (⟨"RateChains$Feeds", "gramsOf", "(I)J"⟩, prog_3_method_8_code, 2, (some .long))
abbrev y_Fe_countryOf : am_Y := (⟨"RateChains$Feeds", "countryOf", "(I)I"⟩, prog_3_method_7_code, 2, (some .int))
abbrev y_Pl_init : am_Y := (⟨"RateChains$Plants", "<init>", "()V"⟩, prog_4_method_1_code, 1, none)
abbrev y_Pl_add : am_Y := (⟨"RateChains$Plants", "add", "()I"⟩, prog_4_method_2_code, 1, (some .int))
abbrev y_Pl_has : am_Y := (⟨"RateChains$Plants", "has", "(I)Z"⟩, prog_4_method_3_code, 2, (some .boolean))
abbrev y_Pl_setShare : am_Y := (⟨"RateChains$Plants", "setShare", "(III)Z"⟩, prog_4_method_4_code, 5, (some .boolean))
abbrev y_Pl_shareOf : am_Y := (⟨"RateChains$Plants", "shareOf", "(II)I"⟩, prog_4_method_7_code, 3, (some .int))
abbrev y_Pl_setPoint : am_Y := (⟨"RateChains$Plants", "setPoint", "(II)Z"⟩, prog_4_method_5_code, 3, (some .boolean))
abbrev y_Pl_isPoint : am_Y := (⟨"RateChains$Plants", "isPoint", "(II)Z"⟩, prog_4_method_8_code, 3, (some .boolean))
abbrev y_Pl_setLoss : am_Y := (⟨"RateChains$Plants", "setLoss", "(II)V"⟩, prog_4_method_6_code, 3, none)
abbrev y_Pl_leastInRing : am_Y := (⟨"RateChains$Plants", "leastInRing", "()I"⟩, prog_4_method_13_code, 4, (some .int))
abbrev y_Pl_leastInRingOf : am_Y := (⟨"RateChains$Plants", "leastInRingOf", "(I)I"⟩, prog_4_method_14_code, 3, (some .int))
abbrev y_Pl_findEnds : am_Y := (⟨"RateChains$Plants", "findEnds", "(I)V"⟩, prog_4_method_15_code, 4, none)
abbrev y_Pl_goesOn : am_Y := (⟨"RateChains$Plants", "goesOn", "(II)Z"⟩, prog_4_method_10_code, 3, (some .boolean))
abbrev y_Pl_goesToAnEnd : am_Y := (⟨"RateChains$Plants", "goesToAnEnd", "(I)Z"⟩, prog_4_method_16_code, 3, (some .boolean))
abbrev y_Pl_tenthsCounted : am_Y := (⟨"RateChains$Plants", "tenthsCounted", "(II)I"⟩, prog_4_method_12_code, 3, (some .int))
abbrev y_Pl_isBare : am_Y := (⟨"RateChains$Plants", "isBare", "(II)Z"⟩, prog_4_method_11_code, 3, (some .boolean))
abbrev y_Pl_isPointWithAverage : am_Y := (⟨"RateChains$Plants", "isPointWithAverage", "(II)Z"⟩, prog_4_method_9_code, 3, (some .boolean))
abbrev y_So_init : am_Y := (⟨"RateChains$Solved", "<init>", "()V"⟩, prog_5_method_1_code, 1, none)
abbrev y_So_keep : am_Y := (⟨"RateChains$Solved", "keep", "(LRateChains$Plants;LRateChains$Feeds;[J)V"⟩, prog_5_method_12_code, 5, none)
abbrev y_So_keepWorths : am_Y := (⟨"RateChains$Solved", "keepWorths", "(LRateChains$Plants;I)V"⟩, prog_5_method_13_code, 4, none)
abbrev y_So_clearSums : am_Y := (⟨"RateChains$Solved", "clearSums", "()V"⟩, prog_5_method_14_code, 2, none)
abbrev y_So_clear : am_Y := (⟨"RateChains$Solved", "clear", "([J)V"⟩, prog_5_method_22_code, 2, none)
abbrev y_So_addMetals : am_Y := (⟨"RateChains$Solved", "addMetals", "([J)V"⟩, prog_5_method_15_code, 5, none)
abbrev y_So_place : am_Y := (⟨"RateChains$Solved", "place", "(III)I"⟩, prog_5_method_23_code, 3, (some .int))
abbrev y_So_addFeed : am_Y := (⟨"RateChains$Solved", "addFeed", "(LRateChains$Feeds;I)V"⟩, prog_5_method_16_code, 8, none)
abbrev y_So_fillStocks : am_Y := (⟨"RateChains$Solved", "fillStocks", "()V"⟩, prog_5_method_17_code, 5, none)
abbrev y_So_down : am_Y := (⟨"RateChains$Solved", "down", "(JI)J"⟩, prog_5_method_21_code, 4, (some .long))
abbrev y_So_markLostBare : am_Y := (⟨"RateChains$Solved", "markLostBare", "(LRateChains$Plants;LRateChains$Feeds;I)V"⟩, prog_5_method_18_code, 5, none)
abbrev y_So_findCame : am_Y := (⟨"RateChains$Solved", "findCame", "(LRateChains$Plants;LRateChains$Feeds;I)V"⟩, prog_5_method_19_code, 6, none)
abbrev y_So_markNext : am_Y := (⟨"RateChains$Solved", "markNext", "(LRateChains$Plants;I)V"⟩, prog_5_method_20_code, 4, none)
abbrev y_So_isThere : am_Y := (⟨"RateChains$Solved", "isThere", "()Z"⟩, prog_5_method_2_code, 1, (some .boolean))
abbrev y_So_aboveOf : am_Y := (⟨"RateChains$Solved", "aboveOf", "(II)J"⟩, prog_5_method_5_code, 6, (some .long))
abbrev y_So_aboveOfCountry : am_Y := (⟨"RateChains$Solved", "aboveOfCountry", "(III)J"⟩, prog_5_method_4_code, 4, (some .long))
abbrev y_So_belowOf : am_Y := (⟨"RateChains$Solved", "belowOf", "(I)J"⟩, prog_5_method_3_code, 2, (some .long))
abbrev y_So_lostBareAt : am_Y := (⟨"RateChains$Solved", "lostBareAt", "(I)Z"⟩, prog_5_method_8_code, 2, (some .boolean))
abbrev y_So_isNeverMoreThanBrought : am_Y := (⟨"RateChains$Solved", "isNeverMoreThanBrought", "()Z"⟩, prog_5_method_10_code, 3, (some .boolean))
abbrev y_So_take : am_Y := (⟨"RateChains$Solved", "take", "(IIIJ)J"⟩, prog_5_method_11_code, 14, (some .long))
abbrev y_So_stockOf : am_Y := (⟨"RateChains$Solved", "stockOf", "(III)J"⟩, prog_5_method_7_code, 4, (some .long))
abbrev y_So_difference : am_Y := (⟨"RateChains$Solved", "difference", "(IIII)J"⟩, prog_5_method_9_code, 8, (some .long))
abbrev y_So_wholeGrams : am_Y := (⟨"RateChains$Solved", "wholeGrams", "(II)J"⟩, prog_5_method_6_code, 3, (some .long))
abbrev y_Te_init : am_Y := (⟨"RateChains$Text", "<init>", "()V"⟩, prog_6_method_1_code, 1, none)
abbrev y_Te_add : am_Y := (⟨"RateChains$Text", "add", "(I)Z"⟩, prog_6_method_2_code, 2, (some .boolean))
abbrev y_Te_filledAt : am_Y := (⟨"RateChains$Text", "filledAt", "(ILRateChains$Solved;)I"⟩, prog_6_method_3_code, 7, (some .int))
abbrev y_Te_isMark : am_Y := (⟨"RateChains$Text", "isMark", "(I)Z"⟩, prog_6_method_4_code, 2, (some .boolean))
abbrev y_Te_widthOf : am_Y := (⟨"RateChains$Text", "widthOf", "(ILRateChains$Solved;)I"⟩, prog_6_method_6_code, 6, (some .int))
abbrev y_Te_numberOf : am_Y := (⟨"RateChains$Text", "numberOf", "(ILRateChains$Solved;)J"⟩, prog_6_method_5_code, 3, (some .long))
abbrev y_Te_numberByte : am_Y := (⟨"RateChains$Text", "numberByte", "(IILRateChains$Solved;)I"⟩, prog_6_method_7_code, 7, (some .int))
abbrev y_Wo_init : am_Y := (⟨"RateChains$Worths", "<init>", "()V"⟩, prog_7_method_1_code, 1, none)
abbrev y_Wo_find : am_Y := (⟨"RateChains$Worths", "find", "(LRateChains$Plants;I)J"⟩, prog_7_method_2_code, 8, (some .long))
abbrev y_Wo_fill : am_Y := (⟨"RateChains$Worths", "fill", "(LRateChains$Plants;I)V"⟩, prog_7_method_4_code, 6, none)
abbrev y_Wo_clearColumn : am_Y := (⟨"RateChains$Worths", "clearColumn", "(IJ)V"⟩, prog_7_method_5_code, 5, none)
abbrev y_Wo_clearRow : am_Y := (⟨"RateChains$Worths", "clearRow", "(IIJ)V"⟩, prog_7_method_6_code, 10, none)
abbrev y_Wo_aboveOf : am_Y := (⟨"RateChains$Worths", "aboveOf", "(I)J"⟩, prog_7_method_3_code, 2, (some .long))
abbrev y_RC_init : am_Y := (⟨"RateChains", "<init>", "()V"⟩, prog_1_method_1_code, 1, none)
abbrev y_RC_plant : am_Y := (⟨"RateChains", "plant", "()I"⟩, prog_1_method_2_code, 1, (some .int))
abbrev y_RC_share : am_Y := (⟨"RateChains", "share", "(IIJJ)Z"⟩, prog_1_method_3_code, 8, (some .boolean))
abbrev y_RC_tenthsOf : am_Y := (⟨"RateChains", "tenthsOf", "(JJ)I"⟩, prog_1_method_30_code, 5, (some .int))
abbrev y_RC_point : am_Y := (⟨"RateChains", "point", "(II)Z"⟩, prog_1_method_4_code, 3, (some .boolean))
abbrev y_RC_isKind : am_Y := (⟨"RateChains", "isKind", "(I)Z"⟩, prog_1_method_23_code, 1, (some .boolean))
abbrev y_RC_slotOf : am_Y := (⟨"RateChains", "slotOf", "(II)I"⟩, prog_1_method_29_code, 2, (some .int))
abbrev y_RC_average : am_Y := (⟨"RateChains", "average", "(IJJ)Z"⟩, prog_1_method_5_code, 7, (some .boolean))
abbrev y_RC_feed : am_Y := (⟨"RateChains", "feed", "(IIJII)Z"⟩, prog_1_method_6_code, 7, (some .boolean))
abbrev y_RC_isYear : am_Y := (⟨"RateChains", "isYear", "(I)Z"⟩, prog_1_method_24_code, 1, (some .boolean))
abbrev y_RC_isCountry : am_Y := (⟨"RateChains", "isCountry", "(I)Z"⟩, prog_1_method_25_code, 1, (some .boolean))
abbrev y_RC_isWithin : am_Y := (⟨"RateChains", "isWithin", "(JJJ)Z"⟩, prog_1_method_27_code, 6, (some .boolean))
abbrev y_RC_metals : am_Y := (⟨"RateChains", "metals", "(IJ)Z"⟩, prog_1_method_7_code, 4, (some .boolean))
abbrev y_RC_placed : am_Y := (⟨"RateChains", "placed", "(IIJ)Z"⟩, prog_1_method_8_code, 5, (some .boolean))
abbrev y_RC_cell : am_Y := (⟨"RateChains", "cell", "(II)I"⟩, prog_1_method_28_code, 2, (some .int))
abbrev y_RC_solve : am_Y := (⟨"RateChains", "solve", "()I"⟩, prog_1_method_9_code, 2, (some .int))
abbrev y_RC_counted : am_Y := (⟨"RateChains", "counted", "(III)J"⟩, prog_1_method_10_code, 4, (some .long))
abbrev y_RC_isPart : am_Y := (⟨"RateChains", "isPart", "(I)Z"⟩, prog_1_method_26_code, 1, (some .boolean))
abbrev y_RC_partOf : am_Y := (⟨"RateChains", "partOf", "(JJI)J"⟩, prog_1_method_31_code, 7, (some .long))
abbrev y_RC_commonOf : am_Y := (⟨"RateChains", "commonOf", "(JJ)J"⟩, prog_1_method_32_code, 11, (some .long))
abbrev y_RC_rate : am_Y := (⟨"RateChains", "rate", "(III)J"⟩, prog_1_method_11_code, 8, (some .long))
abbrev y_RC_twice : am_Y := (⟨"RateChains", "twice", "(I)I"⟩, prog_1_method_12_code, 4, (some .int))
abbrev y_RC_told : am_Y := (⟨"RateChains", "told", "(I)I"⟩, prog_1_method_13_code, 4, (some .int))
abbrev y_RC_once : am_Y := (⟨"RateChains", "once", "()Z"⟩, prog_1_method_14_code, 1, (some .boolean))
abbrev y_RC_claim : am_Y := (⟨"RateChains", "claim", "(IIIJ)J"⟩, prog_1_method_15_code, 6, (some .long))
abbrev y_RC_hasStock : am_Y := (⟨"RateChains", "hasStock", "(III)Z"⟩, prog_1_method_22_code, 4, (some .boolean))
abbrev y_RC_left : am_Y := (⟨"RateChains", "left", "(III)J"⟩, prog_1_method_16_code, 4, (some .long))
abbrev y_RC_open : am_Y := (⟨"RateChains", "open", "(IIII)J"⟩, prog_1_method_17_code, 8, (some .long))
abbrev y_RC_audit : am_Y := (⟨"RateChains", "audit", "(JI)I"⟩, prog_1_method_18_code, 4, (some .int))
abbrev y_RC_drawn : am_Y := (⟨"RateChains", "drawn", "(I)I"⟩, prog_1_method_19_code, 2, (some .int))
abbrev y_RC_unit : am_Y := (⟨"RateChains", "unit", "(I)Z"⟩, prog_1_method_20_code, 2, (some .boolean))
abbrev y_RC_form : am_Y := (⟨"RateChains", "form", "(I)I"⟩, prog_1_method_21_code, 2, (some .int))
abbrev y_Mo_init : am_Y := (⟨"RateChainsModel", "<init>", "()V"⟩, prog_9_method_1_code, 1, none)
abbrev y_Mo_plant : am_Y := (⟨"RateChainsModel", "plant", "()I"⟩, prog_9_method_10_code, 1, (some .int))
abbrev y_Mo_share : am_Y := (⟨"RateChainsModel", "share", "(IIJJ)Z"⟩, prog_9_method_11_code, 9, (some .boolean))
abbrev y_Mo_isPlant : am_Y := (⟨"RateChainsModel", "isPlant", "(I)Z"⟩, prog_9_method_4_code, 2, (some .boolean))
abbrev y_Mo_isFraction : am_Y := (⟨"RateChainsModel", "isFraction", "(JJ)Z"⟩, prog_9_method_8_code, 4, (some .boolean))
abbrev y_Mo_isIn : am_Y := (⟨"RateChainsModel", "isIn", "(JJJ)Z"⟩, prog_9_method_3_code, 6, (some .boolean))
abbrev y_Mo_point : am_Y := (⟨"RateChainsModel", "point", "(II)Z"⟩, prog_9_method_12_code, 3, (some .boolean))
abbrev y_Mo_isKind : am_Y := (⟨"RateChainsModel", "isKind", "(I)Z"⟩, prog_9_method_5_code, 1, (some .boolean))
abbrev y_Mo_average : am_Y := (⟨"RateChainsModel", "average", "(IJJ)Z"⟩, prog_9_method_13_code, 6, (some .boolean))
abbrev y_Mo_feed : am_Y := (⟨"RateChainsModel", "feed", "(IIJII)Z"⟩, prog_9_method_14_code, 7, (some .boolean))
abbrev y_Mo_isYear : am_Y := (⟨"RateChainsModel", "isYear", "(I)Z"⟩, prog_9_method_6_code, 1, (some .boolean))
abbrev y_Mo_isCountry : am_Y := (⟨"RateChainsModel", "isCountry", "(I)Z"⟩, prog_9_method_7_code, 1, (some .boolean))
abbrev y_Mo_metals : am_Y := (⟨"RateChainsModel", "metals", "(IJ)Z"⟩, prog_9_method_15_code, 4, (some .boolean))
abbrev y_Mo_placed : am_Y := (⟨"RateChainsModel", "placed", "(IIJ)Z"⟩, prog_9_method_16_code, 5, (some .boolean))
abbrev y_Mo_solve : am_Y := (⟨"RateChainsModel", "solve", "()I"⟩, prog_9_method_24_code, 9, (some .int))
abbrev y_Mo_ends : am_Y := (⟨"RateChainsModel", "ends", "(II)Z"⟩, prog_9_method_18_code, 8, (some .boolean))
abbrev y_Mo_shared : am_Y := (⟨"RateChainsModel", "shared", "(I)I"⟩, prog_9_method_17_code, 4, (some .int))
abbrev y_Mo_layOut : am_Y := (⟨"RateChainsModel", "layOut", "(I)V"⟩, prog_9_method_21_code, 5, none)
abbrev y_Mo_put : am_Y := (⟨"RateChainsModel", "put", "(IJJ)V"⟩, prog_9_method_19_code, 8, none)
abbrev y_Mo_common : am_Y := (⟨"RateChainsModel", "common", "(JJ)J"⟩, prog_9_method_9_code, 10, (some .long))
abbrev y_Mo_eliminate : am_Y := (⟨"RateChainsModel", "eliminate", "()V"⟩, prog_9_method_23_code, 11, none)
abbrev y_Mo_swap : am_Y := (⟨"RateChainsModel", "swap", "(II)V"⟩, prog_9_method_22_code, 8, none)
abbrev y_Mo_lessen : am_Y := (⟨"RateChainsModel", "lessen", "(IJJI)V"⟩, prog_9_method_20_code, 13, none)
abbrev y_Mo_noteBare : am_Y := (⟨"RateChainsModel", "noteBare", "()V"⟩, prog_9_method_25_code, 7, none)
abbrev y_Mo_counted : am_Y := (⟨"RateChainsModel", "counted", "(III)J"⟩, prog_9_method_30_code, 4, (some .long))
abbrev y_Mo_count : am_Y := (⟨"RateChainsModel", "count", "(III)V"⟩, prog_9_method_29_code, 4, none)
abbrev y_Mo_nothing : am_Y := (⟨"RateChainsModel", "nothing", "()V"⟩, prog_9_method_26_code, 1, none)
abbrev y_Mo_sum : am_Y := (⟨"RateChainsModel", "sum", "(IIII)V"⟩, prog_9_method_28_code, 10, none)
abbrev y_Mo_add : am_Y := (⟨"RateChainsModel", "add", "(JJ)V"⟩, prog_9_method_27_code, 11, none)
abbrev y_Mo_rate : am_Y := (⟨"RateChainsModel", "rate", "(III)J"⟩, prog_9_method_31_code, 12, (some .long))
abbrev y_Mo_twice : am_Y := (⟨"RateChainsModel", "twice", "(I)I"⟩, prog_9_method_32_code, 4, (some .int))
abbrev y_Mo_told : am_Y := (⟨"RateChainsModel", "told", "(I)I"⟩, prog_9_method_33_code, 6, (some .int))
abbrev y_Mo_once : am_Y := (⟨"RateChainsModel", "once", "()Z"⟩, prog_9_method_34_code, 7, (some .boolean))
abbrev y_Mo_left : am_Y := (⟨"RateChainsModel", "left", "(III)J"⟩, prog_9_method_36_code, 4, (some .long))
abbrev y_Mo_stock : am_Y := (⟨"RateChainsModel", "stock", "(III)J"⟩, prog_9_method_35_code, 4, (some .long))
abbrev y_Mo_claim : am_Y := (⟨"RateChainsModel", "claim", "(IIIJ)J"⟩, prog_9_method_37_code, 15, (some .long))
abbrev y_Mo_open : am_Y := (⟨"RateChainsModel", "open", "(IIII)J"⟩, prog_9_method_38_code, 5, (some .long))
abbrev y_Mo_audit : am_Y := (⟨"RateChainsModel", "audit", "(JI)I"⟩, prog_9_method_39_code, 9, (some .int))
abbrev y_Mo_drawn : am_Y := (⟨"RateChainsModel", "drawn", "(I)I"⟩, prog_9_method_40_code, 2, (some .int))
abbrev y_Mo_unit : am_Y := (⟨"RateChainsModel", "unit", "(I)Z"⟩, prog_9_method_41_code, 2, (some .boolean))
abbrev y_Mo_form : am_Y := (⟨"RateChainsModel", "form", "(I)I"⟩, prog_9_method_45_code, 8, (some .int))
abbrev y_Mo_isNumberAt : am_Y := (⟨"RateChainsModel", "isNumberAt", "(I)Z"⟩, prog_9_method_42_code, 2, (some .boolean))
abbrev y_Mo_length : am_Y := (⟨"RateChainsModel", "length", "(J)I"⟩, prog_9_method_43_code, 5, (some .int))
abbrev y_Mo_digit : am_Y := (⟨"RateChainsModel", "digit", "(JI)I"⟩, prog_9_method_44_code, 6, (some .int))
