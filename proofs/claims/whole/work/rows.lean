section
-- ===== PART A: goes FIRST, ahead of the names: the tables' words, and 'selects' of the private methods out of them =====
/-- a private method of a class that the tables say can be made, by its rows of tables_1 -/
def lw_okq (q : MethodName × Nat) : Prop := (q.1.cls ≠ "java/lang/invoke/MethodHandle" ∧ q.1.cls ≠ "java/lang/invoke/VarHandle") ∧ Cond.instantiable q.1.cls q.2 ∈ tables_1 ∧ Cond.privateMethod q.1 ∈ tables_1 ∧ Cond.instanceMethod q.1 ∈ tables_1
theorem lw_p0 : lw_okq (⟨"RateChains$Plants", "leastInRingOf", "(I)I"⟩, 7) := ⟨⟨by decide +kernel, by decide +kernel⟩, List.mem_of_getElem? (i := 19) (by decide +kernel), List.mem_of_getElem? (i := 266) (by decide +kernel), List.mem_of_getElem? (i := 267) (by decide +kernel)⟩
theorem lw_p1 : lw_okq (⟨"RateChains$Plants", "findEnds", "(I)V"⟩, 7) := ⟨⟨by decide +kernel, by decide +kernel⟩, List.mem_of_getElem? (i := 19) (by decide +kernel), List.mem_of_getElem? (i := 270) (by decide +kernel), List.mem_of_getElem? (i := 271) (by decide +kernel)⟩
theorem lw_p2 : lw_okq (⟨"RateChains$Plants", "goesToAnEnd", "(I)Z"⟩, 7) := ⟨⟨by decide +kernel, by decide +kernel⟩, List.mem_of_getElem? (i := 19) (by decide +kernel), List.mem_of_getElem? (i := 278) (by decide +kernel), List.mem_of_getElem? (i := 279) (by decide +kernel)⟩
theorem lw_p3 : lw_okq (⟨"RateChains$Solved", "keepWorths", "(LRateChains$Plants;I)V"⟩, 10) := ⟨⟨by decide +kernel, by decide +kernel⟩, List.mem_of_getElem? (i := 75) (by decide +kernel), List.mem_of_getElem? (i := 286) (by decide +kernel), List.mem_of_getElem? (i := 287) (by decide +kernel)⟩
theorem lw_p4 : lw_okq (⟨"RateChains$Worths", "fill", "(LRateChains$Plants;I)V"⟩, 1) := ⟨⟨by decide +kernel, by decide +kernel⟩, List.mem_of_getElem? (i := 81) (by decide +kernel), List.mem_of_getElem? (i := 294) (by decide +kernel), List.mem_of_getElem? (i := 295) (by decide +kernel)⟩
theorem lw_p5 : lw_okq (⟨"RateChains$Worths", "clearColumn", "(IJ)V"⟩, 1) := ⟨⟨by decide +kernel, by decide +kernel⟩, List.mem_of_getElem? (i := 81) (by decide +kernel), List.mem_of_getElem? (i := 305) (by decide +kernel), List.mem_of_getElem? (i := 306) (by decide +kernel)⟩
theorem lw_p6 : lw_okq (⟨"RateChains$Worths", "clearRow", "(IIJ)V"⟩, 1) := ⟨⟨by decide +kernel, by decide +kernel⟩, List.mem_of_getElem? (i := 81) (by decide +kernel), List.mem_of_getElem? (i := 309) (by decide +kernel), List.mem_of_getElem? (i := 310) (by decide +kernel)⟩
theorem lw_p7 : lw_okq (⟨"RateChains$Solved", "clearSums", "()V"⟩, 10) := ⟨⟨by decide +kernel, by decide +kernel⟩, List.mem_of_getElem? (i := 75) (by decide +kernel), List.mem_of_getElem? (i := 318) (by decide +kernel), List.mem_of_getElem? (i := 319) (by decide +kernel)⟩
theorem lw_p8 : lw_okq (⟨"RateChains$Solved", "addMetals", "([J)V"⟩, 10) := ⟨⟨by decide +kernel, by decide +kernel⟩, List.mem_of_getElem? (i := 75) (by decide +kernel), List.mem_of_getElem? (i := 325) (by decide +kernel), List.mem_of_getElem? (i := 326) (by decide +kernel)⟩
theorem lw_p9 : lw_okq (⟨"RateChains$Solved", "addFeed", "(LRateChains$Feeds;I)V"⟩, 10) := ⟨⟨by decide +kernel, by decide +kernel⟩, List.mem_of_getElem? (i := 75) (by decide +kernel), List.mem_of_getElem? (i := 337) (by decide +kernel), List.mem_of_getElem? (i := 338) (by decide +kernel)⟩
theorem lw_p10 : lw_okq (⟨"RateChains$Solved", "fillStocks", "()V"⟩, 10) := ⟨⟨by decide +kernel, by decide +kernel⟩, List.mem_of_getElem? (i := 75) (by decide +kernel), List.mem_of_getElem? (i := 361) (by decide +kernel), List.mem_of_getElem? (i := 362) (by decide +kernel)⟩
theorem lw_p11 : lw_okq (⟨"RateChains$Solved", "down", "(JI)J"⟩, 10) := ⟨⟨by decide +kernel, by decide +kernel⟩, List.mem_of_getElem? (i := 75) (by decide +kernel), List.mem_of_getElem? (i := 365) (by decide +kernel), List.mem_of_getElem? (i := 366) (by decide +kernel)⟩
theorem lw_p12 : lw_okq (⟨"RateChains$Solved", "markLostBare", "(LRateChains$Plants;LRateChains$Feeds;I)V"⟩, 10) := ⟨⟨by decide +kernel, by decide +kernel⟩, List.mem_of_getElem? (i := 75) (by decide +kernel), List.mem_of_getElem? (i := 369) (by decide +kernel), List.mem_of_getElem? (i := 370) (by decide +kernel)⟩
theorem lw_p13 : lw_okq (⟨"RateChains$Solved", "findCame", "(LRateChains$Plants;LRateChains$Feeds;I)V"⟩, 10) := ⟨⟨by decide +kernel, by decide +kernel⟩, List.mem_of_getElem? (i := 75) (by decide +kernel), List.mem_of_getElem? (i := 373) (by decide +kernel), List.mem_of_getElem? (i := 374) (by decide +kernel)⟩
theorem lw_p14 : lw_okq (⟨"RateChains$Solved", "markNext", "(LRateChains$Plants;I)V"⟩, 10) := ⟨⟨by decide +kernel, by decide +kernel⟩, List.mem_of_getElem? (i := 75) (by decide +kernel), List.mem_of_getElem? (i := 378) (by decide +kernel), List.mem_of_getElem? (i := 379) (by decide +kernel)⟩
theorem lw_p15 : lw_okq (⟨"RateChains", "hasStock", "(III)Z"⟩, 7) := ⟨⟨by decide +kernel, by decide +kernel⟩, List.mem_of_getElem? (i := 11) (by decide +kernel), List.mem_of_getElem? (i := 451) (by decide +kernel), List.mem_of_getElem? (i := 452) (by decide +kernel)⟩
def lw_privs_1 : List (MethodName × Nat) := [(⟨"RateChains$Plants", "leastInRingOf", "(I)I"⟩, 7), (⟨"RateChains$Plants", "findEnds", "(I)V"⟩, 7), (⟨"RateChains$Plants", "goesToAnEnd", "(I)Z"⟩, 7), (⟨"RateChains$Solved", "keepWorths", "(LRateChains$Plants;I)V"⟩, 10), (⟨"RateChains$Worths", "fill", "(LRateChains$Plants;I)V"⟩, 1), (⟨"RateChains$Worths", "clearColumn", "(IJ)V"⟩, 1), (⟨"RateChains$Worths", "clearRow", "(IIJ)V"⟩, 1), (⟨"RateChains$Solved", "clearSums", "()V"⟩, 10), (⟨"RateChains$Solved", "addMetals", "([J)V"⟩, 10), (⟨"RateChains$Solved", "addFeed", "(LRateChains$Feeds;I)V"⟩, 10), (⟨"RateChains$Solved", "fillStocks", "()V"⟩, 10), (⟨"RateChains$Solved", "down", "(JI)J"⟩, 10), (⟨"RateChains$Solved", "markLostBare", "(LRateChains$Plants;LRateChains$Feeds;I)V"⟩, 10), (⟨"RateChains$Solved", "findCame", "(LRateChains$Plants;LRateChains$Feeds;I)V"⟩, 10), (⟨"RateChains$Solved", "markNext", "(LRateChains$Plants;I)V"⟩, 10), (⟨"RateChains", "hasStock", "(III)Z"⟩, 7)]
theorem lw_r1 : ∀ q ∈ lw_privs_1, lw_okq q := List.forall_mem_cons.mpr ⟨lw_p0, List.forall_mem_cons.mpr ⟨lw_p1, List.forall_mem_cons.mpr ⟨lw_p2, List.forall_mem_cons.mpr ⟨lw_p3, List.forall_mem_cons.mpr ⟨lw_p4, List.forall_mem_cons.mpr ⟨lw_p5, List.forall_mem_cons.mpr ⟨lw_p6, List.forall_mem_cons.mpr ⟨lw_p7, List.forall_mem_cons.mpr ⟨lw_p8, List.forall_mem_cons.mpr ⟨lw_p9, List.forall_mem_cons.mpr ⟨lw_p10, List.forall_mem_cons.mpr ⟨lw_p11, List.forall_mem_cons.mpr ⟨lw_p12, List.forall_mem_cons.mpr ⟨lw_p13, List.forall_mem_cons.mpr ⟨lw_p14, List.forall_mem_cons.mpr ⟨lw_p15, fun _ h => absurd h List.not_mem_nil⟩⟩⟩⟩⟩⟩⟩⟩⟩⟩⟩⟩⟩⟩⟩⟩
theorem lw_p16 : lw_okq (⟨"RateChains$Draw", "swap", "(II)V"⟩, 2) := ⟨⟨by decide +kernel, by decide +kernel⟩, List.mem_of_getElem? (i := 124) (by decide +kernel), List.mem_of_getElem? (i := 495) (by decide +kernel), List.mem_of_getElem? (i := 496) (by decide +kernel)⟩
theorem lw_p17 : lw_okq (⟨"RateChains$Text", "isMark", "(I)Z"⟩, 2) := ⟨⟨by decide +kernel, by decide +kernel⟩, List.mem_of_getElem? (i := 137) (by decide +kernel), List.mem_of_getElem? (i := 523) (by decide +kernel), List.mem_of_getElem? (i := 524) (by decide +kernel)⟩
theorem lw_p18 : lw_okq (⟨"RateChains$Text", "widthOf", "(ILRateChains$Solved;)I"⟩, 2) := ⟨⟨by decide +kernel, by decide +kernel⟩, List.mem_of_getElem? (i := 137) (by decide +kernel), List.mem_of_getElem? (i := 529) (by decide +kernel), List.mem_of_getElem? (i := 530) (by decide +kernel)⟩
theorem lw_p19 : lw_okq (⟨"RateChains$Text", "numberOf", "(ILRateChains$Solved;)J"⟩, 2) := ⟨⟨by decide +kernel, by decide +kernel⟩, List.mem_of_getElem? (i := 137) (by decide +kernel), List.mem_of_getElem? (i := 534) (by decide +kernel), List.mem_of_getElem? (i := 535) (by decide +kernel)⟩
theorem lw_p20 : lw_okq (⟨"RateChains$Text", "numberByte", "(IILRateChains$Solved;)I"⟩, 2) := ⟨⟨by decide +kernel, by decide +kernel⟩, List.mem_of_getElem? (i := 137) (by decide +kernel), List.mem_of_getElem? (i := 543) (by decide +kernel), List.mem_of_getElem? (i := 544) (by decide +kernel)⟩
theorem lw_p21 : lw_okq (⟨"RateChainsModel", "isPlant", "(I)Z"⟩, 29) := ⟨⟨by decide +kernel, by decide +kernel⟩, List.mem_of_getElem? (i := 547) (by decide +kernel), List.mem_of_getElem? (i := 649) (by decide +kernel), List.mem_of_getElem? (i := 650) (by decide +kernel)⟩
theorem lw_p22 : lw_okq (⟨"RateChainsModel", "ends", "(II)Z"⟩, 29) := ⟨⟨by decide +kernel, by decide +kernel⟩, List.mem_of_getElem? (i := 547) (by decide +kernel), List.mem_of_getElem? (i := 697) (by decide +kernel), List.mem_of_getElem? (i := 698) (by decide +kernel)⟩
theorem lw_p23 : lw_okq (⟨"RateChainsModel", "shared", "(I)I"⟩, 29) := ⟨⟨by decide +kernel, by decide +kernel⟩, List.mem_of_getElem? (i := 547) (by decide +kernel), List.mem_of_getElem? (i := 701) (by decide +kernel), List.mem_of_getElem? (i := 702) (by decide +kernel)⟩
theorem lw_p24 : lw_okq (⟨"RateChainsModel", "layOut", "(I)V"⟩, 29) := ⟨⟨by decide +kernel, by decide +kernel⟩, List.mem_of_getElem? (i := 547) (by decide +kernel), List.mem_of_getElem? (i := 705) (by decide +kernel), List.mem_of_getElem? (i := 706) (by decide +kernel)⟩
theorem lw_p25 : lw_okq (⟨"RateChainsModel", "put", "(IJJ)V"⟩, 29) := ⟨⟨by decide +kernel, by decide +kernel⟩, List.mem_of_getElem? (i := 547) (by decide +kernel), List.mem_of_getElem? (i := 709) (by decide +kernel), List.mem_of_getElem? (i := 710) (by decide +kernel)⟩
theorem lw_p26 : lw_okq (⟨"RateChainsModel", "eliminate", "()V"⟩, 29) := ⟨⟨by decide +kernel, by decide +kernel⟩, List.mem_of_getElem? (i := 547) (by decide +kernel), List.mem_of_getElem? (i := 716) (by decide +kernel), List.mem_of_getElem? (i := 717) (by decide +kernel)⟩
theorem lw_p27 : lw_okq (⟨"RateChainsModel", "swap", "(II)V"⟩, 29) := ⟨⟨by decide +kernel, by decide +kernel⟩, List.mem_of_getElem? (i := 547) (by decide +kernel), List.mem_of_getElem? (i := 720) (by decide +kernel), List.mem_of_getElem? (i := 721) (by decide +kernel)⟩
theorem lw_p28 : lw_okq (⟨"RateChainsModel", "lessen", "(IJJI)V"⟩, 29) := ⟨⟨by decide +kernel, by decide +kernel⟩, List.mem_of_getElem? (i := 547) (by decide +kernel), List.mem_of_getElem? (i := 724) (by decide +kernel), List.mem_of_getElem? (i := 725) (by decide +kernel)⟩
theorem lw_p29 : lw_okq (⟨"RateChainsModel", "noteBare", "()V"⟩, 29) := ⟨⟨by decide +kernel, by decide +kernel⟩, List.mem_of_getElem? (i := 547) (by decide +kernel), List.mem_of_getElem? (i := 728) (by decide +kernel), List.mem_of_getElem? (i := 729) (by decide +kernel)⟩
theorem lw_p30 : lw_okq (⟨"RateChainsModel", "count", "(III)V"⟩, 29) := ⟨⟨by decide +kernel, by decide +kernel⟩, List.mem_of_getElem? (i := 547) (by decide +kernel), List.mem_of_getElem? (i := 737) (by decide +kernel), List.mem_of_getElem? (i := 738) (by decide +kernel)⟩
theorem lw_p31 : lw_okq (⟨"RateChainsModel", "nothing", "()V"⟩, 29) := ⟨⟨by decide +kernel, by decide +kernel⟩, List.mem_of_getElem? (i := 547) (by decide +kernel), List.mem_of_getElem? (i := 741) (by decide +kernel), List.mem_of_getElem? (i := 742) (by decide +kernel)⟩
def lw_privs_2 : List (MethodName × Nat) := [(⟨"RateChains$Draw", "swap", "(II)V"⟩, 2), (⟨"RateChains$Text", "isMark", "(I)Z"⟩, 2), (⟨"RateChains$Text", "widthOf", "(ILRateChains$Solved;)I"⟩, 2), (⟨"RateChains$Text", "numberOf", "(ILRateChains$Solved;)J"⟩, 2), (⟨"RateChains$Text", "numberByte", "(IILRateChains$Solved;)I"⟩, 2), (⟨"RateChainsModel", "isPlant", "(I)Z"⟩, 29), (⟨"RateChainsModel", "ends", "(II)Z"⟩, 29), (⟨"RateChainsModel", "shared", "(I)I"⟩, 29), (⟨"RateChainsModel", "layOut", "(I)V"⟩, 29), (⟨"RateChainsModel", "put", "(IJJ)V"⟩, 29), (⟨"RateChainsModel", "eliminate", "()V"⟩, 29), (⟨"RateChainsModel", "swap", "(II)V"⟩, 29), (⟨"RateChainsModel", "lessen", "(IJJI)V"⟩, 29), (⟨"RateChainsModel", "noteBare", "()V"⟩, 29), (⟨"RateChainsModel", "count", "(III)V"⟩, 29), (⟨"RateChainsModel", "nothing", "()V"⟩, 29)]
theorem lw_r2 : ∀ q ∈ lw_privs_2, lw_okq q := List.forall_mem_cons.mpr ⟨lw_p16, List.forall_mem_cons.mpr ⟨lw_p17, List.forall_mem_cons.mpr ⟨lw_p18, List.forall_mem_cons.mpr ⟨lw_p19, List.forall_mem_cons.mpr ⟨lw_p20, List.forall_mem_cons.mpr ⟨lw_p21, List.forall_mem_cons.mpr ⟨lw_p22, List.forall_mem_cons.mpr ⟨lw_p23, List.forall_mem_cons.mpr ⟨lw_p24, List.forall_mem_cons.mpr ⟨lw_p25, List.forall_mem_cons.mpr ⟨lw_p26, List.forall_mem_cons.mpr ⟨lw_p27, List.forall_mem_cons.mpr ⟨lw_p28, List.forall_mem_cons.mpr ⟨lw_p29, List.forall_mem_cons.mpr ⟨lw_p30, List.forall_mem_cons.mpr ⟨lw_p31, fun _ h => absurd h List.not_mem_nil⟩⟩⟩⟩⟩⟩⟩⟩⟩⟩⟩⟩⟩⟩⟩⟩
theorem lw_p32 : lw_okq (⟨"RateChainsModel", "sum", "(IIII)V"⟩, 29) := ⟨⟨by decide +kernel, by decide +kernel⟩, List.mem_of_getElem? (i := 547) (by decide +kernel), List.mem_of_getElem? (i := 745) (by decide +kernel), List.mem_of_getElem? (i := 746) (by decide +kernel)⟩
theorem lw_p33 : lw_okq (⟨"RateChainsModel", "add", "(JJ)V"⟩, 29) := ⟨⟨by decide +kernel, by decide +kernel⟩, List.mem_of_getElem? (i := 547) (by decide +kernel), List.mem_of_getElem? (i := 749) (by decide +kernel), List.mem_of_getElem? (i := 750) (by decide +kernel)⟩
theorem lw_p34 : lw_okq (⟨"RateChainsModel", "stock", "(III)J"⟩, 29) := ⟨⟨by decide +kernel, by decide +kernel⟩, List.mem_of_getElem? (i := 547) (by decide +kernel), List.mem_of_getElem? (i := 773) (by decide +kernel), List.mem_of_getElem? (i := 774) (by decide +kernel)⟩
theorem lw_p35 : lw_okq (⟨"RateChainsModel", "isNumberAt", "(I)Z"⟩, 29) := ⟨⟨by decide +kernel, by decide +kernel⟩, List.mem_of_getElem? (i := 547) (by decide +kernel), List.mem_of_getElem? (i := 804) (by decide +kernel), List.mem_of_getElem? (i := 805) (by decide +kernel)⟩
def lw_privs_3 : List (MethodName × Nat) := [(⟨"RateChainsModel", "sum", "(IIII)V"⟩, 29), (⟨"RateChainsModel", "add", "(JJ)V"⟩, 29), (⟨"RateChainsModel", "stock", "(III)J"⟩, 29), (⟨"RateChainsModel", "isNumberAt", "(I)Z"⟩, 29)]
theorem lw_r3 : ∀ q ∈ lw_privs_3, lw_okq q := List.forall_mem_cons.mpr ⟨lw_p32, List.forall_mem_cons.mpr ⟨lw_p33, List.forall_mem_cons.mpr ⟨lw_p34, List.forall_mem_cons.mpr ⟨lw_p35, fun _ h => absurd h List.not_mem_nil⟩⟩⟩⟩
def lw_privs : List (MethodName × Nat) := lw_privs_1 ++ (lw_privs_2 ++ (lw_privs_3))
def lw_tbl : List Cond := k2_sels lw_privs ++ tables_1
theorem lw_privs_ok : ∀ q ∈ lw_privs, lw_okq q := by
  show ∀ q ∈ lw_privs_1 ++ (lw_privs_2 ++ (lw_privs_3)), lw_okq q
  exact List.forall_mem_append.mpr ⟨lw_r1, List.forall_mem_append.mpr ⟨lw_r2, lw_r3⟩⟩
/-- the words that every method keeps -/
def am_G : List Cond := lw_tbl.filter goodWord
theorem am_in {w : Cond} (i : Nat) (h : lw_tbl[i]? = some w) (hg : goodWord w = true) : w ∈ am_G := List.mem_filter.mpr ⟨List.mem_of_getElem? h, hg⟩
theorem am_G_good : ∀ w ∈ am_G, goodWord w = true := fun _ h => (List.mem_filter.mp h).2
theorem am_G_tbl : ∀ w ∈ am_G, w ∈ lw_tbl := fun _ h => (List.mem_filter.mp h).1
end
section
def R_Dr : String := "RateChains$Draw"
def T_Dr : u_T := fun k => match k with
  | 0 => ("RateChains$Draw", "rows", "[I", true)
  | _ => ("RateChains$Draw", "count", "I", false)
def t_Dr : Nat → FieldType := fun k => match k with
  | 0 => .array .int
  | _ => .int
theorem n_Dr : ∀ a, a < 2 → ∀ b, b < 2 → a ≠ b → (T_Dr a).2.1 ≠ (T_Dr b).2.1 := by decide +kernel
theorem t_Dr_ok : ∀ k, k < 2 → parseFieldDescriptor (T_Dr k).2.2.1 = some (t_Dr k) := by decide +kernel
set_option maxRecDepth 20000 in
theorem i_Dr : ∀ w ∈ u_ws R_Dr T_Dr 2, w ∈ am_G := by
  have h : ∀ w ∈ u_ws R_Dr T_Dr 2, w ∈ lw_tbl ∧ goodWord w = true := by decide +kernel
  exact fun w hw => List.mem_filter.mpr (h w hw)
def R_Fe : String := "RateChains$Feeds"
def T_Fe : u_T := fun k => match k with
  | 0 => ("RateChains$Feeds", "plants", "[I", true)
  | 1 => ("RateChains$Feeds", "kinds", "[I", true)
  | 2 => ("RateChains$Feeds", "years", "[I", true)
  | 3 => ("RateChains$Feeds", "countries", "[I", true)
  | 4 => ("RateChains$Feeds", "grams", "[J", true)
  | _ => ("RateChains$Feeds", "size", "I", false)
def t_Fe : Nat → FieldType := fun k => match k with
  | 0 => .array .int
  | 1 => .array .int
  | 2 => .array .int
  | 3 => .array .int
  | 4 => .array .long
  | _ => .int
theorem n_Fe : ∀ a, a < 6 → ∀ b, b < 6 → a ≠ b → (T_Fe a).2.1 ≠ (T_Fe b).2.1 := by decide +kernel
theorem t_Fe_ok : ∀ k, k < 6 → parseFieldDescriptor (T_Fe k).2.2.1 = some (t_Fe k) := by decide +kernel
set_option maxRecDepth 20000 in
theorem i_Fe : ∀ w ∈ u_ws R_Fe T_Fe 6, w ∈ am_G := by
  have h : ∀ w ∈ u_ws R_Fe T_Fe 6, w ∈ lw_tbl ∧ goodWord w = true := by decide +kernel
  exact fun w hw => List.mem_filter.mpr (h w hw)
def R_Pl : String := "RateChains$Plants"
def T_Pl : u_T := fun k => match k with
  | 0 => ("RateChains$Plants", "shares", "[I", true)
  | 1 => ("RateChains$Plants", "shareSums", "[I", true)
  | 2 => ("RateChains$Plants", "points", "[Z", true)
  | 3 => ("RateChains$Plants", "averaged", "[Z", true)
  | 4 => ("RateChains$Plants", "losses", "[I", true)
  | 5 => ("RateChains$Plants", "ends", "[Z", true)
  | _ => ("RateChains$Plants", "size", "I", false)
def t_Pl : Nat → FieldType := fun k => match k with
  | 0 => .array .int
  | 1 => .array .int
  | 2 => .array .boolean
  | 3 => .array .boolean
  | 4 => .array .int
  | 5 => .array .boolean
  | _ => .int
theorem n_Pl : ∀ a, a < 7 → ∀ b, b < 7 → a ≠ b → (T_Pl a).2.1 ≠ (T_Pl b).2.1 := by decide +kernel
theorem t_Pl_ok : ∀ k, k < 7 → parseFieldDescriptor (T_Pl k).2.2.1 = some (t_Pl k) := by decide +kernel
set_option maxRecDepth 20000 in
theorem i_Pl : ∀ w ∈ u_ws R_Pl T_Pl 7, w ∈ am_G := by
  have h : ∀ w ∈ u_ws R_Pl T_Pl 7, w ∈ lw_tbl ∧ goodWord w = true := by decide +kernel
  exact fun w hw => List.mem_filter.mpr (h w hw)
def R_So : String := "RateChains$Solved"
def T_So : u_T := fun k => match k with
  | 0 => ("RateChains$Solved", "worths", "LRateChains$Worths;", true)
  | 1 => ("RateChains$Solved", "below", "[J", true)
  | 2 => ("RateChains$Solved", "worthAbove", "[J", true)
  | 3 => ("RateChains$Solved", "fedGrams", "[J", true)
  | 4 => ("RateChains$Solved", "broughtGrams", "[J", true)
  | 5 => ("RateChains$Solved", "countedAbove", "[J", true)
  | 6 => ("RateChains$Solved", "stocks", "[J", true)
  | 7 => ("RateChains$Solved", "came", "[Z", true)
  | 8 => ("RateChains$Solved", "lostBare", "[Z", true)
  | _ => ("RateChains$Solved", "there", "Z", false)
def t_So : Nat → FieldType := fun k => match k with
  | 0 => .object "RateChains$Worths"
  | 1 => .array .long
  | 2 => .array .long
  | 3 => .array .long
  | 4 => .array .long
  | 5 => .array .long
  | 6 => .array .long
  | 7 => .array .boolean
  | 8 => .array .boolean
  | _ => .boolean
theorem n_So : ∀ a, a < 10 → ∀ b, b < 10 → a ≠ b → (T_So a).2.1 ≠ (T_So b).2.1 := by decide +kernel
theorem t_So_ok : ∀ k, k < 10 → parseFieldDescriptor (T_So k).2.2.1 = some (t_So k) := by decide +kernel
set_option maxRecDepth 20000 in
theorem i_So : ∀ w ∈ u_ws R_So T_So 10, w ∈ am_G := by
  have h : ∀ w ∈ u_ws R_So T_So 10, w ∈ lw_tbl ∧ goodWord w = true := by decide +kernel
  exact fun w hw => List.mem_filter.mpr (h w hw)
def R_Te : String := "RateChains$Text"
def T_Te : u_T := fun k => match k with
  | 0 => ("RateChains$Text", "units", "[I", true)
  | _ => ("RateChains$Text", "size", "I", false)
def t_Te : Nat → FieldType := fun k => match k with
  | 0 => .array .int
  | _ => .int
theorem n_Te : ∀ a, a < 2 → ∀ b, b < 2 → a ≠ b → (T_Te a).2.1 ≠ (T_Te b).2.1 := by decide +kernel
theorem t_Te_ok : ∀ k, k < 2 → parseFieldDescriptor (T_Te k).2.2.1 = some (t_Te k) := by decide +kernel
set_option maxRecDepth 20000 in
theorem i_Te : ∀ w ∈ u_ws R_Te T_Te 2, w ∈ am_G := by
  have h : ∀ w ∈ u_ws R_Te T_Te 2, w ∈ lw_tbl ∧ goodWord w = true := by decide +kernel
  exact fun w hw => List.mem_filter.mpr (h w hw)
def R_Wo : String := "RateChains$Worths"
def T_Wo : u_T := fun k => match k with
  | _ => ("RateChains$Worths", "rows", "[[J", true)
def t_Wo : Nat → FieldType := fun k => match k with
  | _ => .array (.array .long)
theorem n_Wo : ∀ a, a < 1 → ∀ b, b < 1 → a ≠ b → (T_Wo a).2.1 ≠ (T_Wo b).2.1 := by decide +kernel
theorem t_Wo_ok : ∀ k, k < 1 → parseFieldDescriptor (T_Wo k).2.2.1 = some (t_Wo k) := by decide +kernel
set_option maxRecDepth 20000 in
theorem i_Wo : ∀ w ∈ u_ws R_Wo T_Wo 1, w ∈ am_G := by
  have h : ∀ w ∈ u_ws R_Wo T_Wo 1, w ∈ lw_tbl ∧ goodWord w = true := by decide +kernel
  exact fun w hw => List.mem_filter.mpr (h w hw)
def R_RC : String := "RateChains"
def T_RC : u_T := fun k => match k with
  | 0 => ("RateChains", "plants", "LRateChains$Plants;", true)
  | 1 => ("RateChains", "feeds", "LRateChains$Feeds;", true)
  | 2 => ("RateChains", "metalGrams", "[J", true)
  | 3 => ("RateChains", "placedGrams", "[J", true)
  | 4 => ("RateChains", "solved", "LRateChains$Solved;", true)
  | 5 => ("RateChains", "draw", "LRateChains$Draw;", true)
  | _ => ("RateChains", "text", "LRateChains$Text;", true)
def t_RC : Nat → FieldType := fun k => match k with
  | 0 => .object "RateChains$Plants"
  | 1 => .object "RateChains$Feeds"
  | 2 => .array .long
  | 3 => .array .long
  | 4 => .object "RateChains$Solved"
  | 5 => .object "RateChains$Draw"
  | _ => .object "RateChains$Text"
theorem n_RC : ∀ a, a < 7 → ∀ b, b < 7 → a ≠ b → (T_RC a).2.1 ≠ (T_RC b).2.1 := by decide +kernel
theorem t_RC_ok : ∀ k, k < 7 → parseFieldDescriptor (T_RC k).2.2.1 = some (t_RC k) := by decide +kernel
set_option maxRecDepth 20000 in
theorem i_RC : ∀ w ∈ u_ws R_RC T_RC 7, w ∈ am_G := by
  have h : ∀ w ∈ u_ws R_RC T_RC 7, w ∈ lw_tbl ∧ goodWord w = true := by decide +kernel
  exact fun w hw => List.mem_filter.mpr (h w hw)
def R_Mo : String := "RateChainsModel"
def T_Mo : u_T := fun k => match k with
  | 0 => ("RateChainsModel", "plants", "I", false)
  | 1 => ("RateChainsModel", "shares", "[I", true)
  | 2 => ("RateChainsModel", "points", "[Z", true)
  | 3 => ("RateChainsModel", "hasAverage", "[Z", true)
  | 4 => ("RateChainsModel", "averages", "[I", true)
  | 5 => ("RateChainsModel", "feeds", "I", false)
  | 6 => ("RateChainsModel", "feedPlant", "[I", true)
  | 7 => ("RateChainsModel", "feedKind", "[I", true)
  | 8 => ("RateChainsModel", "feedYear", "[I", true)
  | 9 => ("RateChainsModel", "feedCountry", "[I", true)
  | 10 => ("RateChainsModel", "feedGrams", "[J", true)
  | 11 => ("RateChainsModel", "metals", "[J", true)
  | 12 => ("RateChainsModel", "placed", "[J", true)
  | 13 => ("RateChainsModel", "isSolved", "Z", false)
  | 14 => ("RateChainsModel", "worthOver", "[J", true)
  | 15 => ("RateChainsModel", "worthUnder", "[J", true)
  | 16 => ("RateChainsModel", "wasBare", "[Z", true)
  | 17 => ("RateChainsModel", "solvedPlants", "I", false)
  | 18 => ("RateChainsModel", "solvedFeeds", "I", false)
  | 19 => ("RateChainsModel", "solvedMetals", "[J", true)
  | 20 => ("RateChainsModel", "taken", "[J", true)
  | 21 => ("RateChainsModel", "drawn", "I", false)
  | 22 => ("RateChainsModel", "draws", "[I", true)
  | 23 => ("RateChainsModel", "text", "[I", true)
  | 24 => ("RateChainsModel", "size", "I", false)
  | 25 => ("RateChainsModel", "over", "[J", true)
  | 26 => ("RateChainsModel", "under", "[J", true)
  | 27 => ("RateChainsModel", "sumOver", "J", false)
  | _ => ("RateChainsModel", "sumUnder", "J", false)
def t_Mo : Nat → FieldType := fun k => match k with
  | 0 => .int
  | 1 => .array .int
  | 2 => .array .boolean
  | 3 => .array .boolean
  | 4 => .array .int
  | 5 => .int
  | 6 => .array .int
  | 7 => .array .int
  | 8 => .array .int
  | 9 => .array .int
  | 10 => .array .long
  | 11 => .array .long
  | 12 => .array .long
  | 13 => .boolean
  | 14 => .array .long
  | 15 => .array .long
  | 16 => .array .boolean
  | 17 => .int
  | 18 => .int
  | 19 => .array .long
  | 20 => .array .long
  | 21 => .int
  | 22 => .array .int
  | 23 => .array .int
  | 24 => .int
  | 25 => .array .long
  | 26 => .array .long
  | 27 => .long
  | _ => .long
theorem n_Mo : ∀ a, a < 29 → ∀ b, b < 29 → a ≠ b → (T_Mo a).2.1 ≠ (T_Mo b).2.1 := by decide +kernel
theorem t_Mo_ok : ∀ k, k < 29 → parseFieldDescriptor (T_Mo k).2.2.1 = some (t_Mo k) := by decide +kernel
set_option maxRecDepth 20000 in
theorem i_Mo : ∀ w ∈ u_ws R_Mo T_Mo 29, w ∈ am_G := by
  have h : ∀ w ∈ u_ws R_Mo T_Mo 29, w ∈ lw_tbl ∧ goodWord w = true := by decide +kernel
  exact fun w hw => List.mem_filter.mpr (h w hw)
abbrev am_cl : List vw_C := [(R_Dr, T_Dr, 2), (R_Fe, T_Fe, 6), (R_Pl, T_Pl, 7), (R_So, T_So, 10), (R_Te, T_Te, 2), (R_Wo, T_Wo, 1), (R_RC, T_RC, 7), (R_Mo, T_Mo, 29)]
/-- the types of the arrays: int, long, boolean, byte (none is made), long[] -/
def am_nt : Nat := 5
def am_ty : Nat → FieldType := fun k => match k with
  | 0 => .int
  | 1 => .long
  | 2 => .boolean
  | 3 => .int
  | _ => .array .long
def am_N : List Cond := [.methodLinkNest "RateChains" 9 ⟨"RateChains$Plants", "<init>", "()V"⟩ "RateChains", .methodLinkNest "RateChains" 18 ⟨"RateChains$Feeds", "<init>", "()V"⟩ "RateChains", .methodLinkNest "RateChains" 32 ⟨"RateChains$Solved", "<init>", "()V"⟩ "RateChains", .methodLinkNest "RateChains$Solved" 11 ⟨"RateChains$Worths", "<init>", "()V"⟩ "RateChains", .methodLinkNest "RateChains" 39 ⟨"RateChains$Draw", "<init>", "()V"⟩ "RateChains", .methodLinkNest "RateChains" 46 ⟨"RateChains$Text", "<init>", "()V"⟩ "RateChains", .methodLinkNest "RateChains$Plants" 43 ⟨"RateChains", "slotOf", "(II)I"⟩ "RateChains", .methodLinkNest "RateChains$Solved" 64 ⟨"RateChains", "slotOf", "(II)I"⟩ "RateChains", .methodLinkNest "RateChains$Solved" 68 ⟨"RateChains", "cell", "(II)I"⟩ "RateChains", .methodLinkNest "RateChains$Text" 31 ⟨"RateChains", "isKind", "(I)Z"⟩ "RateChains", .methodLinkNest "RateChains$Text" 34 ⟨"RateChains", "isYear", "(I)Z"⟩ "RateChains"]
def am_X9 (U : State) : Prop := ∃ (comp c : ClassId) (k : Class), U.vm.findClass "[J" = some comp ∧ (U.vm.classes.findIdx? fun (x : Class) => match x.kind with | .array component _ => component == comp | _ => false) = some c ∧ U.vm.classes[c]? = some k ∧ k.kind = .array comp (.array .long) ∧ U.vm.findClass "[[J" = some c
abbrev am_Y : Type := MethodName × ByteArray × Nat × Option FieldType
abbrev y_Dr_init : am_Y := (⟨"RateChains$Draw", "<init>", "()V"⟩, prog_2_method_1_code, 1, none)
abbrev y_Dr_take : am_Y := (⟨"RateChains$Draw", "take", "(JII)V"⟩, prog_2_method_2_code, 8, none)
abbrev y_Dr_swap : am_Y := (⟨"RateChains$Draw", "swap", "(II)V"⟩, prog_2_method_4_code, 4, none)
abbrev y_Dr_row : am_Y := (⟨"RateChains$Draw", "row", "(I)I"⟩, prog_2_method_3_code, 2, (some .int))
abbrev y_Fe_init : am_Y := (⟨"RateChains$Feeds", "<init>", "()V"⟩, prog_3_method_1_code, 1, none)
abbrev y_Fe_add : am_Y := (⟨"RateChains$Feeds", "add", "(IIJII)Z"⟩, prog_3_method_2_code, 7, (some .boolean))
abbrev y_Fe_size : am_Y := (⟨"RateChains$Feeds", "size", "()I"⟩, prog_3_method_3_code, 1, (some .int))
abbrev y_Fe_kindOf : am_Y := (⟨"RateChains$Feeds", "kindOf", "(I)I"⟩, prog_3_method_5_code, 2, (some .int))
abbrev y_Fe_yearOf : am_Y := (⟨"RateChains$Feeds", "yearOf", "(I)I"⟩, prog_3_method_6_code, 2, (some .int))
abbrev y_Fe_plantOf : am_Y := (⟨"RateChains$Feeds", "plantOf", "(I)I"⟩, prog_3_method_4_code, 2, (some .int))
abbrev y_Fe_gramsOf : am_Y := (⟨"RateChains$Feeds", "gramsOf", "(I)J"⟩, prog_3_method_8_code, 2, (some .long))
abbrev y_Fe_countryOf : am_Y := (⟨"RateChains$Feeds", "countryOf", "(I)I"⟩, prog_3_method_7_code, 2, (some .int))
abbrev y_Pl_init : am_Y := (⟨"RateChains$Plants", "<init>", "()V"⟩, prog_4_method_1_code, 1, none)
abbrev y_Pl_add : am_Y := (⟨"RateChains$Plants", "add", "()I"⟩, prog_4_method_2_code, 1, (some .int))
abbrev y_Pl_has : am_Y := (⟨"RateChains$Plants", "has", "(I)Z"⟩, prog_4_method_3_code, 2, (some .boolean))
abbrev y_Pl_setShare : am_Y := (⟨"RateChains$Plants", "setShare", "(III)Z"⟩, prog_4_method_4_code, 5, (some .boolean))
abbrev y_Pl_shareOf : am_Y := (⟨"RateChains$Plants", "shareOf", "(II)I"⟩, prog_4_method_7_code, 3, (some .int))
abbrev y_Pl_setPoint : am_Y := (⟨"RateChains$Plants", "setPoint", "(II)Z"⟩, prog_4_method_5_code, 3, (some .boolean))
abbrev y_Pl_isPoint : am_Y := (⟨"RateChains$Plants", "isPoint", "(II)Z"⟩, prog_4_method_8_code, 3, (some .boolean))
abbrev y_Pl_setLoss : am_Y := (⟨"RateChains$Plants", "setLoss", "(II)V"⟩, prog_4_method_6_code, 3, none)
abbrev y_Pl_leastInRing : am_Y := (⟨"RateChains$Plants", "leastInRing", "()I"⟩, prog_4_method_13_code, 4, (some .int))
abbrev y_Pl_leastInRingOf : am_Y := (⟨"RateChains$Plants", "leastInRingOf", "(I)I"⟩, prog_4_method_14_code, 3, (some .int))
abbrev y_Pl_findEnds : am_Y := (⟨"RateChains$Plants", "findEnds", "(I)V"⟩, prog_4_method_15_code, 4, none)
abbrev y_Pl_goesOn : am_Y := (⟨"RateChains$Plants", "goesOn", "(II)Z"⟩, prog_4_method_10_code, 3, (some .boolean))
abbrev y_Pl_goesToAnEnd : am_Y := (⟨"RateChains$Plants", "goesToAnEnd", "(I)Z"⟩, prog_4_method_16_code, 3, (some .boolean))
abbrev y_Pl_tenthsCounted : am_Y := (⟨"RateChains$Plants", "tenthsCounted", "(II)I"⟩, prog_4_method_12_code, 3, (some .int))
abbrev y_Pl_isBare : am_Y := (⟨"RateChains$Plants", "isBare", "(II)Z"⟩, prog_4_method_11_code, 3, (some .boolean))
abbrev y_Pl_isPointWithAverage : am_Y := (⟨"RateChains$Plants", "isPointWithAverage", "(II)Z"⟩, prog_4_method_9_code, 3, (some .boolean))
abbrev y_So_init : am_Y := (⟨"RateChains$Solved", "<init>", "()V"⟩, prog_5_method_1_code, 1, none)
abbrev y_So_keep : am_Y := (⟨"RateChains$Solved", "keep", "(LRateChains$Plants;LRateChains$Feeds;[J)V"⟩, prog_5_method_12_code, 5, none)
abbrev y_So_keepWorths : am_Y := (⟨"RateChains$Solved", "keepWorths", "(LRateChains$Plants;I)V"⟩, prog_5_method_13_code, 4, none)
abbrev y_So_clearSums : am_Y := (⟨"RateChains$Solved", "clearSums", "()V"⟩, prog_5_method_14_code, 2, none)
abbrev y_So_clear : am_Y := (⟨"RateChains$Solved", "clear", "([J)V"⟩, prog_5_method_22_code, 2, none)
abbrev y_So_addMetals : am_Y := (⟨"RateChains$Solved", "addMetals", "([J)V"⟩, prog_5_method_15_code, 5, none)
abbrev y_So_place : am_Y := (⟨"RateChains$Solved", "place", "(III)I"⟩, prog_5_method_23_code, 3, (some .int))
abbrev y_So_addFeed : am_Y := (⟨"RateChains$Solved", "addFeed", "(LRateChains$Feeds;I)V"⟩, prog_5_method_16_code, 8, none)
abbrev y_So_fillStocks : am_Y := (⟨"RateChains$Solved", "fillStocks", "()V"⟩, prog_5_method_17_code, 5, none)
abbrev y_So_down : am_Y := (⟨"RateChains$Solved", "down", "(JI)J"⟩, prog_5_method_21_code, 4, (some .long))
abbrev y_So_markLostBare : am_Y := (⟨"RateChains$Solved", "markLostBare", "(LRateChains$Plants;LRateChains$Feeds;I)V"⟩, prog_5_method_18_code, 5, none)
abbrev y_So_findCame : am_Y := (⟨"RateChains$Solved", "findCame", "(LRateChains$Plants;LRateChains$Feeds;I)V"⟩, prog_5_method_19_code, 6, none)
abbrev y_So_markNext : am_Y := (⟨"RateChains$Solved", "markNext", "(LRateChains$Plants;I)V"⟩, prog_5_method_20_code, 4, none)
abbrev y_So_isThere : am_Y := (⟨"RateChains$Solved", "isThere", "()Z"⟩, prog_5_method_2_code, 1, (some .boolean))
abbrev y_So_aboveOf : am_Y := (⟨"RateChains$Solved", "aboveOf", "(II)J"⟩, prog_5_method_5_code, 6, (some .long))
abbrev y_So_aboveOfCountry : am_Y := (⟨"RateChains$Solved", "aboveOfCountry", "(III)J"⟩, prog_5_method_4_code, 4, (some .long))
abbrev y_So_belowOf : am_Y := (⟨"RateChains$Solved", "belowOf", "(I)J"⟩, prog_5_method_3_code, 2, (some .long))
abbrev y_So_lostBareAt : am_Y := (⟨"RateChains$Solved", "lostBareAt", "(I)Z"⟩, prog_5_method_8_code, 2, (some .boolean))
abbrev y_So_isNeverMoreThanBrought : am_Y := (⟨"RateChains$Solved", "isNeverMoreThanBrought", "()Z"⟩, prog_5_method_10_code, 3, (some .boolean))
abbrev y_So_take : am_Y := (⟨"RateChains$Solved", "take", "(IIIJ)J"⟩, prog_5_method_11_code, 14, (some .long))
abbrev y_So_stockOf : am_Y := (⟨"RateChains$Solved", "stockOf", "(III)J"⟩, prog_5_method_7_code, 4, (some .long))
abbrev y_So_difference : am_Y := (⟨"RateChains$Solved", "difference", "(IIII)J"⟩, prog_5_method_9_code, 8, (some .long))
abbrev y_So_wholeGrams : am_Y := (⟨"RateChains$Solved", "wholeGrams", "(II)J"⟩, prog_5_method_6_code, 3, (some .long))
abbrev y_Te_init : am_Y := (⟨"RateChains$Text", "<init>", "()V"⟩, prog_6_method_1_code, 1, none)
abbrev y_Te_add : am_Y := (⟨"RateChains$Text", "add", "(I)Z"⟩, prog_6_method_2_code, 2, (some .boolean))
abbrev y_Te_filledAt : am_Y := (⟨"RateChains$Text", "filledAt", "(ILRateChains$Solved;)I"⟩, prog_6_method_3_code, 7, (some .int))
abbrev y_Te_isMark : am_Y := (⟨"RateChains$Text", "isMark", "(I)Z"⟩, prog_6_method_4_code, 2, (some .boolean))
abbrev y_Te_widthOf : am_Y := (⟨"RateChains$Text", "widthOf", "(ILRateChains$Solved;)I"⟩, prog_6_method_6_code, 6, (some .int))
abbrev y_Te_numberOf : am_Y := (⟨"RateChains$Text", "numberOf", "(ILRateChains$Solved;)J"⟩, prog_6_method_5_code, 3, (some .long))
abbrev y_Te_numberByte : am_Y := (⟨"RateChains$Text", "numberByte", "(IILRateChains$Solved;)I"⟩, prog_6_method_7_code, 7, (some .int))
abbrev y_Wo_init : am_Y := (⟨"RateChains$Worths", "<init>", "()V"⟩, prog_7_method_1_code, 1, none)
abbrev y_Wo_find : am_Y := (⟨"RateChains$Worths", "find", "(LRateChains$Plants;I)J"⟩, prog_7_method_2_code, 8, (some .long))
abbrev y_Wo_fill : am_Y := (⟨"RateChains$Worths", "fill", "(LRateChains$Plants;I)V"⟩, prog_7_method_4_code, 6, none)
abbrev y_Wo_clearColumn : am_Y := (⟨"RateChains$Worths", "clearColumn", "(IJ)V"⟩, prog_7_method_5_code, 5, none)
abbrev y_Wo_clearRow : am_Y := (⟨"RateChains$Worths", "clearRow", "(IIJ)V"⟩, prog_7_method_6_code, 10, none)
abbrev y_Wo_aboveOf : am_Y := (⟨"RateChains$Worths", "aboveOf", "(I)J"⟩, prog_7_method_3_code, 2, (some .long))
abbrev y_RC_init : am_Y := (⟨"RateChains", "<init>", "()V"⟩, prog_1_method_1_code, 1, none)
abbrev y_RC_plant : am_Y := (⟨"RateChains", "plant", "()I"⟩, prog_1_method_2_code, 1, (some .int))
abbrev y_RC_share : am_Y := (⟨"RateChains", "share", "(IIJJ)Z"⟩, prog_1_method_3_code, 8, (some .boolean))
abbrev y_RC_tenthsOf : am_Y := (⟨"RateChains", "tenthsOf", "(JJ)I"⟩, prog_1_method_30_code, 5, (some .int))
abbrev y_RC_point : am_Y := (⟨"RateChains", "point", "(II)Z"⟩, prog_1_method_4_code, 3, (some .boolean))
abbrev y_RC_isKind : am_Y := (⟨"RateChains", "isKind", "(I)Z"⟩, prog_1_method_23_code, 1, (some .boolean))
abbrev y_RC_slotOf : am_Y := (⟨"RateChains", "slotOf", "(II)I"⟩, prog_1_method_29_code, 2, (some .int))
abbrev y_RC_average : am_Y := (⟨"RateChains", "average", "(IJJ)Z"⟩, prog_1_method_5_code, 7, (some .boolean))
abbrev y_RC_feed : am_Y := (⟨"RateChains", "feed", "(IIJII)Z"⟩, prog_1_method_6_code, 7, (some .boolean))
abbrev y_RC_isYear : am_Y := (⟨"RateChains", "isYear", "(I)Z"⟩, prog_1_method_24_code, 1, (some .boolean))
abbrev y_RC_isCountry : am_Y := (⟨"RateChains", "isCountry", "(I)Z"⟩, prog_1_method_25_code, 1, (some .boolean))
abbrev y_RC_isWithin : am_Y := (⟨"RateChains", "isWithin", "(JJJ)Z"⟩, prog_1_method_27_code, 6, (some .boolean))
abbrev y_RC_metals : am_Y := (⟨"RateChains", "metals", "(IJ)Z"⟩, prog_1_method_7_code, 4, (some .boolean))
abbrev y_RC_placed : am_Y := (⟨"RateChains", "placed", "(IIJ)Z"⟩, prog_1_method_8_code, 5, (some .boolean))
abbrev y_RC_cell : am_Y := (⟨"RateChains", "cell", "(II)I"⟩, prog_1_method_28_code, 2, (some .int))
abbrev y_RC_solve : am_Y := (⟨"RateChains", "solve", "()I"⟩, prog_1_method_9_code, 2, (some .int))
abbrev y_RC_counted : am_Y := (⟨"RateChains", "counted", "(III)J"⟩, prog_1_method_10_code, 4, (some .long))
abbrev y_RC_isPart : am_Y := (⟨"RateChains", "isPart", "(I)Z"⟩, prog_1_method_26_code, 1, (some .boolean))
abbrev y_RC_partOf : am_Y := (⟨"RateChains", "partOf", "(JJI)J"⟩, prog_1_method_31_code, 7, (some .long))
abbrev y_RC_commonOf : am_Y := (⟨"RateChains", "commonOf", "(JJ)J"⟩, prog_1_method_32_code, 11, (some .long))
abbrev y_RC_rate : am_Y := (⟨"RateChains", "rate", "(III)J"⟩, prog_1_method_11_code, 8, (some .long))
abbrev y_RC_twice : am_Y := (⟨"RateChains", "twice", "(I)I"⟩, prog_1_method_12_code, 4, (some .int))
abbrev y_RC_told : am_Y := (⟨"RateChains", "told", "(I)I"⟩, prog_1_method_13_code, 4, (some .int))
abbrev y_RC_once : am_Y := (⟨"RateChains", "once", "()Z"⟩, prog_1_method_14_code, 1, (some .boolean))
abbrev y_RC_claim : am_Y := (⟨"RateChains", "claim", "(IIIJ)J"⟩, prog_1_method_15_code, 6, (some .long))
abbrev y_RC_hasStock : am_Y := (⟨"RateChains", "hasStock", "(III)Z"⟩, prog_1_method_22_code, 4, (some .boolean))
abbrev y_RC_left : am_Y := (⟨"RateChains", "left", "(III)J"⟩, prog_1_method_16_code, 4, (some .long))
abbrev y_RC_open : am_Y := (⟨"RateChains", "open", "(IIII)J"⟩, prog_1_method_17_code, 8, (some .long))
abbrev y_RC_audit : am_Y := (⟨"RateChains", "audit", "(JI)I"⟩, prog_1_method_18_code, 4, (some .int))
abbrev y_RC_drawn : am_Y := (⟨"RateChains", "drawn", "(I)I"⟩, prog_1_method_19_code, 2, (some .int))
abbrev y_RC_unit : am_Y := (⟨"RateChains", "unit", "(I)Z"⟩, prog_1_method_20_code, 2, (some .boolean))
abbrev y_RC_form : am_Y := (⟨"RateChains", "form", "(I)I"⟩, prog_1_method_21_code, 2, (some .int))
abbrev y_Mo_init : am_Y := (⟨"RateChainsModel", "<init>", "()V"⟩, prog_9_method_1_code, 1, none)
abbrev y_Mo_plant : am_Y := (⟨"RateChainsModel", "plant", "()I"⟩, prog_9_method_10_code, 1, (some .int))
abbrev y_Mo_share : am_Y := (⟨"RateChainsModel", "share", "(IIJJ)Z"⟩, prog_9_method_11_code, 9, (some .boolean))
abbrev y_Mo_isPlant : am_Y := (⟨"RateChainsModel", "isPlant", "(I)Z"⟩, prog_9_method_4_code, 2, (some .boolean))
abbrev y_Mo_isFraction : am_Y := (⟨"RateChainsModel", "isFraction", "(JJ)Z"⟩, prog_9_method_8_code, 4, (some .boolean))
abbrev y_Mo_isIn : am_Y := (⟨"RateChainsModel", "isIn", "(JJJ)Z"⟩, prog_9_method_3_code, 6, (some .boolean))
abbrev y_Mo_point : am_Y := (⟨"RateChainsModel", "point", "(II)Z"⟩, prog_9_method_12_code, 3, (some .boolean))
abbrev y_Mo_isKind : am_Y := (⟨"RateChainsModel", "isKind", "(I)Z"⟩, prog_9_method_5_code, 1, (some .boolean))
abbrev y_Mo_average : am_Y := (⟨"RateChainsModel", "average", "(IJJ)Z"⟩, prog_9_method_13_code, 6, (some .boolean))
abbrev y_Mo_feed : am_Y := (⟨"RateChainsModel", "feed", "(IIJII)Z"⟩, prog_9_method_14_code, 7, (some .boolean))
abbrev y_Mo_isYear : am_Y := (⟨"RateChainsModel", "isYear", "(I)Z"⟩, prog_9_method_6_code, 1, (some .boolean))
abbrev y_Mo_isCountry : am_Y := (⟨"RateChainsModel", "isCountry", "(I)Z"⟩, prog_9_method_7_code, 1, (some .boolean))
abbrev y_Mo_metals : am_Y := (⟨"RateChainsModel", "metals", "(IJ)Z"⟩, prog_9_method_15_code, 4, (some .boolean))
abbrev y_Mo_placed : am_Y := (⟨"RateChainsModel", "placed", "(IIJ)Z"⟩, prog_9_method_16_code, 5, (some .boolean))
abbrev y_Mo_solve : am_Y := (⟨"RateChainsModel", "solve", "()I"⟩, prog_9_method_24_code, 9, (some .int))
abbrev y_Mo_ends : am_Y := (⟨"RateChainsModel", "ends", "(II)Z"⟩, prog_9_method_18_code, 8, (some .boolean))
abbrev y_Mo_shared : am_Y := (⟨"RateChainsModel", "shared", "(I)I"⟩, prog_9_method_17_code, 4, (some .int))
abbrev y_Mo_layOut : am_Y := (⟨"RateChainsModel", "layOut", "(I)V"⟩, prog_9_method_21_code, 5, none)
abbrev y_Mo_put : am_Y := (⟨"RateChainsModel", "put", "(IJJ)V"⟩, prog_9_method_19_code, 8, none)
abbrev y_Mo_common : am_Y := (⟨"RateChainsModel", "common", "(JJ)J"⟩, prog_9_method_9_code, 10, (some .long))
abbrev y_Mo_eliminate : am_Y := (⟨"RateChainsModel", "eliminate", "()V"⟩, prog_9_method_23_code, 11, none)
abbrev y_Mo_swap : am_Y := (⟨"RateChainsModel", "swap", "(II)V"⟩, prog_9_method_22_code, 8, none)
abbrev y_Mo_lessen : am_Y := (⟨"RateChainsModel", "lessen", "(IJJI)V"⟩, prog_9_method_20_code, 13, none)
abbrev y_Mo_noteBare : am_Y := (⟨"RateChainsModel", "noteBare", "()V"⟩, prog_9_method_25_code, 7, none)
abbrev y_Mo_counted : am_Y := (⟨"RateChainsModel", "counted", "(III)J"⟩, prog_9_method_30_code, 4, (some .long))
abbrev y_Mo_count : am_Y := (⟨"RateChainsModel", "count", "(III)V"⟩, prog_9_method_29_code, 4, none)
abbrev y_Mo_nothing : am_Y := (⟨"RateChainsModel", "nothing", "()V"⟩, prog_9_method_26_code, 1, none)
abbrev y_Mo_sum : am_Y := (⟨"RateChainsModel", "sum", "(IIII)V"⟩, prog_9_method_28_code, 10, none)
abbrev y_Mo_add : am_Y := (⟨"RateChainsModel", "add", "(JJ)V"⟩, prog_9_method_27_code, 11, none)
abbrev y_Mo_rate : am_Y := (⟨"RateChainsModel", "rate", "(III)J"⟩, prog_9_method_31_code, 12, (some .long))
abbrev y_Mo_twice : am_Y := (⟨"RateChainsModel", "twice", "(I)I"⟩, prog_9_method_32_code, 4, (some .int))
abbrev y_Mo_told : am_Y := (⟨"RateChainsModel", "told", "(I)I"⟩, prog_9_method_33_code, 6, (some .int))
abbrev y_Mo_once : am_Y := (⟨"RateChainsModel", "once", "()Z"⟩, prog_9_method_34_code, 7, (some .boolean))
abbrev y_Mo_left : am_Y := (⟨"RateChainsModel", "left", "(III)J"⟩, prog_9_method_36_code, 4, (some .long))
abbrev y_Mo_stock : am_Y := (⟨"RateChainsModel", "stock", "(III)J"⟩, prog_9_method_35_code, 4, (some .long))
abbrev y_Mo_claim : am_Y := (⟨"RateChainsModel", "claim", "(IIIJ)J"⟩, prog_9_method_37_code, 15, (some .long))
abbrev y_Mo_open : am_Y := (⟨"RateChainsModel", "open", "(IIII)J"⟩, prog_9_method_38_code, 5, (some .long))
abbrev y_Mo_audit : am_Y := (⟨"RateChainsModel", "audit", "(JI)I"⟩, prog_9_method_39_code, 9, (some .int))
abbrev y_Mo_drawn : am_Y := (⟨"RateChainsModel", "drawn", "(I)I"⟩, prog_9_method_40_code, 2, (some .int))
abbrev y_Mo_unit : am_Y := (⟨"RateChainsModel", "unit", "(I)Z"⟩, prog_9_method_41_code, 2, (some .boolean))
abbrev y_Mo_form : am_Y := (⟨"RateChainsModel", "form", "(I)I"⟩, prog_9_method_45_code, 8, (some .int))
abbrev y_Mo_isNumberAt : am_Y := (⟨"RateChainsModel", "isNumberAt", "(I)Z"⟩, prog_9_method_42_code, 2, (some .boolean))
abbrev y_Mo_length : am_Y := (⟨"RateChainsModel", "length", "(J)I"⟩, prog_9_method_43_code, 5, (some .int))
abbrev y_Mo_digit : am_Y := (⟨"RateChainsModel", "digit", "(JI)I"⟩, prog_9_method_44_code, 6, (some .int))
end
section
/-! THE ABSTRACT MACHINE. A world w: the cells that were made since the law began, in the order of their making; a reference in it is a number of a cell ('.ref k': the k-th cell). The machine's address of the k-th cell is b + k. '.float _' stands for the script. -/
abbrev am_C : Type := (Nat × vp_A) ⊕ (Nat × List Value)
def am_v (b sc : Nat) (v : Value) : Value := match v with
  | .ref k => .ref (b + k)
  | .float _ => .ref sc
  | x => x
def am_a (b : Nat) (a : vp_A) : vp_A := match a with
  | (n, .inr (.inr (.inr (.inr f)))) => (n, .inr (.inr (.inr (.inr (fun i => (f i).map (fun k => b + k))))))
  | x => x
def am_c (tc : Nat → ClassId) (b sc : Nat) (c : am_C) : va_E := match c with
  | .inl (t, a) => .inl (tc t, am_a b a)
  | .inr (ci, fs) => .inr (ci, fs.map (am_v b sc))
def am_w (tc : Nat → ClassId) (b sc : Nat) (w : List am_C) : va_W := w.mapIdx (fun k c => (b + k, am_c tc b sc c))
theorem am_w_get (tc : Nat → ClassId) (b sc : Nat) (w : List am_C) (k : Nat) : (am_w tc b sc w)[k]? = (w[k]?).map (fun c => (b + k, am_c tc b sc c)) := by
  unfold am_w
  rw [List.getElem?_mapIdx]
theorem am_w_at {tc : Nat → ClassId} {b sc : Nat} {w : List am_C} {k : Nat} {c : am_C} (h : w[k]? = some c) : (am_w tc b sc w)[k]? = some (b + k, am_c tc b sc c) := by
  rw [am_w_get, h]; rfl
theorem am_w_set (tc : Nat → ClassId) (b sc : Nat) (w : List am_C) (k : Nat) (c : am_C) : (am_w tc b sc w).set k (b + k, am_c tc b sc c) = am_w tc b sc (w.set k c) := by
  apply List.ext_getElem?
  intro i
  rw [am_w_get, List.getElem?_set, List.getElem?_set, am_w_get]
  have hlen : (am_w tc b sc w).length = w.length := by simp [am_w]
  by_cases h : k = i
  · subst h
    by_cases hk : k < w.length
    · simp [hlen, hk]
    · simp [hlen, hk]
  · simp [h]
theorem am_w_push (tc : Nat → ClassId) (b sc : Nat) (w : List am_C) (c : am_C) : am_w tc b sc w ++ [(b + w.length, am_c tc b sc c)] = am_w tc b sc (w ++ [c]) := by
  simp [am_w, List.mapIdx_append]
theorem am_w_D (tc : Nat → ClassId) (b sc : Nat) (w : List am_C) : va_D (fun q => b ≤ q) (am_w tc b sc w) := by
  refine ⟨fun i j p q hi hj h => ?_, fun k q hk => ?_⟩
  · rw [am_w_get] at hi hj
    cases h1 : w[i]? with
    | none => rw [h1] at hi; cases hi
    | some ci =>
      cases h2 : w[j]? with
      | none => rw [h2] at hj; cases hj
      | some cj =>
        rw [h1] at hi; rw [h2] at hj
        cases hi; cases hj
        simp at h
        exact h
  · rw [am_w_get] at hk
    cases h1 : w[k]? with
    | none => rw [h1] at hk; cases hk
    | some ci => rw [h1] at hk; cases hk; simp
theorem am_v_cat (b sc : Nat) (v : Value) : (am_v b sc v).category = v.category := by cases v <;> rfl
/-- the heap holds the world, and ends with it -/
def am_R (D : va_G) (tc : Nat → ClassId) (b sc : Nat) (w : List am_C) (H : Heap) : Prop := H.size = b + w.length ∧ va_P D am_cl (am_w tc b sc w) H
def am_isN : Cond → Bool
  | .fieldLinkNest _ _ _ _ _ _ => true
  | .methodLinkNest _ _ _ _ => true
  | _ => false
theorem am_isN_warm {w : Cond} (h : am_isN w = true) {s U : State} (hW : s.WarmedH U.vm) (hZ : va_Nw w s) : va_Nw w U := by
  cases w with
  | fieldLinkNest a i b n d h => exact va_Nw.warmF hW hZ
  | methodLinkNest a i x h => exact va_Nw.warmM hW hZ
  | _ => cases h
theorem am_isN_tab {w : Cond} (h : am_isN w = true) : w.onTables = true := by
  cases w with
  | fieldLinkNest a i b n d h => rfl
  | methodLinkNest a i x h => rfl
  | _ => cases h
theorem am_N_is : ∀ w ∈ am_N, am_isN w = true := by decide +kernel
theorem am_X9_moved {u U : State} (hvm : u.vm.Alike U.vm) (h : am_X9 u) : am_X9 U := by
  obtain ⟨comp, c, k, h1, h2, h3, h4, h5⟩ := h
  obtain ⟨k', hk', he⟩ := hvm.2.2 _ _ h3
  have hi : (U.vm.classes.findIdx? fun (x : Class) => match x.kind with | .array component _ => component == comp | _ => false) = some c := by
    rw [hvm.findIdx?_eq _ (fun _ => rfl)]
    exact h2
  exact ⟨comp, c, k', by rw [hvm.findClass]; exact h1, hi, hk', by rw [he]; exact h4, by rw [hvm.findClass]; exact h5⟩
def am_tys (tc : Nat → ClassId) : List (ClassId × FieldType) := (List.range am_nt).map (fun t => (tc t, am_ty t))
theorem am_tys_at {tc : Nat → ClassId} {t : Nat} (h : t < am_nt) : (am_tys tc)[t]? = some (tc t, am_ty t) := by
  simp [am_tys, h]
/-- what a method knows of the tables -/
def am_K (D : va_G) (tc : Nat → ClassId) (U : State) : Prop := va_K D am_cl (am_tys tc) U ∧ (∀ w ∈ am_N, va_Nw w U) ∧ am_X9 U
theorem am_K.warm {D : va_G} {tc : Nat → ClassId} {s U : State} (hW : s.WarmedH U.vm) (h : am_K D tc s) : am_K D tc U :=
  ⟨va_K.moved hW.alike h.1, fun w hw => am_isN_warm (am_N_is w hw) hW (h.2.1 w hw), am_X9_moved hW.alike h.2.2⟩
theorem am_K.calling {D : va_G} {tc : Nat → ClassId} {U : State} (g : JFrame) (mk : MethodId) (a : Array Value) (h : am_K D tc U) : am_K D tc (U.calling g mk a) :=
  ⟨va_K.moved (u := U) (U := U.calling g mk a) (Vm.Alike.refl U.vm) h.1, fun w hw => va_Nw.same (am_isN_tab (am_N_is w hw)) (rfl : U.vm = (U.calling g mk a).vm) (h.2.1 w hw), am_X9_moved (u := U) (U := U.calling g mk a) (Vm.Alike.refl U.vm) h.2.2⟩
/-- a method: its bytes, its locals, what it returns, its class, its name, what else holds at its entry -/
abbrev am_M : Type := ByteArray × Nat × Option FieldType × String × String × (State → Nat → Nat → Prop)
def am_Fix (M : am_M) (d rc rs b sc : Nat) (D : va_G) (tc : Nat → ClassId) (p : Program) (R : Room) (s : State) (m : MethodId) (args : Array Value) (meth : Method) (c : Code) : Prop :=
  p.tables.exec = Jvm.exec ∧ c.code = M.1 ∧ c.maxLocals = M.2.1 ∧ meth.sig.returnType = M.2.2.1 ∧ s.vm.findClass M.2.2.2.1 = some m.cls ∧ meth.name = M.2.2.2.2.1 ∧ meth.locks = false ∧ (∀ w ∈ am_G, w.before args s = true) ∧ am_K D tc s ∧ b ≤ s.heap.size ∧ (d ≤ R.frames ∧ 40 * d ≤ R.locals) ∧ (rc ≤ R.cells ∧ rs ≤ R.slots) ∧ M.2.2.2.2.2 s b sc
abbrev am_L (b sc : Nat) (lv : List (Nat × Value)) : List (Nat × Value) := lv.map (fun q => (q.1, am_v b sc q.2))
abbrev am_E : Type := Nat → Nat → va_G → (Nat → ClassId) → Array Value → State → List Frame → State → Prop
/-- the machine, at pc with these locals, this stack and this world, comes to the end Z -/
def AW (M : am_M) (d rc rs pc : Nat) (lv : List (Nat × Value)) (st : List Value) (w : List am_C) (cells slots : Nat) (Z : am_E) : Prop :=
  ∀ ⦃p : Program⦄ ⦃l : Launch⦄ ⦃e : Env⦄ ⦃R : Room⦄ ⦃s : State⦄ ⦃m : MethodId⦄ ⦃args : Array Value⦄ ⦃below : List Frame⦄ ⦃meth : Method⦄ ⦃c : Code⦄ ⦃D : va_G⦄ ⦃tc : Nat → ClassId⦄ ⦃b sc : Nat⦄,
    am_Fix M d rc rs b sc D tc p R s m args meth c → ∀ ⦃H : Heap⦄ ⦃locs : List Loc⦄ ⦃ls : Array Slot⦄, am_R D tc b sc w H → va_S (fun q => b ≤ q) s.heap H locs → lv_has ls M.2.1 (am_L b sc lv) →
    W p l e R s m args below meth c H locs cells slots (Z b sc D tc args s below) (F0 m pc ls (st.map (am_v b sc)))
def am_Q (D : va_G) (tc : Nat → ClassId) (b sc : Nat) (r : Option Value) (w : List am_C) : Array Value → State → Outcome → State → Prop := fun _ st o t => o = .returned (r.map (am_v b sc)) ∧ am_R D tc b sc w t.heap ∧ va_F (fun q => b ≤ q) st t
def am_Z (r : Option Value) (w : List am_C) (mc ms : Nat) : am_E := fun b sc D tc args s below => MQ below (am_Q D tc b sc r w) args s mc ms (fun q => b ≤ q)
def am_rm (d mc ms : Nat) : Room := { frames := d, cells := mc, slots := ms, locals := 40 * d }
def am_P (D : va_G) (tc : Nat → ClassId) (b sc : Nat) (as : List Value) (w : List am_C) : Array Value → State → Prop := va_Pc (as.map (am_v b sc)) (fun U => am_R D tc b sc w U.heap ∧ am_K D tc U)
theorem am_P_blind (D : va_G) (tc : Nat → ClassId) (b sc : Nat) (as : List Value) (w : List am_C) : FrameBlind (am_P D tc b sc as w) := fun a U g mk q => ⟨q.1, q.2.1, q.2.2.calling g mk a⟩
/-- the contract of a method: called with as in the world w it returns r, and the world is w' -/
def am_ct (y : am_Y) (d : Nat) (as : List Value) (w : List am_C) (r : Option Value) (w' : List am_C) (mc ms : Nat) : Prop :=
  ∀ (l : Launch) (D : va_G) (tc : Nat → ClassId) (b sc : Nat), Met l y.1 (.code y.1 y.2.1 y.2.2.1 y.2.2.2 :: am_G) (am_rm d mc ms) (am_P D tc b sc as w) (am_Q D tc b sc r w') mc ms (fun q => b ≤ q)
abbrev am_Mof (y : am_Y) : am_M := (y.2.1, y.2.2.1, y.2.2.2, y.1.cls, y.1.name, fun _ _ _ => True)
theorem am_args (b sc : Nat) : ∀ (as : List Value) (i : Nat), lv_args i (as.map (am_v b sc)) = am_L b sc (lv_args i as)
  | [], _ => rfl
  | v :: vs, i => by
    show (i, am_v b sc v) :: lv_args (if (am_v b sc v).category = 2 then i + 2 else i + 1) (vs.map (am_v b sc)) = _
    rw [am_v_cat, am_args b sc vs]
    rfl
theorem am_sl (b sc : Nat) : ∀ (as : List Value), (lg_sl (as.map (am_v b sc))).length = (lg_sl as).length
  | [] => rfl
  | v :: vs => by
    have h := am_sl b sc vs
    simp only [lg_sl, List.map_cons, List.flatMap_cons, List.length_append] at h ⊢
    rw [h, am_v_cat]
    split <;> rfl
theorem am_ct.of {y : am_Y} {d : Nat} {as : List Value} {w w' : List am_C} {r : Option Value} {mc ms : Nat} (hy : plainName y.1.cls = true) (hn : (lg_sl as).length ≤ y.2.2.1) (h : AW (am_Mof y) d mc ms 0 (lv_args 0 as) [] w 0 0 (am_Z r w' mc ms)) : am_ct y d as w r w' mc ms := by
  intro l D tc b sc
  refine Met.ofW (cc := y.2.1) (maxL := y.2.2.1) (ret := y.2.2.2) hy rfl ?_
  intro p e s m args below meth c s₁ B hml hv
  obtain ⟨rfl, hR, hK⟩ := hv
  have hts := atoms_spec (ws := .code y.1 y.2.1 y.2.2.1 y.2.2.2 :: am_G) B.pre
  rw [lg_entry_eq]
  refine h ⟨B.exec, B.bytes, hml, B.returns, findClass_of_methodNamed B.named, (name_of_methodNamed B.named B.method).1, B.notSynchronized, fun w hw => hts w (List.mem_cons_of_mem _ hw), hK, by rw [hR.1]; exact Nat.le_add_right _ _, ⟨Nat.le_refl _, Nat.le_refl _⟩, ⟨Nat.le_refl _, Nat.le_refl _⟩, trivial⟩ hR va_S.rf ?_
  have := lv_entry (as.map (am_v b sc)) (n := y.2.2.1) (by rw [am_sl]; exact hn)
  rw [am_args] at this
  exact this
section AMR
variable {M : am_M} {d rc rs pc : Nat} {lv : List (Nat × Value)} {st : List Value} {w : List am_C} {cells slots : Nat} {Z : am_E}
theorem aw_eqs {st' : List Value} (h : st = st') (k : AW M d rc rs pc lv st' w cells slots Z) : AW M d rc rs pc lv st w cells slots Z := by subst h; exact k
theorem aw_eqw {w' : List am_C} (h : w = w') (k : AW M d rc rs pc lv st w' cells slots Z) : AW M d rc rs pc lv st w cells slots Z := by subst h; exact k
theorem aw_eql {lv' : List (Nat × Value)} (h : lv = lv') (k : AW M d rc rs pc lv' st w cells slots Z) : AW M d rc rs pc lv st w cells slots Z := by subst h; exact k
/-- fewer locals are known -/
theorem aw_sub {lv' : List (Nat × Value)} (h : ∀ q ∈ lv', q ∈ lv) (k : AW M d rc rs pc lv' st w cells slots Z) : AW M d rc rs pc lv st w cells slots Z := by
  intro p l e R s m args below meth c D tc b sc F H locs ls hR hS hl
  refine k F hR hS ⟨hl.1, hl.2.1, fun q hq => ?_⟩
  obtain ⟨q', h1, rfl⟩ := List.mem_map.mp hq
  exact hl.2.2 _ (List.mem_map.mpr ⟨q', h q' h1, rfl⟩)
def am_lk : List (Nat × Value) → Nat → Option Value
  | [], _ => none
  | q :: l, i => if q.1 = i then some q.2 else am_lk l i
theorem am_lk_mem : ∀ {l : List (Nat × Value)} {i : Nat} {v : Value}, am_lk l i = some v → (i, v) ∈ l
  | q :: l, i, v, h => by
    unfold am_lk at h
    split at h
    · rename_i e
      cases h
      subst e
      exact List.mem_cons_self
    · exact List.mem_cons_of_mem _ (am_lk_mem h)
theorem am_lk_has {b sc nL : Nat} {ls : Array Slot} {i : Nat} {v : Value} (hl : lv_has ls nL (am_L b sc lv)) (h : am_lk lv i = some v) : ls[i]? = some (.val (am_v b sc v)) :=
  hl.2.2 (i, am_v b sc v) (List.mem_map.mpr ⟨(i, v), am_lk_mem h, rfl⟩)
def am_s1 (lv : List (Nat × Value)) (i : Nat) (v : Value) : List (Nat × Value) := (i, v) :: lv.filter (fun q => !(q.1 == i) && !(q.1 + 1 == i && q.2.category == 2))
def am_s2 (lv : List (Nat × Value)) (i : Nat) (v : Value) : List (Nat × Value) := (i, v) :: lv.filter (fun q => !(q.1 == i) && (!(q.1 == i + 1) && !(q.1 + 1 == i && q.2.category == 2)))
theorem am_s1_eq (b sc : Nat) (lv : List (Nat × Value)) (i : Nat) (v : Value) : (i, am_v b sc v) :: (am_L b sc lv).filter (fun q => !(q.1 == i) && !(q.1 + 1 == i && q.2.category == 2)) = am_L b sc (am_s1 lv i v) := by
  simp only [am_L, am_s1, List.filter_map, List.map_cons, List.cons.injEq, true_and]
  congr 1
  apply List.filter_congr
  intro q _
  simp [am_v_cat]
theorem am_s2_eq (b sc : Nat) (lv : List (Nat × Value)) (i : Nat) (v : Value) : (i, am_v b sc v) :: (am_L b sc lv).filter (fun q => !(q.1 == i) && (!(q.1 == i + 1) && !(q.1 + 1 == i && q.2.category == 2))) = am_L b sc (am_s2 lv i v) := by
  simp only [am_L, am_s2, List.filter_map, List.map_cons, List.cons.injEq, true_and]
  congr 1
  apply List.filter_congr
  intro q _
  simp [am_v_cat]
theorem aw_iconst {n : Int} {v : Int32} (hd : decode M.1 pc = .ok (.iconst n, 1)) (hv : Int32.ofInt n = v) (k : AW M d rc rs (pc + 1) lv (.int v :: st) w cells slots Z) : AW M d rc rs pc lv st w cells slots Z := by
  intro p l e R s m args below meth c D tc b sc F H locs ls hR hS hl
  exact lv_iconst F.1 F.2.1 hd hv (k F hR hS hl)
theorem aw_bipush {n : Int} {v : Int32} (hd : decode M.1 pc = .ok (.bipush n, 2)) (hv : (Int8.ofInt n).toInt32 = v) (k : AW M d rc rs (pc + 2) lv (.int v :: st) w cells slots Z) : AW M d rc rs pc lv st w cells slots Z := by
  intro p l e R s m args below meth c D tc b sc F H locs ls hR hS hl
  exact lv_bipush F.1 F.2.1 hd hv (k F hR hS hl)
theorem aw_sipush {n : Int} {v : Int32} (hd : decode M.1 pc = .ok (.sipush n, 3)) (hv : (Int16.ofInt n).toInt32 = v) (k : AW M d rc rs (pc + 3) lv (.int v :: st) w cells slots Z) : AW M d rc rs pc lv st w cells slots Z := by
  intro p l e R s m args below meth c D tc b sc F H locs ls hR hS hl
  exact lv_sipush F.1 F.2.1 hd hv (k F hR hS hl)
theorem aw_lconst {n : Fin 2} {v : Int64} (hd : decode M.1 pc = .ok (.lconst n, 1)) (hv : Int64.ofNat (n : Nat) = v) (k : AW M d rc rs (pc + 1) lv (.long v :: st) w cells slots Z) : AW M d rc rs pc lv st w cells slots Z := by
  intro p l e R s m args below meth c D tc b sc F H locs ls hR hS hl
  exact lv_lconst F.1 F.2.1 hd hv (k F hR hS hl)
theorem aw_ldc {index : Nat} {v : Int32} (hd : decode M.1 pc = .ok (.ldc index, 2)) (hg : Cond.constant M.2.2.2.1 index v ∈ am_G) (k : AW M d rc rs (pc + 2) lv (.int v :: st) w cells slots Z) : AW M d rc rs pc lv st w cells slots Z := by
  intro p l e R s m args below meth c D tc b sc F H locs ls hR hS hl
  exact lv_ldc F.1 F.2.1 F.2.2.2.2.1 (F.2.2.2.2.2.2.2.1 _ hg) hd (k F hR hS hl)
theorem aw_ldc2 {index : Nat} {v : Int64} (hd : decode M.1 pc = .ok (.ldc2_w index, 3)) (hg : Cond.constantLong M.2.2.2.1 index v ∈ am_G) (k : AW M d rc rs (pc + 3) lv (.long v :: st) w cells slots Z) : AW M d rc rs pc lv st w cells slots Z := by
  intro p l e R s m args below meth c D tc b sc F H locs ls hR hS hl
  exact lv_ldc2 F.1 F.2.1 F.2.2.2.2.1 (F.2.2.2.2.2.2.2.1 _ hg) hd (k F hR hS hl)
theorem aw_iload_n {k : Fin 4} {x : Int32} (hd : decode M.1 pc = .ok (.iload_n k, 1)) (h : am_lk lv k = some (.int x)) (kk : AW M d rc rs (pc + 1) lv (.int x :: st) w cells slots Z) : AW M d rc rs pc lv st w cells slots Z := by
  intro p l e R s m args below meth c D tc b sc F H locs ls hR hS hl
  exact lv_iload_n F.1 F.2.1 hd rfl (am_lk_has hl h) (kk F hR hS hl)
theorem aw_iload {i : Nat} {x : Int32} (hd : decode M.1 pc = .ok (.iload i, 2)) (h : am_lk lv i = some (.int x)) (kk : AW M d rc rs (pc + 2) lv (.int x :: st) w cells slots Z) : AW M d rc rs pc lv st w cells slots Z := by
  intro p l e R s m args below meth c D tc b sc F H locs ls hR hS hl
  exact lv_iload F.1 F.2.1 hd (am_lk_has hl h) (kk F hR hS hl)
theorem aw_lload_n {k : Fin 4} {x : Int64} (hd : decode M.1 pc = .ok (.lload_n k, 1)) (h : am_lk lv k = some (.long x)) (kk : AW M d rc rs (pc + 1) lv (.long x :: st) w cells slots Z) : AW M d rc rs pc lv st w cells slots Z := by
  intro p l e R s m args below meth c D tc b sc F H locs ls hR hS hl
  exact lv_lload_n F.1 F.2.1 hd rfl (am_lk_has hl h) (kk F hR hS hl)
theorem aw_lload {i : Nat} {x : Int64} (hd : decode M.1 pc = .ok (.lload i, 2)) (h : am_lk lv i = some (.long x)) (kk : AW M d rc rs (pc + 2) lv (.long x :: st) w cells slots Z) : AW M d rc rs pc lv st w cells slots Z := by
  intro p l e R s m args below meth c D tc b sc F H locs ls hR hS hl
  exact lv_lload F.1 F.2.1 hd (am_lk_has hl h) (kk F hR hS hl)
theorem aw_aload_n {k : Fin 4} {x : Nat} (hd : decode M.1 pc = .ok (.aload_n k, 1)) (h : am_lk lv k = some (.ref x)) (kk : AW M d rc rs (pc + 1) lv ((.ref x) :: st) w cells slots Z) : AW M d rc rs pc lv st w cells slots Z := by
  intro p l e R s m args below meth c D tc b sc F H locs ls hR hS hl
  exact lv_aload_n F.1 F.2.1 hd rfl (am_lk_has hl h) (kk F hR hS hl)
theorem aw_aload {i : Nat} {x : Nat} (hd : decode M.1 pc = .ok (.aload i, 2)) (h : am_lk lv i = some (.ref x)) (kk : AW M d rc rs (pc + 2) lv ((.ref x) :: st) w cells slots Z) : AW M d rc rs pc lv st w cells slots Z := by
  intro p l e R s m args below meth c D tc b sc F H locs ls hR hS hl
  exact lv_aload F.1 F.2.1 hd (am_lk_has hl h) (kk F hR hS hl)
theorem aw_aload_nS {k : Fin 4} {x : UInt32} (hd : decode M.1 pc = .ok (.aload_n k, 1)) (h : am_lk lv k = some (.float x)) (kk : AW M d rc rs (pc + 1) lv ((.float x) :: st) w cells slots Z) : AW M d rc rs pc lv st w cells slots Z := by
  intro p l e R s m args below meth c D tc b sc F H locs ls hR hS hl
  exact lv_aload_n F.1 F.2.1 hd rfl (am_lk_has hl h) (kk F hR hS hl)
theorem aw_aloadS {i : Nat} {x : UInt32} (hd : decode M.1 pc = .ok (.aload i, 2)) (h : am_lk lv i = some (.float x)) (kk : AW M d rc rs (pc + 2) lv ((.float x) :: st) w cells slots Z) : AW M d rc rs pc lv st w cells slots Z := by
  intro p l e R s m args below meth c D tc b sc F H locs ls hR hS hl
  exact lv_aload F.1 F.2.1 hd (am_lk_has hl h) (kk F hR hS hl)
theorem aw_istore_n {k : Fin 4} {x : Int32} (hd : decode M.1 pc = .ok (.istore_n k, 1)) (hn : (k : Nat) < M.2.1) (kk : AW M d rc rs (pc + 1) (am_s1 lv k (.int x)) st w cells slots Z) : AW M d rc rs pc lv (.int x :: st) w cells slots Z := by
  intro p l e R s m args below meth c D tc b sc F H locs ls hR hS hl
  exact lv_istore_n F.1 F.2.1 hd rfl hl hn (am_s1_eq b sc lv k (.int x)) (fun ls hl => kk F hR hS hl)
theorem aw_istore {i : Nat} {x : Int32} (hd : decode M.1 pc = .ok (.istore i, 2)) (hn : i < M.2.1) (kk : AW M d rc rs (pc + 2) (am_s1 lv i (.int x)) st w cells slots Z) : AW M d rc rs pc lv (.int x :: st) w cells slots Z := by
  intro p l e R s m args below meth c D tc b sc F H locs ls hR hS hl
  exact lv_istore F.1 F.2.1 hd hl hn (am_s1_eq b sc lv i (.int x)) (fun ls hl => kk F hR hS hl)
theorem aw_lstore_n {k : Fin 4} {x : Int64} (hd : decode M.1 pc = .ok (.lstore_n k, 1)) (hn : (k : Nat) + 1 < M.2.1) (kk : AW M d rc rs (pc + 1) (am_s2 lv k (.long x)) st w cells slots Z) : AW M d rc rs pc lv (.long x :: st) w cells slots Z := by
  intro p l e R s m args below meth c D tc b sc F H locs ls hR hS hl
  exact lv_lstore_n F.1 F.2.1 hd rfl hl hn (am_s2_eq b sc lv k (.long x)) (fun ls hl => kk F hR hS hl)
theorem aw_lstore {i : Nat} {x : Int64} (hd : decode M.1 pc = .ok (.lstore i, 2)) (hn : i + 1 < M.2.1) (kk : AW M d rc rs (pc + 2) (am_s2 lv i (.long x)) st w cells slots Z) : AW M d rc rs pc lv (.long x :: st) w cells slots Z := by
  intro p l e R s m args below meth c D tc b sc F H locs ls hR hS hl
  exact lv_lstore F.1 F.2.1 hd hl hn (am_s2_eq b sc lv i (.long x)) (fun ls hl => kk F hR hS hl)
theorem aw_astore_n {k : Fin 4} {x : Nat} (hd : decode M.1 pc = .ok (.astore_n k, 1)) (hn : (k : Nat) < M.2.1) (kk : AW M d rc rs (pc + 1) (am_s1 lv k (.ref x)) st w cells slots Z) : AW M d rc rs pc lv (.ref x :: st) w cells slots Z := by
  intro p l e R s m args below meth c D tc b sc F H locs ls hR hS hl
  exact lv_astore_n F.1 F.2.1 hd rfl hl hn (am_s1_eq b sc lv k (.ref x)) (fun ls hl => kk F hR hS hl)
theorem aw_astore {i : Nat} {x : Nat} (hd : decode M.1 pc = .ok (.astore i, 2)) (hn : i < M.2.1) (kk : AW M d rc rs (pc + 2) (am_s1 lv i (.ref x)) st w cells slots Z) : AW M d rc rs pc lv (.ref x :: st) w cells slots Z := by
  intro p l e R s m args below meth c D tc b sc F H locs ls hR hS hl
  exact lv_astore F.1 F.2.1 hd hl hn (am_s1_eq b sc lv i (.ref x)) (fun ls hl => kk F hR hS hl)
theorem am_lk_idx : ∀ {l : List (Nat × Value)} {i : Nat} {v : Value}, am_lk l i = some v → ∃ k : Nat, l[k]? = some (i, v)
  | l, i, v, h => List.getElem?_of_mem (am_lk_mem h)
theorem aw_iinc {i : Nat} {n : Int} {x v : Int32} (hd : decode M.1 pc = .ok (.iinc i n, 3)) (h : am_lk lv i = some (.int x)) (hv : x + Int32.ofInt n = v) (hn : i < M.2.1) (kk : AW M d rc rs (pc + 3) (am_s1 lv i (.int v)) st w cells slots Z) : AW M d rc rs pc lv st w cells slots Z := by
  intro p l e R s m args below meth c D tc b sc F H locs ls hR hS hl
  obtain ⟨k, hk⟩ := am_lk_idx h
  exact lv_iinc F.1 F.2.1 hd hl (k := k) (by rw [List.getElem?_map, hk]; rfl) hv hn (am_s1_eq b sc lv i (.int v)) (fun ls hl => kk F hR hS hl)
theorem aw_iadd {x y : Int32} (hd : decode M.1 pc = .ok (.iadd, 1)) (k : AW M d rc rs (pc + 1) lv (.int (x + y) :: st) w cells slots Z) : AW M d rc rs pc lv (.int y :: .int x :: st) w cells slots Z := by
  intro p l e R s m args below meth c D tc b sc F H locs ls hR hS hl
  exact lv_iadd F.1 F.2.1 hd (k F hR hS hl)
theorem aw_isub {x y : Int32} (hd : decode M.1 pc = .ok (.isub, 1)) (k : AW M d rc rs (pc + 1) lv (.int (x - y) :: st) w cells slots Z) : AW M d rc rs pc lv (.int y :: .int x :: st) w cells slots Z := by
  intro p l e R s m args below meth c D tc b sc F H locs ls hR hS hl
  exact lv_isub F.1 F.2.1 hd (k F hR hS hl)
theorem aw_imul {x y : Int32} (hd : decode M.1 pc = .ok (.imul, 1)) (k : AW M d rc rs (pc + 1) lv (.int (x * y) :: st) w cells slots Z) : AW M d rc rs pc lv (.int y :: .int x :: st) w cells slots Z := by
  intro p l e R s m args below meth c D tc b sc F H locs ls hR hS hl
  exact lv_imul F.1 F.2.1 hd (k F hR hS hl)
theorem aw_iand {x y : Int32} (hd : decode M.1 pc = .ok (.iand, 1)) (k : AW M d rc rs (pc + 1) lv (.int (x &&& y) :: st) w cells slots Z) : AW M d rc rs pc lv (.int y :: .int x :: st) w cells slots Z := by
  intro p l e R s m args below meth c D tc b sc F H locs ls hR hS hl
  exact lv_iand F.1 F.2.1 hd (k F hR hS hl)
theorem aw_ior {x y : Int32} (hd : decode M.1 pc = .ok (.ior, 1)) (k : AW M d rc rs (pc + 1) lv (.int (x ||| y) :: st) w cells slots Z) : AW M d rc rs pc lv (.int y :: .int x :: st) w cells slots Z := by
  intro p l e R s m args below meth c D tc b sc F H locs ls hR hS hl
  exact lv_ior F.1 F.2.1 hd (k F hR hS hl)
theorem aw_ixor {x y : Int32} (hd : decode M.1 pc = .ok (.ixor, 1)) (k : AW M d rc rs (pc + 1) lv (.int (x ^^^ y) :: st) w cells slots Z) : AW M d rc rs pc lv (.int y :: .int x :: st) w cells slots Z := by
  intro p l e R s m args below meth c D tc b sc F H locs ls hR hS hl
  exact lv_ixor F.1 F.2.1 hd (k F hR hS hl)
theorem aw_ishl {x y : Int32} (hd : decode M.1 pc = .ok (.ishl, 1)) (k : AW M d rc rs (pc + 1) lv (.int (x <<< (y &&& 31)) :: st) w cells slots Z) : AW M d rc rs pc lv (.int y :: .int x :: st) w cells slots Z := by
  intro p l e R s m args below meth c D tc b sc F H locs ls hR hS hl
  exact lv_ishl F.1 F.2.1 hd (k F hR hS hl)
theorem aw_ishr {x y : Int32} (hd : decode M.1 pc = .ok (.ishr, 1)) (k : AW M d rc rs (pc + 1) lv (.int (x >>> (y &&& 31)) :: st) w cells slots Z) : AW M d rc rs pc lv (.int y :: .int x :: st) w cells slots Z := by
  intro p l e R s m args below meth c D tc b sc F H locs ls hR hS hl
  exact lv_ishr F.1 F.2.1 hd (k F hR hS hl)
theorem aw_ladd {x y : Int64} (hd : decode M.1 pc = .ok (.ladd, 1)) (k : AW M d rc rs (pc + 1) lv (.long (x + y) :: st) w cells slots Z) : AW M d rc rs pc lv (.long y :: .long x :: st) w cells slots Z := by
  intro p l e R s m args below meth c D tc b sc F H locs ls hR hS hl
  exact lv_ladd F.1 F.2.1 hd (k F hR hS hl)
theorem aw_lsub {x y : Int64} (hd : decode M.1 pc = .ok (.lsub, 1)) (k : AW M d rc rs (pc + 1) lv (.long (x - y) :: st) w cells slots Z) : AW M d rc rs pc lv (.long y :: .long x :: st) w cells slots Z := by
  intro p l e R s m args below meth c D tc b sc F H locs ls hR hS hl
  exact lv_lsub F.1 F.2.1 hd (k F hR hS hl)
theorem aw_lmul {x y : Int64} (hd : decode M.1 pc = .ok (.lmul, 1)) (k : AW M d rc rs (pc + 1) lv (.long (x * y) :: st) w cells slots Z) : AW M d rc rs pc lv (.long y :: .long x :: st) w cells slots Z := by
  intro p l e R s m args below meth c D tc b sc F H locs ls hR hS hl
  exact lv_lmul F.1 F.2.1 hd (k F hR hS hl)
theorem aw_land {x y : Int64} (hd : decode M.1 pc = .ok (.land, 1)) (k : AW M d rc rs (pc + 1) lv (.long (x &&& y) :: st) w cells slots Z) : AW M d rc rs pc lv (.long y :: .long x :: st) w cells slots Z := by
  intro p l e R s m args below meth c D tc b sc F H locs ls hR hS hl
  exact lv_land F.1 F.2.1 hd (k F hR hS hl)
theorem aw_lor {x y : Int64} (hd : decode M.1 pc = .ok (.lor, 1)) (k : AW M d rc rs (pc + 1) lv (.long (x ||| y) :: st) w cells slots Z) : AW M d rc rs pc lv (.long y :: .long x :: st) w cells slots Z := by
  intro p l e R s m args below meth c D tc b sc F H locs ls hR hS hl
  exact lv_lor F.1 F.2.1 hd (k F hR hS hl)
theorem aw_lxor {x y : Int64} (hd : decode M.1 pc = .ok (.lxor, 1)) (k : AW M d rc rs (pc + 1) lv (.long (x ^^^ y) :: st) w cells slots Z) : AW M d rc rs pc lv (.long y :: .long x :: st) w cells slots Z := by
  intro p l e R s m args below meth c D tc b sc F H locs ls hR hS hl
  exact lv_lxor F.1 F.2.1 hd (k F hR hS hl)
theorem aw_idiv {x y : Int32} (hd : decode M.1 pc = .ok (.idiv, 1)) (hne : ¬ y = 0) (k : AW M d rc rs (pc + 1) lv (.int (x / y) :: st) w cells slots Z) : AW M d rc rs pc lv (.int y :: .int x :: st) w cells slots Z := by
  intro p l e R s m args below meth c D tc b sc F H locs ls hR hS hl
  exact lv_idiv F.1 F.2.1 hd hne (k F hR hS hl)
theorem aw_irem {x y : Int32} (hd : decode M.1 pc = .ok (.irem, 1)) (hne : ¬ y = 0) (k : AW M d rc rs (pc + 1) lv (.int (x - x / y * y) :: st) w cells slots Z) : AW M d rc rs pc lv (.int y :: .int x :: st) w cells slots Z := by
  intro p l e R s m args below meth c D tc b sc F H locs ls hR hS hl
  exact lv_irem F.1 F.2.1 hd hne (k F hR hS hl)
theorem aw_ldiv {x y : Int64} (hd : decode M.1 pc = .ok (.ldiv, 1)) (hne : ¬ y = 0) (k : AW M d rc rs (pc + 1) lv (.long (x / y) :: st) w cells slots Z) : AW M d rc rs pc lv (.long y :: .long x :: st) w cells slots Z := by
  intro p l e R s m args below meth c D tc b sc F H locs ls hR hS hl
  exact lv_ldiv F.1 F.2.1 hd hne (k F hR hS hl)
theorem aw_lrem {x y : Int64} (hd : decode M.1 pc = .ok (.lrem, 1)) (hne : ¬ y = 0) (k : AW M d rc rs (pc + 1) lv (.long (x - x / y * y) :: st) w cells slots Z) : AW M d rc rs pc lv (.long y :: .long x :: st) w cells slots Z := by
  intro p l e R s m args below meth c D tc b sc F H locs ls hR hS hl
  exact lv_lrem F.1 F.2.1 hd hne (k F hR hS hl)
theorem aw_ineg {x : Int32} (hd : decode M.1 pc = .ok (.ineg, 1)) (k : AW M d rc rs (pc + 1) lv (.int (-x) :: st) w cells slots Z) : AW M d rc rs pc lv (.int x :: st) w cells slots Z := by
  intro p l e R s m args below meth c D tc b sc F H locs ls hR hS hl
  exact lv_ineg F.1 F.2.1 hd (k F hR hS hl)
theorem aw_lneg {x : Int64} (hd : decode M.1 pc = .ok (.lneg, 1)) (k : AW M d rc rs (pc + 1) lv (.long (-x) :: st) w cells slots Z) : AW M d rc rs pc lv (.long x :: st) w cells slots Z := by
  intro p l e R s m args below meth c D tc b sc F H locs ls hR hS hl
  exact lv_lneg F.1 F.2.1 hd (k F hR hS hl)
theorem aw_i2l {x : Int32} (hd : decode M.1 pc = .ok (.i2l, 1)) (k : AW M d rc rs (pc + 1) lv (.long x.toInt64 :: st) w cells slots Z) : AW M d rc rs pc lv (.int x :: st) w cells slots Z := by
  intro p l e R s m args below meth c D tc b sc F H locs ls hR hS hl
  exact lv_i2l F.1 F.2.1 hd rfl (k F hR hS hl)
theorem aw_l2i {x : Int64} (hd : decode M.1 pc = .ok (.l2i, 1)) (k : AW M d rc rs (pc + 1) lv (.int x.toInt32 :: st) w cells slots Z) : AW M d rc rs pc lv (.long x :: st) w cells slots Z := by
  intro p l e R s m args below meth c D tc b sc F H locs ls hR hS hl
  exact lv_l2i F.1 F.2.1 hd rfl (k F hR hS hl)
theorem aw_lushr {x : Int64} {y : Int32} (hd : decode M.1 pc = .ok (.lushr, 1)) (k : AW M d rc rs (pc + 1) lv (.long (x.toUInt64 >>> (y.toInt64.toUInt64 &&& Int64.toUInt64 63)).toInt64 :: st) w cells slots Z) : AW M d rc rs pc lv (.int y :: .long x :: st) w cells slots Z := by
  intro p l e R s m args below meth c D tc b sc F H locs ls hR hS hl
  exact lv_lushr F.1 F.2.1 hd rfl (k F hR hS hl)
theorem aw_lshl {x : Int64} {y : Int32} (hd : decode M.1 pc = .ok (.lshl, 1)) (k : AW M d rc rs (pc + 1) lv (.long (x <<< (y.toInt64 &&& 63)) :: st) w cells slots Z) : AW M d rc rs pc lv (.int y :: .long x :: st) w cells slots Z := by
  intro p l e R s m args below meth c D tc b sc F H locs ls hR hS hl
  exact lv_lshl F.1 F.2.1 hd rfl (k F hR hS hl)
theorem aw_lshr {x : Int64} {y : Int32} (hd : decode M.1 pc = .ok (.lshr, 1)) (k : AW M d rc rs (pc + 1) lv (.long (x >>> (y.toInt64 &&& 63)) :: st) w cells slots Z) : AW M d rc rs pc lv (.int y :: .long x :: st) w cells slots Z := by
  intro p l e R s m args below meth c D tc b sc F H locs ls hR hS hl
  exact lv_lshr F.1 F.2.1 hd rfl (k F hR hS hl)
theorem aw_lcmp {x y : Int64} (hd : decode M.1 pc = .ok (.lcmp, 1)) (k : AW M d rc rs (pc + 1) lv (.int (lg_cmp x y) :: st) w cells slots Z) : AW M d rc rs pc lv (.long y :: .long x :: st) w cells slots Z := by
  intro p l e R s m args below meth c D tc b sc F H locs ls hR hS hl
  exact W.lcmp F.1 F.2.1 hd (k F hR hS hl)
theorem aw_dup {x : Value} (hd : decode M.1 pc = .ok (.dup, 1)) (hx : x.category = 1) (k : AW M d rc rs (pc + 1) lv (x :: x :: st) w cells slots Z) : AW M d rc rs pc lv (x :: st) w cells slots Z := by
  intro p l e R s m args below meth c D tc b sc F H locs ls hR hS hl
  exact lv_dup F.1 F.2.1 hd (by rw [am_v_cat]; exact hx) (k F hR hS hl)
theorem aw_pop {x : Value} (hd : decode M.1 pc = .ok (.pop, 1)) (hx : x.category = 1) (k : AW M d rc rs (pc + 1) lv st w cells slots Z) : AW M d rc rs pc lv (x :: st) w cells slots Z := by
  intro p l e R s m args below meth c D tc b sc F H locs ls hR hS hl
  exact lv_pop F.1 F.2.1 hd (by rw [am_v_cat]; exact hx) (k F hR hS hl)
theorem aw_pop2 {x : Value} (hd : decode M.1 pc = .ok (.pop2, 1)) (hx : x.category = 2) (k : AW M d rc rs (pc + 1) lv st w cells slots Z) : AW M d rc rs pc lv (x :: st) w cells slots Z := by
  intro p l e R s m args below meth c D tc b sc F H locs ls hR hS hl
  exact lv_pop2_2 F.1 F.2.1 hd (by rw [am_v_cat]; exact hx) (k F hR hS hl)
theorem aw_dup_x1 {x y : Value} (hd : decode M.1 pc = .ok (.dup_x1, 1)) (hx : x.category = 1) (hy : y.category = 1) (k : AW M d rc rs (pc + 1) lv (x :: y :: x :: st) w cells slots Z) : AW M d rc rs pc lv (x :: y :: st) w cells slots Z := by
  intro p l e R s m args below meth c D tc b sc F H locs ls hR hS hl
  exact lv_dup_x1 F.1 F.2.1 hd (by rw [am_v_cat]; exact hx) (by rw [am_v_cat]; exact hy) (k F hR hS hl)
theorem aw_dup_x2 {x y z : Value} (hd : decode M.1 pc = .ok (.dup_x2, 1)) (hx : x.category = 1) (hy : y.category = 1) (hz : z.category = 1) (k : AW M d rc rs (pc + 1) lv (x :: y :: z :: x :: st) w cells slots Z) : AW M d rc rs pc lv (x :: y :: z :: st) w cells slots Z := by
  intro p l e R s m args below meth c D tc b sc F H locs ls hR hS hl
  exact lv_dup_x2 F.1 F.2.1 hd (by rw [am_v_cat]; exact hx) (by rw [am_v_cat]; exact hy) (by rw [am_v_cat]; exact hz) (k F hR hS hl)
theorem aw_dup2 {x y : Value} (hd : decode M.1 pc = .ok (.dup2, 1)) (hx : x.category = 1) (hy : y.category = 1) (k : AW M d rc rs (pc + 1) lv (x :: y :: x :: y :: st) w cells slots Z) : AW M d rc rs pc lv (x :: y :: st) w cells slots Z := by
  intro p l e R s m args below meth c D tc b sc F H locs ls hR hS hl
  exact lv_dup2_11 F.1 F.2.1 hd (by rw [am_v_cat]; exact hx) (by rw [am_v_cat]; exact hy) (k F hR hS hl)
theorem aw_dup2L {x : Value} (hd : decode M.1 pc = .ok (.dup2, 1)) (hx : x.category = 2) (k : AW M d rc rs (pc + 1) lv (x :: x :: st) w cells slots Z) : AW M d rc rs pc lv (x :: st) w cells slots Z := by
  intro p l e R s m args below meth c D tc b sc F H locs ls hR hS hl
  exact lv_dup2_2 F.1 F.2.1 hd (by rw [am_v_cat]; exact hx) (k F hR hS hl)
theorem aw_if_eq {x : Int32} {off : Int} {tgt : Nat} (hd : decode M.1 pc = .ok (.ifCond .eq off, 3)) (ht : (pc : Int) + off = (tgt : Int)) (kt : x = 0 → AW M d rc rs tgt lv st w cells slots Z) (kf : ¬ x = 0 → AW M d rc rs (pc + 3) lv st w cells slots Z) : AW M d rc rs pc lv (.int x :: st) w cells slots Z := by
  intro p l e R s m args below meth c D tc b sc F H locs ls hR hS hl
  exact lv_if_eq F.1 F.2.1 hd ht (fun h => kt h F hR hS hl) (fun h => kf h F hR hS hl)
theorem aw_icmp_eq {x y : Int32} {off : Int} {tgt : Nat} (hd : decode M.1 pc = .ok (.if_icmp .eq off, 3)) (ht : (pc : Int) + off = (tgt : Int)) (kt : x = y → AW M d rc rs tgt lv st w cells slots Z) (kf : ¬ x = y → AW M d rc rs (pc + 3) lv st w cells slots Z) : AW M d rc rs pc lv (.int y :: .int x :: st) w cells slots Z := by
  intro p l e R s m args below meth c D tc b sc F H locs ls hR hS hl
  exact lv_icmp_eq F.1 F.2.1 hd ht (fun h => kt h F hR hS hl) (fun h => kf h F hR hS hl)
theorem aw_if_ne {x : Int32} {off : Int} {tgt : Nat} (hd : decode M.1 pc = .ok (.ifCond .ne off, 3)) (ht : (pc : Int) + off = (tgt : Int)) (kt : ¬ x = 0 → AW M d rc rs tgt lv st w cells slots Z) (kf : x = 0 → AW M d rc rs (pc + 3) lv st w cells slots Z) : AW M d rc rs pc lv (.int x :: st) w cells slots Z := by
  intro p l e R s m args below meth c D tc b sc F H locs ls hR hS hl
  exact lv_if_ne F.1 F.2.1 hd ht (fun h => kt h F hR hS hl) (fun h => kf h F hR hS hl)
theorem aw_icmp_ne {x y : Int32} {off : Int} {tgt : Nat} (hd : decode M.1 pc = .ok (.if_icmp .ne off, 3)) (ht : (pc : Int) + off = (tgt : Int)) (kt : ¬ x = y → AW M d rc rs tgt lv st w cells slots Z) (kf : x = y → AW M d rc rs (pc + 3) lv st w cells slots Z) : AW M d rc rs pc lv (.int y :: .int x :: st) w cells slots Z := by
  intro p l e R s m args below meth c D tc b sc F H locs ls hR hS hl
  exact lv_icmp_ne F.1 F.2.1 hd ht (fun h => kt h F hR hS hl) (fun h => kf h F hR hS hl)
theorem aw_if_lt {x : Int32} {off : Int} {tgt : Nat} (hd : decode M.1 pc = .ok (.ifCond .lt off, 3)) (ht : (pc : Int) + off = (tgt : Int)) (kt : x < 0 → AW M d rc rs tgt lv st w cells slots Z) (kf : ¬ x < 0 → AW M d rc rs (pc + 3) lv st w cells slots Z) : AW M d rc rs pc lv (.int x :: st) w cells slots Z := by
  intro p l e R s m args below meth c D tc b sc F H locs ls hR hS hl
  exact lv_if_lt F.1 F.2.1 hd ht (fun h => kt h F hR hS hl) (fun h => kf h F hR hS hl)
theorem aw_icmp_lt {x y : Int32} {off : Int} {tgt : Nat} (hd : decode M.1 pc = .ok (.if_icmp .lt off, 3)) (ht : (pc : Int) + off = (tgt : Int)) (kt : x < y → AW M d rc rs tgt lv st w cells slots Z) (kf : ¬ x < y → AW M d rc rs (pc + 3) lv st w cells slots Z) : AW M d rc rs pc lv (.int y :: .int x :: st) w cells slots Z := by
  intro p l e R s m args below meth c D tc b sc F H locs ls hR hS hl
  exact lv_icmp_lt F.1 F.2.1 hd ht (fun h => kt h F hR hS hl) (fun h => kf h F hR hS hl)
theorem aw_if_ge {x : Int32} {off : Int} {tgt : Nat} (hd : decode M.1 pc = .ok (.ifCond .ge off, 3)) (ht : (pc : Int) + off = (tgt : Int)) (kt : 0 ≤ x → AW M d rc rs tgt lv st w cells slots Z) (kf : ¬ 0 ≤ x → AW M d rc rs (pc + 3) lv st w cells slots Z) : AW M d rc rs pc lv (.int x :: st) w cells slots Z := by
  intro p l e R s m args below meth c D tc b sc F H locs ls hR hS hl
  exact lv_if_ge F.1 F.2.1 hd ht (fun h => kt h F hR hS hl) (fun h => kf h F hR hS hl)
theorem aw_icmp_ge {x y : Int32} {off : Int} {tgt : Nat} (hd : decode M.1 pc = .ok (.if_icmp .ge off, 3)) (ht : (pc : Int) + off = (tgt : Int)) (kt : y ≤ x → AW M d rc rs tgt lv st w cells slots Z) (kf : ¬ y ≤ x → AW M d rc rs (pc + 3) lv st w cells slots Z) : AW M d rc rs pc lv (.int y :: .int x :: st) w cells slots Z := by
  intro p l e R s m args below meth c D tc b sc F H locs ls hR hS hl
  exact lv_icmp_ge F.1 F.2.1 hd ht (fun h => kt h F hR hS hl) (fun h => kf h F hR hS hl)
theorem aw_if_gt {x : Int32} {off : Int} {tgt : Nat} (hd : decode M.1 pc = .ok (.ifCond .gt off, 3)) (ht : (pc : Int) + off = (tgt : Int)) (kt : 0 < x → AW M d rc rs tgt lv st w cells slots Z) (kf : ¬ 0 < x → AW M d rc rs (pc + 3) lv st w cells slots Z) : AW M d rc rs pc lv (.int x :: st) w cells slots Z := by
  intro p l e R s m args below meth c D tc b sc F H locs ls hR hS hl
  exact lv_if_gt F.1 F.2.1 hd ht (fun h => kt h F hR hS hl) (fun h => kf h F hR hS hl)
theorem aw_icmp_gt {x y : Int32} {off : Int} {tgt : Nat} (hd : decode M.1 pc = .ok (.if_icmp .gt off, 3)) (ht : (pc : Int) + off = (tgt : Int)) (kt : y < x → AW M d rc rs tgt lv st w cells slots Z) (kf : ¬ y < x → AW M d rc rs (pc + 3) lv st w cells slots Z) : AW M d rc rs pc lv (.int y :: .int x :: st) w cells slots Z := by
  intro p l e R s m args below meth c D tc b sc F H locs ls hR hS hl
  exact lv_icmp_gt F.1 F.2.1 hd ht (fun h => kt h F hR hS hl) (fun h => kf h F hR hS hl)
theorem aw_if_le {x : Int32} {off : Int} {tgt : Nat} (hd : decode M.1 pc = .ok (.ifCond .le off, 3)) (ht : (pc : Int) + off = (tgt : Int)) (kt : x ≤ 0 → AW M d rc rs tgt lv st w cells slots Z) (kf : ¬ x ≤ 0 → AW M d rc rs (pc + 3) lv st w cells slots Z) : AW M d rc rs pc lv (.int x :: st) w cells slots Z := by
  intro p l e R s m args below meth c D tc b sc F H locs ls hR hS hl
  exact lv_if_le F.1 F.2.1 hd ht (fun h => kt h F hR hS hl) (fun h => kf h F hR hS hl)
theorem aw_icmp_le {x y : Int32} {off : Int} {tgt : Nat} (hd : decode M.1 pc = .ok (.if_icmp .le off, 3)) (ht : (pc : Int) + off = (tgt : Int)) (kt : x ≤ y → AW M d rc rs tgt lv st w cells slots Z) (kf : ¬ x ≤ y → AW M d rc rs (pc + 3) lv st w cells slots Z) : AW M d rc rs pc lv (.int y :: .int x :: st) w cells slots Z := by
  intro p l e R s m args below meth c D tc b sc F H locs ls hR hS hl
  exact lv_icmp_le F.1 F.2.1 hd ht (fun h => kt h F hR hS hl) (fun h => kf h F hR hS hl)
theorem aw_goto {off : Int} {tgt : Nat} (hd : decode M.1 pc = .ok (.goto off, 3)) (ht : (pc : Int) + off = (tgt : Int)) (k : AW M d rc rs tgt lv st w cells slots Z) : AW M d rc rs pc lv st w cells slots Z := by
  intro p l e R s m args below meth c D tc b sc F H locs ls hR hS hl
  exact lv_goto F.1 F.2.1 hd ht (k F hR hS hl)
theorem aw_tableIn {dflt lo hi : Int} {offs : Array Int} {len : Nat} {x : Int32} {off : Int} {tgt : Nat} (hd : decode M.1 pc = .ok (.tableswitch dflt lo hi offs, len)) (h1 : ¬ x.toInt < lo) (h2 : ¬ hi < x.toInt) (ho : offs[(x.toInt - lo).toNat]? = some off) (ht : (pc : Int) + off = (tgt : Int)) (k : AW M d rc rs tgt lv st w cells slots Z) : AW M d rc rs pc lv (.int x :: st) w cells slots Z := by
  intro p l e R s m args below meth c D tc b sc F H locs ls hR hS hl
  exact lv_tableIn F.1 F.2.1 hd h1 h2 ho ht (k F hR hS hl)
theorem aw_tableOut {dflt lo hi : Int} {offs : Array Int} {len : Nat} {x : Int32} {tgt : Nat} (hd : decode M.1 pc = .ok (.tableswitch dflt lo hi offs, len)) (h : x.toInt < lo ∨ hi < x.toInt) (ht : (pc : Int) + dflt = (tgt : Int)) (k : AW M d rc rs tgt lv st w cells slots Z) : AW M d rc rs pc lv (.int x :: st) w cells slots Z := by
  intro p l e R s m args below meth c D tc b sc F H locs ls hR hS hl
  exact lv_tableOut F.1 F.2.1 hd h ht (k F hR hS hl)
theorem aw_iret {v : Int32} (hd : decode M.1 pc = .ok (.ireturn, 1)) (hr : M.2.2.1 = some .int) : AW M d rc rs pc lv [.int v] w cells slots (am_Z (some (.int v)) w cells slots) := by
  intro p l e R s m args below meth c D tc b sc F H locs ls hR hS hl
  exact W.iret F.1 F.2.1 (F.2.2.2.1.trans hr) (fun t ht hW => ⟨rfl, by rw [ht]; exact hR, hS.F ht⟩) hS.2.2 hd F.2.2.2.2.2.2.1
theorem aw_zret {v : Int32} (hd : decode M.1 pc = .ok (.ireturn, 1)) (hr : M.2.2.1 = some .boolean) (hn : narrow .boolean (.int v) = .int v) : AW M d rc rs pc lv [.int v] w cells slots (am_Z (some (.int v)) w cells slots) := by
  intro p l e R s m args below meth c D tc b sc F H locs ls hR hS hl
  exact W.zret F.1 F.2.1 (F.2.2.2.1.trans hr) hn (fun t ht hW => ⟨rfl, by rw [ht]; exact hR, hS.F ht⟩) hS.2.2 hd F.2.2.2.2.2.2.1
theorem aw_lret {v : Int64} (hd : decode M.1 pc = .ok (.lreturn, 1)) (hr : M.2.2.1 = some .long) : AW M d rc rs pc lv [.long v] w cells slots (am_Z (some (.long v)) w cells slots) := by
  intro p l e R s m args below meth c D tc b sc F H locs ls hR hS hl
  exact W.lret F.1 F.2.1 (F.2.2.2.1.trans hr) (fun t ht hW => ⟨rfl, by rw [ht]; exact hR, hS.F ht⟩) hS.2.2 hd F.2.2.2.2.2.2.1
theorem aw_vret (hd : decode M.1 pc = .ok (.return_, 1)) (hr : M.2.2.1 = none) : AW M d rc rs pc lv [] w cells slots (am_Z none w cells slots) := by
  intro p l e R s m args below meth c D tc b sc F H locs ls hR hS hl
  exact W.vret F.1 F.2.1 (F.2.2.2.1.trans hr) (fun t ht hW => ⟨rfl, by rw [ht]; exact hR, hS.F ht⟩) hS.2.2 hd F.2.2.2.2.2.2.1
theorem aw_aret {q : Nat} {rt : FieldType} (hd : decode M.1 pc = .ok (.areturn, 1)) (hr : M.2.2.1 = some rt) (hrt : (∃ n, rt = .object n) ∨ ∃ t, rt = .array t) : AW M d rc rs pc lv [.ref q] w cells slots (am_Z (some (.ref q)) w cells slots) := by
  intro p l e R s m args below meth c D tc b sc F H locs ls hR hS hl
  exact W.aret (v := .ref (b + q)) F.1 F.2.1 (F.2.2.2.1.trans hr) hrt (Or.inr ⟨_, rfl⟩) (fun t ht hW => ⟨rfl, by rw [ht]; exact hR, hS.F ht⟩) hS.2.2 hd F.2.2.2.2.2.2.1
theorem aw_widen {k n : Nat} (h1 : cells ≤ k) (h2 : slots ≤ n) (kk : AW M d rc rs pc lv st w k n Z) : AW M d rc rs pc lv st w cells slots Z := by
  intro p l e R s m args below meth c D tc b sc F H locs ls hR hS hl
  exact W.widen h1 h2 (kk F hR hS hl)
/-- a field by its number in the pool -/
def am_fl (own : String) (idx ci k : Nat) : Prop := ∃ (C : String) (T : u_T) (N : Nat), am_cl[ci]? = some (C, T, N) ∧ (∀ z ∈ u_ws C T N, z ∈ am_G) ∧ k < N ∧ Cond.fieldLink own idx (T k).1 (T k).2.1 (T k).2.2.1 ∈ am_G
def am_fp (own : String) (idx ci k : Nat) (ty : FieldType) : Prop := ∃ (C : String) (T : u_T) (N : Nat) (ty0 : Nat → FieldType), am_cl[ci]? = some (C, T, N) ∧ (∀ z ∈ u_ws C T N, z ∈ am_G) ∧ k < N ∧ Cond.fieldLink own idx (T k).1 (T k).2.1 (T k).2.2.1 ∈ am_G ∧ (∀ k, k < N → parseFieldDescriptor (T k).2.2.1 = some (ty0 k)) ∧ (∀ a, a < N → ∀ b, b < N → a ≠ b → (T a).2.1 ≠ (T b).2.1) ∧ (T k).2.2.2 = false ∧ parseFieldDescriptor (T k).2.2.1 = some ty
def am_fF (own : String) (idx ci k : Nat) (ty : FieldType) : Prop := ∃ (C : String) (T : u_T) (N : Nat) (ty0 : Nat → FieldType), am_cl[ci]? = some (C, T, N) ∧ (∀ z ∈ u_ws C T N, z ∈ am_G) ∧ k < N ∧ Cond.fieldLink own idx (T k).1 (T k).2.1 (T k).2.2.1 ∈ am_G ∧ (∀ k, k < N → parseFieldDescriptor (T k).2.2.1 = some (ty0 k)) ∧ (∀ a, a < N → ∀ b, b < N → a ≠ b → (T a).2.1 ≠ (T b).2.1) ∧ (T k).2.2.2 = true ∧ (T k).1 = own ∧ parseFieldDescriptor (T k).2.2.1 = some ty
theorem aw_get {idx q ci k : Nat} {fs : List Value} {v : Value} (hd : decode M.1 pc = .ok (.getfield idx, 3)) (hf : am_fl M.2.2.2.1 idx ci k) (hw : w[q]? = some (.inr (ci, fs))) (hv : fs[k]? = some v) (kk : AW M d rc rs (pc + 3) lv (v :: st) w cells slots Z) : AW M d rc rs pc lv (.ref q :: st) w cells slots Z := by
  intro p l e R s m args below meth c D tc b sc F H locs ls hR hS hl
  obtain ⟨C, T, N, hc, hin, hk, hlk⟩ := hf
  obtain ⟨hx, hb, hml, hr, hown, hname, hlocks, hts, hK, -⟩ := id F
  have he : (am_w tc b sc w)[q]? = some (b + q, .inr (ci, fs.map (am_v b sc))) := am_w_at hw
  exact va_get hx hb hts hin hown hK.1 hR.2 q he hc k hk (hts _ hlk) (fun _ h => h) (v := am_v b sc v) (by rw [List.getElem?_map, hv]; rfl) hd (kk F hR hS hl)
theorem aw_put {idx q ci k : Nat} {ty : FieldType} {fs : List Value} {v : Value} (hd : decode M.1 pc = .ok (.putfield idx, 3)) (hf : am_fp M.2.2.2.1 idx ci k ty) (hw : w[q]? = some (.inr (ci, fs))) (hl9 : k < fs.length) (hn : ∀ b sc : Nat, narrow ty (am_v b sc v) = am_v b sc v ∧ fits ty (am_v b sc v) = true) (kk : AW M d rc rs (pc + 3) lv st (w.set q (.inr (ci, fs.set k v))) cells slots Z) : AW M d rc rs pc lv (v :: .ref q :: st) w cells slots Z := by
  intro p l e R s m args below meth c D tc b sc F H locs ls hR hS hl
  obtain ⟨C, T, N, ty0, hc, hin, hk, hlk, hty, hnm, hfin, hd9⟩ := hf
  obtain ⟨hx, hb, hml, hr, hown, hname, hlocks, hts, hK, -⟩ := id F
  have hP := hR.2
  have he : (am_w tc b sc w)[q]? = some (b + q, .inr (ci, fs.map (am_v b sc))) := am_w_at hw
  have hDD := am_w_D tc b sc w
  have hap := va_apart (own := M.2.2.2.1) hts hin ty0 hty hnm hK.1 hc
  obtain ⟨r, h1, cell, q1, q2, q3, q4⟩ := hP q _ he
  have hr9 : r = (C, T, N) := Option.some.inj (h1.symm.trans hc)
  subst hr9
  obtain ⟨hSl, hfc, kC, hkC, hkind⟩ := hK.1.1 ci _ hc
  obtain ⟨cf, kf, fi, f, hi, hsl⟩ := hSl k hk
  have hlay := hts _ (hin _ (u_in_lay hk))
  unfold u_lay at hlay
  rw [if_neg (by rw [hfin]; decide)] at hlay
  have hst := (u_facts hfc hkC (u_lays hts hin hk) hi).1
  have h6 := u_store hfc hkC hkind hlay hi hd9 (hn b sc).1 (hn b sc).2
  refine W.putK hx hb (f := f) ⟨hown, hts _ hlk, ⟨_, _, _, hi⟩, hst⟩ (by rw [q2]; exact h6) q1 q3 (by rw [hsl]; exact k2_hasslot (q4 k hk)) rfl rfl hd fun H' e1 e2 e3 => ?_
  rw [hsl] at e1 ⊢
  have hset : (am_w tc b sc w).set q (b + q, .inr (ci, (fs.map (am_v b sc)).set k (am_v b sc v))) = am_w tc b sc (w.set q (.inr (ci, fs.set k v))) := by
    rw [← List.map_set]; exact am_w_set tc b sc w q (.inr (ci, fs.set k v))
  refine kk F ⟨by rw [e2, hR.1, List.length_set], ?_⟩ (hS.put e2 e3 (hDD.2 q _ he)) hl
  rw [← hset]
  exact hP.set hDD he ⟨_, hc, t_OB.to (V := updV (vp_V (fs.map (am_v b sc))) k (am_v b sc v)) ⟨_, e1, q2, q3, t_set q4 hap hk _⟩ (fun j _ => vp_updV_set (by rw [List.length_map]; exact hl9) _ j)⟩ e3
theorem aw_putF {idx q ci k : Nat} {ty : FieldType} {fs : List Value} {v : Value} (hd : decode M.1 pc = .ok (.putfield idx, 3)) (hf : am_fF M.2.2.2.1 idx ci k ty) (hin2 : M.2.2.2.2.1 = "<init>") (hw : w[q]? = some (.inr (ci, fs))) (hl9 : k < fs.length) (hn : ∀ b sc : Nat, narrow ty (am_v b sc v) = am_v b sc v ∧ fits ty (am_v b sc v) = true) (kk : AW M d rc rs (pc + 3) lv st (w.set q (.inr (ci, fs.set k v))) cells slots Z) : AW M d rc rs pc lv (v :: .ref q :: st) w cells slots Z := by
  intro p l e R s m args below meth c D tc b sc F H locs ls hR hS hl
  obtain ⟨C, T, N, ty0, hc, hin, hk, hlk, hty, hnm, hfin, hdecl, hd9⟩ := hf
  obtain ⟨hx, hb, hml, hr, hown, hname, hlocks, hts, hK, -⟩ := id F
  have hP := hR.2
  have he : (am_w tc b sc w)[q]? = some (b + q, .inr (ci, fs.map (am_v b sc))) := am_w_at hw
  have hDD := am_w_D tc b sc w
  have hap := va_apart (own := M.2.2.2.1) hts hin ty0 hty hnm hK.1 hc
  obtain ⟨r, h1, cell, q1, q2, q3, q4⟩ := hP q _ he
  have hr9 : r = (C, T, N) := Option.some.inj (h1.symm.trans hc)
  subst hr9
  obtain ⟨hSl, hfc, kC, hkC, hkind⟩ := hK.1.1 ci _ hc
  obtain ⟨cf, kf, fi, f, hi, hsl⟩ := hSl k hk
  have hlay := hts _ (hin _ (u_in_lay hk))
  unfold u_lay at hlay
  rw [if_pos hfin] at hlay
  have hst := (u_facts hfc hkC (u_lays hts hin hk) hi).1
  have hcf : m.cls = cf := by
    obtain ⟨_, _, c', _, _, _, -, -, hf', -, -, -, hown2, -⟩ := Cond.laysFinal_spec hlay
    have e1 : c' = cf := by have := hi.symm.trans hf'; simp at this; exact this.1.symm
    rw [hdecl] at hown2
    rw [← e1]; exact Option.some.inj (hown.symm.trans hown2)
  have h6 := u_fits hfc hkC hkind (Or.inr hlay) hi hd9 (hn b sc).1 (hn b sc).2
  refine W.putFinK hx hb hown (hts _ hlk) hi hst hcf (hname.trans hin2) (by rw [q2]; exact h6) q1 q3 (by rw [hsl]; exact k2_hasslot (q4 k hk)) rfl rfl hd fun H' e1 e2 e3 => ?_
  rw [hsl] at e1 ⊢
  have hset : (am_w tc b sc w).set q (b + q, .inr (ci, (fs.map (am_v b sc)).set k (am_v b sc v))) = am_w tc b sc (w.set q (.inr (ci, fs.set k v))) := by
    rw [← List.map_set]; exact am_w_set tc b sc w q (.inr (ci, fs.set k v))
  refine kk F ⟨by rw [e2, hR.1, List.length_set], ?_⟩ (hS.put e2 e3 (hDD.2 q _ he)) hl
  rw [← hset]
  exact hP.set hDD he ⟨_, hc, t_OB.to (V := updV (vp_V (fs.map (am_v b sc))) k (am_v b sc v)) ⟨_, e1, q2, q3, t_set q4 hap hk _⟩ (fun j _ => vp_updV_set (by rw [List.length_map]; exact hl9) _ j)⟩ e3
theorem aw_iald {q n : Nat} {f : Nat → Int32} {i : Int32} (hd : decode M.1 pc = .ok (.iaload, 1)) (hw : w[q]? = some (.inl (0, n, .inl f))) (hin : vp_in i n) (kk : AW M d rc rs (pc + 1) lv (.int (f i.toNatClampNeg) :: st) w cells slots Z) : AW M d rc rs pc lv (.int i :: .ref q :: st) w cells slots Z := by
  intro p l e R s m args below meth c D tc b sc F H locs ls hR hS hl
  obtain ⟨hx, hb, hml, hr, hown, hname, hlocks, hts, hK, -⟩ := id F
  have he : (am_w tc b sc w)[q]? = some (b + q, .inl (tc 0, n, .inl f)) := am_w_at hw
  exact va_iald hx hb hK.1 hR.2 q 0 he (am_tys_at (by decide)) hin hd (kk F hR hS hl)
theorem aw_iast {q n : Nat} {f : Nat → Int32} {i : Int32} {x : Int32} (hd : decode M.1 pc = .ok (.iastore, 1)) (hw : w[q]? = some (.inl (0, n, .inl f))) (hin : vp_in i n) (kk : AW M d rc rs (pc + 1) lv st (w.set q (.inl (0, n, .inl (upd f i.toNatClampNeg x)))) cells slots Z) : AW M d rc rs pc lv (.int x :: .int i :: .ref q :: st) w cells slots Z := by
  intro p l e R s m args below meth c D tc b sc F H locs ls hR hS hl
  obtain ⟨hx, hb, hml, hr, hown, hname, hlocks, hts, hK, -⟩ := id F
  have he : (am_w tc b sc w)[q]? = some (b + q, .inl (tc 0, n, .inl f)) := am_w_at hw
  have hP := hR.2
  have hDD := am_w_D tc b sc w
  have ht : (am_tys tc)[0]? = some (tc 0, .int) := am_tys_at (by decide)
  refine W.iast hx hb (hP q _ he) ((hK.1.2 0 _ ht).1 n (fun j => .int (f j))) (fun q => by cases q) (by show ¬ (i < 0 ∨ (arrV _ _ _).slots.size ≤ _); rw [arrV_size]; exact hin) rfl rfl hd fun H1 e z oq => ?_
  have hset : (am_w tc b sc w).set q (b + q, .inl (tc 0, n, .inl (upd f i.toNatClampNeg x))) = am_w tc b sc (w.set q (.inl (0, n, .inl (upd f i.toNatClampNeg x)))) := am_w_set tc b sc w q (.inl (0, n, .inl (upd f i.toNatClampNeg x)))
  refine kk F ⟨by rw [z, hR.1, List.length_set], ?_⟩ (hS.put z oq (hDD.2 q _ he)) hl
  rw [← hset]
  refine hP.set hDD he ?_ oq
  show H1[b + q]? = some (vp_cell _ _)
  rw [e]
  rw [vp_cell_i, vp_cell_i, arrV_store]
  congr 2
  funext j
  by_cases hj : j = i.toNatClampNeg
  · subst hj
    simp [updV, upd, vp_nar]
    try rfl
  · simp [updV, upd, hj]
theorem aw_newai {n : Int32} {N' : Nat} (hd : decode M.1 pc = .ok (.newarray .int, 2)) (hg : Cond.arrayClass .int ∈ am_G) (hn : ¬ n < 0) (hN : n.toNatClampNeg = N') (hbytes : N' * componentBytes .int ≤ 536870912) (hcells : cells + 1 ≤ rc) (hslots : slots + N' ≤ rs) (kk : AW M d rc rs (pc + 2) lv (.ref w.length :: st) (w ++ [.inl (0, N', .inl (fun _ => 0))]) (cells + 1) (slots + N') Z) : AW M d rc rs pc lv (.int n :: st) w cells slots Z := by
  intro p l e R s m args below meth c D tc b sc F H locs ls hR hS hl
  obtain ⟨hx, hb, hml, hr, hown, hname, hlocks, hts, hK, hbs, hfl, hcs, -⟩ := id F
  have hP := hR.2
  refine va_newaK hx hb (atype := .int) (hts _ hg) rfl hd rfl hn hN hbytes (Nat.le_trans hcells hcs.1) (Nat.le_trans hslots hcs.2) hR.1 fun H1 cA e1 z1 o1 hAr hNm => ?_
  have ht : (am_tys tc)[0]? = some (tc 0, .int) := am_tys_at (by decide)
  have hcA : cA = tc 0 := Option.some.inj (hNm.symm.trans (hK.1.2 0 _ ht).2)
  subst hcA
  have hkeep : ∀ (k : Nat) (x : Nat × va_E), (am_w tc b sc w)[k]? = some x → H1[x.1]? = H[x.1]? := fun k x hx => o1 x.1 (by have := (hP k x hx).lt; rw [hR.1] at this; exact this)
  have hpush : am_w tc b sc w ++ [(b + w.length, .inl (tc 0, N', .inl (fun _ => 0)))] = am_w tc b sc (w ++ [.inl (0, N', .inl (fun _ => 0))]) := am_w_push tc b sc w (.inl (0, N', .inl (fun _ => 0)))
  refine kk F ⟨by rw [z1, List.length_append, Nat.add_assoc]; rfl, ?_⟩ ⟨Nat.le_trans hS.1 (by rw [hR.1]; omega), fun x h1 h2 => (o1 x (by have := hS.1; rw [hR.1] at this; omega)).trans (hS.2.1 x h1 h2), hS.2.2⟩ hl
  rw [← hpush]
  refine (hP.kept hkeep).app (fun k x hx => ?_)
  have hz : k < 1 := (List.getElem?_eq_some_iff.mp hx).1
  rw [show k = 0 by omega] at hx
  cases hx
  show H1[b + w.length]? = some (vp_cell _ _)
  rw [e1]
  rfl
theorem aw_lald {q n : Nat} {f : Nat → Int64} {i : Int32} (hd : decode M.1 pc = .ok (.laload, 1)) (hw : w[q]? = some (.inl (1, n, .inr (.inl f)))) (hin : vp_in i n) (kk : AW M d rc rs (pc + 1) lv (.long (f i.toNatClampNeg) :: st) w cells slots Z) : AW M d rc rs pc lv (.int i :: .ref q :: st) w cells slots Z := by
  intro p l e R s m args below meth c D tc b sc F H locs ls hR hS hl
  obtain ⟨hx, hb, hml, hr, hown, hname, hlocks, hts, hK, -⟩ := id F
  have he : (am_w tc b sc w)[q]? = some (b + q, .inl (tc 1, n, .inr (.inl f))) := am_w_at hw
  exact va_lald hx hb hK.1 hR.2 q 1 he (am_tys_at (by decide)) hin hd (kk F hR hS hl)
theorem aw_last {q n : Nat} {f : Nat → Int64} {i : Int32} {x : Int64} (hd : decode M.1 pc = .ok (.lastore, 1)) (hw : w[q]? = some (.inl (1, n, .inr (.inl f)))) (hin : vp_in i n) (kk : AW M d rc rs (pc + 1) lv st (w.set q (.inl (1, n, .inr (.inl (vp_updL f i.toNatClampNeg x))))) cells slots Z) : AW M d rc rs pc lv (.long x :: .int i :: .ref q :: st) w cells slots Z := by
  intro p l e R s m args below meth c D tc b sc F H locs ls hR hS hl
  obtain ⟨hx, hb, hml, hr, hown, hname, hlocks, hts, hK, -⟩ := id F
  have he : (am_w tc b sc w)[q]? = some (b + q, .inl (tc 1, n, .inr (.inl f))) := am_w_at hw
  have hP := hR.2
  have hDD := am_w_D tc b sc w
  have ht : (am_tys tc)[1]? = some (tc 1, .long) := am_tys_at (by decide)
  refine W.last hx hb (hP q _ he) ((hK.1.2 1 _ ht).1 n (fun j => .long (f j))) (fun q => by cases q) (by show ¬ (i < 0 ∨ (arrV _ _ _).slots.size ≤ _); rw [arrV_size]; exact hin) rfl rfl hd fun H1 e z oq => ?_
  have hset : (am_w tc b sc w).set q (b + q, .inl (tc 1, n, .inr (.inl (vp_updL f i.toNatClampNeg x)))) = am_w tc b sc (w.set q (.inl (1, n, .inr (.inl (vp_updL f i.toNatClampNeg x))))) := am_w_set tc b sc w q (.inl (1, n, .inr (.inl (vp_updL f i.toNatClampNeg x))))
  refine kk F ⟨by rw [z, hR.1, List.length_set], ?_⟩ (hS.put z oq (hDD.2 q _ he)) hl
  rw [← hset]
  refine hP.set hDD he ?_ oq
  show H1[b + q]? = some (vp_cell _ _)
  rw [e]
  rw [vp_cell_l, vp_cell_l, arrV_store]
  congr 2
  funext j
  by_cases hj : j = i.toNatClampNeg
  · subst hj
    simp [updV, vp_updL, vp_nar]
    try rfl
  · simp [updV, vp_updL, hj]
theorem aw_newal {n : Int32} {N' : Nat} (hd : decode M.1 pc = .ok (.newarray .long, 2)) (hg : Cond.arrayClass .long ∈ am_G) (hn : ¬ n < 0) (hN : n.toNatClampNeg = N') (hbytes : N' * componentBytes .long ≤ 536870912) (hcells : cells + 1 ≤ rc) (hslots : slots + N' ≤ rs) (kk : AW M d rc rs (pc + 2) lv (.ref w.length :: st) (w ++ [.inl (1, N', .inr (.inl (fun _ => 0)))]) (cells + 1) (slots + N') Z) : AW M d rc rs pc lv (.int n :: st) w cells slots Z := by
  intro p l e R s m args below meth c D tc b sc F H locs ls hR hS hl
  obtain ⟨hx, hb, hml, hr, hown, hname, hlocks, hts, hK, hbs, hfl, hcs, -⟩ := id F
  have hP := hR.2
  refine va_newaK hx hb (atype := .long) (hts _ hg) rfl hd rfl hn hN hbytes (Nat.le_trans hcells hcs.1) (Nat.le_trans hslots hcs.2) hR.1 fun H1 cA e1 z1 o1 hAr hNm => ?_
  have ht : (am_tys tc)[1]? = some (tc 1, .long) := am_tys_at (by decide)
  have hcA : cA = tc 1 := Option.some.inj (hNm.symm.trans (hK.1.2 1 _ ht).2)
  subst hcA
  have hkeep : ∀ (k : Nat) (x : Nat × va_E), (am_w tc b sc w)[k]? = some x → H1[x.1]? = H[x.1]? := fun k x hx => o1 x.1 (by have := (hP k x hx).lt; rw [hR.1] at this; exact this)
  have hpush : am_w tc b sc w ++ [(b + w.length, .inl (tc 1, N', .inr (.inl (fun _ => 0))))] = am_w tc b sc (w ++ [.inl (1, N', .inr (.inl (fun _ => 0)))]) := am_w_push tc b sc w (.inl (1, N', .inr (.inl (fun _ => 0))))
  refine kk F ⟨by rw [z1, List.length_append, Nat.add_assoc]; rfl, ?_⟩ ⟨Nat.le_trans hS.1 (by rw [hR.1]; omega), fun x h1 h2 => (o1 x (by have := hS.1; rw [hR.1] at this; omega)).trans (hS.2.1 x h1 h2), hS.2.2⟩ hl
  rw [← hpush]
  refine (hP.kept hkeep).app (fun k x hx => ?_)
  have hz : k < 1 := (List.getElem?_eq_some_iff.mp hx).1
  rw [show k = 0 by omega] at hx
  cases hx
  show H1[b + w.length]? = some (vp_cell _ _)
  rw [e1]
  rfl
theorem aw_zald {q n : Nat} {f : Nat → Int32} {i : Int32} (hd : decode M.1 pc = .ok (.baload, 1)) (hw : w[q]? = some (.inl (2, n, .inl f))) (hin : vp_in i n) (kk : AW M d rc rs (pc + 1) lv (.int (f i.toNatClampNeg) :: st) w cells slots Z) : AW M d rc rs pc lv (.int i :: .ref q :: st) w cells slots Z := by
  intro p l e R s m args below meth c D tc b sc F H locs ls hR hS hl
  obtain ⟨hx, hb, hml, hr, hown, hname, hlocks, hts, hK, -⟩ := id F
  have he : (am_w tc b sc w)[q]? = some (b + q, .inl (tc 2, n, .inl f)) := am_w_at hw
  exact va_zald hx hb hK.1 hR.2 q 2 he (am_tys_at (by decide)) hin hd (kk F hR hS hl)
theorem aw_zast {q n : Nat} {f : Nat → Int32} {i : Int32} {x : Int32} (hd : decode M.1 pc = .ok (.bastore, 1)) (hw : w[q]? = some (.inl (2, n, .inl f))) (hin : vp_in i n) (kk : AW M d rc rs (pc + 1) lv st (w.set q (.inl (2, n, .inl (upd f i.toNatClampNeg (vp_nar .boolean x))))) cells slots Z) : AW M d rc rs pc lv (.int x :: .int i :: .ref q :: st) w cells slots Z := by
  intro p l e R s m args below meth c D tc b sc F H locs ls hR hS hl
  obtain ⟨hx, hb, hml, hr, hown, hname, hlocks, hts, hK, -⟩ := id F
  have he : (am_w tc b sc w)[q]? = some (b + q, .inl (tc 2, n, .inl f)) := am_w_at hw
  have hP := hR.2
  have hDD := am_w_D tc b sc w
  have ht : (am_tys tc)[2]? = some (tc 2, .boolean) := am_tys_at (by decide)
  refine W.zast hx hb (hP q _ he) ((hK.1.2 2 _ ht).1 n (fun j => .int (f j))) (fun q => by cases q) (by show ¬ (i < 0 ∨ (arrV _ _ _).slots.size ≤ _); rw [arrV_size]; exact hin) rfl rfl hd fun H1 e z oq => ?_
  have hset : (am_w tc b sc w).set q (b + q, .inl (tc 2, n, .inl (upd f i.toNatClampNeg (vp_nar .boolean x)))) = am_w tc b sc (w.set q (.inl (2, n, .inl (upd f i.toNatClampNeg (vp_nar .boolean x))))) := am_w_set tc b sc w q (.inl (2, n, .inl (upd f i.toNatClampNeg (vp_nar .boolean x))))
  refine kk F ⟨by rw [z, hR.1, List.length_set], ?_⟩ (hS.put z oq (hDD.2 q _ he)) hl
  rw [← hset]
  refine hP.set hDD he ?_ oq
  show H1[b + q]? = some (vp_cell _ _)
  rw [e]
  rw [vp_cell_i, vp_cell_i, arrV_store]
  congr 2
  funext j
  by_cases hj : j = i.toNatClampNeg
  · subst hj
    simp [updV, upd, vp_nar]
    try rfl
  · simp [updV, upd, hj]
theorem aw_newaz {n : Int32} {N' : Nat} (hd : decode M.1 pc = .ok (.newarray .boolean, 2)) (hg : Cond.arrayClass .boolean ∈ am_G) (hn : ¬ n < 0) (hN : n.toNatClampNeg = N') (hbytes : N' * componentBytes .boolean ≤ 536870912) (hcells : cells + 1 ≤ rc) (hslots : slots + N' ≤ rs) (kk : AW M d rc rs (pc + 2) lv (.ref w.length :: st) (w ++ [.inl (2, N', .inl (fun _ => 0))]) (cells + 1) (slots + N') Z) : AW M d rc rs pc lv (.int n :: st) w cells slots Z := by
  intro p l e R s m args below meth c D tc b sc F H locs ls hR hS hl
  obtain ⟨hx, hb, hml, hr, hown, hname, hlocks, hts, hK, hbs, hfl, hcs, -⟩ := id F
  have hP := hR.2
  refine va_newaK hx hb (atype := .boolean) (hts _ hg) rfl hd rfl hn hN hbytes (Nat.le_trans hcells hcs.1) (Nat.le_trans hslots hcs.2) hR.1 fun H1 cA e1 z1 o1 hAr hNm => ?_
  have ht : (am_tys tc)[2]? = some (tc 2, .boolean) := am_tys_at (by decide)
  have hcA : cA = tc 2 := Option.some.inj (hNm.symm.trans (hK.1.2 2 _ ht).2)
  subst hcA
  have hkeep : ∀ (k : Nat) (x : Nat × va_E), (am_w tc b sc w)[k]? = some x → H1[x.1]? = H[x.1]? := fun k x hx => o1 x.1 (by have := (hP k x hx).lt; rw [hR.1] at this; exact this)
  have hpush : am_w tc b sc w ++ [(b + w.length, .inl (tc 2, N', .inl (fun _ => 0)))] = am_w tc b sc (w ++ [.inl (2, N', .inl (fun _ => 0))]) := am_w_push tc b sc w (.inl (2, N', .inl (fun _ => 0)))
  refine kk F ⟨by rw [z1, List.length_append, Nat.add_assoc]; rfl, ?_⟩ ⟨Nat.le_trans hS.1 (by rw [hR.1]; omega), fun x h1 h2 => (o1 x (by have := hS.1; rw [hR.1] at this; omega)).trans (hS.2.1 x h1 h2), hS.2.2⟩ hl
  rw [← hpush]
  refine (hP.kept hkeep).app (fun k x hx => ?_)
  have hz : k < 1 := (List.getElem?_eq_some_iff.mp hx).1
  rw [show k = 0 by omega] at hx
  cases hx
  show H1[b + w.length]? = some (vp_cell _ _)
  rw [e1]
  rfl
theorem aw_alen {q t : Nat} {x : vp_A} {v : Int32} (hd : decode M.1 pc = .ok (.arraylength, 1)) (hw : w[q]? = some (.inl (t, x))) (ht : t < am_nt) (hv : Int32.ofNat x.1 = v) (kk : AW M d rc rs (pc + 1) lv (.int v :: st) w cells slots Z) : AW M d rc rs pc lv (.ref q :: st) w cells slots Z := by
  intro p l e R s m args below meth c D tc b sc F H locs ls hR hS hl
  obtain ⟨hx, hb, hml, hr, hown, hname, hlocks, hts, hK, -⟩ := id F
  have he : (am_w tc b sc w)[q]? = some (b + q, .inl (tc t, am_a b x)) := am_w_at hw
  have h1 : (am_a b x).1 = x.1 := by
    obtain ⟨n, f | f | f | f | f⟩ := x <;> rfl
  exact va_alen hx hb hK.1 hR.2 q t he (am_tys_at ht) (by rw [h1]; exact hv) hd (kk F hR hS hl)
theorem aw_sld {L : Nat} {xs : Nat → Int32} {z : UInt32} {i : Int32} (hd : decode M.1 pc = .ok (.iaload, 1)) (hX : ∀ (s : State) (b sc : Nat), M.2.2.2.2.2 s b sc → va_X sc L xs s s.heap ∧ sc < b) (hin : vp_in i L) (kk : AW M d rc rs (pc + 1) lv (.int (xs i.toNatClampNeg) :: st) w cells slots Z) : AW M d rc rs pc lv (.int i :: .float z :: st) w cells slots Z := by
  intro p l e R s m args below meth c D tc b sc F H locs ls hR hS hl
  obtain ⟨hx, hb, hml, hr, hown, hname, hlocks, hts, hK, hbs, hfl, hcs, h9⟩ := id F
  obtain ⟨h1, h2⟩ := hX s b sc h9
  exact va_sld hx hb h1 (by omega) (Nat.not_le.mpr h2) hS hin hd (kk F hR hS hl)
theorem aw_slen {L : Nat} {xs : Nat → Int32} {z : UInt32} (hd : decode M.1 pc = .ok (.arraylength, 1)) (hX : ∀ (s : State) (b sc : Nat), M.2.2.2.2.2 s b sc → va_X sc L xs s s.heap ∧ sc < b) (kk : AW M d rc rs (pc + 1) lv (.int (Int32.ofNat L) :: st) w cells slots Z) : AW M d rc rs pc lv (.float z :: st) w cells slots Z := by
  intro p l e R s m args below meth c D tc b sc F H locs ls hR hS hl
  obtain ⟨hx, hb, hml, hr, hown, hname, hlocks, hts, hK, hbs, hfl, hcs, h9⟩ := id F
  obtain ⟨h1, h2⟩ := hX s b sc h9
  exact va_slen hx hb h1 (by omega) (Nat.not_le.mpr h2) hS hd (kk F hR hS hl)
/-- a new object by the number of its class in the pool -/
def am_nw (own : String) (idx ci N : Nat) (fs : List Value) : Prop := ∃ (C : String) (T : u_T) (ty0 : Nat → FieldType), am_cl[ci]? = some (C, T, N) ∧ (∀ z ∈ u_ws C T N, z ∈ am_G) ∧ (∀ k, k < N → parseFieldDescriptor (T k).2.2.1 = some (ty0 k)) ∧ Cond.classLink own idx C ∈ am_G ∧ Cond.instantiable C N ∈ am_G ∧ Cond.initialized C ∈ am_G ∧ ∀ b sc j : Nat, j < N → defaultValue (ty0 j) = vp_V (fs.map (am_v b sc)) j
theorem aw_new {idx ci N : Nat} {fs : List Value} (hd : decode M.1 pc = .ok (.new idx, 3)) (hf : am_nw M.2.2.2.1 idx ci N fs) (hcells : cells + 1 ≤ rc) (hslots : slots + N ≤ rs) (kk : AW M d rc rs (pc + 3) lv (.ref w.length :: st) (w ++ [.inr (ci, fs)]) (cells + 1) (slots + N) Z) : AW M d rc rs pc lv st w cells slots Z := by
  intro p l e R s m args below meth c D tc b sc F H locs ls hR hS hl
  obtain ⟨C, T, ty0, hc, hin, hty, hcl, hinst, hini, hfs⟩ := hf
  obtain ⟨hx, hb, hml, hr, hown, hname, hlocks, hts, hK, hbs, hfl, hcs, -⟩ := id F
  have hP := hR.2
  have hKn := hK.1.1 ci _ hc
  refine W.newcK hx hb hown (hts _ hcl) (hts _ hinst) (hts _ hini) rfl hd (Nat.le_trans hcells hcs.1) (Nat.le_trans hslots hcs.2) hKn.2.1 hR.1 fun H1 kC hkC e1 z1 o1 => ?_
  have hkeep : ∀ (k : Nat) (x : Nat × va_E), (am_w tc b sc w)[k]? = some x → H1[x.1]? = H[x.1]? := fun k x hx => o1 x.1 (by have := (hP k x hx).lt; rw [hR.1] at this; exact this)
  have hpush : am_w tc b sc w ++ [(b + w.length, .inr (ci, fs.map (am_v b sc)))] = am_w tc b sc (w ++ [.inr (ci, fs)]) := am_w_push tc b sc w (.inr (ci, fs))
  refine kk F ⟨by rw [z1, List.length_append, Nat.add_assoc]; rfl, ?_⟩ ⟨Nat.le_trans hS.1 (by rw [hR.1]; omega), fun x h1 h2 => (o1 x (by have := hS.1; rw [hR.1] at this; omega)).trans (hS.2.1 x h1 h2), hS.2.2⟩ hl
  rw [← hpush]
  refine (hP.kept hkeep).app (fun k x hx => ?_)
  have hz : k < 1 := (List.getElem?_eq_some_iff.mp hx).1
  rw [show k = 0 by omega] at hx
  cases hx
  exact ⟨_, hc, (u_born ty0 hts hin hKn hkC e1 hty).to (fun j hj => hfs b sc j hj)⟩
theorem am_after {p : Program} {l : Launch} {e : Env} {R : Room} {s : State} {m : MethodId} {args : Array Value} {below : List Frame} {meth : Method} {c : Code} {H : Heap} {locs : List Loc} {Q : State → Prop} {D : va_G} {tc : Nat → ClassId} {b sc : Nat} {ls : Array Slot} {st0 rest : List Value} {r : Option Value} {w1 : List am_C} {a : Array Value} {mc ms : Nat}
    (hr : va_Run p l e R s m args below meth c H locs cells slots mc ms (F0 m pc ls st0) rest (am_Q D tc b sc r w1 a) (fun q => b ≤ q)) (hS : va_S (fun q => b ≤ q) s.heap H locs)
    (kk : ∀ (H1 : Heap) (locs1 : List Loc), am_R D tc b sc w1 H1 → va_S (fun q => b ≤ q) s.heap H1 locs1 → W p l e R s m args below meth c H1 locs1 (cells + mc) (slots + ms) Q (F0 m (pc + 3) ls ((r.map (am_v b sc)).toList ++ rest))) : W p l e R s m args below meth c H locs cells slots Q (F0 m pc ls st0) := by
  intro T hT X
  obtain ⟨v, st₀, t, T', L, h0, X', hL, e1, e2, hq, st⟩ := hr T hT X
  obtain ⟨hv, hR1, hF⟩ := hq
  have hv : v = r.map (am_v b sc) := by cases hv; rfl
  subst hv
  obtain ⟨t2, a1, b1⟩ := kk t.heap (locs ++ L) hR1 ⟨Nat.le_trans hS.1 (by rw [← h0]; exact hF.1), fun q h1 h2 => (hF.2 q (by rw [h0]; exact Nat.lt_of_lt_of_le h1 hS.1) h2).trans (by rw [h0]; exact hS.2.1 q h1 h2), fun q hq => (List.mem_append.mp hq).elim (hS.2.2 q) (hL q)⟩ T' e1 X'
  exact ⟨t2, st t2 a1, b1⟩
theorem am_stk (b sc : Nat) (r : Option Value) (st : List Value) : (r.map (am_v b sc)).toList ++ st.map (am_v b sc) = (r.toList ++ st).map (am_v b sc) := by cases r <;> rfl
theorem am_good {y : am_Y} (h : Cond.code y.1 y.2.1 y.2.2.1 y.2.2.2 ∈ am_G) : GoodIn am_G (Cond.code y.1 y.2.1 y.2.2.1 y.2.2.2 :: am_G) := by
  intro w hw
  rcases List.mem_cons.mp hw with e | hw
  · rw [e]; exact ⟨h, good_of_word (am_G_good _ h)⟩
  · exact ⟨hw, good_of_word (am_G_good _ hw)⟩
/-- a method that may be called, with n parameters -/
def am_mk (y : am_Y) (n : Nat) : Prop := Cond.code y.1 y.2.1 y.2.2.1 y.2.2.2 ∈ am_G ∧ (y.1.cls ≠ "java/lang/invoke/MethodHandle" ∧ y.1.cls ≠ "java/lang/invoke/VarHandle") ∧ (parseMethodDescriptor y.1.desc).map (fun d => d.parameters.length) = some n ∧ y.2.2.1 ≤ 21 ∧ Cond.initialized y.1.cls ∈ am_G
theorem am_cat (b sc : Nat) : ∀ st : List Value, ((st.map (am_v b sc)).map fun v => v.category).sum = (st.map fun v => v.category).sum
  | [] => rfl
  | v :: st => by simp only [List.map_cons, List.sum_cons, am_v_cat, am_cat b sc st]
theorem aw_callV {y : am_Y} {d' idx n mc ms : Nat} {q ci N : Nat} {T : u_T} {fs : List Value} {As stk : List Value} {r : Option Value} {w1 : List am_C} (hd : decode M.1 pc = .ok (.invokevirtual idx, 3)) (ct : am_ct y d' (.ref q :: As) w r w1 mc ms) (hm : am_mk y n) (hi : Cond.instanceMethod y.1 ∈ am_G ∧ Cond.selects y.1.cls y.1 y.1 ∈ am_G) (hlk : Cond.methodLink M.2.2.2.1 idx y.1 ∈ am_G) (hw : w[q]? = some (.inr (ci, fs))) (hc : am_cl[ci]? = some (y.1.cls, T, N)) (hst : stk = As.reverse ++ .ref q :: st) (hn : As.length = n) (hcat : (st.map fun v => v.category).sum ≤ 8) (hdd : d' + 1 ≤ d) (hrc : cells + mc ≤ rc) (hrs : slots + ms ≤ rs) (kk : AW M d rc rs (pc + 3) lv (r.toList ++ st) w1 (cells + mc) (slots + ms) Z) : AW M d rc rs pc lv stk w cells slots Z := by
  intro p l e R s m args below meth c D tc b sc F H locs ls hR hS hl
  subst hst
  obtain ⟨hx, hb, hml, hr, hown, hname, hlocks, hts, hK, hbs, hfl, hcs, -⟩ := id F
  have he : (am_w tc b sc w)[q]? = some (b + q, .inr (ci, fs.map (am_v b sc))) := am_w_at hw
  have hroom : (am_rm d' mc ms).frames + 1 ≤ R.frames ∧ 8 + (y.2.2.1 + 11) + (am_rm d' mc ms).locals ≤ R.locals := by
    have h21 : y.2.2.1 ≤ 21 := hm.2.2.2.1
    constructor
    · show d' + 1 ≤ _; omega
    · show 8 + (_ + 11) + 40 * d' ≤ _; omega
  have hrun := va_runV (rest := st.map (am_v b sc)) (b := b + q) (As := As.map (am_v b sc)) (g := F0 m pc ls ((As.reverse ++ .ref q :: st).map (am_v b sc))) (cells := cells) (slots := slots) (locs := locs) (below := below) (e := e) (meth := meth) ⟨hx, hb, hml, hown, hts⟩ (ct l D tc b sc) ⟨callB_of n hts (am_good hm.1) rfl rfl rfl (hts _ hm.2.2.2.2) (hts _ hlk) ⟨hm.2.1.1, hm.2.1.2, hm.2.2.1⟩ hroom, hts _ hi.1, hts _ hi.2⟩ ⟨am_P_blind D tc b sc _ w, va_recv hK.1 hR.2 hc he, fun U hU hW => ⟨rfl, by rw [hU]; exact hR, hK.warm hW⟩⟩ rfl (by rw [List.length_map]; exact hn) hl.1 (by simp [am_v]) (lv_room (by rw [am_cat]; exact hcat)) hd ⟨Nat.le_trans hrc hcs.1, Nat.le_trans hrs hcs.2⟩
  refine am_after hrun hS fun H1 locs1 hR1 hS1 => ?_
  rw [am_stk]
  exact kk F hR1 hS1 hl
theorem aw_callVN {y : am_Y} {d' idx n mc ms : Nat} {host : String} {q ci N : Nat} {T : u_T} {fs : List Value} {As stk : List Value} {r : Option Value} {w1 : List am_C} (hd : decode M.1 pc = .ok (.invokevirtual idx, 3)) (ct : am_ct y d' (.ref q :: As) w r w1 mc ms) (hm : am_mk y n) (hi : Cond.instanceMethod y.1 ∈ am_G ∧ Cond.selects y.1.cls y.1 y.1 ∈ am_G) (hlk : Cond.methodLinkNest M.2.2.2.1 idx y.1 host ∈ am_N) (hw : w[q]? = some (.inr (ci, fs))) (hc : am_cl[ci]? = some (y.1.cls, T, N)) (hst : stk = As.reverse ++ .ref q :: st) (hn : As.length = n) (hcat : (st.map fun v => v.category).sum ≤ 8) (hdd : d' + 1 ≤ d) (hrc : cells + mc ≤ rc) (hrs : slots + ms ≤ rs) (kk : AW M d rc rs (pc + 3) lv (r.toList ++ st) w1 (cells + mc) (slots + ms) Z) : AW M d rc rs pc lv stk w cells slots Z := by
  intro p l e R s m args below meth c D tc b sc F H locs ls hR hS hl
  subst hst
  obtain ⟨hx, hb, hml, hr, hown, hname, hlocks, hts, hK, hbs, hfl, hcs, -⟩ := id F
  have he : (am_w tc b sc w)[q]? = some (b + q, .inr (ci, fs.map (am_v b sc))) := am_w_at hw
  have hroom : (am_rm d' mc ms).frames + 1 ≤ R.frames ∧ 8 + (y.2.2.1 + 11) + (am_rm d' mc ms).locals ≤ R.locals := by
    have h21 : y.2.2.1 ≤ 21 := hm.2.2.2.1
    constructor
    · show d' + 1 ≤ _; omega
    · show 8 + (_ + 11) + 40 * d' ≤ _; omega
  have hrun := va_runVN (rest := st.map (am_v b sc)) (b := b + q) (As := As.map (am_v b sc)) (g := F0 m pc ls ((As.reverse ++ .ref q :: st).map (am_v b sc))) (cells := cells) (slots := slots) (locs := locs) (below := below) (e := e) (meth := meth) ⟨hx, hb, hml, hown, hts⟩ (ct l D tc b sc) ⟨va_cnB n hts (am_good hm.1) rfl rfl rfl (hK.2.1 _ hlk) (hts _ hm.2.2.2.2) ⟨hm.2.1.1, hm.2.1.2, hm.2.2.1⟩ hroom, hts _ hi.1, hts _ hi.2⟩ ⟨am_P_blind D tc b sc _ w, va_recv hK.1 hR.2 hc he, fun U hU hW => ⟨rfl, by rw [hU]; exact hR, hK.warm hW⟩⟩ rfl (by rw [List.length_map]; exact hn) hl.1 (by simp [am_v]) (lv_room (by rw [am_cat]; exact hcat)) hd ⟨Nat.le_trans hrc hcs.1, Nat.le_trans hrs hcs.2⟩
  refine am_after hrun hS fun H1 locs1 hR1 hS1 => ?_
  rw [am_stk]
  exact kk F hR1 hS1 hl
theorem aw_callS {y : am_Y} {d' idx n mc ms : Nat} {As stk : List Value} {r : Option Value} {w1 : List am_C} (hd : decode M.1 pc = .ok (.invokestatic idx, 3)) (ct : am_ct y d' As w r w1 mc ms) (hm : am_mk y n) (hi : Cond.static y.1 ∈ am_G) (hlk : Cond.methodLink M.2.2.2.1 idx y.1 ∈ am_G)  (hst : stk = As.reverse ++ st) (hn : As.length = n) (hcat : (st.map fun v => v.category).sum ≤ 8) (hdd : d' + 1 ≤ d) (hrc : cells + mc ≤ rc) (hrs : slots + ms ≤ rs) (kk : AW M d rc rs (pc + 3) lv (r.toList ++ st) w1 (cells + mc) (slots + ms) Z) : AW M d rc rs pc lv stk w cells slots Z := by
  intro p l e R s m args below meth c D tc b sc F H locs ls hR hS hl
  subst hst
  obtain ⟨hx, hb, hml, hr, hown, hname, hlocks, hts, hK, hbs, hfl, hcs, -⟩ := id F
  have hroom : (am_rm d' mc ms).frames + 1 ≤ R.frames ∧ 8 + (y.2.2.1 + 11) + (am_rm d' mc ms).locals ≤ R.locals := by
    have h21 : y.2.2.1 ≤ 21 := hm.2.2.2.1
    constructor
    · show d' + 1 ≤ _; omega
    · show 8 + (_ + 11) + 40 * d' ≤ _; omega
  have hrun := va_runS (rest := st.map (am_v b sc)) (As := As.map (am_v b sc)) (g := F0 m pc ls ((As.reverse ++ st).map (am_v b sc))) (cells := cells) (slots := slots) (locs := locs) (below := below) (e := e) (meth := meth) ⟨hx, hb, hml, hown, hts⟩ (ct l D tc b sc) ⟨callB_of n hts (am_good hm.1) rfl rfl rfl (hts _ hm.2.2.2.2) (hts _ hlk) ⟨hm.2.1.1, hm.2.1.2, hm.2.2.1⟩ hroom, hts _ hi⟩ ⟨am_P_blind D tc b sc _ w, fun U hU hW => ⟨rfl, by rw [hU]; exact hR, hK.warm hW⟩⟩ rfl (by rw [List.length_map]; exact hn) hl.1 (by simp [am_v]) (lv_room (by rw [am_cat]; exact hcat)) hd ⟨Nat.le_trans hrc hcs.1, Nat.le_trans hrs hcs.2⟩
  refine am_after hrun hS fun H1 locs1 hR1 hS1 => ?_
  rw [am_stk]
  exact kk F hR1 hS1 hl
theorem aw_callSN {y : am_Y} {d' idx n mc ms : Nat} {host : String} {As stk : List Value} {r : Option Value} {w1 : List am_C} (hd : decode M.1 pc = .ok (.invokestatic idx, 3)) (ct : am_ct y d' As w r w1 mc ms) (hm : am_mk y n) (hi : Cond.static y.1 ∈ am_G) (hlk : Cond.methodLinkNest M.2.2.2.1 idx y.1 host ∈ am_N)  (hst : stk = As.reverse ++ st) (hn : As.length = n) (hcat : (st.map fun v => v.category).sum ≤ 8) (hdd : d' + 1 ≤ d) (hrc : cells + mc ≤ rc) (hrs : slots + ms ≤ rs) (kk : AW M d rc rs (pc + 3) lv (r.toList ++ st) w1 (cells + mc) (slots + ms) Z) : AW M d rc rs pc lv stk w cells slots Z := by
  intro p l e R s m args below meth c D tc b sc F H locs ls hR hS hl
  subst hst
  obtain ⟨hx, hb, hml, hr, hown, hname, hlocks, hts, hK, hbs, hfl, hcs, -⟩ := id F
  have hroom : (am_rm d' mc ms).frames + 1 ≤ R.frames ∧ 8 + (y.2.2.1 + 11) + (am_rm d' mc ms).locals ≤ R.locals := by
    have h21 : y.2.2.1 ≤ 21 := hm.2.2.2.1
    constructor
    · show d' + 1 ≤ _; omega
    · show 8 + (_ + 11) + 40 * d' ≤ _; omega
  have hrun := va_runSN (rest := st.map (am_v b sc)) (As := As.map (am_v b sc)) (g := F0 m pc ls ((As.reverse ++ st).map (am_v b sc))) (cells := cells) (slots := slots) (locs := locs) (below := below) (e := e) (meth := meth) ⟨hx, hb, hml, hown, hts⟩ (ct l D tc b sc) ⟨va_cnB n hts (am_good hm.1) rfl rfl rfl (hK.2.1 _ hlk) (hts _ hm.2.2.2.2) ⟨hm.2.1.1, hm.2.1.2, hm.2.2.1⟩ hroom, hts _ hi, trivial⟩ ⟨am_P_blind D tc b sc _ w, fun U hU hW => ⟨rfl, by rw [hU]; exact hR, hK.warm hW⟩⟩ rfl (by rw [List.length_map]; exact hn) hl.1 (by simp [am_v]) (lv_room (by rw [am_cat]; exact hcat)) hd ⟨Nat.le_trans hrc hcs.1, Nat.le_trans hrs hcs.2⟩
  refine am_after hrun hS fun H1 locs1 hR1 hS1 => ?_
  rw [am_stk]
  exact kk F hR1 hS1 hl
theorem aw_callI {y : am_Y} {d' idx n mc ms : Nat} {q : Nat} {As stk : List Value} {r : Option Value} {w1 : List am_C} (hd : decode M.1 pc = .ok (.invokespecial idx, 3)) (ct : am_ct y d' (.ref q :: As) w r w1 mc ms) (hm : am_mk y n) (hi : Cond.instanceMethod y.1 ∈ am_G ∧ y.1.name = "<init>" ∧ y.2.2.2 = none) (hlk : Cond.methodLink M.2.2.2.1 idx y.1 ∈ am_G)  (hst : stk = As.reverse ++ .ref q :: st) (hn : As.length = n) (hcat : (st.map fun v => v.category).sum ≤ 8) (hdd : d' + 1 ≤ d) (hrc : cells + mc ≤ rc) (hrs : slots + ms ≤ rs) (kk : AW M d rc rs (pc + 3) lv (r.toList ++ st) w1 (cells + mc) (slots + ms) Z) : AW M d rc rs pc lv stk w cells slots Z := by
  obtain ⟨yn, ycd, ynl, yrt⟩ := y
  obtain ⟨hi1, hi2, hi3⟩ := hi
  dsimp only at hi3
  subst hi3
  have hi : Cond.instanceMethod yn ∈ am_G ∧ yn.name = "<init>" := ⟨hi1, hi2⟩
  intro p l e R s m args below meth c D tc b sc F H locs ls hR hS hl
  subst hst
  obtain ⟨hx, hb, hml, hr, hown, hname, hlocks, hts, hK, hbs, hfl, hcs, -⟩ := id F
  have hroom : (am_rm d' mc ms).frames + 1 ≤ R.frames ∧ 8 + (ynl + 11) + (am_rm d' mc ms).locals ≤ R.locals := by
    have h21 : ynl ≤ 21 := hm.2.2.2.1
    constructor
    · show d' + 1 ≤ _; omega
    · show 8 + (_ + 11) + 40 * d' ≤ _; omega
  have hrun := va_runI (rest := st.map (am_v b sc)) (b := b + q) (As := As.map (am_v b sc)) (g := F0 m pc ls ((As.reverse ++ .ref q :: st).map (am_v b sc))) (cells := cells) (slots := slots) (locs := locs) (below := below) (e := e) (meth := meth) ⟨hx, hb, hml, hown, hts⟩ (ct l D tc b sc) ⟨callB_of n hts (am_good hm.1) rfl rfl rfl (hts _ hm.2.2.2.2) (hts _ hlk) ⟨hm.2.1.1, hm.2.1.2, hm.2.2.1⟩ hroom, hi.2, hts _ hi.1⟩ ⟨am_P_blind D tc b sc _ w, fun U hU hW => ⟨rfl, by rw [hU]; exact hR, hK.warm hW⟩⟩ rfl (by rw [List.length_map]; exact hn) hl.1 (by simp [am_v]) (lv_room (by rw [am_cat]; exact hcat)) hd ⟨Nat.le_trans hrc hcs.1, Nat.le_trans hrs hcs.2⟩
  refine am_after hrun hS fun H1 locs1 hR1 hS1 => ?_
  rw [am_stk]
  exact kk F hR1 hS1 hl
theorem aw_callIN {y : am_Y} {d' idx n mc ms : Nat} {host : String} {q : Nat} {As stk : List Value} {r : Option Value} {w1 : List am_C} (hd : decode M.1 pc = .ok (.invokespecial idx, 3)) (ct : am_ct y d' (.ref q :: As) w r w1 mc ms) (hm : am_mk y n) (hi : Cond.instanceMethod y.1 ∈ am_G ∧ y.1.name = "<init>" ∧ y.2.2.2 = none) (hlk : Cond.methodLinkNest M.2.2.2.1 idx y.1 host ∈ am_N)  (hst : stk = As.reverse ++ .ref q :: st) (hn : As.length = n) (hcat : (st.map fun v => v.category).sum ≤ 8) (hdd : d' + 1 ≤ d) (hrc : cells + mc ≤ rc) (hrs : slots + ms ≤ rs) (kk : AW M d rc rs (pc + 3) lv (r.toList ++ st) w1 (cells + mc) (slots + ms) Z) : AW M d rc rs pc lv stk w cells slots Z := by
  obtain ⟨yn, ycd, ynl, yrt⟩ := y
  obtain ⟨hi1, hi2, hi3⟩ := hi
  dsimp only at hi3
  subst hi3
  have hi : Cond.instanceMethod yn ∈ am_G ∧ yn.name = "<init>" := ⟨hi1, hi2⟩
  intro p l e R s m args below meth c D tc b sc F H locs ls hR hS hl
  subst hst
  obtain ⟨hx, hb, hml, hr, hown, hname, hlocks, hts, hK, hbs, hfl, hcs, -⟩ := id F
  have hroom : (am_rm d' mc ms).frames + 1 ≤ R.frames ∧ 8 + (ynl + 11) + (am_rm d' mc ms).locals ≤ R.locals := by
    have h21 : ynl ≤ 21 := hm.2.2.2.1
    constructor
    · show d' + 1 ≤ _; omega
    · show 8 + (_ + 11) + 40 * d' ≤ _; omega
  have hrun := va_runIN (rest := st.map (am_v b sc)) (b := b + q) (As := As.map (am_v b sc)) (g := F0 m pc ls ((As.reverse ++ .ref q :: st).map (am_v b sc))) (cells := cells) (slots := slots) (locs := locs) (below := below) (e := e) (meth := meth) ⟨hx, hb, hml, hown, hts⟩ (ct l D tc b sc) ⟨va_cnB n hts (am_good hm.1) rfl rfl rfl (hK.2.1 _ hlk) (hts _ hm.2.2.2.2) ⟨hm.2.1.1, hm.2.1.2, hm.2.2.1⟩ hroom, hi.2, hts _ hi.1⟩ ⟨am_P_blind D tc b sc _ w, fun U hU hW => ⟨rfl, by rw [hU]; exact hR, hK.warm hW⟩⟩ rfl (by rw [List.length_map]; exact hn) hl.1 (by simp [am_v]) (lv_room (by rw [am_cat]; exact hcat)) hd ⟨Nat.le_trans hrc hcs.1, Nat.le_trans hrs hcs.2⟩
  refine am_after hrun hS fun H1 locs1 hR1 hS1 => ?_
  rw [am_stk]
  exact kk F hR1 hS1 hl
theorem aw_objInit {idx q : Nat} (hd : decode M.1 pc = .ok (.invokespecial idx, 3)) (hlk : Cond.methodLink M.2.2.2.1 idx Lib.objectInit ∈ am_G) (h1 : Cond.instanceMethod Lib.objectInit ∈ am_G) (h2 : Cond.code Lib.objectInit ⟨#[0xb1]⟩ 1 none ∈ am_G) (hcat : (st.map fun v => v.category).sum ≤ 8) (hdd : 1 ≤ d) (kk : AW M d rc rs (pc + 3) lv st w cells slots Z) : AW M d rc rs pc lv (.ref q :: st) w cells slots Z := by
  intro p l e R s m args below meth c D tc b sc F H locs ls hR hS hl
  obtain ⟨hx, hb, hml, hr, hown, hname, hlocks, hts, hK, hbs, hfl, hcs, -⟩ := id F
  refine W.objInit hx hb hown (hts _ hlk) (hts _ h1) (hts _ h2) rfl (by rw [hml]; exact hl.1) rfl hd (by omega) ?_ (kk F hR hS hl)
  have h := lv_room (m := m) (pc := pc) (ls := ls) (rest := (Value.ref q :: st).map (am_v b sc)) (st := st.map (am_v b sc)) (by rw [am_cat]; exact hcat)
  exact Nat.le_trans (Nat.add_le_add_right h 12) (by omega)
theorem aw_mmax {idx : Nat} {x y : Int32} (hd : decode M.1 pc = .ok (.invokestatic idx, 3)) (hlk : Cond.methodLink M.2.2.2.1 idx Lib.Math.max.name ∈ am_G) (h1 : Cond.static Lib.Math.max.name ∈ am_G) (h2 : Cond.initialized "java/lang/Math" ∈ am_G) (h3 : Cond.code Lib.Math.max.name Lib.Math.max.code 2 (some .int) ∈ am_G) (hcat : (st.map fun v => v.category).sum ≤ 8) (hdd : 1 ≤ d) (hrc : cells ≤ rc) (hrs : slots ≤ rs) (kk : AW M d rc rs (pc + 3) lv (.int (if x < y then y else x) :: st) w cells slots Z) : AW M d rc rs pc lv (.int y :: .int x :: st) w cells slots Z := by
  intro p l e R s m args below meth c D tc b sc F H locs ls hR hS hl
  obtain ⟨hx, hb, hml, hr, hown, hname, hlocks, hts, hK, hbs, hfl, hcs, -⟩ := id F
  exact va_mmax hx hb (hml.trans hl.1.symm) hown (hts _ hlk) (hts _ h1) (hts _ h2) (hts _ h3) (by omega) (by rw [am_cat]; omega) (Nat.le_trans hrc hcs.1) (Nat.le_trans hrs hcs.2) hd (kk F hR hS hl)
theorem aw_mminL {idx : Nat} {x y : Int64} (hd : decode M.1 pc = .ok (.invokestatic idx, 3)) (hlk : Cond.methodLink M.2.2.2.1 idx Lib.MathLoose.min_long.x ∈ am_G) (h1 : Cond.static Lib.MathLoose.min_long.x ∈ am_G) (h2 : Cond.initialized "java/lang/Math" ∈ am_G) (h3 : Cond.code Lib.MathLoose.min_long.x Lib.MathLoose.min_long.code 4 (some .long) ∈ am_G) (hcat : (st.map fun v => v.category).sum ≤ 8) (hdd : 1 ≤ d) (hrc : cells ≤ rc) (hrs : slots ≤ rs) (kk : AW M d rc rs (pc + 3) lv (.long (if y < x then y else x) :: st) w cells slots Z) : AW M d rc rs pc lv (.long y :: .long x :: st) w cells slots Z := by
  intro p l e R s m args below meth c D tc b sc F H locs ls hR hS hl
  obtain ⟨hx, hb, hml, hr, hown, hname, hlocks, hts, hK, hbs, hfl, hcs, -⟩ := id F
  exact va_mmin_long hx hb (hml.trans hl.1.symm) hown (hts _ hlk) (hts _ h1) (hts _ h2) (hts _ h3) (by omega) (by rw [am_cat]; omega) (Nat.le_trans hrc hcs.1) (Nat.le_trans hrs hcs.2) hd (kk F hR hS hl)
theorem aw_aald {q t n j : Nat} {f : Nat → Option Nat} {i : Int32} {y : Nat} (hd : decode M.1 pc = .ok (.aaload, 1)) (hw : w[q]? = some (.inl (t, n, .inr (.inr (.inr (.inr f)))))) (ht : t < am_nt) (hrf : (am_ty t).isReference = true) (hin : vp_in i n) (hj : i.toNatClampNeg = j) (hf : f j = some y) (kk : AW M d rc rs (pc + 1) lv (.ref y :: st) w cells slots Z) : AW M d rc rs pc lv (.int i :: .ref q :: st) w cells slots Z := by
  intro p l e R s m args below meth c D tc b sc F H locs ls hR hS hl
  obtain ⟨hx, hb, hml, hr, hown, hname, hlocks, hts, hK, -⟩ := id F
  have he : (am_w tc b sc w)[q]? = some (b + q, .inl (tc t, n, .inr (.inr (.inr (.inr (fun i => (f i).map (fun k => b + k))))))) := am_w_at hw
  subst hj
  have hlt : i.toNatClampNeg < n := Nat.not_le.mp fun q => hin (Or.inr q)
  exact W.aald (v := .ref (b + y)) (ty := am_ty t) hx hb (hR.2 q _ he) ((hK.1.2 t _ (am_tys_at ht)).1 n (fun j => va_rf ((f j).map (fun k => b + k)))) hrf (fun q => by cases q) (by show ¬ (i < 0 ∨ (arrV _ _ _).slots.size ≤ _); rw [arrV_size]; exact hin) (by show (arrV _ _ _).slots[_]? = _; rw [arrV_read _ _ hlt]; show some (va_rf ((f _).map _)) = _; rw [hf]; rfl) rfl rfl hd (kk F hR hS hl)
end AMR
end
section
theorem d_Dr_init_0 : decode (am_Mof y_Dr_init).1 0 = .ok (.aload_n 0, 1) := by decide +kernel
theorem d_Dr_init_1 : decode (am_Mof y_Dr_init).1 1 = .ok (.invokespecial 3, 3) := by decide +kernel
theorem d_Dr_init_4 : decode (am_Mof y_Dr_init).1 4 = .ok (.aload_n 0, 1) := by decide +kernel
theorem d_Dr_init_5 : decode (am_Mof y_Dr_init).1 5 = .ok (.bipush 60, 2) := by decide +kernel
theorem d_Dr_init_7 : decode (am_Mof y_Dr_init).1 7 = .ok (.newarray .int, 2) := by decide +kernel
theorem d_Dr_init_9 : decode (am_Mof y_Dr_init).1 9 = .ok (.putfield 9, 3) := by decide +kernel
theorem d_Dr_init_12 : decode (am_Mof y_Dr_init).1 12 = .ok (.aload_n 0, 1) := by decide +kernel
theorem d_Dr_init_13 : decode (am_Mof y_Dr_init).1 13 = .ok (.iconst 0, 1) := by decide +kernel
theorem d_Dr_init_14 : decode (am_Mof y_Dr_init).1 14 = .ok (.putfield 15, 3) := by decide +kernel
theorem d_Dr_init_17 : decode (am_Mof y_Dr_init).1 17 = .ok (.return_, 1) := by decide +kernel
theorem d_Dr_take_0 : decode (am_Mof y_Dr_take).1 0 = .ok (.iconst 0, 1) := by decide +kernel
theorem d_Dr_take_1 : decode (am_Mof y_Dr_take).1 1 = .ok (.istore 5, 2) := by decide +kernel
theorem d_Dr_take_3 : decode (am_Mof y_Dr_take).1 3 = .ok (.iload 5, 2) := by decide +kernel
theorem d_Dr_take_5 : decode (am_Mof y_Dr_take).1 5 = .ok (.iload 4, 2) := by decide +kernel
theorem d_Dr_take_7 : decode (am_Mof y_Dr_take).1 7 = .ok (.if_icmp .ge 18, 3) := by decide +kernel
theorem d_Dr_take_10 : decode (am_Mof y_Dr_take).1 10 = .ok (.aload_n 0, 1) := by decide +kernel
theorem d_Dr_take_11 : decode (am_Mof y_Dr_take).1 11 = .ok (.getfield 9, 3) := by decide +kernel
theorem d_Dr_take_14 : decode (am_Mof y_Dr_take).1 14 = .ok (.iload 5, 2) := by decide +kernel
theorem d_Dr_take_16 : decode (am_Mof y_Dr_take).1 16 = .ok (.iload 5, 2) := by decide +kernel
theorem d_Dr_take_18 : decode (am_Mof y_Dr_take).1 18 = .ok (.iastore, 1) := by decide +kernel
theorem d_Dr_take_19 : decode (am_Mof y_Dr_take).1 19 = .ok (.iinc 5 1, 3) := by decide +kernel
theorem d_Dr_take_22 : decode (am_Mof y_Dr_take).1 22 = .ok (.goto (-19), 3) := by decide +kernel
theorem d_Dr_take_25 : decode (am_Mof y_Dr_take).1 25 = .ok (.lload_n 1, 1) := by decide +kernel
theorem d_Dr_take_26 : decode (am_Mof y_Dr_take).1 26 = .ok (.lstore 5, 2) := by decide +kernel
theorem d_Dr_take_28 : decode (am_Mof y_Dr_take).1 28 = .ok (.iconst 0, 1) := by decide +kernel
theorem d_Dr_take_29 : decode (am_Mof y_Dr_take).1 29 = .ok (.istore 7, 2) := by decide +kernel
theorem d_Dr_take_31 : decode (am_Mof y_Dr_take).1 31 = .ok (.iload 7, 2) := by decide +kernel
theorem d_Dr_take_33 : decode (am_Mof y_Dr_take).1 33 = .ok (.iload_n 3, 1) := by decide +kernel
theorem d_Dr_take_34 : decode (am_Mof y_Dr_take).1 34 = .ok (.if_icmp .ge 50, 3) := by decide +kernel
theorem d_Dr_take_37 : decode (am_Mof y_Dr_take).1 37 = .ok (.iload 7, 2) := by decide +kernel
theorem d_Dr_take_39 : decode (am_Mof y_Dr_take).1 39 = .ok (.iload 4, 2) := by decide +kernel
theorem d_Dr_take_41 : decode (am_Mof y_Dr_take).1 41 = .ok (.if_icmp .ge 43, 3) := by decide +kernel
theorem d_Dr_take_44 : decode (am_Mof y_Dr_take).1 44 = .ok (.lload 5, 2) := by decide +kernel
theorem d_Dr_take_46 : decode (am_Mof y_Dr_take).1 46 = .ok (.ldc2_w 19, 3) := by decide +kernel
theorem d_Dr_take_49 : decode (am_Mof y_Dr_take).1 49 = .ok (.lmul, 1) := by decide +kernel
theorem d_Dr_take_50 : decode (am_Mof y_Dr_take).1 50 = .ok (.ldc2_w 21, 3) := by decide +kernel
theorem d_Dr_take_53 : decode (am_Mof y_Dr_take).1 53 = .ok (.ladd, 1) := by decide +kernel
theorem d_Dr_take_54 : decode (am_Mof y_Dr_take).1 54 = .ok (.lstore 5, 2) := by decide +kernel
theorem d_Dr_take_56 : decode (am_Mof y_Dr_take).1 56 = .ok (.aload_n 0, 1) := by decide +kernel
theorem d_Dr_take_57 : decode (am_Mof y_Dr_take).1 57 = .ok (.iload 7, 2) := by decide +kernel
theorem d_Dr_take_59 : decode (am_Mof y_Dr_take).1 59 = .ok (.iload 7, 2) := by decide +kernel
theorem d_Dr_take_61 : decode (am_Mof y_Dr_take).1 61 = .ok (.lload 5, 2) := by decide +kernel
theorem d_Dr_take_63 : decode (am_Mof y_Dr_take).1 63 = .ok (.bipush 33, 2) := by decide +kernel
theorem d_Dr_take_65 : decode (am_Mof y_Dr_take).1 65 = .ok (.lushr, 1) := by decide +kernel
theorem d_Dr_take_66 : decode (am_Mof y_Dr_take).1 66 = .ok (.iload 4, 2) := by decide +kernel
theorem d_Dr_take_68 : decode (am_Mof y_Dr_take).1 68 = .ok (.iload 7, 2) := by decide +kernel
theorem d_Dr_take_70 : decode (am_Mof y_Dr_take).1 70 = .ok (.isub, 1) := by decide +kernel
theorem d_Dr_take_71 : decode (am_Mof y_Dr_take).1 71 = .ok (.i2l, 1) := by decide +kernel
theorem d_Dr_take_72 : decode (am_Mof y_Dr_take).1 72 = .ok (.lrem, 1) := by decide +kernel
theorem d_Dr_take_73 : decode (am_Mof y_Dr_take).1 73 = .ok (.l2i, 1) := by decide +kernel
theorem d_Dr_take_74 : decode (am_Mof y_Dr_take).1 74 = .ok (.iadd, 1) := by decide +kernel
theorem d_Dr_take_75 : decode (am_Mof y_Dr_take).1 75 = .ok (.invokevirtual 23, 3) := by decide +kernel
theorem d_Dr_take_78 : decode (am_Mof y_Dr_take).1 78 = .ok (.iinc 7 1, 3) := by decide +kernel
theorem d_Dr_take_81 : decode (am_Mof y_Dr_take).1 81 = .ok (.goto (-50), 3) := by decide +kernel
theorem d_Dr_take_84 : decode (am_Mof y_Dr_take).1 84 = .ok (.aload_n 0, 1) := by decide +kernel
theorem d_Dr_take_85 : decode (am_Mof y_Dr_take).1 85 = .ok (.iload_n 3, 1) := by decide +kernel
theorem d_Dr_take_86 : decode (am_Mof y_Dr_take).1 86 = .ok (.putfield 15, 3) := by decide +kernel
theorem d_Dr_take_89 : decode (am_Mof y_Dr_take).1 89 = .ok (.return_, 1) := by decide +kernel
theorem d_Dr_swap_0 : decode (am_Mof y_Dr_swap).1 0 = .ok (.aload_n 0, 1) := by decide +kernel
theorem d_Dr_swap_1 : decode (am_Mof y_Dr_swap).1 1 = .ok (.getfield 9, 3) := by decide +kernel
theorem d_Dr_swap_4 : decode (am_Mof y_Dr_swap).1 4 = .ok (.iload_n 1, 1) := by decide +kernel
theorem d_Dr_swap_5 : decode (am_Mof y_Dr_swap).1 5 = .ok (.iaload, 1) := by decide +kernel
theorem d_Dr_swap_6 : decode (am_Mof y_Dr_swap).1 6 = .ok (.istore_n 3, 1) := by decide +kernel
theorem d_Dr_swap_7 : decode (am_Mof y_Dr_swap).1 7 = .ok (.aload_n 0, 1) := by decide +kernel
theorem d_Dr_swap_8 : decode (am_Mof y_Dr_swap).1 8 = .ok (.getfield 9, 3) := by decide +kernel
theorem d_Dr_swap_11 : decode (am_Mof y_Dr_swap).1 11 = .ok (.iload_n 1, 1) := by decide +kernel
theorem d_Dr_swap_12 : decode (am_Mof y_Dr_swap).1 12 = .ok (.aload_n 0, 1) := by decide +kernel
theorem d_Dr_swap_13 : decode (am_Mof y_Dr_swap).1 13 = .ok (.getfield 9, 3) := by decide +kernel
theorem d_Dr_swap_16 : decode (am_Mof y_Dr_swap).1 16 = .ok (.iload_n 2, 1) := by decide +kernel
theorem d_Dr_swap_17 : decode (am_Mof y_Dr_swap).1 17 = .ok (.iaload, 1) := by decide +kernel
theorem d_Dr_swap_18 : decode (am_Mof y_Dr_swap).1 18 = .ok (.iastore, 1) := by decide +kernel
theorem d_Dr_swap_19 : decode (am_Mof y_Dr_swap).1 19 = .ok (.aload_n 0, 1) := by decide +kernel
theorem d_Dr_swap_20 : decode (am_Mof y_Dr_swap).1 20 = .ok (.getfield 9, 3) := by decide +kernel
theorem d_Dr_swap_23 : decode (am_Mof y_Dr_swap).1 23 = .ok (.iload_n 2, 1) := by decide +kernel
theorem d_Dr_swap_24 : decode (am_Mof y_Dr_swap).1 24 = .ok (.iload_n 3, 1) := by decide +kernel
theorem d_Dr_swap_25 : decode (am_Mof y_Dr_swap).1 25 = .ok (.iastore, 1) := by decide +kernel
theorem d_Dr_swap_26 : decode (am_Mof y_Dr_swap).1 26 = .ok (.return_, 1) := by decide +kernel
theorem d_Dr_row_0 : decode (am_Mof y_Dr_row).1 0 = .ok (.iload_n 1, 1) := by decide +kernel
theorem d_Dr_row_1 : decode (am_Mof y_Dr_row).1 1 = .ok (.ifCond .lt 20, 3) := by decide +kernel
theorem d_Dr_row_4 : decode (am_Mof y_Dr_row).1 4 = .ok (.iload_n 1, 1) := by decide +kernel
theorem d_Dr_row_5 : decode (am_Mof y_Dr_row).1 5 = .ok (.aload_n 0, 1) := by decide +kernel
theorem d_Dr_row_6 : decode (am_Mof y_Dr_row).1 6 = .ok (.getfield 15, 3) := by decide +kernel
theorem d_Dr_row_9 : decode (am_Mof y_Dr_row).1 9 = .ok (.if_icmp .ge 12, 3) := by decide +kernel
theorem d_Dr_row_12 : decode (am_Mof y_Dr_row).1 12 = .ok (.aload_n 0, 1) := by decide +kernel
theorem d_Dr_row_13 : decode (am_Mof y_Dr_row).1 13 = .ok (.getfield 9, 3) := by decide +kernel
theorem d_Dr_row_16 : decode (am_Mof y_Dr_row).1 16 = .ok (.iload_n 1, 1) := by decide +kernel
theorem d_Dr_row_17 : decode (am_Mof y_Dr_row).1 17 = .ok (.iaload, 1) := by decide +kernel
theorem d_Dr_row_18 : decode (am_Mof y_Dr_row).1 18 = .ok (.goto 4, 3) := by decide +kernel
theorem d_Dr_row_21 : decode (am_Mof y_Dr_row).1 21 = .ok (.iconst (-1), 1) := by decide +kernel
theorem d_Dr_row_22 : decode (am_Mof y_Dr_row).1 22 = .ok (.ireturn, 1) := by decide +kernel
theorem d_Fe_init_0 : decode (am_Mof y_Fe_init).1 0 = .ok (.aload_n 0, 1) := by decide +kernel
theorem d_Fe_init_1 : decode (am_Mof y_Fe_init).1 1 = .ok (.invokespecial 3, 3) := by decide +kernel
theorem d_Fe_init_4 : decode (am_Mof y_Fe_init).1 4 = .ok (.aload_n 0, 1) := by decide +kernel
theorem d_Fe_init_5 : decode (am_Mof y_Fe_init).1 5 = .ok (.bipush 60, 2) := by decide +kernel
theorem d_Fe_init_7 : decode (am_Mof y_Fe_init).1 7 = .ok (.newarray .int, 2) := by decide +kernel
theorem d_Fe_init_9 : decode (am_Mof y_Fe_init).1 9 = .ok (.putfield 9, 3) := by decide +kernel
theorem d_Fe_init_12 : decode (am_Mof y_Fe_init).1 12 = .ok (.aload_n 0, 1) := by decide +kernel
theorem d_Fe_init_13 : decode (am_Mof y_Fe_init).1 13 = .ok (.bipush 60, 2) := by decide +kernel
theorem d_Fe_init_15 : decode (am_Mof y_Fe_init).1 15 = .ok (.newarray .int, 2) := by decide +kernel
theorem d_Fe_init_17 : decode (am_Mof y_Fe_init).1 17 = .ok (.putfield 15, 3) := by decide +kernel
theorem d_Fe_init_20 : decode (am_Mof y_Fe_init).1 20 = .ok (.aload_n 0, 1) := by decide +kernel
theorem d_Fe_init_21 : decode (am_Mof y_Fe_init).1 21 = .ok (.bipush 60, 2) := by decide +kernel
theorem d_Fe_init_23 : decode (am_Mof y_Fe_init).1 23 = .ok (.newarray .int, 2) := by decide +kernel
theorem d_Fe_init_25 : decode (am_Mof y_Fe_init).1 25 = .ok (.putfield 18, 3) := by decide +kernel
theorem d_Fe_init_28 : decode (am_Mof y_Fe_init).1 28 = .ok (.aload_n 0, 1) := by decide +kernel
theorem d_Fe_init_29 : decode (am_Mof y_Fe_init).1 29 = .ok (.bipush 60, 2) := by decide +kernel
theorem d_Fe_init_31 : decode (am_Mof y_Fe_init).1 31 = .ok (.newarray .int, 2) := by decide +kernel
theorem d_Fe_init_33 : decode (am_Mof y_Fe_init).1 33 = .ok (.putfield 21, 3) := by decide +kernel
theorem d_Fe_init_36 : decode (am_Mof y_Fe_init).1 36 = .ok (.aload_n 0, 1) := by decide +kernel
theorem d_Fe_init_37 : decode (am_Mof y_Fe_init).1 37 = .ok (.bipush 60, 2) := by decide +kernel
theorem d_Fe_init_39 : decode (am_Mof y_Fe_init).1 39 = .ok (.newarray .long, 2) := by decide +kernel
theorem d_Fe_init_41 : decode (am_Mof y_Fe_init).1 41 = .ok (.putfield 24, 3) := by decide +kernel
theorem d_Fe_init_44 : decode (am_Mof y_Fe_init).1 44 = .ok (.aload_n 0, 1) := by decide +kernel
theorem d_Fe_init_45 : decode (am_Mof y_Fe_init).1 45 = .ok (.iconst 0, 1) := by decide +kernel
theorem d_Fe_init_46 : decode (am_Mof y_Fe_init).1 46 = .ok (.putfield 28, 3) := by decide +kernel
theorem d_Fe_init_49 : decode (am_Mof y_Fe_init).1 49 = .ok (.return_, 1) := by decide +kernel
theorem d_Fe_add_0 : decode (am_Mof y_Fe_add).1 0 = .ok (.aload_n 0, 1) := by decide +kernel
theorem d_Fe_add_1 : decode (am_Mof y_Fe_add).1 1 = .ok (.getfield 28, 3) := by decide +kernel
theorem d_Fe_add_4 : decode (am_Mof y_Fe_add).1 4 = .ok (.bipush 60, 2) := by decide +kernel
theorem d_Fe_add_6 : decode (am_Mof y_Fe_add).1 6 = .ok (.if_icmp .lt 5, 3) := by decide +kernel
theorem d_Fe_add_9 : decode (am_Mof y_Fe_add).1 9 = .ok (.iconst 0, 1) := by decide +kernel
theorem d_Fe_add_10 : decode (am_Mof y_Fe_add).1 10 = .ok (.ireturn, 1) := by decide +kernel
theorem d_Fe_add_11 : decode (am_Mof y_Fe_add).1 11 = .ok (.aload_n 0, 1) := by decide +kernel
theorem d_Fe_add_12 : decode (am_Mof y_Fe_add).1 12 = .ok (.getfield 9, 3) := by decide +kernel
theorem d_Fe_add_15 : decode (am_Mof y_Fe_add).1 15 = .ok (.aload_n 0, 1) := by decide +kernel
theorem d_Fe_add_16 : decode (am_Mof y_Fe_add).1 16 = .ok (.getfield 28, 3) := by decide +kernel
theorem d_Fe_add_19 : decode (am_Mof y_Fe_add).1 19 = .ok (.iload_n 1, 1) := by decide +kernel
theorem d_Fe_add_20 : decode (am_Mof y_Fe_add).1 20 = .ok (.iastore, 1) := by decide +kernel
theorem d_Fe_add_21 : decode (am_Mof y_Fe_add).1 21 = .ok (.aload_n 0, 1) := by decide +kernel
theorem d_Fe_add_22 : decode (am_Mof y_Fe_add).1 22 = .ok (.getfield 15, 3) := by decide +kernel
theorem d_Fe_add_25 : decode (am_Mof y_Fe_add).1 25 = .ok (.aload_n 0, 1) := by decide +kernel
theorem d_Fe_add_26 : decode (am_Mof y_Fe_add).1 26 = .ok (.getfield 28, 3) := by decide +kernel
theorem d_Fe_add_29 : decode (am_Mof y_Fe_add).1 29 = .ok (.iload_n 2, 1) := by decide +kernel
theorem d_Fe_add_30 : decode (am_Mof y_Fe_add).1 30 = .ok (.iastore, 1) := by decide +kernel
theorem d_Fe_add_31 : decode (am_Mof y_Fe_add).1 31 = .ok (.aload_n 0, 1) := by decide +kernel
theorem d_Fe_add_32 : decode (am_Mof y_Fe_add).1 32 = .ok (.getfield 18, 3) := by decide +kernel
theorem d_Fe_add_35 : decode (am_Mof y_Fe_add).1 35 = .ok (.aload_n 0, 1) := by decide +kernel
theorem d_Fe_add_36 : decode (am_Mof y_Fe_add).1 36 = .ok (.getfield 28, 3) := by decide +kernel
theorem d_Fe_add_39 : decode (am_Mof y_Fe_add).1 39 = .ok (.iload 5, 2) := by decide +kernel
theorem d_Fe_add_41 : decode (am_Mof y_Fe_add).1 41 = .ok (.iastore, 1) := by decide +kernel
theorem d_Fe_add_42 : decode (am_Mof y_Fe_add).1 42 = .ok (.aload_n 0, 1) := by decide +kernel
theorem d_Fe_add_43 : decode (am_Mof y_Fe_add).1 43 = .ok (.getfield 21, 3) := by decide +kernel
theorem d_Fe_add_46 : decode (am_Mof y_Fe_add).1 46 = .ok (.aload_n 0, 1) := by decide +kernel
theorem d_Fe_add_47 : decode (am_Mof y_Fe_add).1 47 = .ok (.getfield 28, 3) := by decide +kernel
theorem d_Fe_add_50 : decode (am_Mof y_Fe_add).1 50 = .ok (.iload 6, 2) := by decide +kernel
theorem d_Fe_add_52 : decode (am_Mof y_Fe_add).1 52 = .ok (.iastore, 1) := by decide +kernel
theorem d_Fe_add_53 : decode (am_Mof y_Fe_add).1 53 = .ok (.aload_n 0, 1) := by decide +kernel
theorem d_Fe_add_54 : decode (am_Mof y_Fe_add).1 54 = .ok (.getfield 24, 3) := by decide +kernel
theorem d_Fe_add_57 : decode (am_Mof y_Fe_add).1 57 = .ok (.aload_n 0, 1) := by decide +kernel
theorem d_Fe_add_58 : decode (am_Mof y_Fe_add).1 58 = .ok (.getfield 28, 3) := by decide +kernel
theorem d_Fe_add_61 : decode (am_Mof y_Fe_add).1 61 = .ok (.lload_n 3, 1) := by decide +kernel
theorem d_Fe_add_62 : decode (am_Mof y_Fe_add).1 62 = .ok (.lastore, 1) := by decide +kernel
theorem d_Fe_add_63 : decode (am_Mof y_Fe_add).1 63 = .ok (.aload_n 0, 1) := by decide +kernel
theorem d_Fe_add_64 : decode (am_Mof y_Fe_add).1 64 = .ok (.dup, 1) := by decide +kernel
theorem d_Fe_add_65 : decode (am_Mof y_Fe_add).1 65 = .ok (.getfield 28, 3) := by decide +kernel
theorem d_Fe_add_68 : decode (am_Mof y_Fe_add).1 68 = .ok (.iconst 1, 1) := by decide +kernel
theorem d_Fe_add_69 : decode (am_Mof y_Fe_add).1 69 = .ok (.iadd, 1) := by decide +kernel
theorem d_Fe_add_70 : decode (am_Mof y_Fe_add).1 70 = .ok (.putfield 28, 3) := by decide +kernel
theorem d_Fe_add_73 : decode (am_Mof y_Fe_add).1 73 = .ok (.iconst 1, 1) := by decide +kernel
theorem d_Fe_add_74 : decode (am_Mof y_Fe_add).1 74 = .ok (.ireturn, 1) := by decide +kernel
theorem d_Fe_size_0 : decode (am_Mof y_Fe_size).1 0 = .ok (.aload_n 0, 1) := by decide +kernel
theorem d_Fe_size_1 : decode (am_Mof y_Fe_size).1 1 = .ok (.getfield 28, 3) := by decide +kernel
theorem d_Fe_size_4 : decode (am_Mof y_Fe_size).1 4 = .ok (.ireturn, 1) := by decide +kernel
theorem d_Fe_kindOf_0 : decode (am_Mof y_Fe_kindOf).1 0 = .ok (.aload_n 0, 1) := by decide +kernel
theorem d_Fe_kindOf_1 : decode (am_Mof y_Fe_kindOf).1 1 = .ok (.getfield 15, 3) := by decide +kernel
theorem d_Fe_kindOf_4 : decode (am_Mof y_Fe_kindOf).1 4 = .ok (.iload_n 1, 1) := by decide +kernel
theorem d_Fe_kindOf_5 : decode (am_Mof y_Fe_kindOf).1 5 = .ok (.iaload, 1) := by decide +kernel
theorem d_Fe_kindOf_6 : decode (am_Mof y_Fe_kindOf).1 6 = .ok (.ireturn, 1) := by decide +kernel
theorem d_Fe_yearOf_0 : decode (am_Mof y_Fe_yearOf).1 0 = .ok (.aload_n 0, 1) := by decide +kernel
theorem d_Fe_yearOf_1 : decode (am_Mof y_Fe_yearOf).1 1 = .ok (.getfield 18, 3) := by decide +kernel
theorem d_Fe_yearOf_4 : decode (am_Mof y_Fe_yearOf).1 4 = .ok (.iload_n 1, 1) := by decide +kernel
theorem d_Fe_yearOf_5 : decode (am_Mof y_Fe_yearOf).1 5 = .ok (.iaload, 1) := by decide +kernel
theorem d_Fe_yearOf_6 : decode (am_Mof y_Fe_yearOf).1 6 = .ok (.ireturn, 1) := by decide +kernel
theorem d_Fe_plantOf_0 : decode (am_Mof y_Fe_plantOf).1 0 = .ok (.aload_n 0, 1) := by decide +kernel
theorem d_Fe_plantOf_1 : decode (am_Mof y_Fe_plantOf).1 1 = .ok (.getfield 9, 3) := by decide +kernel
theorem d_Fe_plantOf_4 : decode (am_Mof y_Fe_plantOf).1 4 = .ok (.iload_n 1, 1) := by decide +kernel
theorem d_Fe_plantOf_5 : decode (am_Mof y_Fe_plantOf).1 5 = .ok (.iaload, 1) := by decide +kernel
theorem d_Fe_plantOf_6 : decode (am_Mof y_Fe_plantOf).1 6 = .ok (.ireturn, 1) := by decide +kernel
theorem d_Fe_gramsOf_0 : decode (am_Mof y_Fe_gramsOf).1 0 = .ok (.aload_n 0, 1) := by decide +kernel
theorem d_Fe_gramsOf_1 : decode (am_Mof y_Fe_gramsOf).1 1 = .ok (.getfield 24, 3) := by decide +kernel
theorem d_Fe_gramsOf_4 : decode (am_Mof y_Fe_gramsOf).1 4 = .ok (.iload_n 1, 1) := by decide +kernel
theorem d_Fe_gramsOf_5 : decode (am_Mof y_Fe_gramsOf).1 5 = .ok (.laload, 1) := by decide +kernel
theorem d_Fe_gramsOf_6 : decode (am_Mof y_Fe_gramsOf).1 6 = .ok (.lreturn, 1) := by decide +kernel
theorem d_Fe_countryOf_0 : decode (am_Mof y_Fe_countryOf).1 0 = .ok (.aload_n 0, 1) := by decide +kernel
theorem d_Fe_countryOf_1 : decode (am_Mof y_Fe_countryOf).1 1 = .ok (.getfield 21, 3) := by decide +kernel
theorem d_Fe_countryOf_4 : decode (am_Mof y_Fe_countryOf).1 4 = .ok (.iload_n 1, 1) := by decide +kernel
theorem d_Fe_countryOf_5 : decode (am_Mof y_Fe_countryOf).1 5 = .ok (.iaload, 1) := by decide +kernel
theorem d_Fe_countryOf_6 : decode (am_Mof y_Fe_countryOf).1 6 = .ok (.ireturn, 1) := by decide +kernel
theorem d_Pl_init_0 : decode (am_Mof y_Pl_init).1 0 = .ok (.aload_n 0, 1) := by decide +kernel
theorem d_Pl_init_1 : decode (am_Mof y_Pl_init).1 1 = .ok (.invokespecial 3, 3) := by decide +kernel
theorem d_Pl_init_4 : decode (am_Mof y_Pl_init).1 4 = .ok (.aload_n 0, 1) := by decide +kernel
theorem d_Pl_init_5 : decode (am_Mof y_Pl_init).1 5 = .ok (.bipush 25, 2) := by decide +kernel
theorem d_Pl_init_7 : decode (am_Mof y_Pl_init).1 7 = .ok (.newarray .int, 2) := by decide +kernel
theorem d_Pl_init_9 : decode (am_Mof y_Pl_init).1 9 = .ok (.putfield 9, 3) := by decide +kernel
theorem d_Pl_init_12 : decode (am_Mof y_Pl_init).1 12 = .ok (.aload_n 0, 1) := by decide +kernel
theorem d_Pl_init_13 : decode (am_Mof y_Pl_init).1 13 = .ok (.iconst 5, 1) := by decide +kernel
theorem d_Pl_init_14 : decode (am_Mof y_Pl_init).1 14 = .ok (.newarray .int, 2) := by decide +kernel
theorem d_Pl_init_16 : decode (am_Mof y_Pl_init).1 16 = .ok (.putfield 15, 3) := by decide +kernel
theorem d_Pl_init_19 : decode (am_Mof y_Pl_init).1 19 = .ok (.aload_n 0, 1) := by decide +kernel
theorem d_Pl_init_20 : decode (am_Mof y_Pl_init).1 20 = .ok (.bipush 20, 2) := by decide +kernel
theorem d_Pl_init_22 : decode (am_Mof y_Pl_init).1 22 = .ok (.newarray .boolean, 2) := by decide +kernel
theorem d_Pl_init_24 : decode (am_Mof y_Pl_init).1 24 = .ok (.putfield 18, 3) := by decide +kernel
theorem d_Pl_init_27 : decode (am_Mof y_Pl_init).1 27 = .ok (.aload_n 0, 1) := by decide +kernel
theorem d_Pl_init_28 : decode (am_Mof y_Pl_init).1 28 = .ok (.iconst 5, 1) := by decide +kernel
theorem d_Pl_init_29 : decode (am_Mof y_Pl_init).1 29 = .ok (.newarray .boolean, 2) := by decide +kernel
theorem d_Pl_init_31 : decode (am_Mof y_Pl_init).1 31 = .ok (.putfield 22, 3) := by decide +kernel
theorem d_Pl_init_34 : decode (am_Mof y_Pl_init).1 34 = .ok (.aload_n 0, 1) := by decide +kernel
theorem d_Pl_init_35 : decode (am_Mof y_Pl_init).1 35 = .ok (.iconst 5, 1) := by decide +kernel
theorem d_Pl_init_36 : decode (am_Mof y_Pl_init).1 36 = .ok (.newarray .int, 2) := by decide +kernel
theorem d_Pl_init_38 : decode (am_Mof y_Pl_init).1 38 = .ok (.putfield 25, 3) := by decide +kernel
theorem d_Pl_init_41 : decode (am_Mof y_Pl_init).1 41 = .ok (.aload_n 0, 1) := by decide +kernel
theorem d_Pl_init_42 : decode (am_Mof y_Pl_init).1 42 = .ok (.iconst 5, 1) := by decide +kernel
theorem d_Pl_init_43 : decode (am_Mof y_Pl_init).1 43 = .ok (.newarray .boolean, 2) := by decide +kernel
theorem d_Pl_init_45 : decode (am_Mof y_Pl_init).1 45 = .ok (.putfield 28, 3) := by decide +kernel
theorem d_Pl_init_48 : decode (am_Mof y_Pl_init).1 48 = .ok (.aload_n 0, 1) := by decide +kernel
theorem d_Pl_init_49 : decode (am_Mof y_Pl_init).1 49 = .ok (.iconst 0, 1) := by decide +kernel
theorem d_Pl_init_50 : decode (am_Mof y_Pl_init).1 50 = .ok (.putfield 31, 3) := by decide +kernel
theorem d_Pl_init_53 : decode (am_Mof y_Pl_init).1 53 = .ok (.return_, 1) := by decide +kernel
theorem d_Pl_add_0 : decode (am_Mof y_Pl_add).1 0 = .ok (.aload_n 0, 1) := by decide +kernel
theorem d_Pl_add_1 : decode (am_Mof y_Pl_add).1 1 = .ok (.getfield 31, 3) := by decide +kernel
theorem d_Pl_add_4 : decode (am_Mof y_Pl_add).1 4 = .ok (.iconst 5, 1) := by decide +kernel
theorem d_Pl_add_5 : decode (am_Mof y_Pl_add).1 5 = .ok (.if_icmp .lt 5, 3) := by decide +kernel
theorem d_Pl_add_8 : decode (am_Mof y_Pl_add).1 8 = .ok (.iconst (-1), 1) := by decide +kernel
theorem d_Pl_add_9 : decode (am_Mof y_Pl_add).1 9 = .ok (.ireturn, 1) := by decide +kernel
theorem d_Pl_add_10 : decode (am_Mof y_Pl_add).1 10 = .ok (.aload_n 0, 1) := by decide +kernel
theorem d_Pl_add_11 : decode (am_Mof y_Pl_add).1 11 = .ok (.dup, 1) := by decide +kernel
theorem d_Pl_add_12 : decode (am_Mof y_Pl_add).1 12 = .ok (.getfield 31, 3) := by decide +kernel
theorem d_Pl_add_15 : decode (am_Mof y_Pl_add).1 15 = .ok (.iconst 1, 1) := by decide +kernel
theorem d_Pl_add_16 : decode (am_Mof y_Pl_add).1 16 = .ok (.iadd, 1) := by decide +kernel
theorem d_Pl_add_17 : decode (am_Mof y_Pl_add).1 17 = .ok (.putfield 31, 3) := by decide +kernel
theorem d_Pl_add_20 : decode (am_Mof y_Pl_add).1 20 = .ok (.aload_n 0, 1) := by decide +kernel
theorem d_Pl_add_21 : decode (am_Mof y_Pl_add).1 21 = .ok (.getfield 31, 3) := by decide +kernel
theorem d_Pl_add_24 : decode (am_Mof y_Pl_add).1 24 = .ok (.iconst 1, 1) := by decide +kernel
theorem d_Pl_add_25 : decode (am_Mof y_Pl_add).1 25 = .ok (.isub, 1) := by decide +kernel
theorem d_Pl_add_26 : decode (am_Mof y_Pl_add).1 26 = .ok (.ireturn, 1) := by decide +kernel
theorem d_Pl_has_0 : decode (am_Mof y_Pl_has).1 0 = .ok (.iload_n 1, 1) := by decide +kernel
theorem d_Pl_has_1 : decode (am_Mof y_Pl_has).1 1 = .ok (.ifCond .lt 15, 3) := by decide +kernel
theorem d_Pl_has_4 : decode (am_Mof y_Pl_has).1 4 = .ok (.iload_n 1, 1) := by decide +kernel
theorem d_Pl_has_5 : decode (am_Mof y_Pl_has).1 5 = .ok (.aload_n 0, 1) := by decide +kernel
theorem d_Pl_has_6 : decode (am_Mof y_Pl_has).1 6 = .ok (.getfield 31, 3) := by decide +kernel
theorem d_Pl_has_9 : decode (am_Mof y_Pl_has).1 9 = .ok (.if_icmp .ge 7, 3) := by decide +kernel
theorem d_Pl_has_12 : decode (am_Mof y_Pl_has).1 12 = .ok (.iconst 1, 1) := by decide +kernel
theorem d_Pl_has_13 : decode (am_Mof y_Pl_has).1 13 = .ok (.goto 4, 3) := by decide +kernel
theorem d_Pl_has_16 : decode (am_Mof y_Pl_has).1 16 = .ok (.iconst 0, 1) := by decide +kernel
theorem d_Pl_has_17 : decode (am_Mof y_Pl_has).1 17 = .ok (.ireturn, 1) := by decide +kernel
theorem d_Pl_setShare_0 : decode (am_Mof y_Pl_setShare).1 0 = .ok (.aload_n 0, 1) := by decide +kernel
theorem d_Pl_setShare_1 : decode (am_Mof y_Pl_setShare).1 1 = .ok (.getfield 15, 3) := by decide +kernel
theorem d_Pl_setShare_4 : decode (am_Mof y_Pl_setShare).1 4 = .ok (.iload_n 1, 1) := by decide +kernel
theorem d_Pl_setShare_5 : decode (am_Mof y_Pl_setShare).1 5 = .ok (.iaload, 1) := by decide +kernel
theorem d_Pl_setShare_6 : decode (am_Mof y_Pl_setShare).1 6 = .ok (.aload_n 0, 1) := by decide +kernel
theorem d_Pl_setShare_7 : decode (am_Mof y_Pl_setShare).1 7 = .ok (.iload_n 1, 1) := by decide +kernel
theorem d_Pl_setShare_8 : decode (am_Mof y_Pl_setShare).1 8 = .ok (.iload_n 2, 1) := by decide +kernel
theorem d_Pl_setShare_9 : decode (am_Mof y_Pl_setShare).1 9 = .ok (.invokevirtual 35, 3) := by decide +kernel
theorem d_Pl_setShare_12 : decode (am_Mof y_Pl_setShare).1 12 = .ok (.isub, 1) := by decide +kernel
theorem d_Pl_setShare_13 : decode (am_Mof y_Pl_setShare).1 13 = .ok (.iload_n 3, 1) := by decide +kernel
theorem d_Pl_setShare_14 : decode (am_Mof y_Pl_setShare).1 14 = .ok (.iadd, 1) := by decide +kernel
theorem d_Pl_setShare_15 : decode (am_Mof y_Pl_setShare).1 15 = .ok (.istore 4, 2) := by decide +kernel
theorem d_Pl_setShare_17 : decode (am_Mof y_Pl_setShare).1 17 = .ok (.iload 4, 2) := by decide +kernel
theorem d_Pl_setShare_19 : decode (am_Mof y_Pl_setShare).1 19 = .ok (.bipush 10, 2) := by decide +kernel
theorem d_Pl_setShare_21 : decode (am_Mof y_Pl_setShare).1 21 = .ok (.if_icmp .le 5, 3) := by decide +kernel
theorem d_Pl_setShare_24 : decode (am_Mof y_Pl_setShare).1 24 = .ok (.iconst 0, 1) := by decide +kernel
theorem d_Pl_setShare_25 : decode (am_Mof y_Pl_setShare).1 25 = .ok (.ireturn, 1) := by decide +kernel
theorem d_Pl_setShare_26 : decode (am_Mof y_Pl_setShare).1 26 = .ok (.aload_n 0, 1) := by decide +kernel
theorem d_Pl_setShare_27 : decode (am_Mof y_Pl_setShare).1 27 = .ok (.getfield 9, 3) := by decide +kernel
theorem d_Pl_setShare_30 : decode (am_Mof y_Pl_setShare).1 30 = .ok (.iload_n 1, 1) := by decide +kernel
theorem d_Pl_setShare_31 : decode (am_Mof y_Pl_setShare).1 31 = .ok (.iconst 5, 1) := by decide +kernel
theorem d_Pl_setShare_32 : decode (am_Mof y_Pl_setShare).1 32 = .ok (.imul, 1) := by decide +kernel
theorem d_Pl_setShare_33 : decode (am_Mof y_Pl_setShare).1 33 = .ok (.iload_n 2, 1) := by decide +kernel
theorem d_Pl_setShare_34 : decode (am_Mof y_Pl_setShare).1 34 = .ok (.iadd, 1) := by decide +kernel
theorem d_Pl_setShare_35 : decode (am_Mof y_Pl_setShare).1 35 = .ok (.iload_n 3, 1) := by decide +kernel
theorem d_Pl_setShare_36 : decode (am_Mof y_Pl_setShare).1 36 = .ok (.iastore, 1) := by decide +kernel
theorem d_Pl_setShare_37 : decode (am_Mof y_Pl_setShare).1 37 = .ok (.aload_n 0, 1) := by decide +kernel
theorem d_Pl_setShare_38 : decode (am_Mof y_Pl_setShare).1 38 = .ok (.getfield 15, 3) := by decide +kernel
theorem d_Pl_setShare_41 : decode (am_Mof y_Pl_setShare).1 41 = .ok (.iload_n 1, 1) := by decide +kernel
theorem d_Pl_setShare_42 : decode (am_Mof y_Pl_setShare).1 42 = .ok (.iload 4, 2) := by decide +kernel
theorem d_Pl_setShare_44 : decode (am_Mof y_Pl_setShare).1 44 = .ok (.iastore, 1) := by decide +kernel
theorem d_Pl_setShare_45 : decode (am_Mof y_Pl_setShare).1 45 = .ok (.iconst 1, 1) := by decide +kernel
theorem d_Pl_setShare_46 : decode (am_Mof y_Pl_setShare).1 46 = .ok (.ireturn, 1) := by decide +kernel
theorem d_Pl_shareOf_0 : decode (am_Mof y_Pl_shareOf).1 0 = .ok (.aload_n 0, 1) := by decide +kernel
theorem d_Pl_shareOf_1 : decode (am_Mof y_Pl_shareOf).1 1 = .ok (.getfield 9, 3) := by decide +kernel
theorem d_Pl_shareOf_4 : decode (am_Mof y_Pl_shareOf).1 4 = .ok (.iload_n 1, 1) := by decide +kernel
theorem d_Pl_shareOf_5 : decode (am_Mof y_Pl_shareOf).1 5 = .ok (.iconst 5, 1) := by decide +kernel
theorem d_Pl_shareOf_6 : decode (am_Mof y_Pl_shareOf).1 6 = .ok (.imul, 1) := by decide +kernel
theorem d_Pl_shareOf_7 : decode (am_Mof y_Pl_shareOf).1 7 = .ok (.iload_n 2, 1) := by decide +kernel
theorem d_Pl_shareOf_8 : decode (am_Mof y_Pl_shareOf).1 8 = .ok (.iadd, 1) := by decide +kernel
theorem d_Pl_shareOf_9 : decode (am_Mof y_Pl_shareOf).1 9 = .ok (.iaload, 1) := by decide +kernel
theorem d_Pl_shareOf_10 : decode (am_Mof y_Pl_shareOf).1 10 = .ok (.ireturn, 1) := by decide +kernel
theorem d_Pl_setPoint_0 : decode (am_Mof y_Pl_setPoint).1 0 = .ok (.aload_n 0, 1) := by decide +kernel
theorem d_Pl_setPoint_1 : decode (am_Mof y_Pl_setPoint).1 1 = .ok (.iload_n 1, 1) := by decide +kernel
theorem d_Pl_setPoint_2 : decode (am_Mof y_Pl_setPoint).1 2 = .ok (.iload_n 2, 1) := by decide +kernel
theorem d_Pl_setPoint_3 : decode (am_Mof y_Pl_setPoint).1 3 = .ok (.invokevirtual 39, 3) := by decide +kernel
theorem d_Pl_setPoint_6 : decode (am_Mof y_Pl_setPoint).1 6 = .ok (.ifCond .eq 5, 3) := by decide +kernel
theorem d_Pl_setPoint_9 : decode (am_Mof y_Pl_setPoint).1 9 = .ok (.iconst 0, 1) := by decide +kernel
theorem d_Pl_setPoint_10 : decode (am_Mof y_Pl_setPoint).1 10 = .ok (.ireturn, 1) := by decide +kernel
theorem d_Pl_setPoint_11 : decode (am_Mof y_Pl_setPoint).1 11 = .ok (.aload_n 0, 1) := by decide +kernel
theorem d_Pl_setPoint_12 : decode (am_Mof y_Pl_setPoint).1 12 = .ok (.getfield 18, 3) := by decide +kernel
theorem d_Pl_setPoint_15 : decode (am_Mof y_Pl_setPoint).1 15 = .ok (.iload_n 1, 1) := by decide +kernel
theorem d_Pl_setPoint_16 : decode (am_Mof y_Pl_setPoint).1 16 = .ok (.iload_n 2, 1) := by decide +kernel
theorem d_Pl_setPoint_17 : decode (am_Mof y_Pl_setPoint).1 17 = .ok (.invokestatic 43, 3) := by decide +kernel
theorem d_Pl_setPoint_20 : decode (am_Mof y_Pl_setPoint).1 20 = .ok (.iconst 1, 1) := by decide +kernel
theorem d_Pl_setPoint_21 : decode (am_Mof y_Pl_setPoint).1 21 = .ok (.bastore, 1) := by decide +kernel
theorem d_Pl_setPoint_22 : decode (am_Mof y_Pl_setPoint).1 22 = .ok (.iconst 1, 1) := by decide +kernel
theorem d_Pl_setPoint_23 : decode (am_Mof y_Pl_setPoint).1 23 = .ok (.ireturn, 1) := by decide +kernel
theorem d_Pl_isPoint_0 : decode (am_Mof y_Pl_isPoint).1 0 = .ok (.aload_n 0, 1) := by decide +kernel
theorem d_Pl_isPoint_1 : decode (am_Mof y_Pl_isPoint).1 1 = .ok (.getfield 18, 3) := by decide +kernel
theorem d_Pl_isPoint_4 : decode (am_Mof y_Pl_isPoint).1 4 = .ok (.iload_n 1, 1) := by decide +kernel
theorem d_Pl_isPoint_5 : decode (am_Mof y_Pl_isPoint).1 5 = .ok (.iload_n 2, 1) := by decide +kernel
theorem d_Pl_isPoint_6 : decode (am_Mof y_Pl_isPoint).1 6 = .ok (.invokestatic 43, 3) := by decide +kernel
theorem d_Pl_isPoint_9 : decode (am_Mof y_Pl_isPoint).1 9 = .ok (.baload, 1) := by decide +kernel
theorem d_Pl_isPoint_10 : decode (am_Mof y_Pl_isPoint).1 10 = .ok (.ireturn, 1) := by decide +kernel
theorem d_Pl_setLoss_0 : decode (am_Mof y_Pl_setLoss).1 0 = .ok (.aload_n 0, 1) := by decide +kernel
theorem d_Pl_setLoss_1 : decode (am_Mof y_Pl_setLoss).1 1 = .ok (.getfield 22, 3) := by decide +kernel
theorem d_Pl_setLoss_4 : decode (am_Mof y_Pl_setLoss).1 4 = .ok (.iload_n 1, 1) := by decide +kernel
theorem d_Pl_setLoss_5 : decode (am_Mof y_Pl_setLoss).1 5 = .ok (.iconst 1, 1) := by decide +kernel
theorem d_Pl_setLoss_6 : decode (am_Mof y_Pl_setLoss).1 6 = .ok (.bastore, 1) := by decide +kernel
theorem d_Pl_setLoss_7 : decode (am_Mof y_Pl_setLoss).1 7 = .ok (.aload_n 0, 1) := by decide +kernel
theorem d_Pl_setLoss_8 : decode (am_Mof y_Pl_setLoss).1 8 = .ok (.getfield 25, 3) := by decide +kernel
theorem d_Pl_setLoss_11 : decode (am_Mof y_Pl_setLoss).1 11 = .ok (.iload_n 1, 1) := by decide +kernel
theorem d_Pl_setLoss_12 : decode (am_Mof y_Pl_setLoss).1 12 = .ok (.iload_n 2, 1) := by decide +kernel
theorem d_Pl_setLoss_13 : decode (am_Mof y_Pl_setLoss).1 13 = .ok (.iastore, 1) := by decide +kernel
theorem d_Pl_setLoss_14 : decode (am_Mof y_Pl_setLoss).1 14 = .ok (.return_, 1) := by decide +kernel
theorem d_Pl_leastInRing_0 : decode (am_Mof y_Pl_leastInRing).1 0 = .ok (.iconst (-1), 1) := by decide +kernel
theorem d_Pl_leastInRing_1 : decode (am_Mof y_Pl_leastInRing).1 1 = .ok (.istore_n 1, 1) := by decide +kernel
theorem d_Pl_leastInRing_2 : decode (am_Mof y_Pl_leastInRing).1 2 = .ok (.iconst 0, 1) := by decide +kernel
theorem d_Pl_leastInRing_3 : decode (am_Mof y_Pl_leastInRing).1 3 = .ok (.istore_n 2, 1) := by decide +kernel
theorem d_Pl_leastInRing_4 : decode (am_Mof y_Pl_leastInRing).1 4 = .ok (.iload_n 2, 1) := by decide +kernel
theorem d_Pl_leastInRing_5 : decode (am_Mof y_Pl_leastInRing).1 5 = .ok (.iconst 4, 1) := by decide +kernel
theorem d_Pl_leastInRing_6 : decode (am_Mof y_Pl_leastInRing).1 6 = .ok (.if_icmp .ge 32, 3) := by decide +kernel
theorem d_Pl_leastInRing_9 : decode (am_Mof y_Pl_leastInRing).1 9 = .ok (.aload_n 0, 1) := by decide +kernel
theorem d_Pl_leastInRing_10 : decode (am_Mof y_Pl_leastInRing).1 10 = .ok (.iload_n 2, 1) := by decide +kernel
theorem d_Pl_leastInRing_11 : decode (am_Mof y_Pl_leastInRing).1 11 = .ok (.invokevirtual 46, 3) := by decide +kernel
theorem d_Pl_leastInRing_14 : decode (am_Mof y_Pl_leastInRing).1 14 = .ok (.istore_n 3, 1) := by decide +kernel
theorem d_Pl_leastInRing_15 : decode (am_Mof y_Pl_leastInRing).1 15 = .ok (.iload_n 3, 1) := by decide +kernel
theorem d_Pl_leastInRing_16 : decode (am_Mof y_Pl_leastInRing).1 16 = .ok (.iconst (-1), 1) := by decide +kernel
theorem d_Pl_leastInRing_17 : decode (am_Mof y_Pl_leastInRing).1 17 = .ok (.if_icmp .eq 15, 3) := by decide +kernel
theorem d_Pl_leastInRing_20 : decode (am_Mof y_Pl_leastInRing).1 20 = .ok (.iload_n 1, 1) := by decide +kernel
theorem d_Pl_leastInRing_21 : decode (am_Mof y_Pl_leastInRing).1 21 = .ok (.iconst (-1), 1) := by decide +kernel
theorem d_Pl_leastInRing_22 : decode (am_Mof y_Pl_leastInRing).1 22 = .ok (.if_icmp .eq 8, 3) := by decide +kernel
theorem d_Pl_leastInRing_25 : decode (am_Mof y_Pl_leastInRing).1 25 = .ok (.iload_n 3, 1) := by decide +kernel
theorem d_Pl_leastInRing_26 : decode (am_Mof y_Pl_leastInRing).1 26 = .ok (.iload_n 1, 1) := by decide +kernel
theorem d_Pl_leastInRing_27 : decode (am_Mof y_Pl_leastInRing).1 27 = .ok (.if_icmp .ge 5, 3) := by decide +kernel
theorem d_Pl_leastInRing_30 : decode (am_Mof y_Pl_leastInRing).1 30 = .ok (.iload_n 3, 1) := by decide +kernel
theorem d_Pl_leastInRing_31 : decode (am_Mof y_Pl_leastInRing).1 31 = .ok (.istore_n 1, 1) := by decide +kernel
theorem d_Pl_leastInRing_32 : decode (am_Mof y_Pl_leastInRing).1 32 = .ok (.iinc 2 1, 3) := by decide +kernel
theorem d_Pl_leastInRing_35 : decode (am_Mof y_Pl_leastInRing).1 35 = .ok (.goto (-31), 3) := by decide +kernel
theorem d_Pl_leastInRing_38 : decode (am_Mof y_Pl_leastInRing).1 38 = .ok (.iload_n 1, 1) := by decide +kernel
theorem d_Pl_leastInRing_39 : decode (am_Mof y_Pl_leastInRing).1 39 = .ok (.ireturn, 1) := by decide +kernel
theorem d_Pl_leastInRingOf_0 : decode (am_Mof y_Pl_leastInRingOf).1 0 = .ok (.aload_n 0, 1) := by decide +kernel
theorem d_Pl_leastInRingOf_1 : decode (am_Mof y_Pl_leastInRingOf).1 1 = .ok (.iload_n 1, 1) := by decide +kernel
theorem d_Pl_leastInRingOf_2 : decode (am_Mof y_Pl_leastInRingOf).1 2 = .ok (.invokevirtual 50, 3) := by decide +kernel
theorem d_Pl_leastInRingOf_5 : decode (am_Mof y_Pl_leastInRingOf).1 5 = .ok (.iconst 0, 1) := by decide +kernel
theorem d_Pl_leastInRingOf_6 : decode (am_Mof y_Pl_leastInRingOf).1 6 = .ok (.istore_n 2, 1) := by decide +kernel
theorem d_Pl_leastInRingOf_7 : decode (am_Mof y_Pl_leastInRingOf).1 7 = .ok (.iload_n 2, 1) := by decide +kernel
theorem d_Pl_leastInRingOf_8 : decode (am_Mof y_Pl_leastInRingOf).1 8 = .ok (.iconst 5, 1) := by decide +kernel
theorem d_Pl_leastInRingOf_9 : decode (am_Mof y_Pl_leastInRingOf).1 9 = .ok (.if_icmp .ge 20, 3) := by decide +kernel
theorem d_Pl_leastInRingOf_12 : decode (am_Mof y_Pl_leastInRingOf).1 12 = .ok (.aload_n 0, 1) := by decide +kernel
theorem d_Pl_leastInRingOf_13 : decode (am_Mof y_Pl_leastInRingOf).1 13 = .ok (.getfield 28, 3) := by decide +kernel
theorem d_Pl_leastInRingOf_16 : decode (am_Mof y_Pl_leastInRingOf).1 16 = .ok (.iload_n 2, 1) := by decide +kernel
theorem d_Pl_leastInRingOf_17 : decode (am_Mof y_Pl_leastInRingOf).1 17 = .ok (.baload, 1) := by decide +kernel
theorem d_Pl_leastInRingOf_18 : decode (am_Mof y_Pl_leastInRingOf).1 18 = .ok (.ifCond .ne 5, 3) := by decide +kernel
theorem d_Pl_leastInRingOf_21 : decode (am_Mof y_Pl_leastInRingOf).1 21 = .ok (.iload_n 2, 1) := by decide +kernel
theorem d_Pl_leastInRingOf_22 : decode (am_Mof y_Pl_leastInRingOf).1 22 = .ok (.ireturn, 1) := by decide +kernel
theorem d_Pl_leastInRingOf_23 : decode (am_Mof y_Pl_leastInRingOf).1 23 = .ok (.iinc 2 1, 3) := by decide +kernel
theorem d_Pl_leastInRingOf_26 : decode (am_Mof y_Pl_leastInRingOf).1 26 = .ok (.goto (-19), 3) := by decide +kernel
theorem d_Pl_leastInRingOf_29 : decode (am_Mof y_Pl_leastInRingOf).1 29 = .ok (.iconst (-1), 1) := by decide +kernel
theorem d_Pl_leastInRingOf_30 : decode (am_Mof y_Pl_leastInRingOf).1 30 = .ok (.ireturn, 1) := by decide +kernel
theorem d_Pl_findEnds_0 : decode (am_Mof y_Pl_findEnds).1 0 = .ok (.iconst 0, 1) := by decide +kernel
theorem d_Pl_findEnds_1 : decode (am_Mof y_Pl_findEnds).1 1 = .ok (.istore_n 2, 1) := by decide +kernel
theorem d_Pl_findEnds_2 : decode (am_Mof y_Pl_findEnds).1 2 = .ok (.iload_n 2, 1) := by decide +kernel
theorem d_Pl_findEnds_3 : decode (am_Mof y_Pl_findEnds).1 3 = .ok (.iconst 5, 1) := by decide +kernel
theorem d_Pl_findEnds_4 : decode (am_Mof y_Pl_findEnds).1 4 = .ok (.if_icmp .ge 40, 3) := by decide +kernel
theorem d_Pl_findEnds_7 : decode (am_Mof y_Pl_findEnds).1 7 = .ok (.aload_n 0, 1) := by decide +kernel
theorem d_Pl_findEnds_8 : decode (am_Mof y_Pl_findEnds).1 8 = .ok (.getfield 28, 3) := by decide +kernel
theorem d_Pl_findEnds_11 : decode (am_Mof y_Pl_findEnds).1 11 = .ok (.iload_n 2, 1) := by decide +kernel
theorem d_Pl_findEnds_12 : decode (am_Mof y_Pl_findEnds).1 12 = .ok (.aload_n 0, 1) := by decide +kernel
theorem d_Pl_findEnds_13 : decode (am_Mof y_Pl_findEnds).1 13 = .ok (.iload_n 2, 1) := by decide +kernel
theorem d_Pl_findEnds_14 : decode (am_Mof y_Pl_findEnds).1 14 = .ok (.iload_n 1, 1) := by decide +kernel
theorem d_Pl_findEnds_15 : decode (am_Mof y_Pl_findEnds).1 15 = .ok (.invokevirtual 54, 3) := by decide +kernel
theorem d_Pl_findEnds_18 : decode (am_Mof y_Pl_findEnds).1 18 = .ok (.ifCond .eq 14, 3) := by decide +kernel
theorem d_Pl_findEnds_21 : decode (am_Mof y_Pl_findEnds).1 21 = .ok (.aload_n 0, 1) := by decide +kernel
theorem d_Pl_findEnds_22 : decode (am_Mof y_Pl_findEnds).1 22 = .ok (.getfield 15, 3) := by decide +kernel
theorem d_Pl_findEnds_25 : decode (am_Mof y_Pl_findEnds).1 25 = .ok (.iload_n 2, 1) := by decide +kernel
theorem d_Pl_findEnds_26 : decode (am_Mof y_Pl_findEnds).1 26 = .ok (.iaload, 1) := by decide +kernel
theorem d_Pl_findEnds_27 : decode (am_Mof y_Pl_findEnds).1 27 = .ok (.bipush 10, 2) := by decide +kernel
theorem d_Pl_findEnds_29 : decode (am_Mof y_Pl_findEnds).1 29 = .ok (.if_icmp .ge 7, 3) := by decide +kernel
theorem d_Pl_findEnds_32 : decode (am_Mof y_Pl_findEnds).1 32 = .ok (.iconst 1, 1) := by decide +kernel
theorem d_Pl_findEnds_33 : decode (am_Mof y_Pl_findEnds).1 33 = .ok (.goto 4, 3) := by decide +kernel
theorem d_Pl_findEnds_36 : decode (am_Mof y_Pl_findEnds).1 36 = .ok (.iconst 0, 1) := by decide +kernel
theorem d_Pl_findEnds_37 : decode (am_Mof y_Pl_findEnds).1 37 = .ok (.bastore, 1) := by decide +kernel
theorem d_Pl_findEnds_38 : decode (am_Mof y_Pl_findEnds).1 38 = .ok (.iinc 2 1, 3) := by decide +kernel
theorem d_Pl_findEnds_41 : decode (am_Mof y_Pl_findEnds).1 41 = .ok (.goto (-39), 3) := by decide +kernel
theorem d_Pl_findEnds_44 : decode (am_Mof y_Pl_findEnds).1 44 = .ok (.iconst 1, 1) := by decide +kernel
theorem d_Pl_findEnds_45 : decode (am_Mof y_Pl_findEnds).1 45 = .ok (.istore_n 2, 1) := by decide +kernel
theorem d_Pl_findEnds_46 : decode (am_Mof y_Pl_findEnds).1 46 = .ok (.iload_n 2, 1) := by decide +kernel
theorem d_Pl_findEnds_47 : decode (am_Mof y_Pl_findEnds).1 47 = .ok (.iconst 5, 1) := by decide +kernel
theorem d_Pl_findEnds_48 : decode (am_Mof y_Pl_findEnds).1 48 = .ok (.if_icmp .ge 50, 3) := by decide +kernel
theorem d_Pl_findEnds_51 : decode (am_Mof y_Pl_findEnds).1 51 = .ok (.iconst 0, 1) := by decide +kernel
theorem d_Pl_findEnds_52 : decode (am_Mof y_Pl_findEnds).1 52 = .ok (.istore_n 3, 1) := by decide +kernel
theorem d_Pl_findEnds_53 : decode (am_Mof y_Pl_findEnds).1 53 = .ok (.iload_n 3, 1) := by decide +kernel
theorem d_Pl_findEnds_54 : decode (am_Mof y_Pl_findEnds).1 54 = .ok (.iconst 5, 1) := by decide +kernel
theorem d_Pl_findEnds_55 : decode (am_Mof y_Pl_findEnds).1 55 = .ok (.if_icmp .ge 37, 3) := by decide +kernel
theorem d_Pl_findEnds_58 : decode (am_Mof y_Pl_findEnds).1 58 = .ok (.aload_n 0, 1) := by decide +kernel
theorem d_Pl_findEnds_59 : decode (am_Mof y_Pl_findEnds).1 59 = .ok (.getfield 28, 3) := by decide +kernel
theorem d_Pl_findEnds_62 : decode (am_Mof y_Pl_findEnds).1 62 = .ok (.iload_n 3, 1) := by decide +kernel
theorem d_Pl_findEnds_63 : decode (am_Mof y_Pl_findEnds).1 63 = .ok (.aload_n 0, 1) := by decide +kernel
theorem d_Pl_findEnds_64 : decode (am_Mof y_Pl_findEnds).1 64 = .ok (.getfield 28, 3) := by decide +kernel
theorem d_Pl_findEnds_67 : decode (am_Mof y_Pl_findEnds).1 67 = .ok (.iload_n 3, 1) := by decide +kernel
theorem d_Pl_findEnds_68 : decode (am_Mof y_Pl_findEnds).1 68 = .ok (.baload, 1) := by decide +kernel
theorem d_Pl_findEnds_69 : decode (am_Mof y_Pl_findEnds).1 69 = .ok (.ifCond .ne 11, 3) := by decide +kernel
theorem d_Pl_findEnds_72 : decode (am_Mof y_Pl_findEnds).1 72 = .ok (.aload_n 0, 1) := by decide +kernel
theorem d_Pl_findEnds_73 : decode (am_Mof y_Pl_findEnds).1 73 = .ok (.iload_n 3, 1) := by decide +kernel
theorem d_Pl_findEnds_74 : decode (am_Mof y_Pl_findEnds).1 74 = .ok (.invokevirtual 57, 3) := by decide +kernel
theorem d_Pl_findEnds_77 : decode (am_Mof y_Pl_findEnds).1 77 = .ok (.ifCond .eq 7, 3) := by decide +kernel
theorem d_Pl_findEnds_80 : decode (am_Mof y_Pl_findEnds).1 80 = .ok (.iconst 1, 1) := by decide +kernel
theorem d_Pl_findEnds_81 : decode (am_Mof y_Pl_findEnds).1 81 = .ok (.goto 4, 3) := by decide +kernel
theorem d_Pl_findEnds_84 : decode (am_Mof y_Pl_findEnds).1 84 = .ok (.iconst 0, 1) := by decide +kernel
theorem d_Pl_findEnds_85 : decode (am_Mof y_Pl_findEnds).1 85 = .ok (.bastore, 1) := by decide +kernel
theorem d_Pl_findEnds_86 : decode (am_Mof y_Pl_findEnds).1 86 = .ok (.iinc 3 1, 3) := by decide +kernel
theorem d_Pl_findEnds_89 : decode (am_Mof y_Pl_findEnds).1 89 = .ok (.goto (-36), 3) := by decide +kernel
theorem d_Pl_findEnds_92 : decode (am_Mof y_Pl_findEnds).1 92 = .ok (.iinc 2 1, 3) := by decide +kernel
theorem d_Pl_findEnds_95 : decode (am_Mof y_Pl_findEnds).1 95 = .ok (.goto (-49), 3) := by decide +kernel
theorem d_Pl_findEnds_98 : decode (am_Mof y_Pl_findEnds).1 98 = .ok (.return_, 1) := by decide +kernel
theorem d_Pl_goesOn_0 : decode (am_Mof y_Pl_goesOn).1 0 = .ok (.aload_n 0, 1) := by decide +kernel
theorem d_Pl_goesOn_1 : decode (am_Mof y_Pl_goesOn).1 1 = .ok (.iload_n 1, 1) := by decide +kernel
theorem d_Pl_goesOn_2 : decode (am_Mof y_Pl_goesOn).1 2 = .ok (.iload_n 2, 1) := by decide +kernel
theorem d_Pl_goesOn_3 : decode (am_Mof y_Pl_goesOn).1 3 = .ok (.invokevirtual 39, 3) := by decide +kernel
theorem d_Pl_goesOn_6 : decode (am_Mof y_Pl_goesOn).1 6 = .ok (.ifCond .ne 16, 3) := by decide +kernel
theorem d_Pl_goesOn_9 : decode (am_Mof y_Pl_goesOn).1 9 = .ok (.aload_n 0, 1) := by decide +kernel
theorem d_Pl_goesOn_10 : decode (am_Mof y_Pl_goesOn).1 10 = .ok (.getfield 15, 3) := by decide +kernel
theorem d_Pl_goesOn_13 : decode (am_Mof y_Pl_goesOn).1 13 = .ok (.iload_n 1, 1) := by decide +kernel
theorem d_Pl_goesOn_14 : decode (am_Mof y_Pl_goesOn).1 14 = .ok (.iaload, 1) := by decide +kernel
theorem d_Pl_goesOn_15 : decode (am_Mof y_Pl_goesOn).1 15 = .ok (.ifCond .le 7, 3) := by decide +kernel
theorem d_Pl_goesOn_18 : decode (am_Mof y_Pl_goesOn).1 18 = .ok (.iconst 1, 1) := by decide +kernel
theorem d_Pl_goesOn_19 : decode (am_Mof y_Pl_goesOn).1 19 = .ok (.goto 4, 3) := by decide +kernel
theorem d_Pl_goesOn_22 : decode (am_Mof y_Pl_goesOn).1 22 = .ok (.iconst 0, 1) := by decide +kernel
theorem d_Pl_goesOn_23 : decode (am_Mof y_Pl_goesOn).1 23 = .ok (.ireturn, 1) := by decide +kernel
theorem d_Pl_goesToAnEnd_0 : decode (am_Mof y_Pl_goesToAnEnd).1 0 = .ok (.iconst 0, 1) := by decide +kernel
theorem d_Pl_goesToAnEnd_1 : decode (am_Mof y_Pl_goesToAnEnd).1 1 = .ok (.istore_n 2, 1) := by decide +kernel
theorem d_Pl_goesToAnEnd_2 : decode (am_Mof y_Pl_goesToAnEnd).1 2 = .ok (.iload_n 2, 1) := by decide +kernel
theorem d_Pl_goesToAnEnd_3 : decode (am_Mof y_Pl_goesToAnEnd).1 3 = .ok (.iconst 5, 1) := by decide +kernel
theorem d_Pl_goesToAnEnd_4 : decode (am_Mof y_Pl_goesToAnEnd).1 4 = .ok (.if_icmp .ge 29, 3) := by decide +kernel
theorem d_Pl_goesToAnEnd_7 : decode (am_Mof y_Pl_goesToAnEnd).1 7 = .ok (.aload_n 0, 1) := by decide +kernel
theorem d_Pl_goesToAnEnd_8 : decode (am_Mof y_Pl_goesToAnEnd).1 8 = .ok (.getfield 28, 3) := by decide +kernel
theorem d_Pl_goesToAnEnd_11 : decode (am_Mof y_Pl_goesToAnEnd).1 11 = .ok (.iload_n 2, 1) := by decide +kernel
theorem d_Pl_goesToAnEnd_12 : decode (am_Mof y_Pl_goesToAnEnd).1 12 = .ok (.baload, 1) := by decide +kernel
theorem d_Pl_goesToAnEnd_13 : decode (am_Mof y_Pl_goesToAnEnd).1 13 = .ok (.ifCond .eq 14, 3) := by decide +kernel
theorem d_Pl_goesToAnEnd_16 : decode (am_Mof y_Pl_goesToAnEnd).1 16 = .ok (.aload_n 0, 1) := by decide +kernel
theorem d_Pl_goesToAnEnd_17 : decode (am_Mof y_Pl_goesToAnEnd).1 17 = .ok (.iload_n 1, 1) := by decide +kernel
theorem d_Pl_goesToAnEnd_18 : decode (am_Mof y_Pl_goesToAnEnd).1 18 = .ok (.iload_n 2, 1) := by decide +kernel
theorem d_Pl_goesToAnEnd_19 : decode (am_Mof y_Pl_goesToAnEnd).1 19 = .ok (.invokevirtual 35, 3) := by decide +kernel
theorem d_Pl_goesToAnEnd_22 : decode (am_Mof y_Pl_goesToAnEnd).1 22 = .ok (.ifCond .le 5, 3) := by decide +kernel
theorem d_Pl_goesToAnEnd_25 : decode (am_Mof y_Pl_goesToAnEnd).1 25 = .ok (.iconst 1, 1) := by decide +kernel
theorem d_Pl_goesToAnEnd_26 : decode (am_Mof y_Pl_goesToAnEnd).1 26 = .ok (.ireturn, 1) := by decide +kernel
theorem d_Pl_goesToAnEnd_27 : decode (am_Mof y_Pl_goesToAnEnd).1 27 = .ok (.iinc 2 1, 3) := by decide +kernel
theorem d_Pl_goesToAnEnd_30 : decode (am_Mof y_Pl_goesToAnEnd).1 30 = .ok (.goto (-28), 3) := by decide +kernel
theorem d_Pl_goesToAnEnd_33 : decode (am_Mof y_Pl_goesToAnEnd).1 33 = .ok (.iconst 0, 1) := by decide +kernel
theorem d_Pl_goesToAnEnd_34 : decode (am_Mof y_Pl_goesToAnEnd).1 34 = .ok (.ireturn, 1) := by decide +kernel
theorem d_Pl_tenthsCounted_0 : decode (am_Mof y_Pl_tenthsCounted).1 0 = .ok (.aload_n 0, 1) := by decide +kernel
theorem d_Pl_tenthsCounted_1 : decode (am_Mof y_Pl_tenthsCounted).1 1 = .ok (.iload_n 1, 1) := by decide +kernel
theorem d_Pl_tenthsCounted_2 : decode (am_Mof y_Pl_tenthsCounted).1 2 = .ok (.iload_n 2, 1) := by decide +kernel
theorem d_Pl_tenthsCounted_3 : decode (am_Mof y_Pl_tenthsCounted).1 3 = .ok (.invokevirtual 39, 3) := by decide +kernel
theorem d_Pl_tenthsCounted_6 : decode (am_Mof y_Pl_tenthsCounted).1 6 = .ok (.ifCond .eq 6, 3) := by decide +kernel
theorem d_Pl_tenthsCounted_9 : decode (am_Mof y_Pl_tenthsCounted).1 9 = .ok (.bipush 10, 2) := by decide +kernel
theorem d_Pl_tenthsCounted_11 : decode (am_Mof y_Pl_tenthsCounted).1 11 = .ok (.ireturn, 1) := by decide +kernel
theorem d_Pl_tenthsCounted_12 : decode (am_Mof y_Pl_tenthsCounted).1 12 = .ok (.aload_n 0, 1) := by decide +kernel
theorem d_Pl_tenthsCounted_13 : decode (am_Mof y_Pl_tenthsCounted).1 13 = .ok (.getfield 22, 3) := by decide +kernel
theorem d_Pl_tenthsCounted_16 : decode (am_Mof y_Pl_tenthsCounted).1 16 = .ok (.iload_n 1, 1) := by decide +kernel
theorem d_Pl_tenthsCounted_17 : decode (am_Mof y_Pl_tenthsCounted).1 17 = .ok (.baload, 1) := by decide +kernel
theorem d_Pl_tenthsCounted_18 : decode (am_Mof y_Pl_tenthsCounted).1 18 = .ok (.ifCond .eq 15, 3) := by decide +kernel
theorem d_Pl_tenthsCounted_21 : decode (am_Mof y_Pl_tenthsCounted).1 21 = .ok (.bipush 10, 2) := by decide +kernel
theorem d_Pl_tenthsCounted_23 : decode (am_Mof y_Pl_tenthsCounted).1 23 = .ok (.aload_n 0, 1) := by decide +kernel
theorem d_Pl_tenthsCounted_24 : decode (am_Mof y_Pl_tenthsCounted).1 24 = .ok (.getfield 25, 3) := by decide +kernel
theorem d_Pl_tenthsCounted_27 : decode (am_Mof y_Pl_tenthsCounted).1 27 = .ok (.iload_n 1, 1) := by decide +kernel
theorem d_Pl_tenthsCounted_28 : decode (am_Mof y_Pl_tenthsCounted).1 28 = .ok (.iaload, 1) := by decide +kernel
theorem d_Pl_tenthsCounted_29 : decode (am_Mof y_Pl_tenthsCounted).1 29 = .ok (.isub, 1) := by decide +kernel
theorem d_Pl_tenthsCounted_30 : decode (am_Mof y_Pl_tenthsCounted).1 30 = .ok (.goto 4, 3) := by decide +kernel
theorem d_Pl_tenthsCounted_33 : decode (am_Mof y_Pl_tenthsCounted).1 33 = .ok (.iconst 0, 1) := by decide +kernel
theorem d_Pl_tenthsCounted_34 : decode (am_Mof y_Pl_tenthsCounted).1 34 = .ok (.ireturn, 1) := by decide +kernel
theorem d_Pl_isBare_0 : decode (am_Mof y_Pl_isBare).1 0 = .ok (.aload_n 0, 1) := by decide +kernel
theorem d_Pl_isBare_1 : decode (am_Mof y_Pl_isBare).1 1 = .ok (.iload_n 1, 1) := by decide +kernel
theorem d_Pl_isBare_2 : decode (am_Mof y_Pl_isBare).1 2 = .ok (.iload_n 2, 1) := by decide +kernel
theorem d_Pl_isBare_3 : decode (am_Mof y_Pl_isBare).1 3 = .ok (.invokevirtual 39, 3) := by decide +kernel
theorem d_Pl_isBare_6 : decode (am_Mof y_Pl_isBare).1 6 = .ok (.ifCond .ne 25, 3) := by decide +kernel
theorem d_Pl_isBare_9 : decode (am_Mof y_Pl_isBare).1 9 = .ok (.aload_n 0, 1) := by decide +kernel
theorem d_Pl_isBare_10 : decode (am_Mof y_Pl_isBare).1 10 = .ok (.getfield 15, 3) := by decide +kernel
theorem d_Pl_isBare_13 : decode (am_Mof y_Pl_isBare).1 13 = .ok (.iload_n 1, 1) := by decide +kernel
theorem d_Pl_isBare_14 : decode (am_Mof y_Pl_isBare).1 14 = .ok (.iaload, 1) := by decide +kernel
theorem d_Pl_isBare_15 : decode (am_Mof y_Pl_isBare).1 15 = .ok (.ifCond .ne 16, 3) := by decide +kernel
theorem d_Pl_isBare_18 : decode (am_Mof y_Pl_isBare).1 18 = .ok (.aload_n 0, 1) := by decide +kernel
theorem d_Pl_isBare_19 : decode (am_Mof y_Pl_isBare).1 19 = .ok (.getfield 22, 3) := by decide +kernel
theorem d_Pl_isBare_22 : decode (am_Mof y_Pl_isBare).1 22 = .ok (.iload_n 1, 1) := by decide +kernel
theorem d_Pl_isBare_23 : decode (am_Mof y_Pl_isBare).1 23 = .ok (.baload, 1) := by decide +kernel
theorem d_Pl_isBare_24 : decode (am_Mof y_Pl_isBare).1 24 = .ok (.ifCond .ne 7, 3) := by decide +kernel
theorem d_Pl_isBare_27 : decode (am_Mof y_Pl_isBare).1 27 = .ok (.iconst 1, 1) := by decide +kernel
theorem d_Pl_isBare_28 : decode (am_Mof y_Pl_isBare).1 28 = .ok (.goto 4, 3) := by decide +kernel
theorem d_Pl_isBare_31 : decode (am_Mof y_Pl_isBare).1 31 = .ok (.iconst 0, 1) := by decide +kernel
theorem d_Pl_isBare_32 : decode (am_Mof y_Pl_isBare).1 32 = .ok (.ireturn, 1) := by decide +kernel
theorem d_Pl_isPointWithAverage_0 : decode (am_Mof y_Pl_isPointWithAverage).1 0 = .ok (.aload_n 0, 1) := by decide +kernel
theorem d_Pl_isPointWithAverage_1 : decode (am_Mof y_Pl_isPointWithAverage).1 1 = .ok (.getfield 22, 3) := by decide +kernel
theorem d_Pl_isPointWithAverage_4 : decode (am_Mof y_Pl_isPointWithAverage).1 4 = .ok (.iload_n 1, 1) := by decide +kernel
theorem d_Pl_isPointWithAverage_5 : decode (am_Mof y_Pl_isPointWithAverage).1 5 = .ok (.baload, 1) := by decide +kernel
theorem d_Pl_isPointWithAverage_6 : decode (am_Mof y_Pl_isPointWithAverage).1 6 = .ok (.ifCond .eq 16, 3) := by decide +kernel
theorem d_Pl_isPointWithAverage_9 : decode (am_Mof y_Pl_isPointWithAverage).1 9 = .ok (.aload_n 0, 1) := by decide +kernel
theorem d_Pl_isPointWithAverage_10 : decode (am_Mof y_Pl_isPointWithAverage).1 10 = .ok (.iload_n 1, 1) := by decide +kernel
theorem d_Pl_isPointWithAverage_11 : decode (am_Mof y_Pl_isPointWithAverage).1 11 = .ok (.iload_n 2, 1) := by decide +kernel
theorem d_Pl_isPointWithAverage_12 : decode (am_Mof y_Pl_isPointWithAverage).1 12 = .ok (.invokevirtual 39, 3) := by decide +kernel
theorem d_Pl_isPointWithAverage_15 : decode (am_Mof y_Pl_isPointWithAverage).1 15 = .ok (.ifCond .eq 7, 3) := by decide +kernel
theorem d_Pl_isPointWithAverage_18 : decode (am_Mof y_Pl_isPointWithAverage).1 18 = .ok (.iconst 1, 1) := by decide +kernel
theorem d_Pl_isPointWithAverage_19 : decode (am_Mof y_Pl_isPointWithAverage).1 19 = .ok (.goto 4, 3) := by decide +kernel
theorem d_Pl_isPointWithAverage_22 : decode (am_Mof y_Pl_isPointWithAverage).1 22 = .ok (.iconst 0, 1) := by decide +kernel
theorem d_Pl_isPointWithAverage_23 : decode (am_Mof y_Pl_isPointWithAverage).1 23 = .ok (.ireturn, 1) := by decide +kernel
theorem d_So_init_0 : decode (am_Mof y_So_init).1 0 = .ok (.aload_n 0, 1) := by decide +kernel
theorem d_So_init_1 : decode (am_Mof y_So_init).1 1 = .ok (.invokespecial 3, 3) := by decide +kernel
theorem d_So_init_4 : decode (am_Mof y_So_init).1 4 = .ok (.aload_n 0, 1) := by decide +kernel
theorem d_So_init_5 : decode (am_Mof y_So_init).1 5 = .ok (.new 9, 3) := by decide +kernel
theorem d_So_init_8 : decode (am_Mof y_So_init).1 8 = .ok (.dup, 1) := by decide +kernel
theorem d_So_init_9 : decode (am_Mof y_So_init).1 9 = .ok (.invokespecial 11, 3) := by decide +kernel
theorem d_So_init_12 : decode (am_Mof y_So_init).1 12 = .ok (.putfield 12, 3) := by decide +kernel
theorem d_So_init_15 : decode (am_Mof y_So_init).1 15 = .ok (.aload_n 0, 1) := by decide +kernel
theorem d_So_init_16 : decode (am_Mof y_So_init).1 16 = .ok (.iconst 4, 1) := by decide +kernel
theorem d_So_init_17 : decode (am_Mof y_So_init).1 17 = .ok (.newarray .long, 2) := by decide +kernel
theorem d_So_init_19 : decode (am_Mof y_So_init).1 19 = .ok (.putfield 18, 3) := by decide +kernel
theorem d_So_init_22 : decode (am_Mof y_So_init).1 22 = .ok (.aload_n 0, 1) := by decide +kernel
theorem d_So_init_23 : decode (am_Mof y_So_init).1 23 = .ok (.bipush 20, 2) := by decide +kernel
theorem d_So_init_25 : decode (am_Mof y_So_init).1 25 = .ok (.newarray .long, 2) := by decide +kernel
theorem d_So_init_27 : decode (am_Mof y_So_init).1 27 = .ok (.putfield 22, 3) := by decide +kernel
theorem d_So_init_30 : decode (am_Mof y_So_init).1 30 = .ok (.aload_n 0, 1) := by decide +kernel
theorem d_So_init_31 : decode (am_Mof y_So_init).1 31 = .ok (.sipush 200, 3) := by decide +kernel
theorem d_So_init_34 : decode (am_Mof y_So_init).1 34 = .ok (.newarray .long, 2) := by decide +kernel
theorem d_So_init_36 : decode (am_Mof y_So_init).1 36 = .ok (.putfield 25, 3) := by decide +kernel
theorem d_So_init_39 : decode (am_Mof y_So_init).1 39 = .ok (.aload_n 0, 1) := by decide +kernel
theorem d_So_init_40 : decode (am_Mof y_So_init).1 40 = .ok (.bipush 40, 2) := by decide +kernel
theorem d_So_init_42 : decode (am_Mof y_So_init).1 42 = .ok (.newarray .long, 2) := by decide +kernel
theorem d_So_init_44 : decode (am_Mof y_So_init).1 44 = .ok (.putfield 28, 3) := by decide +kernel
theorem d_So_init_47 : decode (am_Mof y_So_init).1 47 = .ok (.aload_n 0, 1) := by decide +kernel
theorem d_So_init_48 : decode (am_Mof y_So_init).1 48 = .ok (.sipush 160, 3) := by decide +kernel
theorem d_So_init_51 : decode (am_Mof y_So_init).1 51 = .ok (.newarray .long, 2) := by decide +kernel
theorem d_So_init_53 : decode (am_Mof y_So_init).1 53 = .ok (.putfield 31, 3) := by decide +kernel
theorem d_So_init_56 : decode (am_Mof y_So_init).1 56 = .ok (.aload_n 0, 1) := by decide +kernel
theorem d_So_init_57 : decode (am_Mof y_So_init).1 57 = .ok (.sipush 160, 3) := by decide +kernel
theorem d_So_init_60 : decode (am_Mof y_So_init).1 60 = .ok (.newarray .long, 2) := by decide +kernel
theorem d_So_init_62 : decode (am_Mof y_So_init).1 62 = .ok (.putfield 34, 3) := by decide +kernel
theorem d_So_init_65 : decode (am_Mof y_So_init).1 65 = .ok (.aload_n 0, 1) := by decide +kernel
theorem d_So_init_66 : decode (am_Mof y_So_init).1 66 = .ok (.iconst 5, 1) := by decide +kernel
theorem d_So_init_67 : decode (am_Mof y_So_init).1 67 = .ok (.newarray .boolean, 2) := by decide +kernel
theorem d_So_init_69 : decode (am_Mof y_So_init).1 69 = .ok (.putfield 37, 3) := by decide +kernel
theorem d_So_init_72 : decode (am_Mof y_So_init).1 72 = .ok (.aload_n 0, 1) := by decide +kernel
theorem d_So_init_73 : decode (am_Mof y_So_init).1 73 = .ok (.iconst 5, 1) := by decide +kernel
theorem d_So_init_74 : decode (am_Mof y_So_init).1 74 = .ok (.newarray .boolean, 2) := by decide +kernel
theorem d_So_init_76 : decode (am_Mof y_So_init).1 76 = .ok (.putfield 41, 3) := by decide +kernel
theorem d_So_init_79 : decode (am_Mof y_So_init).1 79 = .ok (.aload_n 0, 1) := by decide +kernel
theorem d_So_init_80 : decode (am_Mof y_So_init).1 80 = .ok (.iconst 0, 1) := by decide +kernel
theorem d_So_init_81 : decode (am_Mof y_So_init).1 81 = .ok (.putfield 44, 3) := by decide +kernel
theorem d_So_init_84 : decode (am_Mof y_So_init).1 84 = .ok (.return_, 1) := by decide +kernel
theorem d_So_keep_0 : decode (am_Mof y_So_keep).1 0 = .ok (.aload_n 0, 1) := by decide +kernel
theorem d_So_keep_1 : decode (am_Mof y_So_keep).1 1 = .ok (.iconst 1, 1) := by decide +kernel
theorem d_So_keep_2 : decode (am_Mof y_So_keep).1 2 = .ok (.putfield 44, 3) := by decide +kernel
theorem d_So_keep_5 : decode (am_Mof y_So_keep).1 5 = .ok (.iconst 0, 1) := by decide +kernel
theorem d_So_keep_6 : decode (am_Mof y_So_keep).1 6 = .ok (.istore 4, 2) := by decide +kernel
theorem d_So_keep_8 : decode (am_Mof y_So_keep).1 8 = .ok (.iload 4, 2) := by decide +kernel
theorem d_So_keep_10 : decode (am_Mof y_So_keep).1 10 = .ok (.iconst 4, 1) := by decide +kernel
theorem d_So_keep_11 : decode (am_Mof y_So_keep).1 11 = .ok (.if_icmp .ge 16, 3) := by decide +kernel
theorem d_So_keep_14 : decode (am_Mof y_So_keep).1 14 = .ok (.aload_n 0, 1) := by decide +kernel
theorem d_So_keep_15 : decode (am_Mof y_So_keep).1 15 = .ok (.aload_n 1, 1) := by decide +kernel
theorem d_So_keep_16 : decode (am_Mof y_So_keep).1 16 = .ok (.iload 4, 2) := by decide +kernel
theorem d_So_keep_18 : decode (am_Mof y_So_keep).1 18 = .ok (.invokevirtual 85, 3) := by decide +kernel
theorem d_So_keep_21 : decode (am_Mof y_So_keep).1 21 = .ok (.iinc 4 1, 3) := by decide +kernel
theorem d_So_keep_24 : decode (am_Mof y_So_keep).1 24 = .ok (.goto (-16), 3) := by decide +kernel
theorem d_So_keep_27 : decode (am_Mof y_So_keep).1 27 = .ok (.aload_n 0, 1) := by decide +kernel
theorem d_So_keep_28 : decode (am_Mof y_So_keep).1 28 = .ok (.invokevirtual 89, 3) := by decide +kernel
theorem d_So_keep_31 : decode (am_Mof y_So_keep).1 31 = .ok (.aload_n 0, 1) := by decide +kernel
theorem d_So_keep_32 : decode (am_Mof y_So_keep).1 32 = .ok (.aload_n 3, 1) := by decide +kernel
theorem d_So_keep_33 : decode (am_Mof y_So_keep).1 33 = .ok (.invokevirtual 92, 3) := by decide +kernel
theorem d_So_keep_36 : decode (am_Mof y_So_keep).1 36 = .ok (.iconst 0, 1) := by decide +kernel
theorem d_So_keep_37 : decode (am_Mof y_So_keep).1 37 = .ok (.istore 4, 2) := by decide +kernel
theorem d_So_keep_39 : decode (am_Mof y_So_keep).1 39 = .ok (.iload 4, 2) := by decide +kernel
theorem d_So_keep_41 : decode (am_Mof y_So_keep).1 41 = .ok (.aload_n 2, 1) := by decide +kernel
theorem d_So_keep_42 : decode (am_Mof y_So_keep).1 42 = .ok (.invokevirtual 96, 3) := by decide +kernel
theorem d_So_keep_45 : decode (am_Mof y_So_keep).1 45 = .ok (.if_icmp .ge 16, 3) := by decide +kernel
theorem d_So_keep_48 : decode (am_Mof y_So_keep).1 48 = .ok (.aload_n 0, 1) := by decide +kernel
theorem d_So_keep_49 : decode (am_Mof y_So_keep).1 49 = .ok (.aload_n 2, 1) := by decide +kernel
theorem d_So_keep_50 : decode (am_Mof y_So_keep).1 50 = .ok (.iload 4, 2) := by decide +kernel
theorem d_So_keep_52 : decode (am_Mof y_So_keep).1 52 = .ok (.invokevirtual 102, 3) := by decide +kernel
theorem d_So_keep_55 : decode (am_Mof y_So_keep).1 55 = .ok (.iinc 4 1, 3) := by decide +kernel
theorem d_So_keep_58 : decode (am_Mof y_So_keep).1 58 = .ok (.goto (-19), 3) := by decide +kernel
theorem d_So_keep_61 : decode (am_Mof y_So_keep).1 61 = .ok (.aload_n 0, 1) := by decide +kernel
theorem d_So_keep_62 : decode (am_Mof y_So_keep).1 62 = .ok (.invokevirtual 106, 3) := by decide +kernel
theorem d_So_keep_65 : decode (am_Mof y_So_keep).1 65 = .ok (.iconst 0, 1) := by decide +kernel
theorem d_So_keep_66 : decode (am_Mof y_So_keep).1 66 = .ok (.istore 4, 2) := by decide +kernel
theorem d_So_keep_68 : decode (am_Mof y_So_keep).1 68 = .ok (.iload 4, 2) := by decide +kernel
theorem d_So_keep_70 : decode (am_Mof y_So_keep).1 70 = .ok (.iconst 4, 1) := by decide +kernel
theorem d_So_keep_71 : decode (am_Mof y_So_keep).1 71 = .ok (.if_icmp .ge 17, 3) := by decide +kernel
theorem d_So_keep_74 : decode (am_Mof y_So_keep).1 74 = .ok (.aload_n 0, 1) := by decide +kernel
theorem d_So_keep_75 : decode (am_Mof y_So_keep).1 75 = .ok (.aload_n 1, 1) := by decide +kernel
theorem d_So_keep_76 : decode (am_Mof y_So_keep).1 76 = .ok (.aload_n 2, 1) := by decide +kernel
theorem d_So_keep_77 : decode (am_Mof y_So_keep).1 77 = .ok (.iload 4, 2) := by decide +kernel
theorem d_So_keep_79 : decode (am_Mof y_So_keep).1 79 = .ok (.invokevirtual 109, 3) := by decide +kernel
theorem d_So_keep_82 : decode (am_Mof y_So_keep).1 82 = .ok (.iinc 4 1, 3) := by decide +kernel
theorem d_So_keep_85 : decode (am_Mof y_So_keep).1 85 = .ok (.goto (-17), 3) := by decide +kernel
theorem d_So_keep_88 : decode (am_Mof y_So_keep).1 88 = .ok (.return_, 1) := by decide +kernel
theorem d_So_keepWorths_0 : decode (am_Mof y_So_keepWorths).1 0 = .ok (.aload_n 0, 1) := by decide +kernel
theorem d_So_keepWorths_1 : decode (am_Mof y_So_keepWorths).1 1 = .ok (.getfield 18, 3) := by decide +kernel
theorem d_So_keepWorths_4 : decode (am_Mof y_So_keepWorths).1 4 = .ok (.iload_n 2, 1) := by decide +kernel
theorem d_So_keepWorths_5 : decode (am_Mof y_So_keepWorths).1 5 = .ok (.aload_n 0, 1) := by decide +kernel
theorem d_So_keepWorths_6 : decode (am_Mof y_So_keepWorths).1 6 = .ok (.getfield 12, 3) := by decide +kernel
theorem d_So_keepWorths_9 : decode (am_Mof y_So_keepWorths).1 9 = .ok (.aload_n 1, 1) := by decide +kernel
theorem d_So_keepWorths_10 : decode (am_Mof y_So_keepWorths).1 10 = .ok (.iload_n 2, 1) := by decide +kernel
theorem d_So_keepWorths_11 : decode (am_Mof y_So_keepWorths).1 11 = .ok (.invokevirtual 113, 3) := by decide +kernel
theorem d_So_keepWorths_14 : decode (am_Mof y_So_keepWorths).1 14 = .ok (.lastore, 1) := by decide +kernel
theorem d_So_keepWorths_15 : decode (am_Mof y_So_keepWorths).1 15 = .ok (.iconst 0, 1) := by decide +kernel
theorem d_So_keepWorths_16 : decode (am_Mof y_So_keepWorths).1 16 = .ok (.istore_n 3, 1) := by decide +kernel
theorem d_So_keepWorths_17 : decode (am_Mof y_So_keepWorths).1 17 = .ok (.iload_n 3, 1) := by decide +kernel
theorem d_So_keepWorths_18 : decode (am_Mof y_So_keepWorths).1 18 = .ok (.iconst 5, 1) := by decide +kernel
theorem d_So_keepWorths_19 : decode (am_Mof y_So_keepWorths).1 19 = .ok (.if_icmp .ge 27, 3) := by decide +kernel
theorem d_So_keepWorths_22 : decode (am_Mof y_So_keepWorths).1 22 = .ok (.aload_n 0, 1) := by decide +kernel
theorem d_So_keepWorths_23 : decode (am_Mof y_So_keepWorths).1 23 = .ok (.getfield 22, 3) := by decide +kernel
theorem d_So_keepWorths_26 : decode (am_Mof y_So_keepWorths).1 26 = .ok (.iload_n 3, 1) := by decide +kernel
theorem d_So_keepWorths_27 : decode (am_Mof y_So_keepWorths).1 27 = .ok (.iload_n 2, 1) := by decide +kernel
theorem d_So_keepWorths_28 : decode (am_Mof y_So_keepWorths).1 28 = .ok (.invokestatic 64, 3) := by decide +kernel
theorem d_So_keepWorths_31 : decode (am_Mof y_So_keepWorths).1 31 = .ok (.aload_n 0, 1) := by decide +kernel
theorem d_So_keepWorths_32 : decode (am_Mof y_So_keepWorths).1 32 = .ok (.getfield 12, 3) := by decide +kernel
theorem d_So_keepWorths_35 : decode (am_Mof y_So_keepWorths).1 35 = .ok (.iload_n 3, 1) := by decide +kernel
theorem d_So_keepWorths_36 : decode (am_Mof y_So_keepWorths).1 36 = .ok (.invokevirtual 117, 3) := by decide +kernel
theorem d_So_keepWorths_39 : decode (am_Mof y_So_keepWorths).1 39 = .ok (.lastore, 1) := by decide +kernel
theorem d_So_keepWorths_40 : decode (am_Mof y_So_keepWorths).1 40 = .ok (.iinc 3 1, 3) := by decide +kernel
theorem d_So_keepWorths_43 : decode (am_Mof y_So_keepWorths).1 43 = .ok (.goto (-26), 3) := by decide +kernel
theorem d_So_keepWorths_46 : decode (am_Mof y_So_keepWorths).1 46 = .ok (.return_, 1) := by decide +kernel
theorem d_So_clearSums_0 : decode (am_Mof y_So_clearSums).1 0 = .ok (.aload_n 0, 1) := by decide +kernel
theorem d_So_clearSums_1 : decode (am_Mof y_So_clearSums).1 1 = .ok (.getfield 25, 3) := by decide +kernel
theorem d_So_clearSums_4 : decode (am_Mof y_So_clearSums).1 4 = .ok (.invokestatic 120, 3) := by decide +kernel
theorem d_So_clearSums_7 : decode (am_Mof y_So_clearSums).1 7 = .ok (.aload_n 0, 1) := by decide +kernel
theorem d_So_clearSums_8 : decode (am_Mof y_So_clearSums).1 8 = .ok (.getfield 28, 3) := by decide +kernel
theorem d_So_clearSums_11 : decode (am_Mof y_So_clearSums).1 11 = .ok (.invokestatic 120, 3) := by decide +kernel
theorem d_So_clearSums_14 : decode (am_Mof y_So_clearSums).1 14 = .ok (.aload_n 0, 1) := by decide +kernel
theorem d_So_clearSums_15 : decode (am_Mof y_So_clearSums).1 15 = .ok (.getfield 31, 3) := by decide +kernel
theorem d_So_clearSums_18 : decode (am_Mof y_So_clearSums).1 18 = .ok (.invokestatic 120, 3) := by decide +kernel
theorem d_So_clearSums_21 : decode (am_Mof y_So_clearSums).1 21 = .ok (.iconst 0, 1) := by decide +kernel
theorem d_So_clearSums_22 : decode (am_Mof y_So_clearSums).1 22 = .ok (.istore_n 1, 1) := by decide +kernel
theorem d_So_clearSums_23 : decode (am_Mof y_So_clearSums).1 23 = .ok (.iload_n 1, 1) := by decide +kernel
theorem d_So_clearSums_24 : decode (am_Mof y_So_clearSums).1 24 = .ok (.iconst 5, 1) := by decide +kernel
theorem d_So_clearSums_25 : decode (am_Mof y_So_clearSums).1 25 = .ok (.if_icmp .ge 16, 3) := by decide +kernel
theorem d_So_clearSums_28 : decode (am_Mof y_So_clearSums).1 28 = .ok (.aload_n 0, 1) := by decide +kernel
theorem d_So_clearSums_29 : decode (am_Mof y_So_clearSums).1 29 = .ok (.getfield 41, 3) := by decide +kernel
theorem d_So_clearSums_32 : decode (am_Mof y_So_clearSums).1 32 = .ok (.iload_n 1, 1) := by decide +kernel
theorem d_So_clearSums_33 : decode (am_Mof y_So_clearSums).1 33 = .ok (.iconst 0, 1) := by decide +kernel
theorem d_So_clearSums_34 : decode (am_Mof y_So_clearSums).1 34 = .ok (.bastore, 1) := by decide +kernel
theorem d_So_clearSums_35 : decode (am_Mof y_So_clearSums).1 35 = .ok (.iinc 1 1, 3) := by decide +kernel
theorem d_So_clearSums_38 : decode (am_Mof y_So_clearSums).1 38 = .ok (.goto (-15), 3) := by decide +kernel
theorem d_So_clearSums_41 : decode (am_Mof y_So_clearSums).1 41 = .ok (.return_, 1) := by decide +kernel
theorem d_So_clear_0 : decode (am_Mof y_So_clear).1 0 = .ok (.iconst 0, 1) := by decide +kernel
theorem d_So_clear_1 : decode (am_Mof y_So_clear).1 1 = .ok (.istore_n 1, 1) := by decide +kernel
theorem d_So_clear_2 : decode (am_Mof y_So_clear).1 2 = .ok (.iload_n 1, 1) := by decide +kernel
theorem d_So_clear_3 : decode (am_Mof y_So_clear).1 3 = .ok (.aload_n 0, 1) := by decide +kernel
theorem d_So_clear_4 : decode (am_Mof y_So_clear).1 4 = .ok (.arraylength, 1) := by decide +kernel
theorem d_So_clear_5 : decode (am_Mof y_So_clear).1 5 = .ok (.if_icmp .ge 13, 3) := by decide +kernel
theorem d_So_clear_8 : decode (am_Mof y_So_clear).1 8 = .ok (.aload_n 0, 1) := by decide +kernel
theorem d_So_clear_9 : decode (am_Mof y_So_clear).1 9 = .ok (.iload_n 1, 1) := by decide +kernel
theorem d_So_clear_10 : decode (am_Mof y_So_clear).1 10 = .ok (.lconst 0, 1) := by decide +kernel
theorem d_So_clear_11 : decode (am_Mof y_So_clear).1 11 = .ok (.lastore, 1) := by decide +kernel
theorem d_So_clear_12 : decode (am_Mof y_So_clear).1 12 = .ok (.iinc 1 1, 3) := by decide +kernel
theorem d_So_clear_15 : decode (am_Mof y_So_clear).1 15 = .ok (.goto (-13), 3) := by decide +kernel
theorem d_So_clear_18 : decode (am_Mof y_So_clear).1 18 = .ok (.return_, 1) := by decide +kernel
theorem d_So_addMetals_0 : decode (am_Mof y_So_addMetals).1 0 = .ok (.iconst 0, 1) := by decide +kernel
theorem d_So_addMetals_1 : decode (am_Mof y_So_addMetals).1 1 = .ok (.istore_n 2, 1) := by decide +kernel
theorem d_So_addMetals_2 : decode (am_Mof y_So_addMetals).1 2 = .ok (.iload_n 2, 1) := by decide +kernel
theorem d_So_addMetals_3 : decode (am_Mof y_So_addMetals).1 3 = .ok (.bipush 10, 2) := by decide +kernel
theorem d_So_addMetals_5 : decode (am_Mof y_So_addMetals).1 5 = .ok (.if_icmp .ge 55, 3) := by decide +kernel
theorem d_So_addMetals_8 : decode (am_Mof y_So_addMetals).1 8 = .ok (.iload_n 2, 1) := by decide +kernel
theorem d_So_addMetals_9 : decode (am_Mof y_So_addMetals).1 9 = .ok (.aload_n 1, 1) := by decide +kernel
theorem d_So_addMetals_10 : decode (am_Mof y_So_addMetals).1 10 = .ok (.arraylength, 1) := by decide +kernel
theorem d_So_addMetals_11 : decode (am_Mof y_So_addMetals).1 11 = .ok (.if_icmp .ge 49, 3) := by decide +kernel
theorem d_So_addMetals_14 : decode (am_Mof y_So_addMetals).1 14 = .ok (.aload_n 1, 1) := by decide +kernel
theorem d_So_addMetals_15 : decode (am_Mof y_So_addMetals).1 15 = .ok (.iload_n 2, 1) := by decide +kernel
theorem d_So_addMetals_16 : decode (am_Mof y_So_addMetals).1 16 = .ok (.laload, 1) := by decide +kernel
theorem d_So_addMetals_17 : decode (am_Mof y_So_addMetals).1 17 = .ok (.lstore_n 3, 1) := by decide +kernel
theorem d_So_addMetals_18 : decode (am_Mof y_So_addMetals).1 18 = .ok (.aload_n 0, 1) := by decide +kernel
theorem d_So_addMetals_19 : decode (am_Mof y_So_addMetals).1 19 = .ok (.getfield 28, 3) := by decide +kernel
theorem d_So_addMetals_22 : decode (am_Mof y_So_addMetals).1 22 = .ok (.iconst 3, 1) := by decide +kernel
theorem d_So_addMetals_23 : decode (am_Mof y_So_addMetals).1 23 = .ok (.iload_n 2, 1) := by decide +kernel
theorem d_So_addMetals_24 : decode (am_Mof y_So_addMetals).1 24 = .ok (.invokestatic 68, 3) := by decide +kernel
theorem d_So_addMetals_27 : decode (am_Mof y_So_addMetals).1 27 = .ok (.dup2, 1) := by decide +kernel
theorem d_So_addMetals_28 : decode (am_Mof y_So_addMetals).1 28 = .ok (.laload, 1) := by decide +kernel
theorem d_So_addMetals_29 : decode (am_Mof y_So_addMetals).1 29 = .ok (.lload_n 3, 1) := by decide +kernel
theorem d_So_addMetals_30 : decode (am_Mof y_So_addMetals).1 30 = .ok (.ladd, 1) := by decide +kernel
theorem d_So_addMetals_31 : decode (am_Mof y_So_addMetals).1 31 = .ok (.lastore, 1) := by decide +kernel
theorem d_So_addMetals_32 : decode (am_Mof y_So_addMetals).1 32 = .ok (.aload_n 0, 1) := by decide +kernel
theorem d_So_addMetals_33 : decode (am_Mof y_So_addMetals).1 33 = .ok (.getfield 31, 3) := by decide +kernel
theorem d_So_addMetals_36 : decode (am_Mof y_So_addMetals).1 36 = .ok (.iconst 0, 1) := by decide +kernel
theorem d_So_addMetals_37 : decode (am_Mof y_So_addMetals).1 37 = .ok (.iconst 3, 1) := by decide +kernel
theorem d_So_addMetals_38 : decode (am_Mof y_So_addMetals).1 38 = .ok (.iload_n 2, 1) := by decide +kernel
theorem d_So_addMetals_39 : decode (am_Mof y_So_addMetals).1 39 = .ok (.invokestatic 48, 3) := by decide +kernel
theorem d_So_addMetals_42 : decode (am_Mof y_So_addMetals).1 42 = .ok (.dup2, 1) := by decide +kernel
theorem d_So_addMetals_43 : decode (am_Mof y_So_addMetals).1 43 = .ok (.laload, 1) := by decide +kernel
theorem d_So_addMetals_44 : decode (am_Mof y_So_addMetals).1 44 = .ok (.lload_n 3, 1) := by decide +kernel
theorem d_So_addMetals_45 : decode (am_Mof y_So_addMetals).1 45 = .ok (.aload_n 0, 1) := by decide +kernel
theorem d_So_addMetals_46 : decode (am_Mof y_So_addMetals).1 46 = .ok (.getfield 18, 3) := by decide +kernel
theorem d_So_addMetals_49 : decode (am_Mof y_So_addMetals).1 49 = .ok (.iconst 3, 1) := by decide +kernel
theorem d_So_addMetals_50 : decode (am_Mof y_So_addMetals).1 50 = .ok (.laload, 1) := by decide +kernel
theorem d_So_addMetals_51 : decode (am_Mof y_So_addMetals).1 51 = .ok (.lmul, 1) := by decide +kernel
theorem d_So_addMetals_52 : decode (am_Mof y_So_addMetals).1 52 = .ok (.ladd, 1) := by decide +kernel
theorem d_So_addMetals_53 : decode (am_Mof y_So_addMetals).1 53 = .ok (.lastore, 1) := by decide +kernel
theorem d_So_addMetals_54 : decode (am_Mof y_So_addMetals).1 54 = .ok (.iinc 2 1, 3) := by decide +kernel
theorem d_So_addMetals_57 : decode (am_Mof y_So_addMetals).1 57 = .ok (.goto (-55), 3) := by decide +kernel
theorem d_So_addMetals_60 : decode (am_Mof y_So_addMetals).1 60 = .ok (.return_, 1) := by decide +kernel
theorem d_So_place_0 : decode (am_Mof y_So_place).1 0 = .ok (.iload_n 0, 1) := by decide +kernel
theorem d_So_place_1 : decode (am_Mof y_So_place).1 1 = .ok (.iconst 4, 1) := by decide +kernel
theorem d_So_place_2 : decode (am_Mof y_So_place).1 2 = .ok (.imul, 1) := by decide +kernel
theorem d_So_place_3 : decode (am_Mof y_So_place).1 3 = .ok (.bipush 10, 2) := by decide +kernel
theorem d_So_place_5 : decode (am_Mof y_So_place).1 5 = .ok (.imul, 1) := by decide +kernel
theorem d_So_place_6 : decode (am_Mof y_So_place).1 6 = .ok (.iload_n 1, 1) := by decide +kernel
theorem d_So_place_7 : decode (am_Mof y_So_place).1 7 = .ok (.iload_n 2, 1) := by decide +kernel
theorem d_So_place_8 : decode (am_Mof y_So_place).1 8 = .ok (.invokestatic 68, 3) := by decide +kernel
theorem d_So_place_11 : decode (am_Mof y_So_place).1 11 = .ok (.iadd, 1) := by decide +kernel
theorem d_So_place_12 : decode (am_Mof y_So_place).1 12 = .ok (.ireturn, 1) := by decide +kernel
theorem d_So_addFeed_0 : decode (am_Mof y_So_addFeed).1 0 = .ok (.aload_n 1, 1) := by decide +kernel
theorem d_So_addFeed_1 : decode (am_Mof y_So_addFeed).1 1 = .ok (.iload_n 2, 1) := by decide +kernel
theorem d_So_addFeed_2 : decode (am_Mof y_So_addFeed).1 2 = .ok (.invokevirtual 123, 3) := by decide +kernel
theorem d_So_addFeed_5 : decode (am_Mof y_So_addFeed).1 5 = .ok (.istore_n 3, 1) := by decide +kernel
theorem d_So_addFeed_6 : decode (am_Mof y_So_addFeed).1 6 = .ok (.aload_n 1, 1) := by decide +kernel
theorem d_So_addFeed_7 : decode (am_Mof y_So_addFeed).1 7 = .ok (.iload_n 2, 1) := by decide +kernel
theorem d_So_addFeed_8 : decode (am_Mof y_So_addFeed).1 8 = .ok (.invokevirtual 127, 3) := by decide +kernel
theorem d_So_addFeed_11 : decode (am_Mof y_So_addFeed).1 11 = .ok (.istore 4, 2) := by decide +kernel
theorem d_So_addFeed_13 : decode (am_Mof y_So_addFeed).1 13 = .ok (.aload_n 1, 1) := by decide +kernel
theorem d_So_addFeed_14 : decode (am_Mof y_So_addFeed).1 14 = .ok (.iload_n 2, 1) := by decide +kernel
theorem d_So_addFeed_15 : decode (am_Mof y_So_addFeed).1 15 = .ok (.invokevirtual 130, 3) := by decide +kernel
theorem d_So_addFeed_18 : decode (am_Mof y_So_addFeed).1 18 = .ok (.iload_n 3, 1) := by decide +kernel
theorem d_So_addFeed_19 : decode (am_Mof y_So_addFeed).1 19 = .ok (.invokestatic 64, 3) := by decide +kernel
theorem d_So_addFeed_22 : decode (am_Mof y_So_addFeed).1 22 = .ok (.istore 5, 2) := by decide +kernel
theorem d_So_addFeed_24 : decode (am_Mof y_So_addFeed).1 24 = .ok (.aload_n 1, 1) := by decide +kernel
theorem d_So_addFeed_25 : decode (am_Mof y_So_addFeed).1 25 = .ok (.iload_n 2, 1) := by decide +kernel
theorem d_So_addFeed_26 : decode (am_Mof y_So_addFeed).1 26 = .ok (.invokevirtual 133, 3) := by decide +kernel
theorem d_So_addFeed_29 : decode (am_Mof y_So_addFeed).1 29 = .ok (.lstore 6, 2) := by decide +kernel
theorem d_So_addFeed_31 : decode (am_Mof y_So_addFeed).1 31 = .ok (.aload_n 0, 1) := by decide +kernel
theorem d_So_addFeed_32 : decode (am_Mof y_So_addFeed).1 32 = .ok (.getfield 25, 3) := by decide +kernel
theorem d_So_addFeed_35 : decode (am_Mof y_So_addFeed).1 35 = .ok (.iload 5, 2) := by decide +kernel
theorem d_So_addFeed_37 : decode (am_Mof y_So_addFeed).1 37 = .ok (.bipush 10, 2) := by decide +kernel
theorem d_So_addFeed_39 : decode (am_Mof y_So_addFeed).1 39 = .ok (.imul, 1) := by decide +kernel
theorem d_So_addFeed_40 : decode (am_Mof y_So_addFeed).1 40 = .ok (.iload 4, 2) := by decide +kernel
theorem d_So_addFeed_42 : decode (am_Mof y_So_addFeed).1 42 = .ok (.iadd, 1) := by decide +kernel
theorem d_So_addFeed_43 : decode (am_Mof y_So_addFeed).1 43 = .ok (.dup2, 1) := by decide +kernel
theorem d_So_addFeed_44 : decode (am_Mof y_So_addFeed).1 44 = .ok (.laload, 1) := by decide +kernel
theorem d_So_addFeed_45 : decode (am_Mof y_So_addFeed).1 45 = .ok (.lload 6, 2) := by decide +kernel
theorem d_So_addFeed_47 : decode (am_Mof y_So_addFeed).1 47 = .ok (.ladd, 1) := by decide +kernel
theorem d_So_addFeed_48 : decode (am_Mof y_So_addFeed).1 48 = .ok (.lastore, 1) := by decide +kernel
theorem d_So_addFeed_49 : decode (am_Mof y_So_addFeed).1 49 = .ok (.aload_n 0, 1) := by decide +kernel
theorem d_So_addFeed_50 : decode (am_Mof y_So_addFeed).1 50 = .ok (.getfield 28, 3) := by decide +kernel
theorem d_So_addFeed_53 : decode (am_Mof y_So_addFeed).1 53 = .ok (.iload_n 3, 1) := by decide +kernel
theorem d_So_addFeed_54 : decode (am_Mof y_So_addFeed).1 54 = .ok (.iload 4, 2) := by decide +kernel
theorem d_So_addFeed_56 : decode (am_Mof y_So_addFeed).1 56 = .ok (.invokestatic 68, 3) := by decide +kernel
theorem d_So_addFeed_59 : decode (am_Mof y_So_addFeed).1 59 = .ok (.dup2, 1) := by decide +kernel
theorem d_So_addFeed_60 : decode (am_Mof y_So_addFeed).1 60 = .ok (.laload, 1) := by decide +kernel
theorem d_So_addFeed_61 : decode (am_Mof y_So_addFeed).1 61 = .ok (.lload 6, 2) := by decide +kernel
theorem d_So_addFeed_63 : decode (am_Mof y_So_addFeed).1 63 = .ok (.ladd, 1) := by decide +kernel
theorem d_So_addFeed_64 : decode (am_Mof y_So_addFeed).1 64 = .ok (.lastore, 1) := by decide +kernel
theorem d_So_addFeed_65 : decode (am_Mof y_So_addFeed).1 65 = .ok (.aload_n 0, 1) := by decide +kernel
theorem d_So_addFeed_66 : decode (am_Mof y_So_addFeed).1 66 = .ok (.getfield 31, 3) := by decide +kernel
theorem d_So_addFeed_69 : decode (am_Mof y_So_addFeed).1 69 = .ok (.aload_n 1, 1) := by decide +kernel
theorem d_So_addFeed_70 : decode (am_Mof y_So_addFeed).1 70 = .ok (.iload_n 2, 1) := by decide +kernel
theorem d_So_addFeed_71 : decode (am_Mof y_So_addFeed).1 71 = .ok (.invokevirtual 136, 3) := by decide +kernel
theorem d_So_addFeed_74 : decode (am_Mof y_So_addFeed).1 74 = .ok (.iload_n 3, 1) := by decide +kernel
theorem d_So_addFeed_75 : decode (am_Mof y_So_addFeed).1 75 = .ok (.iload 4, 2) := by decide +kernel
theorem d_So_addFeed_77 : decode (am_Mof y_So_addFeed).1 77 = .ok (.invokestatic 48, 3) := by decide +kernel
theorem d_So_addFeed_80 : decode (am_Mof y_So_addFeed).1 80 = .ok (.dup2, 1) := by decide +kernel
theorem d_So_addFeed_81 : decode (am_Mof y_So_addFeed).1 81 = .ok (.laload, 1) := by decide +kernel
theorem d_So_addFeed_82 : decode (am_Mof y_So_addFeed).1 82 = .ok (.lload 6, 2) := by decide +kernel
theorem d_So_addFeed_84 : decode (am_Mof y_So_addFeed).1 84 = .ok (.aload_n 0, 1) := by decide +kernel
theorem d_So_addFeed_85 : decode (am_Mof y_So_addFeed).1 85 = .ok (.getfield 22, 3) := by decide +kernel
theorem d_So_addFeed_88 : decode (am_Mof y_So_addFeed).1 88 = .ok (.iload 5, 2) := by decide +kernel
theorem d_So_addFeed_90 : decode (am_Mof y_So_addFeed).1 90 = .ok (.laload, 1) := by decide +kernel
theorem d_So_addFeed_91 : decode (am_Mof y_So_addFeed).1 91 = .ok (.lmul, 1) := by decide +kernel
theorem d_So_addFeed_92 : decode (am_Mof y_So_addFeed).1 92 = .ok (.ladd, 1) := by decide +kernel
theorem d_So_addFeed_93 : decode (am_Mof y_So_addFeed).1 93 = .ok (.lastore, 1) := by decide +kernel
theorem d_So_addFeed_94 : decode (am_Mof y_So_addFeed).1 94 = .ok (.return_, 1) := by decide +kernel
theorem d_So_fillStocks_0 : decode (am_Mof y_So_fillStocks).1 0 = .ok (.iconst 0, 1) := by decide +kernel
theorem d_So_fillStocks_1 : decode (am_Mof y_So_fillStocks).1 1 = .ok (.istore_n 1, 1) := by decide +kernel
theorem d_So_fillStocks_2 : decode (am_Mof y_So_fillStocks).1 2 = .ok (.iload_n 1, 1) := by decide +kernel
theorem d_So_fillStocks_3 : decode (am_Mof y_So_fillStocks).1 3 = .ok (.iconst 4, 1) := by decide +kernel
theorem d_So_fillStocks_4 : decode (am_Mof y_So_fillStocks).1 4 = .ok (.if_icmp .ge 63, 3) := by decide +kernel
theorem d_So_fillStocks_7 : decode (am_Mof y_So_fillStocks).1 7 = .ok (.iconst 0, 1) := by decide +kernel
theorem d_So_fillStocks_8 : decode (am_Mof y_So_fillStocks).1 8 = .ok (.istore_n 2, 1) := by decide +kernel
theorem d_So_fillStocks_9 : decode (am_Mof y_So_fillStocks).1 9 = .ok (.iload_n 2, 1) := by decide +kernel
theorem d_So_fillStocks_10 : decode (am_Mof y_So_fillStocks).1 10 = .ok (.iconst 4, 1) := by decide +kernel
theorem d_So_fillStocks_11 : decode (am_Mof y_So_fillStocks).1 11 = .ok (.if_icmp .ge 50, 3) := by decide +kernel
theorem d_So_fillStocks_14 : decode (am_Mof y_So_fillStocks).1 14 = .ok (.iconst 0, 1) := by decide +kernel
theorem d_So_fillStocks_15 : decode (am_Mof y_So_fillStocks).1 15 = .ok (.istore_n 3, 1) := by decide +kernel
theorem d_So_fillStocks_16 : decode (am_Mof y_So_fillStocks).1 16 = .ok (.iload_n 3, 1) := by decide +kernel
theorem d_So_fillStocks_17 : decode (am_Mof y_So_fillStocks).1 17 = .ok (.bipush 10, 2) := by decide +kernel
theorem d_So_fillStocks_19 : decode (am_Mof y_So_fillStocks).1 19 = .ok (.if_icmp .ge 36, 3) := by decide +kernel
theorem d_So_fillStocks_22 : decode (am_Mof y_So_fillStocks).1 22 = .ok (.iload_n 1, 1) := by decide +kernel
theorem d_So_fillStocks_23 : decode (am_Mof y_So_fillStocks).1 23 = .ok (.iload_n 2, 1) := by decide +kernel
theorem d_So_fillStocks_24 : decode (am_Mof y_So_fillStocks).1 24 = .ok (.iload_n 3, 1) := by decide +kernel
theorem d_So_fillStocks_25 : decode (am_Mof y_So_fillStocks).1 25 = .ok (.invokestatic 48, 3) := by decide +kernel
theorem d_So_fillStocks_28 : decode (am_Mof y_So_fillStocks).1 28 = .ok (.istore 4, 2) := by decide +kernel
theorem d_So_fillStocks_30 : decode (am_Mof y_So_fillStocks).1 30 = .ok (.aload_n 0, 1) := by decide +kernel
theorem d_So_fillStocks_31 : decode (am_Mof y_So_fillStocks).1 31 = .ok (.getfield 34, 3) := by decide +kernel
theorem d_So_fillStocks_34 : decode (am_Mof y_So_fillStocks).1 34 = .ok (.iload 4, 2) := by decide +kernel
theorem d_So_fillStocks_36 : decode (am_Mof y_So_fillStocks).1 36 = .ok (.aload_n 0, 1) := by decide +kernel
theorem d_So_fillStocks_37 : decode (am_Mof y_So_fillStocks).1 37 = .ok (.aload_n 0, 1) := by decide +kernel
theorem d_So_fillStocks_38 : decode (am_Mof y_So_fillStocks).1 38 = .ok (.getfield 31, 3) := by decide +kernel
theorem d_So_fillStocks_41 : decode (am_Mof y_So_fillStocks).1 41 = .ok (.iload 4, 2) := by decide +kernel
theorem d_So_fillStocks_43 : decode (am_Mof y_So_fillStocks).1 43 = .ok (.laload, 1) := by decide +kernel
theorem d_So_fillStocks_44 : decode (am_Mof y_So_fillStocks).1 44 = .ok (.iload_n 2, 1) := by decide +kernel
theorem d_So_fillStocks_45 : decode (am_Mof y_So_fillStocks).1 45 = .ok (.invokevirtual 60, 3) := by decide +kernel
theorem d_So_fillStocks_48 : decode (am_Mof y_So_fillStocks).1 48 = .ok (.lastore, 1) := by decide +kernel
theorem d_So_fillStocks_49 : decode (am_Mof y_So_fillStocks).1 49 = .ok (.iinc 3 1, 3) := by decide +kernel
theorem d_So_fillStocks_52 : decode (am_Mof y_So_fillStocks).1 52 = .ok (.goto (-36), 3) := by decide +kernel
theorem d_So_fillStocks_55 : decode (am_Mof y_So_fillStocks).1 55 = .ok (.iinc 2 1, 3) := by decide +kernel
theorem d_So_fillStocks_58 : decode (am_Mof y_So_fillStocks).1 58 = .ok (.goto (-49), 3) := by decide +kernel
theorem d_So_fillStocks_61 : decode (am_Mof y_So_fillStocks).1 61 = .ok (.iinc 1 1, 3) := by decide +kernel
theorem d_So_fillStocks_64 : decode (am_Mof y_So_fillStocks).1 64 = .ok (.goto (-62), 3) := by decide +kernel
theorem d_So_fillStocks_67 : decode (am_Mof y_So_fillStocks).1 67 = .ok (.return_, 1) := by decide +kernel
theorem d_So_down_0 : decode (am_Mof y_So_down).1 0 = .ok (.aload_n 0, 1) := by decide +kernel
theorem d_So_down_1 : decode (am_Mof y_So_down).1 1 = .ok (.getfield 18, 3) := by decide +kernel
theorem d_So_down_4 : decode (am_Mof y_So_down).1 4 = .ok (.iload_n 3, 1) := by decide +kernel
theorem d_So_down_5 : decode (am_Mof y_So_down).1 5 = .ok (.laload, 1) := by decide +kernel
theorem d_So_down_6 : decode (am_Mof y_So_down).1 6 = .ok (.lconst 0, 1) := by decide +kernel
theorem d_So_down_7 : decode (am_Mof y_So_down).1 7 = .ok (.lcmp, 1) := by decide +kernel
theorem d_So_down_8 : decode (am_Mof y_So_down).1 8 = .ok (.ifCond .le 14, 3) := by decide +kernel
theorem d_So_down_11 : decode (am_Mof y_So_down).1 11 = .ok (.lload_n 1, 1) := by decide +kernel
theorem d_So_down_12 : decode (am_Mof y_So_down).1 12 = .ok (.aload_n 0, 1) := by decide +kernel
theorem d_So_down_13 : decode (am_Mof y_So_down).1 13 = .ok (.getfield 18, 3) := by decide +kernel
theorem d_So_down_16 : decode (am_Mof y_So_down).1 16 = .ok (.iload_n 3, 1) := by decide +kernel
theorem d_So_down_17 : decode (am_Mof y_So_down).1 17 = .ok (.laload, 1) := by decide +kernel
theorem d_So_down_18 : decode (am_Mof y_So_down).1 18 = .ok (.ldiv, 1) := by decide +kernel
theorem d_So_down_19 : decode (am_Mof y_So_down).1 19 = .ok (.goto 4, 3) := by decide +kernel
theorem d_So_down_22 : decode (am_Mof y_So_down).1 22 = .ok (.lconst 0, 1) := by decide +kernel
theorem d_So_down_23 : decode (am_Mof y_So_down).1 23 = .ok (.lreturn, 1) := by decide +kernel
theorem d_So_markLostBare_0 : decode (am_Mof y_So_markLostBare).1 0 = .ok (.aload_n 0, 1) := by decide +kernel
theorem d_So_markLostBare_1 : decode (am_Mof y_So_markLostBare).1 1 = .ok (.aload_n 1, 1) := by decide +kernel
theorem d_So_markLostBare_2 : decode (am_Mof y_So_markLostBare).1 2 = .ok (.aload_n 2, 1) := by decide +kernel
theorem d_So_markLostBare_3 : decode (am_Mof y_So_markLostBare).1 3 = .ok (.iload_n 3, 1) := by decide +kernel
theorem d_So_markLostBare_4 : decode (am_Mof y_So_markLostBare).1 4 = .ok (.invokevirtual 139, 3) := by decide +kernel
theorem d_So_markLostBare_7 : decode (am_Mof y_So_markLostBare).1 7 = .ok (.iconst 0, 1) := by decide +kernel
theorem d_So_markLostBare_8 : decode (am_Mof y_So_markLostBare).1 8 = .ok (.istore 4, 2) := by decide +kernel
theorem d_So_markLostBare_10 : decode (am_Mof y_So_markLostBare).1 10 = .ok (.iload 4, 2) := by decide +kernel
theorem d_So_markLostBare_12 : decode (am_Mof y_So_markLostBare).1 12 = .ok (.iconst 5, 1) := by decide +kernel
theorem d_So_markLostBare_13 : decode (am_Mof y_So_markLostBare).1 13 = .ok (.if_icmp .ge 37, 3) := by decide +kernel
theorem d_So_markLostBare_16 : decode (am_Mof y_So_markLostBare).1 16 = .ok (.aload_n 0, 1) := by decide +kernel
theorem d_So_markLostBare_17 : decode (am_Mof y_So_markLostBare).1 17 = .ok (.getfield 37, 3) := by decide +kernel
theorem d_So_markLostBare_20 : decode (am_Mof y_So_markLostBare).1 20 = .ok (.iload 4, 2) := by decide +kernel
theorem d_So_markLostBare_22 : decode (am_Mof y_So_markLostBare).1 22 = .ok (.baload, 1) := by decide +kernel
theorem d_So_markLostBare_23 : decode (am_Mof y_So_markLostBare).1 23 = .ok (.ifCond .eq 21, 3) := by decide +kernel
theorem d_So_markLostBare_26 : decode (am_Mof y_So_markLostBare).1 26 = .ok (.aload_n 1, 1) := by decide +kernel
theorem d_So_markLostBare_27 : decode (am_Mof y_So_markLostBare).1 27 = .ok (.iload 4, 2) := by decide +kernel
theorem d_So_markLostBare_29 : decode (am_Mof y_So_markLostBare).1 29 = .ok (.iload_n 3, 1) := by decide +kernel
theorem d_So_markLostBare_30 : decode (am_Mof y_So_markLostBare).1 30 = .ok (.invokevirtual 142, 3) := by decide +kernel
theorem d_So_markLostBare_33 : decode (am_Mof y_So_markLostBare).1 33 = .ok (.ifCond .eq 11, 3) := by decide +kernel
theorem d_So_markLostBare_36 : decode (am_Mof y_So_markLostBare).1 36 = .ok (.aload_n 0, 1) := by decide +kernel
theorem d_So_markLostBare_37 : decode (am_Mof y_So_markLostBare).1 37 = .ok (.getfield 41, 3) := by decide +kernel
theorem d_So_markLostBare_40 : decode (am_Mof y_So_markLostBare).1 40 = .ok (.iload 4, 2) := by decide +kernel
theorem d_So_markLostBare_42 : decode (am_Mof y_So_markLostBare).1 42 = .ok (.iconst 1, 1) := by decide +kernel
theorem d_So_markLostBare_43 : decode (am_Mof y_So_markLostBare).1 43 = .ok (.bastore, 1) := by decide +kernel
theorem d_So_markLostBare_44 : decode (am_Mof y_So_markLostBare).1 44 = .ok (.iinc 4 1, 3) := by decide +kernel
theorem d_So_markLostBare_47 : decode (am_Mof y_So_markLostBare).1 47 = .ok (.goto (-37), 3) := by decide +kernel
theorem d_So_markLostBare_50 : decode (am_Mof y_So_markLostBare).1 50 = .ok (.return_, 1) := by decide +kernel
theorem d_So_findCame_0 : decode (am_Mof y_So_findCame).1 0 = .ok (.iconst 0, 1) := by decide +kernel
theorem d_So_findCame_1 : decode (am_Mof y_So_findCame).1 1 = .ok (.istore 4, 2) := by decide +kernel
theorem d_So_findCame_3 : decode (am_Mof y_So_findCame).1 3 = .ok (.iload 4, 2) := by decide +kernel
theorem d_So_findCame_5 : decode (am_Mof y_So_findCame).1 5 = .ok (.iconst 5, 1) := by decide +kernel
theorem d_So_findCame_6 : decode (am_Mof y_So_findCame).1 6 = .ok (.if_icmp .ge 17, 3) := by decide +kernel
theorem d_So_findCame_9 : decode (am_Mof y_So_findCame).1 9 = .ok (.aload_n 0, 1) := by decide +kernel
theorem d_So_findCame_10 : decode (am_Mof y_So_findCame).1 10 = .ok (.getfield 37, 3) := by decide +kernel
theorem d_So_findCame_13 : decode (am_Mof y_So_findCame).1 13 = .ok (.iload 4, 2) := by decide +kernel
theorem d_So_findCame_15 : decode (am_Mof y_So_findCame).1 15 = .ok (.iconst 0, 1) := by decide +kernel
theorem d_So_findCame_16 : decode (am_Mof y_So_findCame).1 16 = .ok (.bastore, 1) := by decide +kernel
theorem d_So_findCame_17 : decode (am_Mof y_So_findCame).1 17 = .ok (.iinc 4 1, 3) := by decide +kernel
theorem d_So_findCame_20 : decode (am_Mof y_So_findCame).1 20 = .ok (.goto (-17), 3) := by decide +kernel
theorem d_So_findCame_23 : decode (am_Mof y_So_findCame).1 23 = .ok (.iconst 0, 1) := by decide +kernel
theorem d_So_findCame_24 : decode (am_Mof y_So_findCame).1 24 = .ok (.istore 4, 2) := by decide +kernel
theorem d_So_findCame_26 : decode (am_Mof y_So_findCame).1 26 = .ok (.iload 4, 2) := by decide +kernel
theorem d_So_findCame_28 : decode (am_Mof y_So_findCame).1 28 = .ok (.aload_n 2, 1) := by decide +kernel
theorem d_So_findCame_29 : decode (am_Mof y_So_findCame).1 29 = .ok (.invokevirtual 96, 3) := by decide +kernel
theorem d_So_findCame_32 : decode (am_Mof y_So_findCame).1 32 = .ok (.if_icmp .ge 42, 3) := by decide +kernel
theorem d_So_findCame_35 : decode (am_Mof y_So_findCame).1 35 = .ok (.aload_n 2, 1) := by decide +kernel
theorem d_So_findCame_36 : decode (am_Mof y_So_findCame).1 36 = .ok (.iload 4, 2) := by decide +kernel
theorem d_So_findCame_38 : decode (am_Mof y_So_findCame).1 38 = .ok (.invokevirtual 123, 3) := by decide +kernel
theorem d_So_findCame_41 : decode (am_Mof y_So_findCame).1 41 = .ok (.iload_n 3, 1) := by decide +kernel
theorem d_So_findCame_42 : decode (am_Mof y_So_findCame).1 42 = .ok (.if_icmp .ne 26, 3) := by decide +kernel
theorem d_So_findCame_45 : decode (am_Mof y_So_findCame).1 45 = .ok (.aload_n 2, 1) := by decide +kernel
theorem d_So_findCame_46 : decode (am_Mof y_So_findCame).1 46 = .ok (.iload 4, 2) := by decide +kernel
theorem d_So_findCame_48 : decode (am_Mof y_So_findCame).1 48 = .ok (.invokevirtual 133, 3) := by decide +kernel
theorem d_So_findCame_51 : decode (am_Mof y_So_findCame).1 51 = .ok (.lconst 0, 1) := by decide +kernel
theorem d_So_findCame_52 : decode (am_Mof y_So_findCame).1 52 = .ok (.lcmp, 1) := by decide +kernel
theorem d_So_findCame_53 : decode (am_Mof y_So_findCame).1 53 = .ok (.ifCond .le 15, 3) := by decide +kernel
theorem d_So_findCame_56 : decode (am_Mof y_So_findCame).1 56 = .ok (.aload_n 0, 1) := by decide +kernel
theorem d_So_findCame_57 : decode (am_Mof y_So_findCame).1 57 = .ok (.getfield 37, 3) := by decide +kernel
theorem d_So_findCame_60 : decode (am_Mof y_So_findCame).1 60 = .ok (.aload_n 2, 1) := by decide +kernel
theorem d_So_findCame_61 : decode (am_Mof y_So_findCame).1 61 = .ok (.iload 4, 2) := by decide +kernel
theorem d_So_findCame_63 : decode (am_Mof y_So_findCame).1 63 = .ok (.invokevirtual 130, 3) := by decide +kernel
theorem d_So_findCame_66 : decode (am_Mof y_So_findCame).1 66 = .ok (.iconst 1, 1) := by decide +kernel
theorem d_So_findCame_67 : decode (am_Mof y_So_findCame).1 67 = .ok (.bastore, 1) := by decide +kernel
theorem d_So_findCame_68 : decode (am_Mof y_So_findCame).1 68 = .ok (.iinc 4 1, 3) := by decide +kernel
theorem d_So_findCame_71 : decode (am_Mof y_So_findCame).1 71 = .ok (.goto (-45), 3) := by decide +kernel
theorem d_So_findCame_74 : decode (am_Mof y_So_findCame).1 74 = .ok (.iconst 1, 1) := by decide +kernel
theorem d_So_findCame_75 : decode (am_Mof y_So_findCame).1 75 = .ok (.istore 4, 2) := by decide +kernel
theorem d_So_findCame_77 : decode (am_Mof y_So_findCame).1 77 = .ok (.iload 4, 2) := by decide +kernel
theorem d_So_findCame_79 : decode (am_Mof y_So_findCame).1 79 = .ok (.iconst 5, 1) := by decide +kernel
theorem d_So_findCame_80 : decode (am_Mof y_So_findCame).1 80 = .ok (.if_icmp .ge 51, 3) := by decide +kernel
theorem d_So_findCame_83 : decode (am_Mof y_So_findCame).1 83 = .ok (.iconst 0, 1) := by decide +kernel
theorem d_So_findCame_84 : decode (am_Mof y_So_findCame).1 84 = .ok (.istore 5, 2) := by decide +kernel
theorem d_So_findCame_86 : decode (am_Mof y_So_findCame).1 86 = .ok (.iload 5, 2) := by decide +kernel
theorem d_So_findCame_88 : decode (am_Mof y_So_findCame).1 88 = .ok (.iconst 5, 1) := by decide +kernel
theorem d_So_findCame_89 : decode (am_Mof y_So_findCame).1 89 = .ok (.if_icmp .ge 36, 3) := by decide +kernel
theorem d_So_findCame_92 : decode (am_Mof y_So_findCame).1 92 = .ok (.aload_n 0, 1) := by decide +kernel
theorem d_So_findCame_93 : decode (am_Mof y_So_findCame).1 93 = .ok (.getfield 37, 3) := by decide +kernel
theorem d_So_findCame_96 : decode (am_Mof y_So_findCame).1 96 = .ok (.iload 5, 2) := by decide +kernel
theorem d_So_findCame_98 : decode (am_Mof y_So_findCame).1 98 = .ok (.baload, 1) := by decide +kernel
theorem d_So_findCame_99 : decode (am_Mof y_So_findCame).1 99 = .ok (.ifCond .eq 20, 3) := by decide +kernel
theorem d_So_findCame_102 : decode (am_Mof y_So_findCame).1 102 = .ok (.aload_n 1, 1) := by decide +kernel
theorem d_So_findCame_103 : decode (am_Mof y_So_findCame).1 103 = .ok (.iload 5, 2) := by decide +kernel
theorem d_So_findCame_105 : decode (am_Mof y_So_findCame).1 105 = .ok (.iload_n 3, 1) := by decide +kernel
theorem d_So_findCame_106 : decode (am_Mof y_So_findCame).1 106 = .ok (.invokevirtual 148, 3) := by decide +kernel
theorem d_So_findCame_109 : decode (am_Mof y_So_findCame).1 109 = .ok (.ifCond .eq 10, 3) := by decide +kernel
theorem d_So_findCame_112 : decode (am_Mof y_So_findCame).1 112 = .ok (.aload_n 0, 1) := by decide +kernel
theorem d_So_findCame_113 : decode (am_Mof y_So_findCame).1 113 = .ok (.aload_n 1, 1) := by decide +kernel
theorem d_So_findCame_114 : decode (am_Mof y_So_findCame).1 114 = .ok (.iload 5, 2) := by decide +kernel
theorem d_So_findCame_116 : decode (am_Mof y_So_findCame).1 116 = .ok (.invokevirtual 151, 3) := by decide +kernel
theorem d_So_findCame_119 : decode (am_Mof y_So_findCame).1 119 = .ok (.iinc 5 1, 3) := by decide +kernel
theorem d_So_findCame_122 : decode (am_Mof y_So_findCame).1 122 = .ok (.goto (-36), 3) := by decide +kernel
theorem d_So_findCame_125 : decode (am_Mof y_So_findCame).1 125 = .ok (.iinc 4 1, 3) := by decide +kernel
theorem d_So_findCame_128 : decode (am_Mof y_So_findCame).1 128 = .ok (.goto (-51), 3) := by decide +kernel
theorem d_So_findCame_131 : decode (am_Mof y_So_findCame).1 131 = .ok (.return_, 1) := by decide +kernel
theorem d_So_markNext_0 : decode (am_Mof y_So_markNext).1 0 = .ok (.iconst 0, 1) := by decide +kernel
theorem d_So_markNext_1 : decode (am_Mof y_So_markNext).1 1 = .ok (.istore_n 3, 1) := by decide +kernel
theorem d_So_markNext_2 : decode (am_Mof y_So_markNext).1 2 = .ok (.iload_n 3, 1) := by decide +kernel
theorem d_So_markNext_3 : decode (am_Mof y_So_markNext).1 3 = .ok (.iconst 5, 1) := by decide +kernel
theorem d_So_markNext_4 : decode (am_Mof y_So_markNext).1 4 = .ok (.if_icmp .ge 38, 3) := by decide +kernel
theorem d_So_markNext_7 : decode (am_Mof y_So_markNext).1 7 = .ok (.aload_n 0, 1) := by decide +kernel
theorem d_So_markNext_8 : decode (am_Mof y_So_markNext).1 8 = .ok (.getfield 37, 3) := by decide +kernel
theorem d_So_markNext_11 : decode (am_Mof y_So_markNext).1 11 = .ok (.iload_n 3, 1) := by decide +kernel
theorem d_So_markNext_12 : decode (am_Mof y_So_markNext).1 12 = .ok (.aload_n 0, 1) := by decide +kernel
theorem d_So_markNext_13 : decode (am_Mof y_So_markNext).1 13 = .ok (.getfield 37, 3) := by decide +kernel
theorem d_So_markNext_16 : decode (am_Mof y_So_markNext).1 16 = .ok (.iload_n 3, 1) := by decide +kernel
theorem d_So_markNext_17 : decode (am_Mof y_So_markNext).1 17 = .ok (.baload, 1) := by decide +kernel
theorem d_So_markNext_18 : decode (am_Mof y_So_markNext).1 18 = .ok (.ifCond .ne 12, 3) := by decide +kernel
theorem d_So_markNext_21 : decode (am_Mof y_So_markNext).1 21 = .ok (.aload_n 1, 1) := by decide +kernel
theorem d_So_markNext_22 : decode (am_Mof y_So_markNext).1 22 = .ok (.iload_n 2, 1) := by decide +kernel
theorem d_So_markNext_23 : decode (am_Mof y_So_markNext).1 23 = .ok (.iload_n 3, 1) := by decide +kernel
theorem d_So_markNext_24 : decode (am_Mof y_So_markNext).1 24 = .ok (.invokevirtual 154, 3) := by decide +kernel
theorem d_So_markNext_27 : decode (am_Mof y_So_markNext).1 27 = .ok (.ifCond .le 7, 3) := by decide +kernel
theorem d_So_markNext_30 : decode (am_Mof y_So_markNext).1 30 = .ok (.iconst 1, 1) := by decide +kernel
theorem d_So_markNext_31 : decode (am_Mof y_So_markNext).1 31 = .ok (.goto 4, 3) := by decide +kernel
theorem d_So_markNext_34 : decode (am_Mof y_So_markNext).1 34 = .ok (.iconst 0, 1) := by decide +kernel
theorem d_So_markNext_35 : decode (am_Mof y_So_markNext).1 35 = .ok (.bastore, 1) := by decide +kernel
theorem d_So_markNext_36 : decode (am_Mof y_So_markNext).1 36 = .ok (.iinc 3 1, 3) := by decide +kernel
theorem d_So_markNext_39 : decode (am_Mof y_So_markNext).1 39 = .ok (.goto (-37), 3) := by decide +kernel
theorem d_So_markNext_42 : decode (am_Mof y_So_markNext).1 42 = .ok (.return_, 1) := by decide +kernel
theorem d_So_isThere_0 : decode (am_Mof y_So_isThere).1 0 = .ok (.aload_n 0, 1) := by decide +kernel
theorem d_So_isThere_1 : decode (am_Mof y_So_isThere).1 1 = .ok (.getfield 44, 3) := by decide +kernel
theorem d_So_isThere_4 : decode (am_Mof y_So_isThere).1 4 = .ok (.ireturn, 1) := by decide +kernel
theorem d_So_aboveOf_0 : decode (am_Mof y_So_aboveOf).1 0 = .ok (.lconst 0, 1) := by decide +kernel
theorem d_So_aboveOf_1 : decode (am_Mof y_So_aboveOf).1 1 = .ok (.lstore_n 3, 1) := by decide +kernel
theorem d_So_aboveOf_2 : decode (am_Mof y_So_aboveOf).1 2 = .ok (.iconst 0, 1) := by decide +kernel
theorem d_So_aboveOf_3 : decode (am_Mof y_So_aboveOf).1 3 = .ok (.istore 5, 2) := by decide +kernel
theorem d_So_aboveOf_5 : decode (am_Mof y_So_aboveOf).1 5 = .ok (.iload 5, 2) := by decide +kernel
theorem d_So_aboveOf_7 : decode (am_Mof y_So_aboveOf).1 7 = .ok (.iconst 4, 1) := by decide +kernel
theorem d_So_aboveOf_8 : decode (am_Mof y_So_aboveOf).1 8 = .ok (.if_icmp .ge 20, 3) := by decide +kernel
theorem d_So_aboveOf_11 : decode (am_Mof y_So_aboveOf).1 11 = .ok (.lload_n 3, 1) := by decide +kernel
theorem d_So_aboveOf_12 : decode (am_Mof y_So_aboveOf).1 12 = .ok (.aload_n 0, 1) := by decide +kernel
theorem d_So_aboveOf_13 : decode (am_Mof y_So_aboveOf).1 13 = .ok (.iload 5, 2) := by decide +kernel
theorem d_So_aboveOf_15 : decode (am_Mof y_So_aboveOf).1 15 = .ok (.iload_n 1, 1) := by decide +kernel
theorem d_So_aboveOf_16 : decode (am_Mof y_So_aboveOf).1 16 = .ok (.iload_n 2, 1) := by decide +kernel
theorem d_So_aboveOf_17 : decode (am_Mof y_So_aboveOf).1 17 = .ok (.invokevirtual 52, 3) := by decide +kernel
theorem d_So_aboveOf_20 : decode (am_Mof y_So_aboveOf).1 20 = .ok (.ladd, 1) := by decide +kernel
theorem d_So_aboveOf_21 : decode (am_Mof y_So_aboveOf).1 21 = .ok (.lstore_n 3, 1) := by decide +kernel
theorem d_So_aboveOf_22 : decode (am_Mof y_So_aboveOf).1 22 = .ok (.iinc 5 1, 3) := by decide +kernel
theorem d_So_aboveOf_25 : decode (am_Mof y_So_aboveOf).1 25 = .ok (.goto (-20), 3) := by decide +kernel
theorem d_So_aboveOf_28 : decode (am_Mof y_So_aboveOf).1 28 = .ok (.lload_n 3, 1) := by decide +kernel
theorem d_So_aboveOf_29 : decode (am_Mof y_So_aboveOf).1 29 = .ok (.lreturn, 1) := by decide +kernel
theorem d_So_aboveOfCountry_0 : decode (am_Mof y_So_aboveOfCountry).1 0 = .ok (.aload_n 0, 1) := by decide +kernel
theorem d_So_aboveOfCountry_1 : decode (am_Mof y_So_aboveOfCountry).1 1 = .ok (.getfield 31, 3) := by decide +kernel
theorem d_So_aboveOfCountry_4 : decode (am_Mof y_So_aboveOfCountry).1 4 = .ok (.iload_n 1, 1) := by decide +kernel
theorem d_So_aboveOfCountry_5 : decode (am_Mof y_So_aboveOfCountry).1 5 = .ok (.iload_n 2, 1) := by decide +kernel
theorem d_So_aboveOfCountry_6 : decode (am_Mof y_So_aboveOfCountry).1 6 = .ok (.iload_n 3, 1) := by decide +kernel
theorem d_So_aboveOfCountry_7 : decode (am_Mof y_So_aboveOfCountry).1 7 = .ok (.invokestatic 48, 3) := by decide +kernel
theorem d_So_aboveOfCountry_10 : decode (am_Mof y_So_aboveOfCountry).1 10 = .ok (.laload, 1) := by decide +kernel
theorem d_So_aboveOfCountry_11 : decode (am_Mof y_So_aboveOfCountry).1 11 = .ok (.lreturn, 1) := by decide +kernel
theorem d_So_belowOf_0 : decode (am_Mof y_So_belowOf).1 0 = .ok (.aload_n 0, 1) := by decide +kernel
theorem d_So_belowOf_1 : decode (am_Mof y_So_belowOf).1 1 = .ok (.getfield 18, 3) := by decide +kernel
theorem d_So_belowOf_4 : decode (am_Mof y_So_belowOf).1 4 = .ok (.iload_n 1, 1) := by decide +kernel
theorem d_So_belowOf_5 : decode (am_Mof y_So_belowOf).1 5 = .ok (.laload, 1) := by decide +kernel
theorem d_So_belowOf_6 : decode (am_Mof y_So_belowOf).1 6 = .ok (.lreturn, 1) := by decide +kernel
theorem d_So_lostBareAt_0 : decode (am_Mof y_So_lostBareAt).1 0 = .ok (.aload_n 0, 1) := by decide +kernel
theorem d_So_lostBareAt_1 : decode (am_Mof y_So_lostBareAt).1 1 = .ok (.getfield 41, 3) := by decide +kernel
theorem d_So_lostBareAt_4 : decode (am_Mof y_So_lostBareAt).1 4 = .ok (.iload_n 1, 1) := by decide +kernel
theorem d_So_lostBareAt_5 : decode (am_Mof y_So_lostBareAt).1 5 = .ok (.baload, 1) := by decide +kernel
theorem d_So_lostBareAt_6 : decode (am_Mof y_So_lostBareAt).1 6 = .ok (.ireturn, 1) := by decide +kernel
theorem d_So_isNeverMoreThanBrought_0 : decode (am_Mof y_So_isNeverMoreThanBrought).1 0 = .ok (.iconst 0, 1) := by decide +kernel
theorem d_So_isNeverMoreThanBrought_1 : decode (am_Mof y_So_isNeverMoreThanBrought).1 1 = .ok (.istore_n 1, 1) := by decide +kernel
theorem d_So_isNeverMoreThanBrought_2 : decode (am_Mof y_So_isNeverMoreThanBrought).1 2 = .ok (.iload_n 1, 1) := by decide +kernel
theorem d_So_isNeverMoreThanBrought_3 : decode (am_Mof y_So_isNeverMoreThanBrought).1 3 = .ok (.iconst 4, 1) := by decide +kernel
theorem d_So_isNeverMoreThanBrought_4 : decode (am_Mof y_So_isNeverMoreThanBrought).1 4 = .ok (.if_icmp .ge 52, 3) := by decide +kernel
theorem d_So_isNeverMoreThanBrought_7 : decode (am_Mof y_So_isNeverMoreThanBrought).1 7 = .ok (.iconst 0, 1) := by decide +kernel
theorem d_So_isNeverMoreThanBrought_8 : decode (am_Mof y_So_isNeverMoreThanBrought).1 8 = .ok (.istore_n 2, 1) := by decide +kernel
theorem d_So_isNeverMoreThanBrought_9 : decode (am_Mof y_So_isNeverMoreThanBrought).1 9 = .ok (.iload_n 2, 1) := by decide +kernel
theorem d_So_isNeverMoreThanBrought_10 : decode (am_Mof y_So_isNeverMoreThanBrought).1 10 = .ok (.bipush 10, 2) := by decide +kernel
theorem d_So_isNeverMoreThanBrought_12 : decode (am_Mof y_So_isNeverMoreThanBrought).1 12 = .ok (.if_icmp .ge 38, 3) := by decide +kernel
theorem d_So_isNeverMoreThanBrought_15 : decode (am_Mof y_So_isNeverMoreThanBrought).1 15 = .ok (.aload_n 0, 1) := by decide +kernel
theorem d_So_isNeverMoreThanBrought_16 : decode (am_Mof y_So_isNeverMoreThanBrought).1 16 = .ok (.iload_n 1, 1) := by decide +kernel
theorem d_So_isNeverMoreThanBrought_17 : decode (am_Mof y_So_isNeverMoreThanBrought).1 17 = .ok (.iload_n 2, 1) := by decide +kernel
theorem d_So_isNeverMoreThanBrought_18 : decode (am_Mof y_So_isNeverMoreThanBrought).1 18 = .ok (.invokevirtual 56, 3) := by decide +kernel
theorem d_So_isNeverMoreThanBrought_21 : decode (am_Mof y_So_isNeverMoreThanBrought).1 21 = .ok (.aload_n 0, 1) := by decide +kernel
theorem d_So_isNeverMoreThanBrought_22 : decode (am_Mof y_So_isNeverMoreThanBrought).1 22 = .ok (.getfield 28, 3) := by decide +kernel
theorem d_So_isNeverMoreThanBrought_25 : decode (am_Mof y_So_isNeverMoreThanBrought).1 25 = .ok (.iload_n 1, 1) := by decide +kernel
theorem d_So_isNeverMoreThanBrought_26 : decode (am_Mof y_So_isNeverMoreThanBrought).1 26 = .ok (.iload_n 2, 1) := by decide +kernel
theorem d_So_isNeverMoreThanBrought_27 : decode (am_Mof y_So_isNeverMoreThanBrought).1 27 = .ok (.invokestatic 68, 3) := by decide +kernel
theorem d_So_isNeverMoreThanBrought_30 : decode (am_Mof y_So_isNeverMoreThanBrought).1 30 = .ok (.laload, 1) := by decide +kernel
theorem d_So_isNeverMoreThanBrought_31 : decode (am_Mof y_So_isNeverMoreThanBrought).1 31 = .ok (.aload_n 0, 1) := by decide +kernel
theorem d_So_isNeverMoreThanBrought_32 : decode (am_Mof y_So_isNeverMoreThanBrought).1 32 = .ok (.getfield 18, 3) := by decide +kernel
theorem d_So_isNeverMoreThanBrought_35 : decode (am_Mof y_So_isNeverMoreThanBrought).1 35 = .ok (.iload_n 1, 1) := by decide +kernel
theorem d_So_isNeverMoreThanBrought_36 : decode (am_Mof y_So_isNeverMoreThanBrought).1 36 = .ok (.laload, 1) := by decide +kernel
theorem d_So_isNeverMoreThanBrought_37 : decode (am_Mof y_So_isNeverMoreThanBrought).1 37 = .ok (.lmul, 1) := by decide +kernel
theorem d_So_isNeverMoreThanBrought_38 : decode (am_Mof y_So_isNeverMoreThanBrought).1 38 = .ok (.lcmp, 1) := by decide +kernel
theorem d_So_isNeverMoreThanBrought_39 : decode (am_Mof y_So_isNeverMoreThanBrought).1 39 = .ok (.ifCond .le 5, 3) := by decide +kernel
theorem d_So_isNeverMoreThanBrought_42 : decode (am_Mof y_So_isNeverMoreThanBrought).1 42 = .ok (.iconst 0, 1) := by decide +kernel
theorem d_So_isNeverMoreThanBrought_43 : decode (am_Mof y_So_isNeverMoreThanBrought).1 43 = .ok (.ireturn, 1) := by decide +kernel
theorem d_So_isNeverMoreThanBrought_44 : decode (am_Mof y_So_isNeverMoreThanBrought).1 44 = .ok (.iinc 2 1, 3) := by decide +kernel
theorem d_So_isNeverMoreThanBrought_47 : decode (am_Mof y_So_isNeverMoreThanBrought).1 47 = .ok (.goto (-38), 3) := by decide +kernel
theorem d_So_isNeverMoreThanBrought_50 : decode (am_Mof y_So_isNeverMoreThanBrought).1 50 = .ok (.iinc 1 1, 3) := by decide +kernel
theorem d_So_isNeverMoreThanBrought_53 : decode (am_Mof y_So_isNeverMoreThanBrought).1 53 = .ok (.goto (-51), 3) := by decide +kernel
theorem d_So_isNeverMoreThanBrought_56 : decode (am_Mof y_So_isNeverMoreThanBrought).1 56 = .ok (.iconst 1, 1) := by decide +kernel
theorem d_So_isNeverMoreThanBrought_57 : decode (am_Mof y_So_isNeverMoreThanBrought).1 57 = .ok (.ireturn, 1) := by decide +kernel
theorem d_So_take_0 : decode (am_Mof y_So_take).1 0 = .ok (.iconst 0, 1) := by decide +kernel
theorem d_So_take_1 : decode (am_Mof y_So_take).1 1 = .ok (.iload_n 3, 1) := by decide +kernel
theorem d_So_take_2 : decode (am_Mof y_So_take).1 2 = .ok (.iconst 2, 1) := by decide +kernel
theorem d_So_take_3 : decode (am_Mof y_So_take).1 3 = .ok (.isub, 1) := by decide +kernel
theorem d_So_take_4 : decode (am_Mof y_So_take).1 4 = .ok (.invokestatic 71, 3) := by decide +kernel
theorem d_So_take_7 : decode (am_Mof y_So_take).1 7 = .ok (.istore 6, 2) := by decide +kernel
theorem d_So_take_9 : decode (am_Mof y_So_take).1 9 = .ok (.lconst 0, 1) := by decide +kernel
theorem d_So_take_10 : decode (am_Mof y_So_take).1 10 = .ok (.lstore 7, 2) := by decide +kernel
theorem d_So_take_12 : decode (am_Mof y_So_take).1 12 = .ok (.iload 6, 2) := by decide +kernel
theorem d_So_take_14 : decode (am_Mof y_So_take).1 14 = .ok (.istore 9, 2) := by decide +kernel
theorem d_So_take_16 : decode (am_Mof y_So_take).1 16 = .ok (.iload 9, 2) := by decide +kernel
theorem d_So_take_18 : decode (am_Mof y_So_take).1 18 = .ok (.iload_n 3, 1) := by decide +kernel
theorem d_So_take_19 : decode (am_Mof y_So_take).1 19 = .ok (.if_icmp .gt 22, 3) := by decide +kernel
theorem d_So_take_22 : decode (am_Mof y_So_take).1 22 = .ok (.lload 7, 2) := by decide +kernel
theorem d_So_take_24 : decode (am_Mof y_So_take).1 24 = .ok (.aload_n 0, 1) := by decide +kernel
theorem d_So_take_25 : decode (am_Mof y_So_take).1 25 = .ok (.iload_n 1, 1) := by decide +kernel
theorem d_So_take_26 : decode (am_Mof y_So_take).1 26 = .ok (.iload_n 2, 1) := by decide +kernel
theorem d_So_take_27 : decode (am_Mof y_So_take).1 27 = .ok (.iload 9, 2) := by decide +kernel
theorem d_So_take_29 : decode (am_Mof y_So_take).1 29 = .ok (.invokevirtual 76, 3) := by decide +kernel
theorem d_So_take_32 : decode (am_Mof y_So_take).1 32 = .ok (.ladd, 1) := by decide +kernel
theorem d_So_take_33 : decode (am_Mof y_So_take).1 33 = .ok (.lstore 7, 2) := by decide +kernel
theorem d_So_take_35 : decode (am_Mof y_So_take).1 35 = .ok (.iinc 9 1, 3) := by decide +kernel
theorem d_So_take_38 : decode (am_Mof y_So_take).1 38 = .ok (.goto (-22), 3) := by decide +kernel
theorem d_So_take_41 : decode (am_Mof y_So_take).1 41 = .ok (.lload 7, 2) := by decide +kernel
theorem d_So_take_43 : decode (am_Mof y_So_take).1 43 = .ok (.lload 4, 2) := by decide +kernel
theorem d_So_take_45 : decode (am_Mof y_So_take).1 45 = .ok (.lcmp, 1) := by decide +kernel
theorem d_So_take_46 : decode (am_Mof y_So_take).1 46 = .ok (.ifCond .ge 7, 3) := by decide +kernel
theorem d_So_take_49 : decode (am_Mof y_So_take).1 49 = .ok (.ldc2_w 79, 3) := by decide +kernel
theorem d_So_take_52 : decode (am_Mof y_So_take).1 52 = .ok (.lreturn, 1) := by decide +kernel
theorem d_So_take_53 : decode (am_Mof y_So_take).1 53 = .ok (.lload 4, 2) := by decide +kernel
theorem d_So_take_55 : decode (am_Mof y_So_take).1 55 = .ok (.lstore 9, 2) := by decide +kernel
theorem d_So_take_57 : decode (am_Mof y_So_take).1 57 = .ok (.iload 6, 2) := by decide +kernel
theorem d_So_take_59 : decode (am_Mof y_So_take).1 59 = .ok (.istore 11, 2) := by decide +kernel
theorem d_So_take_61 : decode (am_Mof y_So_take).1 61 = .ok (.iload 11, 2) := by decide +kernel
theorem d_So_take_63 : decode (am_Mof y_So_take).1 63 = .ok (.iload_n 3, 1) := by decide +kernel
theorem d_So_take_64 : decode (am_Mof y_So_take).1 64 = .ok (.if_icmp .gt 48, 3) := by decide +kernel
theorem d_So_take_67 : decode (am_Mof y_So_take).1 67 = .ok (.lload 9, 2) := by decide +kernel
theorem d_So_take_69 : decode (am_Mof y_So_take).1 69 = .ok (.aload_n 0, 1) := by decide +kernel
theorem d_So_take_70 : decode (am_Mof y_So_take).1 70 = .ok (.iload_n 1, 1) := by decide +kernel
theorem d_So_take_71 : decode (am_Mof y_So_take).1 71 = .ok (.iload_n 2, 1) := by decide +kernel
theorem d_So_take_72 : decode (am_Mof y_So_take).1 72 = .ok (.iload 11, 2) := by decide +kernel
theorem d_So_take_74 : decode (am_Mof y_So_take).1 74 = .ok (.invokevirtual 76, 3) := by decide +kernel
theorem d_So_take_77 : decode (am_Mof y_So_take).1 77 = .ok (.invokestatic 81, 3) := by decide +kernel
theorem d_So_take_80 : decode (am_Mof y_So_take).1 80 = .ok (.lstore 12, 2) := by decide +kernel
theorem d_So_take_82 : decode (am_Mof y_So_take).1 82 = .ok (.aload_n 0, 1) := by decide +kernel
theorem d_So_take_83 : decode (am_Mof y_So_take).1 83 = .ok (.getfield 34, 3) := by decide +kernel
theorem d_So_take_86 : decode (am_Mof y_So_take).1 86 = .ok (.iload_n 1, 1) := by decide +kernel
theorem d_So_take_87 : decode (am_Mof y_So_take).1 87 = .ok (.iload_n 2, 1) := by decide +kernel
theorem d_So_take_88 : decode (am_Mof y_So_take).1 88 = .ok (.iload 11, 2) := by decide +kernel
theorem d_So_take_90 : decode (am_Mof y_So_take).1 90 = .ok (.invokestatic 48, 3) := by decide +kernel
theorem d_So_take_93 : decode (am_Mof y_So_take).1 93 = .ok (.dup2, 1) := by decide +kernel
theorem d_So_take_94 : decode (am_Mof y_So_take).1 94 = .ok (.laload, 1) := by decide +kernel
theorem d_So_take_95 : decode (am_Mof y_So_take).1 95 = .ok (.lload 12, 2) := by decide +kernel
theorem d_So_take_97 : decode (am_Mof y_So_take).1 97 = .ok (.lsub, 1) := by decide +kernel
theorem d_So_take_98 : decode (am_Mof y_So_take).1 98 = .ok (.lastore, 1) := by decide +kernel
theorem d_So_take_99 : decode (am_Mof y_So_take).1 99 = .ok (.lload 9, 2) := by decide +kernel
theorem d_So_take_101 : decode (am_Mof y_So_take).1 101 = .ok (.lload 12, 2) := by decide +kernel
theorem d_So_take_103 : decode (am_Mof y_So_take).1 103 = .ok (.lsub, 1) := by decide +kernel
theorem d_So_take_104 : decode (am_Mof y_So_take).1 104 = .ok (.lstore 9, 2) := by decide +kernel
theorem d_So_take_106 : decode (am_Mof y_So_take).1 106 = .ok (.iinc 11 1, 3) := by decide +kernel
theorem d_So_take_109 : decode (am_Mof y_So_take).1 109 = .ok (.goto (-48), 3) := by decide +kernel
theorem d_So_take_112 : decode (am_Mof y_So_take).1 112 = .ok (.lload 7, 2) := by decide +kernel
theorem d_So_take_114 : decode (am_Mof y_So_take).1 114 = .ok (.lload 4, 2) := by decide +kernel
theorem d_So_take_116 : decode (am_Mof y_So_take).1 116 = .ok (.lsub, 1) := by decide +kernel
theorem d_So_take_117 : decode (am_Mof y_So_take).1 117 = .ok (.lreturn, 1) := by decide +kernel
theorem d_So_stockOf_0 : decode (am_Mof y_So_stockOf).1 0 = .ok (.aload_n 0, 1) := by decide +kernel
theorem d_So_stockOf_1 : decode (am_Mof y_So_stockOf).1 1 = .ok (.getfield 34, 3) := by decide +kernel
theorem d_So_stockOf_4 : decode (am_Mof y_So_stockOf).1 4 = .ok (.iload_n 1, 1) := by decide +kernel
theorem d_So_stockOf_5 : decode (am_Mof y_So_stockOf).1 5 = .ok (.iload_n 2, 1) := by decide +kernel
theorem d_So_stockOf_6 : decode (am_Mof y_So_stockOf).1 6 = .ok (.iload_n 3, 1) := by decide +kernel
theorem d_So_stockOf_7 : decode (am_Mof y_So_stockOf).1 7 = .ok (.invokestatic 48, 3) := by decide +kernel
theorem d_So_stockOf_10 : decode (am_Mof y_So_stockOf).1 10 = .ok (.laload, 1) := by decide +kernel
theorem d_So_stockOf_11 : decode (am_Mof y_So_stockOf).1 11 = .ok (.lreturn, 1) := by decide +kernel
theorem d_So_difference_0 : decode (am_Mof y_So_difference).1 0 = .ok (.iload_n 1, 1) := by decide +kernel
theorem d_So_difference_1 : decode (am_Mof y_So_difference).1 1 = .ok (.iload_n 2, 1) := by decide +kernel
theorem d_So_difference_2 : decode (am_Mof y_So_difference).1 2 = .ok (.invokestatic 64, 3) := by decide +kernel
theorem d_So_difference_5 : decode (am_Mof y_So_difference).1 5 = .ok (.istore 5, 2) := by decide +kernel
theorem d_So_difference_7 : decode (am_Mof y_So_difference).1 7 = .ok (.aload_n 0, 1) := by decide +kernel
theorem d_So_difference_8 : decode (am_Mof y_So_difference).1 8 = .ok (.getfield 25, 3) := by decide +kernel
theorem d_So_difference_11 : decode (am_Mof y_So_difference).1 11 = .ok (.iload 5, 2) := by decide +kernel
theorem d_So_difference_13 : decode (am_Mof y_So_difference).1 13 = .ok (.bipush 10, 2) := by decide +kernel
theorem d_So_difference_15 : decode (am_Mof y_So_difference).1 15 = .ok (.imul, 1) := by decide +kernel
theorem d_So_difference_16 : decode (am_Mof y_So_difference).1 16 = .ok (.iload 4, 2) := by decide +kernel
theorem d_So_difference_18 : decode (am_Mof y_So_difference).1 18 = .ok (.iadd, 1) := by decide +kernel
theorem d_So_difference_19 : decode (am_Mof y_So_difference).1 19 = .ok (.laload, 1) := by decide +kernel
theorem d_So_difference_20 : decode (am_Mof y_So_difference).1 20 = .ok (.aload_n 0, 1) := by decide +kernel
theorem d_So_difference_21 : decode (am_Mof y_So_difference).1 21 = .ok (.getfield 25, 3) := by decide +kernel
theorem d_So_difference_24 : decode (am_Mof y_So_difference).1 24 = .ok (.iload 5, 2) := by decide +kernel
theorem d_So_difference_26 : decode (am_Mof y_So_difference).1 26 = .ok (.bipush 10, 2) := by decide +kernel
theorem d_So_difference_28 : decode (am_Mof y_So_difference).1 28 = .ok (.imul, 1) := by decide +kernel
theorem d_So_difference_29 : decode (am_Mof y_So_difference).1 29 = .ok (.iload_n 3, 1) := by decide +kernel
theorem d_So_difference_30 : decode (am_Mof y_So_difference).1 30 = .ok (.iadd, 1) := by decide +kernel
theorem d_So_difference_31 : decode (am_Mof y_So_difference).1 31 = .ok (.laload, 1) := by decide +kernel
theorem d_So_difference_32 : decode (am_Mof y_So_difference).1 32 = .ok (.lsub, 1) := by decide +kernel
theorem d_So_difference_33 : decode (am_Mof y_So_difference).1 33 = .ok (.lstore 6, 2) := by decide +kernel
theorem d_So_difference_35 : decode (am_Mof y_So_difference).1 35 = .ok (.lload 6, 2) := by decide +kernel
theorem d_So_difference_37 : decode (am_Mof y_So_difference).1 37 = .ok (.aload_n 0, 1) := by decide +kernel
theorem d_So_difference_38 : decode (am_Mof y_So_difference).1 38 = .ok (.getfield 22, 3) := by decide +kernel
theorem d_So_difference_41 : decode (am_Mof y_So_difference).1 41 = .ok (.iload 5, 2) := by decide +kernel
theorem d_So_difference_43 : decode (am_Mof y_So_difference).1 43 = .ok (.laload, 1) := by decide +kernel
theorem d_So_difference_44 : decode (am_Mof y_So_difference).1 44 = .ok (.lmul, 1) := by decide +kernel
theorem d_So_difference_45 : decode (am_Mof y_So_difference).1 45 = .ok (.lreturn, 1) := by decide +kernel
theorem d_So_wholeGrams_0 : decode (am_Mof y_So_wholeGrams).1 0 = .ok (.aload_n 0, 1) := by decide +kernel
theorem d_So_wholeGrams_1 : decode (am_Mof y_So_wholeGrams).1 1 = .ok (.aload_n 0, 1) := by decide +kernel
theorem d_So_wholeGrams_2 : decode (am_Mof y_So_wholeGrams).1 2 = .ok (.iload_n 1, 1) := by decide +kernel
theorem d_So_wholeGrams_3 : decode (am_Mof y_So_wholeGrams).1 3 = .ok (.iload_n 2, 1) := by decide +kernel
theorem d_So_wholeGrams_4 : decode (am_Mof y_So_wholeGrams).1 4 = .ok (.invokevirtual 56, 3) := by decide +kernel
theorem d_So_wholeGrams_7 : decode (am_Mof y_So_wholeGrams).1 7 = .ok (.iload_n 1, 1) := by decide +kernel
theorem d_So_wholeGrams_8 : decode (am_Mof y_So_wholeGrams).1 8 = .ok (.invokevirtual 60, 3) := by decide +kernel
theorem d_So_wholeGrams_11 : decode (am_Mof y_So_wholeGrams).1 11 = .ok (.lreturn, 1) := by decide +kernel
theorem d_Te_init_0 : decode (am_Mof y_Te_init).1 0 = .ok (.aload_n 0, 1) := by decide +kernel
theorem d_Te_init_1 : decode (am_Mof y_Te_init).1 1 = .ok (.invokespecial 3, 3) := by decide +kernel
theorem d_Te_init_4 : decode (am_Mof y_Te_init).1 4 = .ok (.aload_n 0, 1) := by decide +kernel
theorem d_Te_init_5 : decode (am_Mof y_Te_init).1 5 = .ok (.sipush 200, 3) := by decide +kernel
theorem d_Te_init_8 : decode (am_Mof y_Te_init).1 8 = .ok (.newarray .int, 2) := by decide +kernel
theorem d_Te_init_10 : decode (am_Mof y_Te_init).1 10 = .ok (.putfield 9, 3) := by decide +kernel
theorem d_Te_init_13 : decode (am_Mof y_Te_init).1 13 = .ok (.aload_n 0, 1) := by decide +kernel
theorem d_Te_init_14 : decode (am_Mof y_Te_init).1 14 = .ok (.iconst 0, 1) := by decide +kernel
theorem d_Te_init_15 : decode (am_Mof y_Te_init).1 15 = .ok (.putfield 15, 3) := by decide +kernel
theorem d_Te_init_18 : decode (am_Mof y_Te_init).1 18 = .ok (.return_, 1) := by decide +kernel
theorem d_Te_add_0 : decode (am_Mof y_Te_add).1 0 = .ok (.aload_n 0, 1) := by decide +kernel
theorem d_Te_add_1 : decode (am_Mof y_Te_add).1 1 = .ok (.getfield 15, 3) := by decide +kernel
theorem d_Te_add_4 : decode (am_Mof y_Te_add).1 4 = .ok (.sipush 200, 3) := by decide +kernel
theorem d_Te_add_7 : decode (am_Mof y_Te_add).1 7 = .ok (.if_icmp .lt 5, 3) := by decide +kernel
theorem d_Te_add_10 : decode (am_Mof y_Te_add).1 10 = .ok (.iconst 0, 1) := by decide +kernel
theorem d_Te_add_11 : decode (am_Mof y_Te_add).1 11 = .ok (.ireturn, 1) := by decide +kernel
theorem d_Te_add_12 : decode (am_Mof y_Te_add).1 12 = .ok (.aload_n 0, 1) := by decide +kernel
theorem d_Te_add_13 : decode (am_Mof y_Te_add).1 13 = .ok (.getfield 9, 3) := by decide +kernel
theorem d_Te_add_16 : decode (am_Mof y_Te_add).1 16 = .ok (.aload_n 0, 1) := by decide +kernel
theorem d_Te_add_17 : decode (am_Mof y_Te_add).1 17 = .ok (.getfield 15, 3) := by decide +kernel
theorem d_Te_add_20 : decode (am_Mof y_Te_add).1 20 = .ok (.iload_n 1, 1) := by decide +kernel
theorem d_Te_add_21 : decode (am_Mof y_Te_add).1 21 = .ok (.iastore, 1) := by decide +kernel
theorem d_Te_add_22 : decode (am_Mof y_Te_add).1 22 = .ok (.aload_n 0, 1) := by decide +kernel
theorem d_Te_add_23 : decode (am_Mof y_Te_add).1 23 = .ok (.dup, 1) := by decide +kernel
theorem d_Te_add_24 : decode (am_Mof y_Te_add).1 24 = .ok (.getfield 15, 3) := by decide +kernel
theorem d_Te_add_27 : decode (am_Mof y_Te_add).1 27 = .ok (.iconst 1, 1) := by decide +kernel
theorem d_Te_add_28 : decode (am_Mof y_Te_add).1 28 = .ok (.iadd, 1) := by decide +kernel
theorem d_Te_add_29 : decode (am_Mof y_Te_add).1 29 = .ok (.putfield 15, 3) := by decide +kernel
theorem d_Te_add_32 : decode (am_Mof y_Te_add).1 32 = .ok (.iconst 1, 1) := by decide +kernel
theorem d_Te_add_33 : decode (am_Mof y_Te_add).1 33 = .ok (.ireturn, 1) := by decide +kernel
theorem d_Te_filledAt_0 : decode (am_Mof y_Te_filledAt).1 0 = .ok (.iload_n 1, 1) := by decide +kernel
theorem d_Te_filledAt_1 : decode (am_Mof y_Te_filledAt).1 1 = .ok (.istore_n 3, 1) := by decide +kernel
theorem d_Te_filledAt_2 : decode (am_Mof y_Te_filledAt).1 2 = .ok (.iconst 0, 1) := by decide +kernel
theorem d_Te_filledAt_3 : decode (am_Mof y_Te_filledAt).1 3 = .ok (.istore 4, 2) := by decide +kernel
theorem d_Te_filledAt_5 : decode (am_Mof y_Te_filledAt).1 5 = .ok (.iload 4, 2) := by decide +kernel
theorem d_Te_filledAt_7 : decode (am_Mof y_Te_filledAt).1 7 = .ok (.aload_n 0, 1) := by decide +kernel
theorem d_Te_filledAt_8 : decode (am_Mof y_Te_filledAt).1 8 = .ok (.getfield 15, 3) := by decide +kernel
theorem d_Te_filledAt_11 : decode (am_Mof y_Te_filledAt).1 11 = .ok (.if_icmp .ge 87, 3) := by decide +kernel
theorem d_Te_filledAt_14 : decode (am_Mof y_Te_filledAt).1 14 = .ok (.aload_n 0, 1) := by decide +kernel
theorem d_Te_filledAt_15 : decode (am_Mof y_Te_filledAt).1 15 = .ok (.iload 4, 2) := by decide +kernel
theorem d_Te_filledAt_17 : decode (am_Mof y_Te_filledAt).1 17 = .ok (.invokevirtual 19, 3) := by decide +kernel
theorem d_Te_filledAt_20 : decode (am_Mof y_Te_filledAt).1 20 = .ok (.istore 5, 2) := by decide +kernel
theorem d_Te_filledAt_22 : decode (am_Mof y_Te_filledAt).1 22 = .ok (.iload 5, 2) := by decide +kernel
theorem d_Te_filledAt_24 : decode (am_Mof y_Te_filledAt).1 24 = .ok (.ifCond .eq 13, 3) := by decide +kernel
theorem d_Te_filledAt_27 : decode (am_Mof y_Te_filledAt).1 27 = .ok (.aload_n 0, 1) := by decide +kernel
theorem d_Te_filledAt_28 : decode (am_Mof y_Te_filledAt).1 28 = .ok (.iload 4, 2) := by decide +kernel
theorem d_Te_filledAt_30 : decode (am_Mof y_Te_filledAt).1 30 = .ok (.aload_n 2, 1) := by decide +kernel
theorem d_Te_filledAt_31 : decode (am_Mof y_Te_filledAt).1 31 = .ok (.invokevirtual 23, 3) := by decide +kernel
theorem d_Te_filledAt_34 : decode (am_Mof y_Te_filledAt).1 34 = .ok (.goto 4, 3) := by decide +kernel
theorem d_Te_filledAt_37 : decode (am_Mof y_Te_filledAt).1 37 = .ok (.iconst 1, 1) := by decide +kernel
theorem d_Te_filledAt_38 : decode (am_Mof y_Te_filledAt).1 38 = .ok (.istore 6, 2) := by decide +kernel
theorem d_Te_filledAt_40 : decode (am_Mof y_Te_filledAt).1 40 = .ok (.iload_n 3, 1) := by decide +kernel
theorem d_Te_filledAt_41 : decode (am_Mof y_Te_filledAt).1 41 = .ok (.iload 6, 2) := by decide +kernel
theorem d_Te_filledAt_43 : decode (am_Mof y_Te_filledAt).1 43 = .ok (.if_icmp .ge 32, 3) := by decide +kernel
theorem d_Te_filledAt_46 : decode (am_Mof y_Te_filledAt).1 46 = .ok (.iload 5, 2) := by decide +kernel
theorem d_Te_filledAt_48 : decode (am_Mof y_Te_filledAt).1 48 = .ok (.ifCond .eq 19, 3) := by decide +kernel
theorem d_Te_filledAt_51 : decode (am_Mof y_Te_filledAt).1 51 = .ok (.aload_n 0, 1) := by decide +kernel
theorem d_Te_filledAt_52 : decode (am_Mof y_Te_filledAt).1 52 = .ok (.iload 4, 2) := by decide +kernel
theorem d_Te_filledAt_54 : decode (am_Mof y_Te_filledAt).1 54 = .ok (.iload 6, 2) := by decide +kernel
theorem d_Te_filledAt_56 : decode (am_Mof y_Te_filledAt).1 56 = .ok (.iconst 1, 1) := by decide +kernel
theorem d_Te_filledAt_57 : decode (am_Mof y_Te_filledAt).1 57 = .ok (.isub, 1) := by decide +kernel
theorem d_Te_filledAt_58 : decode (am_Mof y_Te_filledAt).1 58 = .ok (.iload_n 3, 1) := by decide +kernel
theorem d_Te_filledAt_59 : decode (am_Mof y_Te_filledAt).1 59 = .ok (.isub, 1) := by decide +kernel
theorem d_Te_filledAt_60 : decode (am_Mof y_Te_filledAt).1 60 = .ok (.aload_n 2, 1) := by decide +kernel
theorem d_Te_filledAt_61 : decode (am_Mof y_Te_filledAt).1 61 = .ok (.invokevirtual 27, 3) := by decide +kernel
theorem d_Te_filledAt_64 : decode (am_Mof y_Te_filledAt).1 64 = .ok (.goto 10, 3) := by decide +kernel
theorem d_Te_filledAt_67 : decode (am_Mof y_Te_filledAt).1 67 = .ok (.aload_n 0, 1) := by decide +kernel
theorem d_Te_filledAt_68 : decode (am_Mof y_Te_filledAt).1 68 = .ok (.getfield 9, 3) := by decide +kernel
theorem d_Te_filledAt_71 : decode (am_Mof y_Te_filledAt).1 71 = .ok (.iload 4, 2) := by decide +kernel
theorem d_Te_filledAt_73 : decode (am_Mof y_Te_filledAt).1 73 = .ok (.iaload, 1) := by decide +kernel
theorem d_Te_filledAt_74 : decode (am_Mof y_Te_filledAt).1 74 = .ok (.ireturn, 1) := by decide +kernel
theorem d_Te_filledAt_75 : decode (am_Mof y_Te_filledAt).1 75 = .ok (.iload_n 3, 1) := by decide +kernel
theorem d_Te_filledAt_76 : decode (am_Mof y_Te_filledAt).1 76 = .ok (.iload 6, 2) := by decide +kernel
theorem d_Te_filledAt_78 : decode (am_Mof y_Te_filledAt).1 78 = .ok (.isub, 1) := by decide +kernel
theorem d_Te_filledAt_79 : decode (am_Mof y_Te_filledAt).1 79 = .ok (.istore_n 3, 1) := by decide +kernel
theorem d_Te_filledAt_80 : decode (am_Mof y_Te_filledAt).1 80 = .ok (.iload 4, 2) := by decide +kernel
theorem d_Te_filledAt_82 : decode (am_Mof y_Te_filledAt).1 82 = .ok (.iload 5, 2) := by decide +kernel
theorem d_Te_filledAt_84 : decode (am_Mof y_Te_filledAt).1 84 = .ok (.ifCond .eq 7, 3) := by decide +kernel
theorem d_Te_filledAt_87 : decode (am_Mof y_Te_filledAt).1 87 = .ok (.iconst 3, 1) := by decide +kernel
theorem d_Te_filledAt_88 : decode (am_Mof y_Te_filledAt).1 88 = .ok (.goto 4, 3) := by decide +kernel
theorem d_Te_filledAt_91 : decode (am_Mof y_Te_filledAt).1 91 = .ok (.iconst 1, 1) := by decide +kernel
theorem d_Te_filledAt_92 : decode (am_Mof y_Te_filledAt).1 92 = .ok (.iadd, 1) := by decide +kernel
theorem d_Te_filledAt_93 : decode (am_Mof y_Te_filledAt).1 93 = .ok (.istore 4, 2) := by decide +kernel
theorem d_Te_filledAt_95 : decode (am_Mof y_Te_filledAt).1 95 = .ok (.goto (-90), 3) := by decide +kernel
theorem d_Te_filledAt_98 : decode (am_Mof y_Te_filledAt).1 98 = .ok (.iconst (-1), 1) := by decide +kernel
theorem d_Te_filledAt_99 : decode (am_Mof y_Te_filledAt).1 99 = .ok (.ireturn, 1) := by decide +kernel
theorem d_Te_isMark_0 : decode (am_Mof y_Te_isMark).1 0 = .ok (.iload_n 1, 1) := by decide +kernel
theorem d_Te_isMark_1 : decode (am_Mof y_Te_isMark).1 1 = .ok (.iconst 2, 1) := by decide +kernel
theorem d_Te_isMark_2 : decode (am_Mof y_Te_isMark).1 2 = .ok (.iadd, 1) := by decide +kernel
theorem d_Te_isMark_3 : decode (am_Mof y_Te_isMark).1 3 = .ok (.aload_n 0, 1) := by decide +kernel
theorem d_Te_isMark_4 : decode (am_Mof y_Te_isMark).1 4 = .ok (.getfield 15, 3) := by decide +kernel
theorem d_Te_isMark_7 : decode (am_Mof y_Te_isMark).1 7 = .ok (.if_icmp .ge 52, 3) := by decide +kernel
theorem d_Te_isMark_10 : decode (am_Mof y_Te_isMark).1 10 = .ok (.aload_n 0, 1) := by decide +kernel
theorem d_Te_isMark_11 : decode (am_Mof y_Te_isMark).1 11 = .ok (.getfield 9, 3) := by decide +kernel
theorem d_Te_isMark_14 : decode (am_Mof y_Te_isMark).1 14 = .ok (.iload_n 1, 1) := by decide +kernel
theorem d_Te_isMark_15 : decode (am_Mof y_Te_isMark).1 15 = .ok (.iaload, 1) := by decide +kernel
theorem d_Te_isMark_16 : decode (am_Mof y_Te_isMark).1 16 = .ok (.bipush 35, 2) := by decide +kernel
theorem d_Te_isMark_18 : decode (am_Mof y_Te_isMark).1 18 = .ok (.if_icmp .ne 41, 3) := by decide +kernel
theorem d_Te_isMark_21 : decode (am_Mof y_Te_isMark).1 21 = .ok (.aload_n 0, 1) := by decide +kernel
theorem d_Te_isMark_22 : decode (am_Mof y_Te_isMark).1 22 = .ok (.getfield 9, 3) := by decide +kernel
theorem d_Te_isMark_25 : decode (am_Mof y_Te_isMark).1 25 = .ok (.iload_n 1, 1) := by decide +kernel
theorem d_Te_isMark_26 : decode (am_Mof y_Te_isMark).1 26 = .ok (.iconst 1, 1) := by decide +kernel
theorem d_Te_isMark_27 : decode (am_Mof y_Te_isMark).1 27 = .ok (.iadd, 1) := by decide +kernel
theorem d_Te_isMark_28 : decode (am_Mof y_Te_isMark).1 28 = .ok (.iaload, 1) := by decide +kernel
theorem d_Te_isMark_29 : decode (am_Mof y_Te_isMark).1 29 = .ok (.bipush 48, 2) := by decide +kernel
theorem d_Te_isMark_31 : decode (am_Mof y_Te_isMark).1 31 = .ok (.isub, 1) := by decide +kernel
theorem d_Te_isMark_32 : decode (am_Mof y_Te_isMark).1 32 = .ok (.invokestatic 31, 3) := by decide +kernel
theorem d_Te_isMark_35 : decode (am_Mof y_Te_isMark).1 35 = .ok (.ifCond .eq 24, 3) := by decide +kernel
theorem d_Te_isMark_38 : decode (am_Mof y_Te_isMark).1 38 = .ok (.aload_n 0, 1) := by decide +kernel
theorem d_Te_isMark_39 : decode (am_Mof y_Te_isMark).1 39 = .ok (.getfield 9, 3) := by decide +kernel
theorem d_Te_isMark_42 : decode (am_Mof y_Te_isMark).1 42 = .ok (.iload_n 1, 1) := by decide +kernel
theorem d_Te_isMark_43 : decode (am_Mof y_Te_isMark).1 43 = .ok (.iconst 2, 1) := by decide +kernel
theorem d_Te_isMark_44 : decode (am_Mof y_Te_isMark).1 44 = .ok (.iadd, 1) := by decide +kernel
theorem d_Te_isMark_45 : decode (am_Mof y_Te_isMark).1 45 = .ok (.iaload, 1) := by decide +kernel
theorem d_Te_isMark_46 : decode (am_Mof y_Te_isMark).1 46 = .ok (.bipush 48, 2) := by decide +kernel
theorem d_Te_isMark_48 : decode (am_Mof y_Te_isMark).1 48 = .ok (.isub, 1) := by decide +kernel
theorem d_Te_isMark_49 : decode (am_Mof y_Te_isMark).1 49 = .ok (.invokestatic 34, 3) := by decide +kernel
theorem d_Te_isMark_52 : decode (am_Mof y_Te_isMark).1 52 = .ok (.ifCond .eq 7, 3) := by decide +kernel
theorem d_Te_isMark_55 : decode (am_Mof y_Te_isMark).1 55 = .ok (.iconst 1, 1) := by decide +kernel
theorem d_Te_isMark_56 : decode (am_Mof y_Te_isMark).1 56 = .ok (.goto 4, 3) := by decide +kernel
theorem d_Te_isMark_59 : decode (am_Mof y_Te_isMark).1 59 = .ok (.iconst 0, 1) := by decide +kernel
theorem d_Te_isMark_60 : decode (am_Mof y_Te_isMark).1 60 = .ok (.ireturn, 1) := by decide +kernel
theorem d_Te_widthOf_0 : decode (am_Mof y_Te_widthOf).1 0 = .ok (.aload_n 2, 1) := by decide +kernel
theorem d_Te_widthOf_1 : decode (am_Mof y_Te_widthOf).1 1 = .ok (.invokevirtual 43, 3) := by decide +kernel
theorem d_Te_widthOf_4 : decode (am_Mof y_Te_widthOf).1 4 = .ok (.ifCond .ne 5, 3) := by decide +kernel
theorem d_Te_widthOf_7 : decode (am_Mof y_Te_widthOf).1 7 = .ok (.iconst 1, 1) := by decide +kernel
theorem d_Te_widthOf_8 : decode (am_Mof y_Te_widthOf).1 8 = .ok (.ireturn, 1) := by decide +kernel
theorem d_Te_widthOf_9 : decode (am_Mof y_Te_widthOf).1 9 = .ok (.aload_n 0, 1) := by decide +kernel
theorem d_Te_widthOf_10 : decode (am_Mof y_Te_widthOf).1 10 = .ok (.iload_n 1, 1) := by decide +kernel
theorem d_Te_widthOf_11 : decode (am_Mof y_Te_widthOf).1 11 = .ok (.aload_n 2, 1) := by decide +kernel
theorem d_Te_widthOf_12 : decode (am_Mof y_Te_widthOf).1 12 = .ok (.invokevirtual 47, 3) := by decide +kernel
theorem d_Te_widthOf_15 : decode (am_Mof y_Te_widthOf).1 15 = .ok (.lstore_n 3, 1) := by decide +kernel
theorem d_Te_widthOf_16 : decode (am_Mof y_Te_widthOf).1 16 = .ok (.iconst 1, 1) := by decide +kernel
theorem d_Te_widthOf_17 : decode (am_Mof y_Te_widthOf).1 17 = .ok (.istore 5, 2) := by decide +kernel
theorem d_Te_widthOf_19 : decode (am_Mof y_Te_widthOf).1 19 = .ok (.lload_n 3, 1) := by decide +kernel
theorem d_Te_widthOf_20 : decode (am_Mof y_Te_widthOf).1 20 = .ok (.ldc2_w 51, 3) := by decide +kernel
theorem d_Te_widthOf_23 : decode (am_Mof y_Te_widthOf).1 23 = .ok (.lcmp, 1) := by decide +kernel
theorem d_Te_widthOf_24 : decode (am_Mof y_Te_widthOf).1 24 = .ok (.ifCond .lt 22, 3) := by decide +kernel
theorem d_Te_widthOf_27 : decode (am_Mof y_Te_widthOf).1 27 = .ok (.iload 5, 2) := by decide +kernel
theorem d_Te_widthOf_29 : decode (am_Mof y_Te_widthOf).1 29 = .ok (.bipush 19, 2) := by decide +kernel
theorem d_Te_widthOf_31 : decode (am_Mof y_Te_widthOf).1 31 = .ok (.if_icmp .ge 15, 3) := by decide +kernel
theorem d_Te_widthOf_34 : decode (am_Mof y_Te_widthOf).1 34 = .ok (.lload_n 3, 1) := by decide +kernel
theorem d_Te_widthOf_35 : decode (am_Mof y_Te_widthOf).1 35 = .ok (.ldc2_w 51, 3) := by decide +kernel
theorem d_Te_widthOf_38 : decode (am_Mof y_Te_widthOf).1 38 = .ok (.ldiv, 1) := by decide +kernel
theorem d_Te_widthOf_39 : decode (am_Mof y_Te_widthOf).1 39 = .ok (.lstore_n 3, 1) := by decide +kernel
theorem d_Te_widthOf_40 : decode (am_Mof y_Te_widthOf).1 40 = .ok (.iinc 5 1, 3) := by decide +kernel
theorem d_Te_widthOf_43 : decode (am_Mof y_Te_widthOf).1 43 = .ok (.goto (-24), 3) := by decide +kernel
theorem d_Te_widthOf_46 : decode (am_Mof y_Te_widthOf).1 46 = .ok (.iload 5, 2) := by decide +kernel
theorem d_Te_widthOf_48 : decode (am_Mof y_Te_widthOf).1 48 = .ok (.ireturn, 1) := by decide +kernel
theorem d_Te_numberOf_0 : decode (am_Mof y_Te_numberOf).1 0 = .ok (.aload_n 2, 1) := by decide +kernel
theorem d_Te_numberOf_1 : decode (am_Mof y_Te_numberOf).1 1 = .ok (.aload_n 0, 1) := by decide +kernel
theorem d_Te_numberOf_2 : decode (am_Mof y_Te_numberOf).1 2 = .ok (.getfield 9, 3) := by decide +kernel
theorem d_Te_numberOf_5 : decode (am_Mof y_Te_numberOf).1 5 = .ok (.iload_n 1, 1) := by decide +kernel
theorem d_Te_numberOf_6 : decode (am_Mof y_Te_numberOf).1 6 = .ok (.iconst 1, 1) := by decide +kernel
theorem d_Te_numberOf_7 : decode (am_Mof y_Te_numberOf).1 7 = .ok (.iadd, 1) := by decide +kernel
theorem d_Te_numberOf_8 : decode (am_Mof y_Te_numberOf).1 8 = .ok (.iaload, 1) := by decide +kernel
theorem d_Te_numberOf_9 : decode (am_Mof y_Te_numberOf).1 9 = .ok (.bipush 48, 2) := by decide +kernel
theorem d_Te_numberOf_11 : decode (am_Mof y_Te_numberOf).1 11 = .ok (.isub, 1) := by decide +kernel
theorem d_Te_numberOf_12 : decode (am_Mof y_Te_numberOf).1 12 = .ok (.aload_n 0, 1) := by decide +kernel
theorem d_Te_numberOf_13 : decode (am_Mof y_Te_numberOf).1 13 = .ok (.getfield 9, 3) := by decide +kernel
theorem d_Te_numberOf_16 : decode (am_Mof y_Te_numberOf).1 16 = .ok (.iload_n 1, 1) := by decide +kernel
theorem d_Te_numberOf_17 : decode (am_Mof y_Te_numberOf).1 17 = .ok (.iconst 2, 1) := by decide +kernel
theorem d_Te_numberOf_18 : decode (am_Mof y_Te_numberOf).1 18 = .ok (.iadd, 1) := by decide +kernel
theorem d_Te_numberOf_19 : decode (am_Mof y_Te_numberOf).1 19 = .ok (.iaload, 1) := by decide +kernel
theorem d_Te_numberOf_20 : decode (am_Mof y_Te_numberOf).1 20 = .ok (.bipush 48, 2) := by decide +kernel
theorem d_Te_numberOf_22 : decode (am_Mof y_Te_numberOf).1 22 = .ok (.isub, 1) := by decide +kernel
theorem d_Te_numberOf_23 : decode (am_Mof y_Te_numberOf).1 23 = .ok (.invokevirtual 37, 3) := by decide +kernel
theorem d_Te_numberOf_26 : decode (am_Mof y_Te_numberOf).1 26 = .ok (.lreturn, 1) := by decide +kernel
theorem d_Te_numberByte_0 : decode (am_Mof y_Te_numberByte).1 0 = .ok (.aload_n 3, 1) := by decide +kernel
theorem d_Te_numberByte_1 : decode (am_Mof y_Te_numberByte).1 1 = .ok (.invokevirtual 43, 3) := by decide +kernel
theorem d_Te_numberByte_4 : decode (am_Mof y_Te_numberByte).1 4 = .ok (.ifCond .ne 6, 3) := by decide +kernel
theorem d_Te_numberByte_7 : decode (am_Mof y_Te_numberByte).1 7 = .ok (.bipush 45, 2) := by decide +kernel
theorem d_Te_numberByte_9 : decode (am_Mof y_Te_numberByte).1 9 = .ok (.ireturn, 1) := by decide +kernel
theorem d_Te_numberByte_10 : decode (am_Mof y_Te_numberByte).1 10 = .ok (.aload_n 0, 1) := by decide +kernel
theorem d_Te_numberByte_11 : decode (am_Mof y_Te_numberByte).1 11 = .ok (.iload_n 1, 1) := by decide +kernel
theorem d_Te_numberByte_12 : decode (am_Mof y_Te_numberByte).1 12 = .ok (.aload_n 3, 1) := by decide +kernel
theorem d_Te_numberByte_13 : decode (am_Mof y_Te_numberByte).1 13 = .ok (.invokevirtual 47, 3) := by decide +kernel
theorem d_Te_numberByte_16 : decode (am_Mof y_Te_numberByte).1 16 = .ok (.lstore 4, 2) := by decide +kernel
theorem d_Te_numberByte_18 : decode (am_Mof y_Te_numberByte).1 18 = .ok (.iconst 0, 1) := by decide +kernel
theorem d_Te_numberByte_19 : decode (am_Mof y_Te_numberByte).1 19 = .ok (.istore 6, 2) := by decide +kernel
theorem d_Te_numberByte_21 : decode (am_Mof y_Te_numberByte).1 21 = .ok (.iload 6, 2) := by decide +kernel
theorem d_Te_numberByte_23 : decode (am_Mof y_Te_numberByte).1 23 = .ok (.iload_n 2, 1) := by decide +kernel
theorem d_Te_numberByte_24 : decode (am_Mof y_Te_numberByte).1 24 = .ok (.if_icmp .ge 17, 3) := by decide +kernel
theorem d_Te_numberByte_27 : decode (am_Mof y_Te_numberByte).1 27 = .ok (.lload 4, 2) := by decide +kernel
theorem d_Te_numberByte_29 : decode (am_Mof y_Te_numberByte).1 29 = .ok (.ldc2_w 51, 3) := by decide +kernel
theorem d_Te_numberByte_32 : decode (am_Mof y_Te_numberByte).1 32 = .ok (.ldiv, 1) := by decide +kernel
theorem d_Te_numberByte_33 : decode (am_Mof y_Te_numberByte).1 33 = .ok (.lstore 4, 2) := by decide +kernel
theorem d_Te_numberByte_35 : decode (am_Mof y_Te_numberByte).1 35 = .ok (.iinc 6 1, 3) := by decide +kernel
theorem d_Te_numberByte_38 : decode (am_Mof y_Te_numberByte).1 38 = .ok (.goto (-17), 3) := by decide +kernel
theorem d_Te_numberByte_41 : decode (am_Mof y_Te_numberByte).1 41 = .ok (.bipush 48, 2) := by decide +kernel
theorem d_Te_numberByte_43 : decode (am_Mof y_Te_numberByte).1 43 = .ok (.lload 4, 2) := by decide +kernel
theorem d_Te_numberByte_45 : decode (am_Mof y_Te_numberByte).1 45 = .ok (.ldc2_w 51, 3) := by decide +kernel
theorem d_Te_numberByte_48 : decode (am_Mof y_Te_numberByte).1 48 = .ok (.lrem, 1) := by decide +kernel
theorem d_Te_numberByte_49 : decode (am_Mof y_Te_numberByte).1 49 = .ok (.l2i, 1) := by decide +kernel
theorem d_Te_numberByte_50 : decode (am_Mof y_Te_numberByte).1 50 = .ok (.iadd, 1) := by decide +kernel
theorem d_Te_numberByte_51 : decode (am_Mof y_Te_numberByte).1 51 = .ok (.ireturn, 1) := by decide +kernel
theorem d_Wo_init_0 : decode (am_Mof y_Wo_init).1 0 = .ok (.aload_n 0, 1) := by decide +kernel
theorem d_Wo_init_1 : decode (am_Mof y_Wo_init).1 1 = .ok (.invokespecial 3, 3) := by decide +kernel
theorem d_Wo_init_4 : decode (am_Mof y_Wo_init).1 4 = .ok (.aload_n 0, 1) := by decide +kernel
theorem d_Wo_init_5 : decode (am_Mof y_Wo_init).1 5 = .ok (.iconst 5, 1) := by decide +kernel
theorem d_Wo_init_6 : decode (am_Mof y_Wo_init).1 6 = .ok (.bipush 6, 2) := by decide +kernel
theorem d_Wo_init_8 : decode (am_Mof y_Wo_init).1 8 = .ok (.multianewarray 9 2, 4) := by decide +kernel
theorem d_Wo_init_12 : decode (am_Mof y_Wo_init).1 12 = .ok (.putfield 11, 3) := by decide +kernel
theorem d_Wo_init_15 : decode (am_Mof y_Wo_init).1 15 = .ok (.return_, 1) := by decide +kernel
theorem d_Wo_find_0 : decode (am_Mof y_Wo_find).1 0 = .ok (.aload_n 0, 1) := by decide +kernel
theorem d_Wo_find_1 : decode (am_Mof y_Wo_find).1 1 = .ok (.aload_n 1, 1) := by decide +kernel
theorem d_Wo_find_2 : decode (am_Mof y_Wo_find).1 2 = .ok (.iload_n 2, 1) := by decide +kernel
theorem d_Wo_find_3 : decode (am_Mof y_Wo_find).1 3 = .ok (.invokevirtual 16, 3) := by decide +kernel
theorem d_Wo_find_6 : decode (am_Mof y_Wo_find).1 6 = .ok (.lconst 1, 1) := by decide +kernel
theorem d_Wo_find_7 : decode (am_Mof y_Wo_find).1 7 = .ok (.lstore_n 3, 1) := by decide +kernel
theorem d_Wo_find_8 : decode (am_Mof y_Wo_find).1 8 = .ok (.iconst 0, 1) := by decide +kernel
theorem d_Wo_find_9 : decode (am_Mof y_Wo_find).1 9 = .ok (.istore 5, 2) := by decide +kernel
theorem d_Wo_find_11 : decode (am_Mof y_Wo_find).1 11 = .ok (.iload 5, 2) := by decide +kernel
theorem d_Wo_find_13 : decode (am_Mof y_Wo_find).1 13 = .ok (.iconst 5, 1) := by decide +kernel
theorem d_Wo_find_14 : decode (am_Mof y_Wo_find).1 14 = .ok (.if_icmp .ge 40, 3) := by decide +kernel
theorem d_Wo_find_17 : decode (am_Mof y_Wo_find).1 17 = .ok (.aload_n 0, 1) := by decide +kernel
theorem d_Wo_find_18 : decode (am_Mof y_Wo_find).1 18 = .ok (.getfield 11, 3) := by decide +kernel
theorem d_Wo_find_21 : decode (am_Mof y_Wo_find).1 21 = .ok (.iload 5, 2) := by decide +kernel
theorem d_Wo_find_23 : decode (am_Mof y_Wo_find).1 23 = .ok (.aaload, 1) := by decide +kernel
theorem d_Wo_find_24 : decode (am_Mof y_Wo_find).1 24 = .ok (.iload 5, 2) := by decide +kernel
theorem d_Wo_find_26 : decode (am_Mof y_Wo_find).1 26 = .ok (.laload, 1) := by decide +kernel
theorem d_Wo_find_27 : decode (am_Mof y_Wo_find).1 27 = .ok (.lstore 6, 2) := by decide +kernel
theorem d_Wo_find_29 : decode (am_Mof y_Wo_find).1 29 = .ok (.lload 6, 2) := by decide +kernel
theorem d_Wo_find_31 : decode (am_Mof y_Wo_find).1 31 = .ok (.lconst 0, 1) := by decide +kernel
theorem d_Wo_find_32 : decode (am_Mof y_Wo_find).1 32 = .ok (.lcmp, 1) := by decide +kernel
theorem d_Wo_find_33 : decode (am_Mof y_Wo_find).1 33 = .ok (.ifCond .ne 5, 3) := by decide +kernel
theorem d_Wo_find_36 : decode (am_Mof y_Wo_find).1 36 = .ok (.lconst 0, 1) := by decide +kernel
theorem d_Wo_find_37 : decode (am_Mof y_Wo_find).1 37 = .ok (.lreturn, 1) := by decide +kernel
theorem d_Wo_find_38 : decode (am_Mof y_Wo_find).1 38 = .ok (.aload_n 0, 1) := by decide +kernel
theorem d_Wo_find_39 : decode (am_Mof y_Wo_find).1 39 = .ok (.iload 5, 2) := by decide +kernel
theorem d_Wo_find_41 : decode (am_Mof y_Wo_find).1 41 = .ok (.lload_n 3, 1) := by decide +kernel
theorem d_Wo_find_42 : decode (am_Mof y_Wo_find).1 42 = .ok (.invokevirtual 20, 3) := by decide +kernel
theorem d_Wo_find_45 : decode (am_Mof y_Wo_find).1 45 = .ok (.lload 6, 2) := by decide +kernel
theorem d_Wo_find_47 : decode (am_Mof y_Wo_find).1 47 = .ok (.lstore_n 3, 1) := by decide +kernel
theorem d_Wo_find_48 : decode (am_Mof y_Wo_find).1 48 = .ok (.iinc 5 1, 3) := by decide +kernel
theorem d_Wo_find_51 : decode (am_Mof y_Wo_find).1 51 = .ok (.goto (-40), 3) := by decide +kernel
theorem d_Wo_find_54 : decode (am_Mof y_Wo_find).1 54 = .ok (.lload_n 3, 1) := by decide +kernel
theorem d_Wo_find_55 : decode (am_Mof y_Wo_find).1 55 = .ok (.lreturn, 1) := by decide +kernel
theorem d_Wo_fill_0 : decode (am_Mof y_Wo_fill).1 0 = .ok (.iconst 0, 1) := by decide +kernel
theorem d_Wo_fill_1 : decode (am_Mof y_Wo_fill).1 1 = .ok (.istore_n 3, 1) := by decide +kernel
theorem d_Wo_fill_2 : decode (am_Mof y_Wo_fill).1 2 = .ok (.iload_n 3, 1) := by decide +kernel
theorem d_Wo_fill_3 : decode (am_Mof y_Wo_fill).1 3 = .ok (.iconst 5, 1) := by decide +kernel
theorem d_Wo_fill_4 : decode (am_Mof y_Wo_fill).1 4 = .ok (.if_icmp .ge 97, 3) := by decide +kernel
theorem d_Wo_fill_7 : decode (am_Mof y_Wo_fill).1 7 = .ok (.aload_n 1, 1) := by decide +kernel
theorem d_Wo_fill_8 : decode (am_Mof y_Wo_fill).1 8 = .ok (.iload_n 3, 1) := by decide +kernel
theorem d_Wo_fill_9 : decode (am_Mof y_Wo_fill).1 9 = .ok (.iload_n 2, 1) := by decide +kernel
theorem d_Wo_fill_10 : decode (am_Mof y_Wo_fill).1 10 = .ok (.invokevirtual 24, 3) := by decide +kernel
theorem d_Wo_fill_13 : decode (am_Mof y_Wo_fill).1 13 = .ok (.istore 4, 2) := by decide +kernel
theorem d_Wo_fill_15 : decode (am_Mof y_Wo_fill).1 15 = .ok (.iconst 0, 1) := by decide +kernel
theorem d_Wo_fill_16 : decode (am_Mof y_Wo_fill).1 16 = .ok (.istore 5, 2) := by decide +kernel
theorem d_Wo_fill_18 : decode (am_Mof y_Wo_fill).1 18 = .ok (.iload 5, 2) := by decide +kernel
theorem d_Wo_fill_20 : decode (am_Mof y_Wo_fill).1 20 = .ok (.iconst 5, 1) := by decide +kernel
theorem d_Wo_fill_21 : decode (am_Mof y_Wo_fill).1 21 = .ok (.if_icmp .ge 36, 3) := by decide +kernel
theorem d_Wo_fill_24 : decode (am_Mof y_Wo_fill).1 24 = .ok (.aload_n 0, 1) := by decide +kernel
theorem d_Wo_fill_25 : decode (am_Mof y_Wo_fill).1 25 = .ok (.getfield 11, 3) := by decide +kernel
theorem d_Wo_fill_28 : decode (am_Mof y_Wo_fill).1 28 = .ok (.iload_n 3, 1) := by decide +kernel
theorem d_Wo_fill_29 : decode (am_Mof y_Wo_fill).1 29 = .ok (.aaload, 1) := by decide +kernel
theorem d_Wo_fill_30 : decode (am_Mof y_Wo_fill).1 30 = .ok (.iload 5, 2) := by decide +kernel
theorem d_Wo_fill_32 : decode (am_Mof y_Wo_fill).1 32 = .ok (.iload 4, 2) := by decide +kernel
theorem d_Wo_fill_34 : decode (am_Mof y_Wo_fill).1 34 = .ok (.ifCond .eq 15, 3) := by decide +kernel
theorem d_Wo_fill_37 : decode (am_Mof y_Wo_fill).1 37 = .ok (.aload_n 1, 1) := by decide +kernel
theorem d_Wo_fill_38 : decode (am_Mof y_Wo_fill).1 38 = .ok (.iload_n 3, 1) := by decide +kernel
theorem d_Wo_fill_39 : decode (am_Mof y_Wo_fill).1 39 = .ok (.iload 5, 2) := by decide +kernel
theorem d_Wo_fill_41 : decode (am_Mof y_Wo_fill).1 41 = .ok (.invokevirtual 30, 3) := by decide +kernel
theorem d_Wo_fill_44 : decode (am_Mof y_Wo_fill).1 44 = .ok (.ineg, 1) := by decide +kernel
theorem d_Wo_fill_45 : decode (am_Mof y_Wo_fill).1 45 = .ok (.i2l, 1) := by decide +kernel
theorem d_Wo_fill_46 : decode (am_Mof y_Wo_fill).1 46 = .ok (.goto 4, 3) := by decide +kernel
theorem d_Wo_fill_49 : decode (am_Mof y_Wo_fill).1 49 = .ok (.lconst 0, 1) := by decide +kernel
theorem d_Wo_fill_50 : decode (am_Mof y_Wo_fill).1 50 = .ok (.lastore, 1) := by decide +kernel
theorem d_Wo_fill_51 : decode (am_Mof y_Wo_fill).1 51 = .ok (.iinc 5 1, 3) := by decide +kernel
theorem d_Wo_fill_54 : decode (am_Mof y_Wo_fill).1 54 = .ok (.goto (-36), 3) := by decide +kernel
theorem d_Wo_fill_57 : decode (am_Mof y_Wo_fill).1 57 = .ok (.aload_n 0, 1) := by decide +kernel
theorem d_Wo_fill_58 : decode (am_Mof y_Wo_fill).1 58 = .ok (.getfield 11, 3) := by decide +kernel
theorem d_Wo_fill_61 : decode (am_Mof y_Wo_fill).1 61 = .ok (.iload_n 3, 1) := by decide +kernel
theorem d_Wo_fill_62 : decode (am_Mof y_Wo_fill).1 62 = .ok (.aaload, 1) := by decide +kernel
theorem d_Wo_fill_63 : decode (am_Mof y_Wo_fill).1 63 = .ok (.iload_n 3, 1) := by decide +kernel
theorem d_Wo_fill_64 : decode (am_Mof y_Wo_fill).1 64 = .ok (.dup2, 1) := by decide +kernel
theorem d_Wo_fill_65 : decode (am_Mof y_Wo_fill).1 65 = .ok (.laload, 1) := by decide +kernel
theorem d_Wo_fill_66 : decode (am_Mof y_Wo_fill).1 66 = .ok (.ldc2_w 34, 3) := by decide +kernel
theorem d_Wo_fill_69 : decode (am_Mof y_Wo_fill).1 69 = .ok (.ladd, 1) := by decide +kernel
theorem d_Wo_fill_70 : decode (am_Mof y_Wo_fill).1 70 = .ok (.lastore, 1) := by decide +kernel
theorem d_Wo_fill_71 : decode (am_Mof y_Wo_fill).1 71 = .ok (.aload_n 0, 1) := by decide +kernel
theorem d_Wo_fill_72 : decode (am_Mof y_Wo_fill).1 72 = .ok (.getfield 11, 3) := by decide +kernel
theorem d_Wo_fill_75 : decode (am_Mof y_Wo_fill).1 75 = .ok (.iload_n 3, 1) := by decide +kernel
theorem d_Wo_fill_76 : decode (am_Mof y_Wo_fill).1 76 = .ok (.aaload, 1) := by decide +kernel
theorem d_Wo_fill_77 : decode (am_Mof y_Wo_fill).1 77 = .ok (.iconst 5, 1) := by decide +kernel
theorem d_Wo_fill_78 : decode (am_Mof y_Wo_fill).1 78 = .ok (.iload 4, 2) := by decide +kernel
theorem d_Wo_fill_80 : decode (am_Mof y_Wo_fill).1 80 = .ok (.ifCond .eq 7, 3) := by decide +kernel
theorem d_Wo_fill_83 : decode (am_Mof y_Wo_fill).1 83 = .ok (.lconst 0, 1) := by decide +kernel
theorem d_Wo_fill_84 : decode (am_Mof y_Wo_fill).1 84 = .ok (.goto 10, 3) := by decide +kernel
theorem d_Wo_fill_87 : decode (am_Mof y_Wo_fill).1 87 = .ok (.aload_n 1, 1) := by decide +kernel
theorem d_Wo_fill_88 : decode (am_Mof y_Wo_fill).1 88 = .ok (.iload_n 3, 1) := by decide +kernel
theorem d_Wo_fill_89 : decode (am_Mof y_Wo_fill).1 89 = .ok (.iload_n 2, 1) := by decide +kernel
theorem d_Wo_fill_90 : decode (am_Mof y_Wo_fill).1 90 = .ok (.invokevirtual 36, 3) := by decide +kernel
theorem d_Wo_fill_93 : decode (am_Mof y_Wo_fill).1 93 = .ok (.i2l, 1) := by decide +kernel
theorem d_Wo_fill_94 : decode (am_Mof y_Wo_fill).1 94 = .ok (.lastore, 1) := by decide +kernel
theorem d_Wo_fill_95 : decode (am_Mof y_Wo_fill).1 95 = .ok (.iinc 3 1, 3) := by decide +kernel
theorem d_Wo_fill_98 : decode (am_Mof y_Wo_fill).1 98 = .ok (.goto (-96), 3) := by decide +kernel
theorem d_Wo_fill_101 : decode (am_Mof y_Wo_fill).1 101 = .ok (.return_, 1) := by decide +kernel
theorem d_Wo_clearColumn_0 : decode (am_Mof y_Wo_clearColumn).1 0 = .ok (.iconst 0, 1) := by decide +kernel
theorem d_Wo_clearColumn_1 : decode (am_Mof y_Wo_clearColumn).1 1 = .ok (.istore 4, 2) := by decide +kernel
theorem d_Wo_clearColumn_3 : decode (am_Mof y_Wo_clearColumn).1 3 = .ok (.iload 4, 2) := by decide +kernel
theorem d_Wo_clearColumn_5 : decode (am_Mof y_Wo_clearColumn).1 5 = .ok (.iconst 5, 1) := by decide +kernel
theorem d_Wo_clearColumn_6 : decode (am_Mof y_Wo_clearColumn).1 6 = .ok (.if_icmp .ge 23, 3) := by decide +kernel
theorem d_Wo_clearColumn_9 : decode (am_Mof y_Wo_clearColumn).1 9 = .ok (.iload 4, 2) := by decide +kernel
theorem d_Wo_clearColumn_11 : decode (am_Mof y_Wo_clearColumn).1 11 = .ok (.iload_n 1, 1) := by decide +kernel
theorem d_Wo_clearColumn_12 : decode (am_Mof y_Wo_clearColumn).1 12 = .ok (.if_icmp .eq 11, 3) := by decide +kernel
theorem d_Wo_clearColumn_15 : decode (am_Mof y_Wo_clearColumn).1 15 = .ok (.aload_n 0, 1) := by decide +kernel
theorem d_Wo_clearColumn_16 : decode (am_Mof y_Wo_clearColumn).1 16 = .ok (.iload 4, 2) := by decide +kernel
theorem d_Wo_clearColumn_18 : decode (am_Mof y_Wo_clearColumn).1 18 = .ok (.iload_n 1, 1) := by decide +kernel
theorem d_Wo_clearColumn_19 : decode (am_Mof y_Wo_clearColumn).1 19 = .ok (.lload_n 2, 1) := by decide +kernel
theorem d_Wo_clearColumn_20 : decode (am_Mof y_Wo_clearColumn).1 20 = .ok (.invokevirtual 39, 3) := by decide +kernel
theorem d_Wo_clearColumn_23 : decode (am_Mof y_Wo_clearColumn).1 23 = .ok (.iinc 4 1, 3) := by decide +kernel
theorem d_Wo_clearColumn_26 : decode (am_Mof y_Wo_clearColumn).1 26 = .ok (.goto (-23), 3) := by decide +kernel
theorem d_Wo_clearColumn_29 : decode (am_Mof y_Wo_clearColumn).1 29 = .ok (.return_, 1) := by decide +kernel
theorem d_Wo_clearRow_0 : decode (am_Mof y_Wo_clearRow).1 0 = .ok (.lload_n 3, 1) := by decide +kernel
theorem d_Wo_clearRow_1 : decode (am_Mof y_Wo_clearRow).1 1 = .ok (.lconst 0, 1) := by decide +kernel
theorem d_Wo_clearRow_2 : decode (am_Mof y_Wo_clearRow).1 2 = .ok (.lcmp, 1) := by decide +kernel
theorem d_Wo_clearRow_3 : decode (am_Mof y_Wo_clearRow).1 3 = .ok (.ifCond .ne 4, 3) := by decide +kernel
theorem d_Wo_clearRow_6 : decode (am_Mof y_Wo_clearRow).1 6 = .ok (.return_, 1) := by decide +kernel
theorem d_Wo_clearRow_7 : decode (am_Mof y_Wo_clearRow).1 7 = .ok (.aload_n 0, 1) := by decide +kernel
theorem d_Wo_clearRow_8 : decode (am_Mof y_Wo_clearRow).1 8 = .ok (.getfield 11, 3) := by decide +kernel
theorem d_Wo_clearRow_11 : decode (am_Mof y_Wo_clearRow).1 11 = .ok (.iload_n 2, 1) := by decide +kernel
theorem d_Wo_clearRow_12 : decode (am_Mof y_Wo_clearRow).1 12 = .ok (.aaload, 1) := by decide +kernel
theorem d_Wo_clearRow_13 : decode (am_Mof y_Wo_clearRow).1 13 = .ok (.iload_n 2, 1) := by decide +kernel
theorem d_Wo_clearRow_14 : decode (am_Mof y_Wo_clearRow).1 14 = .ok (.laload, 1) := by decide +kernel
theorem d_Wo_clearRow_15 : decode (am_Mof y_Wo_clearRow).1 15 = .ok (.lstore 5, 2) := by decide +kernel
theorem d_Wo_clearRow_17 : decode (am_Mof y_Wo_clearRow).1 17 = .ok (.aload_n 0, 1) := by decide +kernel
theorem d_Wo_clearRow_18 : decode (am_Mof y_Wo_clearRow).1 18 = .ok (.getfield 11, 3) := by decide +kernel
theorem d_Wo_clearRow_21 : decode (am_Mof y_Wo_clearRow).1 21 = .ok (.iload_n 1, 1) := by decide +kernel
theorem d_Wo_clearRow_22 : decode (am_Mof y_Wo_clearRow).1 22 = .ok (.aaload, 1) := by decide +kernel
theorem d_Wo_clearRow_23 : decode (am_Mof y_Wo_clearRow).1 23 = .ok (.iload_n 2, 1) := by decide +kernel
theorem d_Wo_clearRow_24 : decode (am_Mof y_Wo_clearRow).1 24 = .ok (.laload, 1) := by decide +kernel
theorem d_Wo_clearRow_25 : decode (am_Mof y_Wo_clearRow).1 25 = .ok (.lstore 7, 2) := by decide +kernel
theorem d_Wo_clearRow_27 : decode (am_Mof y_Wo_clearRow).1 27 = .ok (.iconst 0, 1) := by decide +kernel
theorem d_Wo_clearRow_28 : decode (am_Mof y_Wo_clearRow).1 28 = .ok (.istore 9, 2) := by decide +kernel
theorem d_Wo_clearRow_30 : decode (am_Mof y_Wo_clearRow).1 30 = .ok (.iload 9, 2) := by decide +kernel
theorem d_Wo_clearRow_32 : decode (am_Mof y_Wo_clearRow).1 32 = .ok (.iconst 5, 1) := by decide +kernel
theorem d_Wo_clearRow_33 : decode (am_Mof y_Wo_clearRow).1 33 = .ok (.if_icmp .gt 45, 3) := by decide +kernel
theorem d_Wo_clearRow_36 : decode (am_Mof y_Wo_clearRow).1 36 = .ok (.aload_n 0, 1) := by decide +kernel
theorem d_Wo_clearRow_37 : decode (am_Mof y_Wo_clearRow).1 37 = .ok (.getfield 11, 3) := by decide +kernel
theorem d_Wo_clearRow_40 : decode (am_Mof y_Wo_clearRow).1 40 = .ok (.iload_n 1, 1) := by decide +kernel
theorem d_Wo_clearRow_41 : decode (am_Mof y_Wo_clearRow).1 41 = .ok (.aaload, 1) := by decide +kernel
theorem d_Wo_clearRow_42 : decode (am_Mof y_Wo_clearRow).1 42 = .ok (.iload 9, 2) := by decide +kernel
theorem d_Wo_clearRow_44 : decode (am_Mof y_Wo_clearRow).1 44 = .ok (.lload 5, 2) := by decide +kernel
theorem d_Wo_clearRow_46 : decode (am_Mof y_Wo_clearRow).1 46 = .ok (.aload_n 0, 1) := by decide +kernel
theorem d_Wo_clearRow_47 : decode (am_Mof y_Wo_clearRow).1 47 = .ok (.getfield 11, 3) := by decide +kernel
theorem d_Wo_clearRow_50 : decode (am_Mof y_Wo_clearRow).1 50 = .ok (.iload_n 1, 1) := by decide +kernel
theorem d_Wo_clearRow_51 : decode (am_Mof y_Wo_clearRow).1 51 = .ok (.aaload, 1) := by decide +kernel
theorem d_Wo_clearRow_52 : decode (am_Mof y_Wo_clearRow).1 52 = .ok (.iload 9, 2) := by decide +kernel
theorem d_Wo_clearRow_54 : decode (am_Mof y_Wo_clearRow).1 54 = .ok (.laload, 1) := by decide +kernel
theorem d_Wo_clearRow_55 : decode (am_Mof y_Wo_clearRow).1 55 = .ok (.lmul, 1) := by decide +kernel
theorem d_Wo_clearRow_56 : decode (am_Mof y_Wo_clearRow).1 56 = .ok (.lload 7, 2) := by decide +kernel
theorem d_Wo_clearRow_58 : decode (am_Mof y_Wo_clearRow).1 58 = .ok (.aload_n 0, 1) := by decide +kernel
theorem d_Wo_clearRow_59 : decode (am_Mof y_Wo_clearRow).1 59 = .ok (.getfield 11, 3) := by decide +kernel
theorem d_Wo_clearRow_62 : decode (am_Mof y_Wo_clearRow).1 62 = .ok (.iload_n 2, 1) := by decide +kernel
theorem d_Wo_clearRow_63 : decode (am_Mof y_Wo_clearRow).1 63 = .ok (.aaload, 1) := by decide +kernel
theorem d_Wo_clearRow_64 : decode (am_Mof y_Wo_clearRow).1 64 = .ok (.iload 9, 2) := by decide +kernel
theorem d_Wo_clearRow_66 : decode (am_Mof y_Wo_clearRow).1 66 = .ok (.laload, 1) := by decide +kernel
theorem d_Wo_clearRow_67 : decode (am_Mof y_Wo_clearRow).1 67 = .ok (.lmul, 1) := by decide +kernel
theorem d_Wo_clearRow_68 : decode (am_Mof y_Wo_clearRow).1 68 = .ok (.lsub, 1) := by decide +kernel
theorem d_Wo_clearRow_69 : decode (am_Mof y_Wo_clearRow).1 69 = .ok (.lload_n 3, 1) := by decide +kernel
theorem d_Wo_clearRow_70 : decode (am_Mof y_Wo_clearRow).1 70 = .ok (.ldiv, 1) := by decide +kernel
theorem d_Wo_clearRow_71 : decode (am_Mof y_Wo_clearRow).1 71 = .ok (.lastore, 1) := by decide +kernel
theorem d_Wo_clearRow_72 : decode (am_Mof y_Wo_clearRow).1 72 = .ok (.iinc 9 1, 3) := by decide +kernel
theorem d_Wo_clearRow_75 : decode (am_Mof y_Wo_clearRow).1 75 = .ok (.goto (-45), 3) := by decide +kernel
theorem d_Wo_clearRow_78 : decode (am_Mof y_Wo_clearRow).1 78 = .ok (.return_, 1) := by decide +kernel
theorem d_Wo_aboveOf_0 : decode (am_Mof y_Wo_aboveOf).1 0 = .ok (.aload_n 0, 1) := by decide +kernel
theorem d_Wo_aboveOf_1 : decode (am_Mof y_Wo_aboveOf).1 1 = .ok (.getfield 11, 3) := by decide +kernel
theorem d_Wo_aboveOf_4 : decode (am_Mof y_Wo_aboveOf).1 4 = .ok (.iload_n 1, 1) := by decide +kernel
theorem d_Wo_aboveOf_5 : decode (am_Mof y_Wo_aboveOf).1 5 = .ok (.aaload, 1) := by decide +kernel
theorem d_Wo_aboveOf_6 : decode (am_Mof y_Wo_aboveOf).1 6 = .ok (.iconst 5, 1) := by decide +kernel
theorem d_Wo_aboveOf_7 : decode (am_Mof y_Wo_aboveOf).1 7 = .ok (.laload, 1) := by decide +kernel
theorem d_Wo_aboveOf_8 : decode (am_Mof y_Wo_aboveOf).1 8 = .ok (.lreturn, 1) := by decide +kernel
theorem d_RC_init_0 : decode (am_Mof y_RC_init).1 0 = .ok (.aload_n 0, 1) := by decide +kernel
theorem d_RC_init_1 : decode (am_Mof y_RC_init).1 1 = .ok (.invokespecial 1, 3) := by decide +kernel
theorem d_RC_init_4 : decode (am_Mof y_RC_init).1 4 = .ok (.aload_n 0, 1) := by decide +kernel
theorem d_RC_init_5 : decode (am_Mof y_RC_init).1 5 = .ok (.new 7, 3) := by decide +kernel
theorem d_RC_init_8 : decode (am_Mof y_RC_init).1 8 = .ok (.dup, 1) := by decide +kernel
theorem d_RC_init_9 : decode (am_Mof y_RC_init).1 9 = .ok (.invokespecial 9, 3) := by decide +kernel
theorem d_RC_init_12 : decode (am_Mof y_RC_init).1 12 = .ok (.putfield 10, 3) := by decide +kernel
theorem d_RC_init_15 : decode (am_Mof y_RC_init).1 15 = .ok (.aload_n 0, 1) := by decide +kernel
theorem d_RC_init_16 : decode (am_Mof y_RC_init).1 16 = .ok (.new 16, 3) := by decide +kernel
theorem d_RC_init_19 : decode (am_Mof y_RC_init).1 19 = .ok (.dup, 1) := by decide +kernel
theorem d_RC_init_20 : decode (am_Mof y_RC_init).1 20 = .ok (.invokespecial 18, 3) := by decide +kernel
theorem d_RC_init_23 : decode (am_Mof y_RC_init).1 23 = .ok (.putfield 19, 3) := by decide +kernel
theorem d_RC_init_26 : decode (am_Mof y_RC_init).1 26 = .ok (.aload_n 0, 1) := by decide +kernel
theorem d_RC_init_27 : decode (am_Mof y_RC_init).1 27 = .ok (.bipush 10, 2) := by decide +kernel
theorem d_RC_init_29 : decode (am_Mof y_RC_init).1 29 = .ok (.newarray .long, 2) := by decide +kernel
theorem d_RC_init_31 : decode (am_Mof y_RC_init).1 31 = .ok (.putfield 23, 3) := by decide +kernel
theorem d_RC_init_34 : decode (am_Mof y_RC_init).1 34 = .ok (.aload_n 0, 1) := by decide +kernel
theorem d_RC_init_35 : decode (am_Mof y_RC_init).1 35 = .ok (.bipush 40, 2) := by decide +kernel
theorem d_RC_init_37 : decode (am_Mof y_RC_init).1 37 = .ok (.newarray .long, 2) := by decide +kernel
theorem d_RC_init_39 : decode (am_Mof y_RC_init).1 39 = .ok (.putfield 27, 3) := by decide +kernel
theorem d_RC_init_42 : decode (am_Mof y_RC_init).1 42 = .ok (.aload_n 0, 1) := by decide +kernel
theorem d_RC_init_43 : decode (am_Mof y_RC_init).1 43 = .ok (.new 30, 3) := by decide +kernel
theorem d_RC_init_46 : decode (am_Mof y_RC_init).1 46 = .ok (.dup, 1) := by decide +kernel
theorem d_RC_init_47 : decode (am_Mof y_RC_init).1 47 = .ok (.invokespecial 32, 3) := by decide +kernel
theorem d_RC_init_50 : decode (am_Mof y_RC_init).1 50 = .ok (.putfield 33, 3) := by decide +kernel
theorem d_RC_init_53 : decode (am_Mof y_RC_init).1 53 = .ok (.aload_n 0, 1) := by decide +kernel
theorem d_RC_init_54 : decode (am_Mof y_RC_init).1 54 = .ok (.new 37, 3) := by decide +kernel
theorem d_RC_init_57 : decode (am_Mof y_RC_init).1 57 = .ok (.dup, 1) := by decide +kernel
theorem d_RC_init_58 : decode (am_Mof y_RC_init).1 58 = .ok (.invokespecial 39, 3) := by decide +kernel
theorem d_RC_init_61 : decode (am_Mof y_RC_init).1 61 = .ok (.putfield 40, 3) := by decide +kernel
theorem d_RC_init_64 : decode (am_Mof y_RC_init).1 64 = .ok (.aload_n 0, 1) := by decide +kernel
theorem d_RC_init_65 : decode (am_Mof y_RC_init).1 65 = .ok (.new 44, 3) := by decide +kernel
theorem d_RC_init_68 : decode (am_Mof y_RC_init).1 68 = .ok (.dup, 1) := by decide +kernel
theorem d_RC_init_69 : decode (am_Mof y_RC_init).1 69 = .ok (.invokespecial 46, 3) := by decide +kernel
theorem d_RC_init_72 : decode (am_Mof y_RC_init).1 72 = .ok (.putfield 47, 3) := by decide +kernel
theorem d_RC_init_75 : decode (am_Mof y_RC_init).1 75 = .ok (.return_, 1) := by decide +kernel
theorem d_RC_plant_0 : decode (am_Mof y_RC_plant).1 0 = .ok (.aload_n 0, 1) := by decide +kernel
theorem d_RC_plant_1 : decode (am_Mof y_RC_plant).1 1 = .ok (.getfield 10, 3) := by decide +kernel
theorem d_RC_plant_4 : decode (am_Mof y_RC_plant).1 4 = .ok (.invokevirtual 51, 3) := by decide +kernel
theorem d_RC_plant_7 : decode (am_Mof y_RC_plant).1 7 = .ok (.ireturn, 1) := by decide +kernel
theorem d_RC_share_0 : decode (am_Mof y_RC_share).1 0 = .ok (.lload_n 3, 1) := by decide +kernel
theorem d_RC_share_1 : decode (am_Mof y_RC_share).1 1 = .ok (.lload 5, 2) := by decide +kernel
theorem d_RC_share_3 : decode (am_Mof y_RC_share).1 3 = .ok (.invokestatic 55, 3) := by decide +kernel
theorem d_RC_share_6 : decode (am_Mof y_RC_share).1 6 = .ok (.istore 7, 2) := by decide +kernel
theorem d_RC_share_8 : decode (am_Mof y_RC_share).1 8 = .ok (.iload 7, 2) := by decide +kernel
theorem d_RC_share_10 : decode (am_Mof y_RC_share).1 10 = .ok (.iconst (-1), 1) := by decide +kernel
theorem d_RC_share_11 : decode (am_Mof y_RC_share).1 11 = .ok (.if_icmp .eq 25, 3) := by decide +kernel
theorem d_RC_share_14 : decode (am_Mof y_RC_share).1 14 = .ok (.aload_n 0, 1) := by decide +kernel
theorem d_RC_share_15 : decode (am_Mof y_RC_share).1 15 = .ok (.getfield 10, 3) := by decide +kernel
theorem d_RC_share_18 : decode (am_Mof y_RC_share).1 18 = .ok (.iload_n 1, 1) := by decide +kernel
theorem d_RC_share_19 : decode (am_Mof y_RC_share).1 19 = .ok (.invokevirtual 59, 3) := by decide +kernel
theorem d_RC_share_22 : decode (am_Mof y_RC_share).1 22 = .ok (.ifCond .eq 14, 3) := by decide +kernel
theorem d_RC_share_25 : decode (am_Mof y_RC_share).1 25 = .ok (.aload_n 0, 1) := by decide +kernel
theorem d_RC_share_26 : decode (am_Mof y_RC_share).1 26 = .ok (.getfield 10, 3) := by decide +kernel
theorem d_RC_share_29 : decode (am_Mof y_RC_share).1 29 = .ok (.iload_n 2, 1) := by decide +kernel
theorem d_RC_share_30 : decode (am_Mof y_RC_share).1 30 = .ok (.invokevirtual 59, 3) := by decide +kernel
theorem d_RC_share_33 : decode (am_Mof y_RC_share).1 33 = .ok (.ifCond .ne 5, 3) := by decide +kernel
theorem d_RC_share_36 : decode (am_Mof y_RC_share).1 36 = .ok (.iconst 0, 1) := by decide +kernel
theorem d_RC_share_37 : decode (am_Mof y_RC_share).1 37 = .ok (.ireturn, 1) := by decide +kernel
theorem d_RC_share_38 : decode (am_Mof y_RC_share).1 38 = .ok (.aload_n 0, 1) := by decide +kernel
theorem d_RC_share_39 : decode (am_Mof y_RC_share).1 39 = .ok (.getfield 10, 3) := by decide +kernel
theorem d_RC_share_42 : decode (am_Mof y_RC_share).1 42 = .ok (.iload_n 1, 1) := by decide +kernel
theorem d_RC_share_43 : decode (am_Mof y_RC_share).1 43 = .ok (.iload_n 2, 1) := by decide +kernel
theorem d_RC_share_44 : decode (am_Mof y_RC_share).1 44 = .ok (.iload 7, 2) := by decide +kernel
theorem d_RC_share_46 : decode (am_Mof y_RC_share).1 46 = .ok (.invokevirtual 63, 3) := by decide +kernel
theorem d_RC_share_49 : decode (am_Mof y_RC_share).1 49 = .ok (.ireturn, 1) := by decide +kernel
theorem d_RC_tenthsOf_0 : decode (am_Mof y_RC_tenthsOf).1 0 = .ok (.lload_n 2, 1) := by decide +kernel
theorem d_RC_tenthsOf_1 : decode (am_Mof y_RC_tenthsOf).1 1 = .ok (.lconst 1, 1) := by decide +kernel
theorem d_RC_tenthsOf_2 : decode (am_Mof y_RC_tenthsOf).1 2 = .ok (.lcmp, 1) := by decide +kernel
theorem d_RC_tenthsOf_3 : decode (am_Mof y_RC_tenthsOf).1 3 = .ok (.ifCond .eq 27, 3) := by decide +kernel
theorem d_RC_tenthsOf_6 : decode (am_Mof y_RC_tenthsOf).1 6 = .ok (.lload_n 2, 1) := by decide +kernel
theorem d_RC_tenthsOf_7 : decode (am_Mof y_RC_tenthsOf).1 7 = .ok (.ldc2_w 172, 3) := by decide +kernel
theorem d_RC_tenthsOf_10 : decode (am_Mof y_RC_tenthsOf).1 10 = .ok (.lcmp, 1) := by decide +kernel
theorem d_RC_tenthsOf_11 : decode (am_Mof y_RC_tenthsOf).1 11 = .ok (.ifCond .eq 19, 3) := by decide +kernel
theorem d_RC_tenthsOf_14 : decode (am_Mof y_RC_tenthsOf).1 14 = .ok (.lload_n 2, 1) := by decide +kernel
theorem d_RC_tenthsOf_15 : decode (am_Mof y_RC_tenthsOf).1 15 = .ok (.ldc2_w 174, 3) := by decide +kernel
theorem d_RC_tenthsOf_18 : decode (am_Mof y_RC_tenthsOf).1 18 = .ok (.lcmp, 1) := by decide +kernel
theorem d_RC_tenthsOf_19 : decode (am_Mof y_RC_tenthsOf).1 19 = .ok (.ifCond .eq 11, 3) := by decide +kernel
theorem d_RC_tenthsOf_22 : decode (am_Mof y_RC_tenthsOf).1 22 = .ok (.lload_n 2, 1) := by decide +kernel
theorem d_RC_tenthsOf_23 : decode (am_Mof y_RC_tenthsOf).1 23 = .ok (.ldc2_w 176, 3) := by decide +kernel
theorem d_RC_tenthsOf_26 : decode (am_Mof y_RC_tenthsOf).1 26 = .ok (.lcmp, 1) := by decide +kernel
theorem d_RC_tenthsOf_27 : decode (am_Mof y_RC_tenthsOf).1 27 = .ok (.ifCond .ne 7, 3) := by decide +kernel
theorem d_RC_tenthsOf_30 : decode (am_Mof y_RC_tenthsOf).1 30 = .ok (.iconst 1, 1) := by decide +kernel
theorem d_RC_tenthsOf_31 : decode (am_Mof y_RC_tenthsOf).1 31 = .ok (.goto 4, 3) := by decide +kernel
theorem d_RC_tenthsOf_34 : decode (am_Mof y_RC_tenthsOf).1 34 = .ok (.iconst 0, 1) := by decide +kernel
theorem d_RC_tenthsOf_35 : decode (am_Mof y_RC_tenthsOf).1 35 = .ok (.istore 4, 2) := by decide +kernel
theorem d_RC_tenthsOf_37 : decode (am_Mof y_RC_tenthsOf).1 37 = .ok (.iload 4, 2) := by decide +kernel
theorem d_RC_tenthsOf_39 : decode (am_Mof y_RC_tenthsOf).1 39 = .ok (.ifCond .eq 15, 3) := by decide +kernel
theorem d_RC_tenthsOf_42 : decode (am_Mof y_RC_tenthsOf).1 42 = .ok (.lload_n 0, 1) := by decide +kernel
theorem d_RC_tenthsOf_43 : decode (am_Mof y_RC_tenthsOf).1 43 = .ok (.lconst 0, 1) := by decide +kernel
theorem d_RC_tenthsOf_44 : decode (am_Mof y_RC_tenthsOf).1 44 = .ok (.lcmp, 1) := by decide +kernel
theorem d_RC_tenthsOf_45 : decode (am_Mof y_RC_tenthsOf).1 45 = .ok (.ifCond .lt 9, 3) := by decide +kernel
theorem d_RC_tenthsOf_48 : decode (am_Mof y_RC_tenthsOf).1 48 = .ok (.lload_n 0, 1) := by decide +kernel
theorem d_RC_tenthsOf_49 : decode (am_Mof y_RC_tenthsOf).1 49 = .ok (.lload_n 2, 1) := by decide +kernel
theorem d_RC_tenthsOf_50 : decode (am_Mof y_RC_tenthsOf).1 50 = .ok (.lcmp, 1) := by decide +kernel
theorem d_RC_tenthsOf_51 : decode (am_Mof y_RC_tenthsOf).1 51 = .ok (.ifCond .le 5, 3) := by decide +kernel
theorem d_RC_tenthsOf_54 : decode (am_Mof y_RC_tenthsOf).1 54 = .ok (.iconst (-1), 1) := by decide +kernel
theorem d_RC_tenthsOf_55 : decode (am_Mof y_RC_tenthsOf).1 55 = .ok (.ireturn, 1) := by decide +kernel
theorem d_RC_tenthsOf_56 : decode (am_Mof y_RC_tenthsOf).1 56 = .ok (.lload_n 0, 1) := by decide +kernel
theorem d_RC_tenthsOf_57 : decode (am_Mof y_RC_tenthsOf).1 57 = .ok (.ldc2_w 176, 3) := by decide +kernel
theorem d_RC_tenthsOf_60 : decode (am_Mof y_RC_tenthsOf).1 60 = .ok (.lload_n 2, 1) := by decide +kernel
theorem d_RC_tenthsOf_61 : decode (am_Mof y_RC_tenthsOf).1 61 = .ok (.ldiv, 1) := by decide +kernel
theorem d_RC_tenthsOf_62 : decode (am_Mof y_RC_tenthsOf).1 62 = .ok (.lmul, 1) := by decide +kernel
theorem d_RC_tenthsOf_63 : decode (am_Mof y_RC_tenthsOf).1 63 = .ok (.l2i, 1) := by decide +kernel
theorem d_RC_tenthsOf_64 : decode (am_Mof y_RC_tenthsOf).1 64 = .ok (.ireturn, 1) := by decide +kernel
theorem d_RC_point_0 : decode (am_Mof y_RC_point).1 0 = .ok (.aload_n 0, 1) := by decide +kernel
theorem d_RC_point_1 : decode (am_Mof y_RC_point).1 1 = .ok (.getfield 10, 3) := by decide +kernel
theorem d_RC_point_4 : decode (am_Mof y_RC_point).1 4 = .ok (.iload_n 1, 1) := by decide +kernel
theorem d_RC_point_5 : decode (am_Mof y_RC_point).1 5 = .ok (.invokevirtual 59, 3) := by decide +kernel
theorem d_RC_point_8 : decode (am_Mof y_RC_point).1 8 = .ok (.ifCond .eq 26, 3) := by decide +kernel
theorem d_RC_point_11 : decode (am_Mof y_RC_point).1 11 = .ok (.iload_n 2, 1) := by decide +kernel
theorem d_RC_point_12 : decode (am_Mof y_RC_point).1 12 = .ok (.invokestatic 67, 3) := by decide +kernel
theorem d_RC_point_15 : decode (am_Mof y_RC_point).1 15 = .ok (.ifCond .eq 19, 3) := by decide +kernel
theorem d_RC_point_18 : decode (am_Mof y_RC_point).1 18 = .ok (.aload_n 0, 1) := by decide +kernel
theorem d_RC_point_19 : decode (am_Mof y_RC_point).1 19 = .ok (.getfield 10, 3) := by decide +kernel
theorem d_RC_point_22 : decode (am_Mof y_RC_point).1 22 = .ok (.iload_n 1, 1) := by decide +kernel
theorem d_RC_point_23 : decode (am_Mof y_RC_point).1 23 = .ok (.iload_n 2, 1) := by decide +kernel
theorem d_RC_point_24 : decode (am_Mof y_RC_point).1 24 = .ok (.invokevirtual 70, 3) := by decide +kernel
theorem d_RC_point_27 : decode (am_Mof y_RC_point).1 27 = .ok (.ifCond .eq 7, 3) := by decide +kernel
theorem d_RC_point_30 : decode (am_Mof y_RC_point).1 30 = .ok (.iconst 1, 1) := by decide +kernel
theorem d_RC_point_31 : decode (am_Mof y_RC_point).1 31 = .ok (.goto 4, 3) := by decide +kernel
theorem d_RC_point_34 : decode (am_Mof y_RC_point).1 34 = .ok (.iconst 0, 1) := by decide +kernel
theorem d_RC_point_35 : decode (am_Mof y_RC_point).1 35 = .ok (.ireturn, 1) := by decide +kernel
theorem d_RC_isKind_0 : decode (am_Mof y_RC_isKind).1 0 = .ok (.iload_n 0, 1) := by decide +kernel
theorem d_RC_isKind_1 : decode (am_Mof y_RC_isKind).1 1 = .ok (.ifCond .lt 12, 3) := by decide +kernel
theorem d_RC_isKind_4 : decode (am_Mof y_RC_isKind).1 4 = .ok (.iload_n 0, 1) := by decide +kernel
theorem d_RC_isKind_5 : decode (am_Mof y_RC_isKind).1 5 = .ok (.iconst 4, 1) := by decide +kernel
theorem d_RC_isKind_6 : decode (am_Mof y_RC_isKind).1 6 = .ok (.if_icmp .ge 7, 3) := by decide +kernel
theorem d_RC_isKind_9 : decode (am_Mof y_RC_isKind).1 9 = .ok (.iconst 1, 1) := by decide +kernel
theorem d_RC_isKind_10 : decode (am_Mof y_RC_isKind).1 10 = .ok (.goto 4, 3) := by decide +kernel
theorem d_RC_isKind_13 : decode (am_Mof y_RC_isKind).1 13 = .ok (.iconst 0, 1) := by decide +kernel
theorem d_RC_isKind_14 : decode (am_Mof y_RC_isKind).1 14 = .ok (.ireturn, 1) := by decide +kernel
theorem d_RC_slotOf_0 : decode (am_Mof y_RC_slotOf).1 0 = .ok (.iload_n 0, 1) := by decide +kernel
theorem d_RC_slotOf_1 : decode (am_Mof y_RC_slotOf).1 1 = .ok (.iconst 4, 1) := by decide +kernel
theorem d_RC_slotOf_2 : decode (am_Mof y_RC_slotOf).1 2 = .ok (.imul, 1) := by decide +kernel
theorem d_RC_slotOf_3 : decode (am_Mof y_RC_slotOf).1 3 = .ok (.iload_n 1, 1) := by decide +kernel
theorem d_RC_slotOf_4 : decode (am_Mof y_RC_slotOf).1 4 = .ok (.iadd, 1) := by decide +kernel
theorem d_RC_slotOf_5 : decode (am_Mof y_RC_slotOf).1 5 = .ok (.ireturn, 1) := by decide +kernel
theorem d_RC_average_0 : decode (am_Mof y_RC_average).1 0 = .ok (.lload_n 2, 1) := by decide +kernel
theorem d_RC_average_1 : decode (am_Mof y_RC_average).1 1 = .ok (.lload 4, 2) := by decide +kernel
theorem d_RC_average_3 : decode (am_Mof y_RC_average).1 3 = .ok (.invokestatic 55, 3) := by decide +kernel
theorem d_RC_average_6 : decode (am_Mof y_RC_average).1 6 = .ok (.istore 6, 2) := by decide +kernel
theorem d_RC_average_8 : decode (am_Mof y_RC_average).1 8 = .ok (.iload 6, 2) := by decide +kernel
theorem d_RC_average_10 : decode (am_Mof y_RC_average).1 10 = .ok (.iconst (-1), 1) := by decide +kernel
theorem d_RC_average_11 : decode (am_Mof y_RC_average).1 11 = .ok (.if_icmp .eq 14, 3) := by decide +kernel
theorem d_RC_average_14 : decode (am_Mof y_RC_average).1 14 = .ok (.aload_n 0, 1) := by decide +kernel
theorem d_RC_average_15 : decode (am_Mof y_RC_average).1 15 = .ok (.getfield 10, 3) := by decide +kernel
theorem d_RC_average_18 : decode (am_Mof y_RC_average).1 18 = .ok (.iload_n 1, 1) := by decide +kernel
theorem d_RC_average_19 : decode (am_Mof y_RC_average).1 19 = .ok (.invokevirtual 59, 3) := by decide +kernel
theorem d_RC_average_22 : decode (am_Mof y_RC_average).1 22 = .ok (.ifCond .ne 5, 3) := by decide +kernel
theorem d_RC_average_25 : decode (am_Mof y_RC_average).1 25 = .ok (.iconst 0, 1) := by decide +kernel
theorem d_RC_average_26 : decode (am_Mof y_RC_average).1 26 = .ok (.ireturn, 1) := by decide +kernel
theorem d_RC_average_27 : decode (am_Mof y_RC_average).1 27 = .ok (.aload_n 0, 1) := by decide +kernel
theorem d_RC_average_28 : decode (am_Mof y_RC_average).1 28 = .ok (.getfield 10, 3) := by decide +kernel
theorem d_RC_average_31 : decode (am_Mof y_RC_average).1 31 = .ok (.iload_n 1, 1) := by decide +kernel
theorem d_RC_average_32 : decode (am_Mof y_RC_average).1 32 = .ok (.iload 6, 2) := by decide +kernel
theorem d_RC_average_34 : decode (am_Mof y_RC_average).1 34 = .ok (.invokevirtual 74, 3) := by decide +kernel
theorem d_RC_average_37 : decode (am_Mof y_RC_average).1 37 = .ok (.iconst 1, 1) := by decide +kernel
theorem d_RC_average_38 : decode (am_Mof y_RC_average).1 38 = .ok (.ireturn, 1) := by decide +kernel
theorem d_RC_feed_0 : decode (am_Mof y_RC_feed).1 0 = .ok (.aload_n 0, 1) := by decide +kernel
theorem d_RC_feed_1 : decode (am_Mof y_RC_feed).1 1 = .ok (.getfield 10, 3) := by decide +kernel
theorem d_RC_feed_4 : decode (am_Mof y_RC_feed).1 4 = .ok (.iload_n 1, 1) := by decide +kernel
theorem d_RC_feed_5 : decode (am_Mof y_RC_feed).1 5 = .ok (.invokevirtual 59, 3) := by decide +kernel
theorem d_RC_feed_8 : decode (am_Mof y_RC_feed).1 8 = .ok (.ifCond .eq 26, 3) := by decide +kernel
theorem d_RC_feed_11 : decode (am_Mof y_RC_feed).1 11 = .ok (.iload_n 2, 1) := by decide +kernel
theorem d_RC_feed_12 : decode (am_Mof y_RC_feed).1 12 = .ok (.invokestatic 67, 3) := by decide +kernel
theorem d_RC_feed_15 : decode (am_Mof y_RC_feed).1 15 = .ok (.ifCond .eq 19, 3) := by decide +kernel
theorem d_RC_feed_18 : decode (am_Mof y_RC_feed).1 18 = .ok (.iload 5, 2) := by decide +kernel
theorem d_RC_feed_20 : decode (am_Mof y_RC_feed).1 20 = .ok (.invokestatic 78, 3) := by decide +kernel
theorem d_RC_feed_23 : decode (am_Mof y_RC_feed).1 23 = .ok (.ifCond .eq 11, 3) := by decide +kernel
theorem d_RC_feed_26 : decode (am_Mof y_RC_feed).1 26 = .ok (.iload 6, 2) := by decide +kernel
theorem d_RC_feed_28 : decode (am_Mof y_RC_feed).1 28 = .ok (.invokestatic 81, 3) := by decide +kernel
theorem d_RC_feed_31 : decode (am_Mof y_RC_feed).1 31 = .ok (.ifCond .ne 5, 3) := by decide +kernel
theorem d_RC_feed_34 : decode (am_Mof y_RC_feed).1 34 = .ok (.iconst 0, 1) := by decide +kernel
theorem d_RC_feed_35 : decode (am_Mof y_RC_feed).1 35 = .ok (.ireturn, 1) := by decide +kernel
theorem d_RC_feed_36 : decode (am_Mof y_RC_feed).1 36 = .ok (.lload_n 3, 1) := by decide +kernel
theorem d_RC_feed_37 : decode (am_Mof y_RC_feed).1 37 = .ok (.lconst 0, 1) := by decide +kernel
theorem d_RC_feed_38 : decode (am_Mof y_RC_feed).1 38 = .ok (.ldc2_w 84, 3) := by decide +kernel
theorem d_RC_feed_41 : decode (am_Mof y_RC_feed).1 41 = .ok (.invokestatic 86, 3) := by decide +kernel
theorem d_RC_feed_44 : decode (am_Mof y_RC_feed).1 44 = .ok (.ifCond .eq 24, 3) := by decide +kernel
theorem d_RC_feed_47 : decode (am_Mof y_RC_feed).1 47 = .ok (.aload_n 0, 1) := by decide +kernel
theorem d_RC_feed_48 : decode (am_Mof y_RC_feed).1 48 = .ok (.getfield 19, 3) := by decide +kernel
theorem d_RC_feed_51 : decode (am_Mof y_RC_feed).1 51 = .ok (.iload_n 1, 1) := by decide +kernel
theorem d_RC_feed_52 : decode (am_Mof y_RC_feed).1 52 = .ok (.iload_n 2, 1) := by decide +kernel
theorem d_RC_feed_53 : decode (am_Mof y_RC_feed).1 53 = .ok (.lload_n 3, 1) := by decide +kernel
theorem d_RC_feed_54 : decode (am_Mof y_RC_feed).1 54 = .ok (.iload 5, 2) := by decide +kernel
theorem d_RC_feed_56 : decode (am_Mof y_RC_feed).1 56 = .ok (.iload 6, 2) := by decide +kernel
theorem d_RC_feed_58 : decode (am_Mof y_RC_feed).1 58 = .ok (.invokevirtual 90, 3) := by decide +kernel
theorem d_RC_feed_61 : decode (am_Mof y_RC_feed).1 61 = .ok (.ifCond .eq 7, 3) := by decide +kernel
theorem d_RC_feed_64 : decode (am_Mof y_RC_feed).1 64 = .ok (.iconst 1, 1) := by decide +kernel
theorem d_RC_feed_65 : decode (am_Mof y_RC_feed).1 65 = .ok (.goto 4, 3) := by decide +kernel
theorem d_RC_feed_68 : decode (am_Mof y_RC_feed).1 68 = .ok (.iconst 0, 1) := by decide +kernel
theorem d_RC_feed_69 : decode (am_Mof y_RC_feed).1 69 = .ok (.ireturn, 1) := by decide +kernel
theorem d_RC_isYear_0 : decode (am_Mof y_RC_isYear).1 0 = .ok (.iload_n 0, 1) := by decide +kernel
theorem d_RC_isYear_1 : decode (am_Mof y_RC_isYear).1 1 = .ok (.ifCond .lt 13, 3) := by decide +kernel
theorem d_RC_isYear_4 : decode (am_Mof y_RC_isYear).1 4 = .ok (.iload_n 0, 1) := by decide +kernel
theorem d_RC_isYear_5 : decode (am_Mof y_RC_isYear).1 5 = .ok (.bipush 10, 2) := by decide +kernel
theorem d_RC_isYear_7 : decode (am_Mof y_RC_isYear).1 7 = .ok (.if_icmp .ge 7, 3) := by decide +kernel
theorem d_RC_isYear_10 : decode (am_Mof y_RC_isYear).1 10 = .ok (.iconst 1, 1) := by decide +kernel
theorem d_RC_isYear_11 : decode (am_Mof y_RC_isYear).1 11 = .ok (.goto 4, 3) := by decide +kernel
theorem d_RC_isYear_14 : decode (am_Mof y_RC_isYear).1 14 = .ok (.iconst 0, 1) := by decide +kernel
theorem d_RC_isYear_15 : decode (am_Mof y_RC_isYear).1 15 = .ok (.ireturn, 1) := by decide +kernel
theorem d_RC_isCountry_0 : decode (am_Mof y_RC_isCountry).1 0 = .ok (.iload_n 0, 1) := by decide +kernel
theorem d_RC_isCountry_1 : decode (am_Mof y_RC_isCountry).1 1 = .ok (.ifCond .lt 12, 3) := by decide +kernel
theorem d_RC_isCountry_4 : decode (am_Mof y_RC_isCountry).1 4 = .ok (.iload_n 0, 1) := by decide +kernel
theorem d_RC_isCountry_5 : decode (am_Mof y_RC_isCountry).1 5 = .ok (.iconst 4, 1) := by decide +kernel
theorem d_RC_isCountry_6 : decode (am_Mof y_RC_isCountry).1 6 = .ok (.if_icmp .ge 7, 3) := by decide +kernel
theorem d_RC_isCountry_9 : decode (am_Mof y_RC_isCountry).1 9 = .ok (.iconst 1, 1) := by decide +kernel
theorem d_RC_isCountry_10 : decode (am_Mof y_RC_isCountry).1 10 = .ok (.goto 4, 3) := by decide +kernel
theorem d_RC_isCountry_13 : decode (am_Mof y_RC_isCountry).1 13 = .ok (.iconst 0, 1) := by decide +kernel
theorem d_RC_isCountry_14 : decode (am_Mof y_RC_isCountry).1 14 = .ok (.ireturn, 1) := by decide +kernel
theorem d_RC_isWithin_0 : decode (am_Mof y_RC_isWithin).1 0 = .ok (.lload_n 0, 1) := by decide +kernel
theorem d_RC_isWithin_1 : decode (am_Mof y_RC_isWithin).1 1 = .ok (.lload_n 2, 1) := by decide +kernel
theorem d_RC_isWithin_2 : decode (am_Mof y_RC_isWithin).1 2 = .ok (.lcmp, 1) := by decide +kernel
theorem d_RC_isWithin_3 : decode (am_Mof y_RC_isWithin).1 3 = .ok (.ifCond .lt 14, 3) := by decide +kernel
theorem d_RC_isWithin_6 : decode (am_Mof y_RC_isWithin).1 6 = .ok (.lload_n 0, 1) := by decide +kernel
theorem d_RC_isWithin_7 : decode (am_Mof y_RC_isWithin).1 7 = .ok (.lload 4, 2) := by decide +kernel
theorem d_RC_isWithin_9 : decode (am_Mof y_RC_isWithin).1 9 = .ok (.lcmp, 1) := by decide +kernel
theorem d_RC_isWithin_10 : decode (am_Mof y_RC_isWithin).1 10 = .ok (.ifCond .gt 7, 3) := by decide +kernel
theorem d_RC_isWithin_13 : decode (am_Mof y_RC_isWithin).1 13 = .ok (.iconst 1, 1) := by decide +kernel
theorem d_RC_isWithin_14 : decode (am_Mof y_RC_isWithin).1 14 = .ok (.goto 4, 3) := by decide +kernel
theorem d_RC_isWithin_17 : decode (am_Mof y_RC_isWithin).1 17 = .ok (.iconst 0, 1) := by decide +kernel
theorem d_RC_isWithin_18 : decode (am_Mof y_RC_isWithin).1 18 = .ok (.ireturn, 1) := by decide +kernel
theorem d_RC_metals_0 : decode (am_Mof y_RC_metals).1 0 = .ok (.iload_n 1, 1) := by decide +kernel
theorem d_RC_metals_1 : decode (am_Mof y_RC_metals).1 1 = .ok (.invokestatic 78, 3) := by decide +kernel
theorem d_RC_metals_4 : decode (am_Mof y_RC_metals).1 4 = .ok (.ifCond .eq 14, 3) := by decide +kernel
theorem d_RC_metals_7 : decode (am_Mof y_RC_metals).1 7 = .ok (.lload_n 2, 1) := by decide +kernel
theorem d_RC_metals_8 : decode (am_Mof y_RC_metals).1 8 = .ok (.lconst 0, 1) := by decide +kernel
theorem d_RC_metals_9 : decode (am_Mof y_RC_metals).1 9 = .ok (.ldc2_w 84, 3) := by decide +kernel
theorem d_RC_metals_12 : decode (am_Mof y_RC_metals).1 12 = .ok (.invokestatic 86, 3) := by decide +kernel
theorem d_RC_metals_15 : decode (am_Mof y_RC_metals).1 15 = .ok (.ifCond .ne 5, 3) := by decide +kernel
theorem d_RC_metals_18 : decode (am_Mof y_RC_metals).1 18 = .ok (.iconst 0, 1) := by decide +kernel
theorem d_RC_metals_19 : decode (am_Mof y_RC_metals).1 19 = .ok (.ireturn, 1) := by decide +kernel
theorem d_RC_metals_20 : decode (am_Mof y_RC_metals).1 20 = .ok (.aload_n 0, 1) := by decide +kernel
theorem d_RC_metals_21 : decode (am_Mof y_RC_metals).1 21 = .ok (.getfield 23, 3) := by decide +kernel
theorem d_RC_metals_24 : decode (am_Mof y_RC_metals).1 24 = .ok (.iload_n 1, 1) := by decide +kernel
theorem d_RC_metals_25 : decode (am_Mof y_RC_metals).1 25 = .ok (.lload_n 2, 1) := by decide +kernel
theorem d_RC_metals_26 : decode (am_Mof y_RC_metals).1 26 = .ok (.lastore, 1) := by decide +kernel
theorem d_RC_metals_27 : decode (am_Mof y_RC_metals).1 27 = .ok (.iconst 1, 1) := by decide +kernel
theorem d_RC_metals_28 : decode (am_Mof y_RC_metals).1 28 = .ok (.ireturn, 1) := by decide +kernel
theorem d_RC_placed_0 : decode (am_Mof y_RC_placed).1 0 = .ok (.iload_n 1, 1) := by decide +kernel
theorem d_RC_placed_1 : decode (am_Mof y_RC_placed).1 1 = .ok (.invokestatic 67, 3) := by decide +kernel
theorem d_RC_placed_4 : decode (am_Mof y_RC_placed).1 4 = .ok (.ifCond .eq 21, 3) := by decide +kernel
theorem d_RC_placed_7 : decode (am_Mof y_RC_placed).1 7 = .ok (.iload_n 2, 1) := by decide +kernel
theorem d_RC_placed_8 : decode (am_Mof y_RC_placed).1 8 = .ok (.invokestatic 78, 3) := by decide +kernel
theorem d_RC_placed_11 : decode (am_Mof y_RC_placed).1 11 = .ok (.ifCond .eq 14, 3) := by decide +kernel
theorem d_RC_placed_14 : decode (am_Mof y_RC_placed).1 14 = .ok (.lload_n 3, 1) := by decide +kernel
theorem d_RC_placed_15 : decode (am_Mof y_RC_placed).1 15 = .ok (.lconst 0, 1) := by decide +kernel
theorem d_RC_placed_16 : decode (am_Mof y_RC_placed).1 16 = .ok (.ldc2_w 93, 3) := by decide +kernel
theorem d_RC_placed_19 : decode (am_Mof y_RC_placed).1 19 = .ok (.invokestatic 86, 3) := by decide +kernel
theorem d_RC_placed_22 : decode (am_Mof y_RC_placed).1 22 = .ok (.ifCond .ne 5, 3) := by decide +kernel
theorem d_RC_placed_25 : decode (am_Mof y_RC_placed).1 25 = .ok (.iconst 0, 1) := by decide +kernel
theorem d_RC_placed_26 : decode (am_Mof y_RC_placed).1 26 = .ok (.ireturn, 1) := by decide +kernel
theorem d_RC_placed_27 : decode (am_Mof y_RC_placed).1 27 = .ok (.aload_n 0, 1) := by decide +kernel
theorem d_RC_placed_28 : decode (am_Mof y_RC_placed).1 28 = .ok (.getfield 27, 3) := by decide +kernel
theorem d_RC_placed_31 : decode (am_Mof y_RC_placed).1 31 = .ok (.iload_n 1, 1) := by decide +kernel
theorem d_RC_placed_32 : decode (am_Mof y_RC_placed).1 32 = .ok (.iload_n 2, 1) := by decide +kernel
theorem d_RC_placed_33 : decode (am_Mof y_RC_placed).1 33 = .ok (.invokestatic 95, 3) := by decide +kernel
theorem d_RC_placed_36 : decode (am_Mof y_RC_placed).1 36 = .ok (.lload_n 3, 1) := by decide +kernel
theorem d_RC_placed_37 : decode (am_Mof y_RC_placed).1 37 = .ok (.lastore, 1) := by decide +kernel
theorem d_RC_placed_38 : decode (am_Mof y_RC_placed).1 38 = .ok (.iconst 1, 1) := by decide +kernel
theorem d_RC_placed_39 : decode (am_Mof y_RC_placed).1 39 = .ok (.ireturn, 1) := by decide +kernel
theorem d_RC_cell_0 : decode (am_Mof y_RC_cell).1 0 = .ok (.iload_n 0, 1) := by decide +kernel
theorem d_RC_cell_1 : decode (am_Mof y_RC_cell).1 1 = .ok (.bipush 10, 2) := by decide +kernel
theorem d_RC_cell_3 : decode (am_Mof y_RC_cell).1 3 = .ok (.imul, 1) := by decide +kernel
theorem d_RC_cell_4 : decode (am_Mof y_RC_cell).1 4 = .ok (.iload_n 1, 1) := by decide +kernel
theorem d_RC_cell_5 : decode (am_Mof y_RC_cell).1 5 = .ok (.iadd, 1) := by decide +kernel
theorem d_RC_cell_6 : decode (am_Mof y_RC_cell).1 6 = .ok (.ireturn, 1) := by decide +kernel
theorem d_RC_solve_0 : decode (am_Mof y_RC_solve).1 0 = .ok (.aload_n 0, 1) := by decide +kernel
theorem d_RC_solve_1 : decode (am_Mof y_RC_solve).1 1 = .ok (.getfield 10, 3) := by decide +kernel
theorem d_RC_solve_4 : decode (am_Mof y_RC_solve).1 4 = .ok (.invokevirtual 99, 3) := by decide +kernel
theorem d_RC_solve_7 : decode (am_Mof y_RC_solve).1 7 = .ok (.istore_n 1, 1) := by decide +kernel
theorem d_RC_solve_8 : decode (am_Mof y_RC_solve).1 8 = .ok (.iload_n 1, 1) := by decide +kernel
theorem d_RC_solve_9 : decode (am_Mof y_RC_solve).1 9 = .ok (.iconst (-1), 1) := by decide +kernel
theorem d_RC_solve_10 : decode (am_Mof y_RC_solve).1 10 = .ok (.if_icmp .eq 7, 3) := by decide +kernel
theorem d_RC_solve_13 : decode (am_Mof y_RC_solve).1 13 = .ok (.iconst 1, 1) := by decide +kernel
theorem d_RC_solve_14 : decode (am_Mof y_RC_solve).1 14 = .ok (.iload_n 1, 1) := by decide +kernel
theorem d_RC_solve_15 : decode (am_Mof y_RC_solve).1 15 = .ok (.iadd, 1) := by decide +kernel
theorem d_RC_solve_16 : decode (am_Mof y_RC_solve).1 16 = .ok (.ireturn, 1) := by decide +kernel
theorem d_RC_solve_17 : decode (am_Mof y_RC_solve).1 17 = .ok (.aload_n 0, 1) := by decide +kernel
theorem d_RC_solve_18 : decode (am_Mof y_RC_solve).1 18 = .ok (.getfield 33, 3) := by decide +kernel
theorem d_RC_solve_21 : decode (am_Mof y_RC_solve).1 21 = .ok (.aload_n 0, 1) := by decide +kernel
theorem d_RC_solve_22 : decode (am_Mof y_RC_solve).1 22 = .ok (.getfield 10, 3) := by decide +kernel
theorem d_RC_solve_25 : decode (am_Mof y_RC_solve).1 25 = .ok (.aload_n 0, 1) := by decide +kernel
theorem d_RC_solve_26 : decode (am_Mof y_RC_solve).1 26 = .ok (.getfield 19, 3) := by decide +kernel
theorem d_RC_solve_29 : decode (am_Mof y_RC_solve).1 29 = .ok (.aload_n 0, 1) := by decide +kernel
theorem d_RC_solve_30 : decode (am_Mof y_RC_solve).1 30 = .ok (.getfield 23, 3) := by decide +kernel
theorem d_RC_solve_33 : decode (am_Mof y_RC_solve).1 33 = .ok (.invokevirtual 102, 3) := by decide +kernel
theorem d_RC_solve_36 : decode (am_Mof y_RC_solve).1 36 = .ok (.iconst 0, 1) := by decide +kernel
theorem d_RC_solve_37 : decode (am_Mof y_RC_solve).1 37 = .ok (.ireturn, 1) := by decide +kernel
theorem d_RC_counted_0 : decode (am_Mof y_RC_counted).1 0 = .ok (.aload_n 0, 1) := by decide +kernel
theorem d_RC_counted_1 : decode (am_Mof y_RC_counted).1 1 = .ok (.getfield 33, 3) := by decide +kernel
theorem d_RC_counted_4 : decode (am_Mof y_RC_counted).1 4 = .ok (.invokevirtual 106, 3) := by decide +kernel
theorem d_RC_counted_7 : decode (am_Mof y_RC_counted).1 7 = .ok (.ifCond .eq 24, 3) := by decide +kernel
theorem d_RC_counted_10 : decode (am_Mof y_RC_counted).1 10 = .ok (.iload_n 1, 1) := by decide +kernel
theorem d_RC_counted_11 : decode (am_Mof y_RC_counted).1 11 = .ok (.invokestatic 67, 3) := by decide +kernel
theorem d_RC_counted_14 : decode (am_Mof y_RC_counted).1 14 = .ok (.ifCond .eq 17, 3) := by decide +kernel
theorem d_RC_counted_17 : decode (am_Mof y_RC_counted).1 17 = .ok (.iload_n 2, 1) := by decide +kernel
theorem d_RC_counted_18 : decode (am_Mof y_RC_counted).1 18 = .ok (.invokestatic 78, 3) := by decide +kernel
theorem d_RC_counted_21 : decode (am_Mof y_RC_counted).1 21 = .ok (.ifCond .eq 10, 3) := by decide +kernel
theorem d_RC_counted_24 : decode (am_Mof y_RC_counted).1 24 = .ok (.iload_n 3, 1) := by decide +kernel
theorem d_RC_counted_25 : decode (am_Mof y_RC_counted).1 25 = .ok (.invokestatic 110, 3) := by decide +kernel
theorem d_RC_counted_28 : decode (am_Mof y_RC_counted).1 28 = .ok (.ifCond .ne 7, 3) := by decide +kernel
theorem d_RC_counted_31 : decode (am_Mof y_RC_counted).1 31 = .ok (.ldc2_w 113, 3) := by decide +kernel
theorem d_RC_counted_34 : decode (am_Mof y_RC_counted).1 34 = .ok (.lreturn, 1) := by decide +kernel
theorem d_RC_counted_35 : decode (am_Mof y_RC_counted).1 35 = .ok (.aload_n 0, 1) := by decide +kernel
theorem d_RC_counted_36 : decode (am_Mof y_RC_counted).1 36 = .ok (.getfield 33, 3) := by decide +kernel
theorem d_RC_counted_39 : decode (am_Mof y_RC_counted).1 39 = .ok (.iload_n 1, 1) := by decide +kernel
theorem d_RC_counted_40 : decode (am_Mof y_RC_counted).1 40 = .ok (.iload_n 2, 1) := by decide +kernel
theorem d_RC_counted_41 : decode (am_Mof y_RC_counted).1 41 = .ok (.invokevirtual 115, 3) := by decide +kernel
theorem d_RC_counted_44 : decode (am_Mof y_RC_counted).1 44 = .ok (.aload_n 0, 1) := by decide +kernel
theorem d_RC_counted_45 : decode (am_Mof y_RC_counted).1 45 = .ok (.getfield 33, 3) := by decide +kernel
theorem d_RC_counted_48 : decode (am_Mof y_RC_counted).1 48 = .ok (.iload_n 1, 1) := by decide +kernel
theorem d_RC_counted_49 : decode (am_Mof y_RC_counted).1 49 = .ok (.invokevirtual 119, 3) := by decide +kernel
theorem d_RC_counted_52 : decode (am_Mof y_RC_counted).1 52 = .ok (.iload_n 3, 1) := by decide +kernel
theorem d_RC_counted_53 : decode (am_Mof y_RC_counted).1 53 = .ok (.invokestatic 123, 3) := by decide +kernel
theorem d_RC_counted_56 : decode (am_Mof y_RC_counted).1 56 = .ok (.lreturn, 1) := by decide +kernel
theorem d_RC_isPart_0 : decode (am_Mof y_RC_isPart).1 0 = .ok (.iload_n 0, 1) := by decide +kernel
theorem d_RC_isPart_1 : decode (am_Mof y_RC_isPart).1 1 = .ok (.ifCond .eq 8, 3) := by decide +kernel
theorem d_RC_isPart_4 : decode (am_Mof y_RC_isPart).1 4 = .ok (.iload_n 0, 1) := by decide +kernel
theorem d_RC_isPart_5 : decode (am_Mof y_RC_isPart).1 5 = .ok (.iconst 1, 1) := by decide +kernel
theorem d_RC_isPart_6 : decode (am_Mof y_RC_isPart).1 6 = .ok (.if_icmp .ne 7, 3) := by decide +kernel
theorem d_RC_isPart_9 : decode (am_Mof y_RC_isPart).1 9 = .ok (.iconst 1, 1) := by decide +kernel
theorem d_RC_isPart_10 : decode (am_Mof y_RC_isPart).1 10 = .ok (.goto 4, 3) := by decide +kernel
theorem d_RC_isPart_13 : decode (am_Mof y_RC_isPart).1 13 = .ok (.iconst 0, 1) := by decide +kernel
theorem d_RC_isPart_14 : decode (am_Mof y_RC_isPart).1 14 = .ok (.ireturn, 1) := by decide +kernel
theorem d_RC_partOf_0 : decode (am_Mof y_RC_partOf).1 0 = .ok (.lload_n 0, 1) := by decide +kernel
theorem d_RC_partOf_1 : decode (am_Mof y_RC_partOf).1 1 = .ok (.lconst 0, 1) := by decide +kernel
theorem d_RC_partOf_2 : decode (am_Mof y_RC_partOf).1 2 = .ok (.lcmp, 1) := by decide +kernel
theorem d_RC_partOf_3 : decode (am_Mof y_RC_partOf).1 3 = .ok (.ifCond .ge 8, 3) := by decide +kernel
theorem d_RC_partOf_6 : decode (am_Mof y_RC_partOf).1 6 = .ok (.lload_n 0, 1) := by decide +kernel
theorem d_RC_partOf_7 : decode (am_Mof y_RC_partOf).1 7 = .ok (.lneg, 1) := by decide +kernel
theorem d_RC_partOf_8 : decode (am_Mof y_RC_partOf).1 8 = .ok (.goto 4, 3) := by decide +kernel
theorem d_RC_partOf_11 : decode (am_Mof y_RC_partOf).1 11 = .ok (.lload_n 0, 1) := by decide +kernel
theorem d_RC_partOf_12 : decode (am_Mof y_RC_partOf).1 12 = .ok (.lload_n 2, 1) := by decide +kernel
theorem d_RC_partOf_13 : decode (am_Mof y_RC_partOf).1 13 = .ok (.invokestatic 178, 3) := by decide +kernel
theorem d_RC_partOf_16 : decode (am_Mof y_RC_partOf).1 16 = .ok (.lstore 5, 2) := by decide +kernel
theorem d_RC_partOf_18 : decode (am_Mof y_RC_partOf).1 18 = .ok (.lload 5, 2) := by decide +kernel
theorem d_RC_partOf_20 : decode (am_Mof y_RC_partOf).1 20 = .ok (.lconst 0, 1) := by decide +kernel
theorem d_RC_partOf_21 : decode (am_Mof y_RC_partOf).1 21 = .ok (.lcmp, 1) := by decide +kernel
theorem d_RC_partOf_22 : decode (am_Mof y_RC_partOf).1 22 = .ok (.ifCond .ne 5, 3) := by decide +kernel
theorem d_RC_partOf_25 : decode (am_Mof y_RC_partOf).1 25 = .ok (.lconst 0, 1) := by decide +kernel
theorem d_RC_partOf_26 : decode (am_Mof y_RC_partOf).1 26 = .ok (.lreturn, 1) := by decide +kernel
theorem d_RC_partOf_27 : decode (am_Mof y_RC_partOf).1 27 = .ok (.iload 4, 2) := by decide +kernel
theorem d_RC_partOf_29 : decode (am_Mof y_RC_partOf).1 29 = .ok (.ifCond .ne 10, 3) := by decide +kernel
theorem d_RC_partOf_32 : decode (am_Mof y_RC_partOf).1 32 = .ok (.lload_n 0, 1) := by decide +kernel
theorem d_RC_partOf_33 : decode (am_Mof y_RC_partOf).1 33 = .ok (.lload 5, 2) := by decide +kernel
theorem d_RC_partOf_35 : decode (am_Mof y_RC_partOf).1 35 = .ok (.ldiv, 1) := by decide +kernel
theorem d_RC_partOf_36 : decode (am_Mof y_RC_partOf).1 36 = .ok (.goto 7, 3) := by decide +kernel
theorem d_RC_partOf_39 : decode (am_Mof y_RC_partOf).1 39 = .ok (.lload_n 2, 1) := by decide +kernel
theorem d_RC_partOf_40 : decode (am_Mof y_RC_partOf).1 40 = .ok (.lload 5, 2) := by decide +kernel
theorem d_RC_partOf_42 : decode (am_Mof y_RC_partOf).1 42 = .ok (.ldiv, 1) := by decide +kernel
theorem d_RC_partOf_43 : decode (am_Mof y_RC_partOf).1 43 = .ok (.lreturn, 1) := by decide +kernel
theorem d_RC_commonOf_0 : decode (am_Mof y_RC_commonOf).1 0 = .ok (.lload_n 0, 1) := by decide +kernel
theorem d_RC_commonOf_1 : decode (am_Mof y_RC_commonOf).1 1 = .ok (.lstore 4, 2) := by decide +kernel
theorem d_RC_commonOf_3 : decode (am_Mof y_RC_commonOf).1 3 = .ok (.lload_n 2, 1) := by decide +kernel
theorem d_RC_commonOf_4 : decode (am_Mof y_RC_commonOf).1 4 = .ok (.lstore 6, 2) := by decide +kernel
theorem d_RC_commonOf_6 : decode (am_Mof y_RC_commonOf).1 6 = .ok (.iconst 0, 1) := by decide +kernel
theorem d_RC_commonOf_7 : decode (am_Mof y_RC_commonOf).1 7 = .ok (.istore 8, 2) := by decide +kernel
theorem d_RC_commonOf_9 : decode (am_Mof y_RC_commonOf).1 9 = .ok (.iload 8, 2) := by decide +kernel
theorem d_RC_commonOf_11 : decode (am_Mof y_RC_commonOf).1 11 = .ok (.sipush 128, 3) := by decide +kernel
theorem d_RC_commonOf_14 : decode (am_Mof y_RC_commonOf).1 14 = .ok (.if_icmp .ge 31, 3) := by decide +kernel
theorem d_RC_commonOf_17 : decode (am_Mof y_RC_commonOf).1 17 = .ok (.lload 6, 2) := by decide +kernel
theorem d_RC_commonOf_19 : decode (am_Mof y_RC_commonOf).1 19 = .ok (.lconst 0, 1) := by decide +kernel
theorem d_RC_commonOf_20 : decode (am_Mof y_RC_commonOf).1 20 = .ok (.lcmp, 1) := by decide +kernel
theorem d_RC_commonOf_21 : decode (am_Mof y_RC_commonOf).1 21 = .ok (.ifCond .eq 24, 3) := by decide +kernel
theorem d_RC_commonOf_24 : decode (am_Mof y_RC_commonOf).1 24 = .ok (.lload 4, 2) := by decide +kernel
theorem d_RC_commonOf_26 : decode (am_Mof y_RC_commonOf).1 26 = .ok (.lload 6, 2) := by decide +kernel
theorem d_RC_commonOf_28 : decode (am_Mof y_RC_commonOf).1 28 = .ok (.lrem, 1) := by decide +kernel
theorem d_RC_commonOf_29 : decode (am_Mof y_RC_commonOf).1 29 = .ok (.lstore 9, 2) := by decide +kernel
theorem d_RC_commonOf_31 : decode (am_Mof y_RC_commonOf).1 31 = .ok (.lload 6, 2) := by decide +kernel
theorem d_RC_commonOf_33 : decode (am_Mof y_RC_commonOf).1 33 = .ok (.lstore 4, 2) := by decide +kernel
theorem d_RC_commonOf_35 : decode (am_Mof y_RC_commonOf).1 35 = .ok (.lload 9, 2) := by decide +kernel
theorem d_RC_commonOf_37 : decode (am_Mof y_RC_commonOf).1 37 = .ok (.lstore 6, 2) := by decide +kernel
theorem d_RC_commonOf_39 : decode (am_Mof y_RC_commonOf).1 39 = .ok (.iinc 8 1, 3) := by decide +kernel
theorem d_RC_commonOf_42 : decode (am_Mof y_RC_commonOf).1 42 = .ok (.goto (-33), 3) := by decide +kernel
theorem d_RC_commonOf_45 : decode (am_Mof y_RC_commonOf).1 45 = .ok (.lload 4, 2) := by decide +kernel
theorem d_RC_commonOf_47 : decode (am_Mof y_RC_commonOf).1 47 = .ok (.lreturn, 1) := by decide +kernel
theorem d_RC_rate_0 : decode (am_Mof y_RC_rate).1 0 = .ok (.aload_n 0, 1) := by decide +kernel
theorem d_RC_rate_1 : decode (am_Mof y_RC_rate).1 1 = .ok (.getfield 33, 3) := by decide +kernel
theorem d_RC_rate_4 : decode (am_Mof y_RC_rate).1 4 = .ok (.invokevirtual 106, 3) := by decide +kernel
theorem d_RC_rate_7 : decode (am_Mof y_RC_rate).1 7 = .ok (.ifCond .eq 24, 3) := by decide +kernel
theorem d_RC_rate_10 : decode (am_Mof y_RC_rate).1 10 = .ok (.iload_n 1, 1) := by decide +kernel
theorem d_RC_rate_11 : decode (am_Mof y_RC_rate).1 11 = .ok (.invokestatic 67, 3) := by decide +kernel
theorem d_RC_rate_14 : decode (am_Mof y_RC_rate).1 14 = .ok (.ifCond .eq 17, 3) := by decide +kernel
theorem d_RC_rate_17 : decode (am_Mof y_RC_rate).1 17 = .ok (.iload_n 2, 1) := by decide +kernel
theorem d_RC_rate_18 : decode (am_Mof y_RC_rate).1 18 = .ok (.invokestatic 78, 3) := by decide +kernel
theorem d_RC_rate_21 : decode (am_Mof y_RC_rate).1 21 = .ok (.ifCond .eq 10, 3) := by decide +kernel
theorem d_RC_rate_24 : decode (am_Mof y_RC_rate).1 24 = .ok (.iload_n 3, 1) := by decide +kernel
theorem d_RC_rate_25 : decode (am_Mof y_RC_rate).1 25 = .ok (.invokestatic 110, 3) := by decide +kernel
theorem d_RC_rate_28 : decode (am_Mof y_RC_rate).1 28 = .ok (.ifCond .ne 7, 3) := by decide +kernel
theorem d_RC_rate_31 : decode (am_Mof y_RC_rate).1 31 = .ok (.ldc2_w 113, 3) := by decide +kernel
theorem d_RC_rate_34 : decode (am_Mof y_RC_rate).1 34 = .ok (.lreturn, 1) := by decide +kernel
theorem d_RC_rate_35 : decode (am_Mof y_RC_rate).1 35 = .ok (.aload_n 0, 1) := by decide +kernel
theorem d_RC_rate_36 : decode (am_Mof y_RC_rate).1 36 = .ok (.getfield 27, 3) := by decide +kernel
theorem d_RC_rate_39 : decode (am_Mof y_RC_rate).1 39 = .ok (.iload_n 1, 1) := by decide +kernel
theorem d_RC_rate_40 : decode (am_Mof y_RC_rate).1 40 = .ok (.iload_n 2, 1) := by decide +kernel
theorem d_RC_rate_41 : decode (am_Mof y_RC_rate).1 41 = .ok (.invokestatic 95, 3) := by decide +kernel
theorem d_RC_rate_44 : decode (am_Mof y_RC_rate).1 44 = .ok (.laload, 1) := by decide +kernel
theorem d_RC_rate_45 : decode (am_Mof y_RC_rate).1 45 = .ok (.lstore 4, 2) := by decide +kernel
theorem d_RC_rate_47 : decode (am_Mof y_RC_rate).1 47 = .ok (.lload 4, 2) := by decide +kernel
theorem d_RC_rate_49 : decode (am_Mof y_RC_rate).1 49 = .ok (.lconst 0, 1) := by decide +kernel
theorem d_RC_rate_50 : decode (am_Mof y_RC_rate).1 50 = .ok (.lcmp, 1) := by decide +kernel
theorem d_RC_rate_51 : decode (am_Mof y_RC_rate).1 51 = .ok (.ifCond .ne 5, 3) := by decide +kernel
theorem d_RC_rate_54 : decode (am_Mof y_RC_rate).1 54 = .ok (.lconst 0, 1) := by decide +kernel
theorem d_RC_rate_55 : decode (am_Mof y_RC_rate).1 55 = .ok (.lreturn, 1) := by decide +kernel
theorem d_RC_rate_56 : decode (am_Mof y_RC_rate).1 56 = .ok (.aload_n 0, 1) := by decide +kernel
theorem d_RC_rate_57 : decode (am_Mof y_RC_rate).1 57 = .ok (.getfield 33, 3) := by decide +kernel
theorem d_RC_rate_60 : decode (am_Mof y_RC_rate).1 60 = .ok (.iconst 0, 1) := by decide +kernel
theorem d_RC_rate_61 : decode (am_Mof y_RC_rate).1 61 = .ok (.iload_n 1, 1) := by decide +kernel
theorem d_RC_rate_62 : decode (am_Mof y_RC_rate).1 62 = .ok (.iload_n 2, 1) := by decide +kernel
theorem d_RC_rate_63 : decode (am_Mof y_RC_rate).1 63 = .ok (.invokevirtual 127, 3) := by decide +kernel
theorem d_RC_rate_66 : decode (am_Mof y_RC_rate).1 66 = .ok (.lstore 6, 2) := by decide +kernel
theorem d_RC_rate_68 : decode (am_Mof y_RC_rate).1 68 = .ok (.lload 6, 2) := by decide +kernel
theorem d_RC_rate_70 : decode (am_Mof y_RC_rate).1 70 = .ok (.aload_n 0, 1) := by decide +kernel
theorem d_RC_rate_71 : decode (am_Mof y_RC_rate).1 71 = .ok (.getfield 33, 3) := by decide +kernel
theorem d_RC_rate_74 : decode (am_Mof y_RC_rate).1 74 = .ok (.iload_n 1, 1) := by decide +kernel
theorem d_RC_rate_75 : decode (am_Mof y_RC_rate).1 75 = .ok (.invokevirtual 119, 3) := by decide +kernel
theorem d_RC_rate_78 : decode (am_Mof y_RC_rate).1 78 = .ok (.lload 4, 2) := by decide +kernel
theorem d_RC_rate_80 : decode (am_Mof y_RC_rate).1 80 = .ok (.lmul, 1) := by decide +kernel
theorem d_RC_rate_81 : decode (am_Mof y_RC_rate).1 81 = .ok (.iload_n 3, 1) := by decide +kernel
theorem d_RC_rate_82 : decode (am_Mof y_RC_rate).1 82 = .ok (.invokestatic 123, 3) := by decide +kernel
theorem d_RC_rate_85 : decode (am_Mof y_RC_rate).1 85 = .ok (.lreturn, 1) := by decide +kernel
theorem d_RC_twice_0 : decode (am_Mof y_RC_twice).1 0 = .ok (.iconst 0, 1) := by decide +kernel
theorem d_RC_twice_1 : decode (am_Mof y_RC_twice).1 1 = .ok (.istore_n 2, 1) := by decide +kernel
theorem d_RC_twice_2 : decode (am_Mof y_RC_twice).1 2 = .ok (.iconst 0, 1) := by decide +kernel
theorem d_RC_twice_3 : decode (am_Mof y_RC_twice).1 3 = .ok (.istore_n 3, 1) := by decide +kernel
theorem d_RC_twice_4 : decode (am_Mof y_RC_twice).1 4 = .ok (.iload_n 3, 1) := by decide +kernel
theorem d_RC_twice_5 : decode (am_Mof y_RC_twice).1 5 = .ok (.bipush 20, 2) := by decide +kernel
theorem d_RC_twice_7 : decode (am_Mof y_RC_twice).1 7 = .ok (.if_icmp .ge 35, 3) := by decide +kernel
theorem d_RC_twice_10 : decode (am_Mof y_RC_twice).1 10 = .ok (.aload_n 0, 1) := by decide +kernel
theorem d_RC_twice_11 : decode (am_Mof y_RC_twice).1 11 = .ok (.getfield 10, 3) := by decide +kernel
theorem d_RC_twice_14 : decode (am_Mof y_RC_twice).1 14 = .ok (.iload_n 3, 1) := by decide +kernel
theorem d_RC_twice_15 : decode (am_Mof y_RC_twice).1 15 = .ok (.iconst 4, 1) := by decide +kernel
theorem d_RC_twice_16 : decode (am_Mof y_RC_twice).1 16 = .ok (.idiv, 1) := by decide +kernel
theorem d_RC_twice_17 : decode (am_Mof y_RC_twice).1 17 = .ok (.iload_n 3, 1) := by decide +kernel
theorem d_RC_twice_18 : decode (am_Mof y_RC_twice).1 18 = .ok (.iconst 4, 1) := by decide +kernel
theorem d_RC_twice_19 : decode (am_Mof y_RC_twice).1 19 = .ok (.irem, 1) := by decide +kernel
theorem d_RC_twice_20 : decode (am_Mof y_RC_twice).1 20 = .ok (.invokevirtual 131, 3) := by decide +kernel
theorem d_RC_twice_23 : decode (am_Mof y_RC_twice).1 23 = .ok (.ifCond .eq 13, 3) := by decide +kernel
theorem d_RC_twice_26 : decode (am_Mof y_RC_twice).1 26 = .ok (.iload_n 2, 1) := by decide +kernel
theorem d_RC_twice_27 : decode (am_Mof y_RC_twice).1 27 = .ok (.iload_n 1, 1) := by decide +kernel
theorem d_RC_twice_28 : decode (am_Mof y_RC_twice).1 28 = .ok (.if_icmp .ne 5, 3) := by decide +kernel
theorem d_RC_twice_31 : decode (am_Mof y_RC_twice).1 31 = .ok (.iload_n 3, 1) := by decide +kernel
theorem d_RC_twice_32 : decode (am_Mof y_RC_twice).1 32 = .ok (.ireturn, 1) := by decide +kernel
theorem d_RC_twice_33 : decode (am_Mof y_RC_twice).1 33 = .ok (.iinc 2 1, 3) := by decide +kernel
theorem d_RC_twice_36 : decode (am_Mof y_RC_twice).1 36 = .ok (.iinc 3 1, 3) := by decide +kernel
theorem d_RC_twice_39 : decode (am_Mof y_RC_twice).1 39 = .ok (.goto (-35), 3) := by decide +kernel
theorem d_RC_twice_42 : decode (am_Mof y_RC_twice).1 42 = .ok (.iconst (-1), 1) := by decide +kernel
theorem d_RC_twice_43 : decode (am_Mof y_RC_twice).1 43 = .ok (.ireturn, 1) := by decide +kernel
theorem d_RC_told_0 : decode (am_Mof y_RC_told).1 0 = .ok (.iconst 0, 1) := by decide +kernel
theorem d_RC_told_1 : decode (am_Mof y_RC_told).1 1 = .ok (.istore_n 2, 1) := by decide +kernel
theorem d_RC_told_2 : decode (am_Mof y_RC_told).1 2 = .ok (.iconst 0, 1) := by decide +kernel
theorem d_RC_told_3 : decode (am_Mof y_RC_told).1 3 = .ok (.istore_n 3, 1) := by decide +kernel
theorem d_RC_told_4 : decode (am_Mof y_RC_told).1 4 = .ok (.iload_n 3, 1) := by decide +kernel
theorem d_RC_told_5 : decode (am_Mof y_RC_told).1 5 = .ok (.iconst 5, 1) := by decide +kernel
theorem d_RC_told_6 : decode (am_Mof y_RC_told).1 6 = .ok (.if_icmp .ge 30, 3) := by decide +kernel
theorem d_RC_told_9 : decode (am_Mof y_RC_told).1 9 = .ok (.aload_n 0, 1) := by decide +kernel
theorem d_RC_told_10 : decode (am_Mof y_RC_told).1 10 = .ok (.getfield 33, 3) := by decide +kernel
theorem d_RC_told_13 : decode (am_Mof y_RC_told).1 13 = .ok (.iload_n 3, 1) := by decide +kernel
theorem d_RC_told_14 : decode (am_Mof y_RC_told).1 14 = .ok (.invokevirtual 134, 3) := by decide +kernel
theorem d_RC_told_17 : decode (am_Mof y_RC_told).1 17 = .ok (.ifCond .eq 13, 3) := by decide +kernel
theorem d_RC_told_20 : decode (am_Mof y_RC_told).1 20 = .ok (.iload_n 2, 1) := by decide +kernel
theorem d_RC_told_21 : decode (am_Mof y_RC_told).1 21 = .ok (.iload_n 1, 1) := by decide +kernel
theorem d_RC_told_22 : decode (am_Mof y_RC_told).1 22 = .ok (.if_icmp .ne 5, 3) := by decide +kernel
theorem d_RC_told_25 : decode (am_Mof y_RC_told).1 25 = .ok (.iload_n 3, 1) := by decide +kernel
theorem d_RC_told_26 : decode (am_Mof y_RC_told).1 26 = .ok (.ireturn, 1) := by decide +kernel
theorem d_RC_told_27 : decode (am_Mof y_RC_told).1 27 = .ok (.iinc 2 1, 3) := by decide +kernel
theorem d_RC_told_30 : decode (am_Mof y_RC_told).1 30 = .ok (.iinc 3 1, 3) := by decide +kernel
theorem d_RC_told_33 : decode (am_Mof y_RC_told).1 33 = .ok (.goto (-29), 3) := by decide +kernel
theorem d_RC_told_36 : decode (am_Mof y_RC_told).1 36 = .ok (.iconst (-1), 1) := by decide +kernel
theorem d_RC_told_37 : decode (am_Mof y_RC_told).1 37 = .ok (.ireturn, 1) := by decide +kernel
theorem d_RC_once_0 : decode (am_Mof y_RC_once).1 0 = .ok (.aload_n 0, 1) := by decide +kernel
theorem d_RC_once_1 : decode (am_Mof y_RC_once).1 1 = .ok (.getfield 33, 3) := by decide +kernel
theorem d_RC_once_4 : decode (am_Mof y_RC_once).1 4 = .ok (.invokevirtual 106, 3) := by decide +kernel
theorem d_RC_once_7 : decode (am_Mof y_RC_once).1 7 = .ok (.ifCond .eq 13, 3) := by decide +kernel
theorem d_RC_once_10 : decode (am_Mof y_RC_once).1 10 = .ok (.aload_n 0, 1) := by decide +kernel
theorem d_RC_once_11 : decode (am_Mof y_RC_once).1 11 = .ok (.getfield 33, 3) := by decide +kernel
theorem d_RC_once_14 : decode (am_Mof y_RC_once).1 14 = .ok (.invokevirtual 137, 3) := by decide +kernel
theorem d_RC_once_17 : decode (am_Mof y_RC_once).1 17 = .ok (.ifCond .eq 7, 3) := by decide +kernel
theorem d_RC_once_20 : decode (am_Mof y_RC_once).1 20 = .ok (.iconst 1, 1) := by decide +kernel
theorem d_RC_once_21 : decode (am_Mof y_RC_once).1 21 = .ok (.goto 4, 3) := by decide +kernel
theorem d_RC_once_24 : decode (am_Mof y_RC_once).1 24 = .ok (.iconst 0, 1) := by decide +kernel
theorem d_RC_once_25 : decode (am_Mof y_RC_once).1 25 = .ok (.ireturn, 1) := by decide +kernel
theorem d_RC_claim_0 : decode (am_Mof y_RC_claim).1 0 = .ok (.aload_n 0, 1) := by decide +kernel
theorem d_RC_claim_1 : decode (am_Mof y_RC_claim).1 1 = .ok (.iload_n 1, 1) := by decide +kernel
theorem d_RC_claim_2 : decode (am_Mof y_RC_claim).1 2 = .ok (.iload_n 2, 1) := by decide +kernel
theorem d_RC_claim_3 : decode (am_Mof y_RC_claim).1 3 = .ok (.iload_n 3, 1) := by decide +kernel
theorem d_RC_claim_4 : decode (am_Mof y_RC_claim).1 4 = .ok (.invokevirtual 140, 3) := by decide +kernel
theorem d_RC_claim_7 : decode (am_Mof y_RC_claim).1 7 = .ok (.ifCond .eq 15, 3) := by decide +kernel
theorem d_RC_claim_10 : decode (am_Mof y_RC_claim).1 10 = .ok (.lload 4, 2) := by decide +kernel
theorem d_RC_claim_12 : decode (am_Mof y_RC_claim).1 12 = .ok (.lconst 1, 1) := by decide +kernel
theorem d_RC_claim_13 : decode (am_Mof y_RC_claim).1 13 = .ok (.ldc2_w 143, 3) := by decide +kernel
theorem d_RC_claim_16 : decode (am_Mof y_RC_claim).1 16 = .ok (.invokestatic 86, 3) := by decide +kernel
theorem d_RC_claim_19 : decode (am_Mof y_RC_claim).1 19 = .ok (.ifCond .ne 7, 3) := by decide +kernel
theorem d_RC_claim_22 : decode (am_Mof y_RC_claim).1 22 = .ok (.ldc2_w 113, 3) := by decide +kernel
theorem d_RC_claim_25 : decode (am_Mof y_RC_claim).1 25 = .ok (.lreturn, 1) := by decide +kernel
theorem d_RC_claim_26 : decode (am_Mof y_RC_claim).1 26 = .ok (.aload_n 0, 1) := by decide +kernel
theorem d_RC_claim_27 : decode (am_Mof y_RC_claim).1 27 = .ok (.getfield 33, 3) := by decide +kernel
theorem d_RC_claim_30 : decode (am_Mof y_RC_claim).1 30 = .ok (.iload_n 1, 1) := by decide +kernel
theorem d_RC_claim_31 : decode (am_Mof y_RC_claim).1 31 = .ok (.iload_n 2, 1) := by decide +kernel
theorem d_RC_claim_32 : decode (am_Mof y_RC_claim).1 32 = .ok (.iload_n 3, 1) := by decide +kernel
theorem d_RC_claim_33 : decode (am_Mof y_RC_claim).1 33 = .ok (.lload 4, 2) := by decide +kernel
theorem d_RC_claim_35 : decode (am_Mof y_RC_claim).1 35 = .ok (.invokevirtual 145, 3) := by decide +kernel
theorem d_RC_claim_38 : decode (am_Mof y_RC_claim).1 38 = .ok (.lreturn, 1) := by decide +kernel
theorem d_RC_hasStock_0 : decode (am_Mof y_RC_hasStock).1 0 = .ok (.aload_n 0, 1) := by decide +kernel
theorem d_RC_hasStock_1 : decode (am_Mof y_RC_hasStock).1 1 = .ok (.getfield 33, 3) := by decide +kernel
theorem d_RC_hasStock_4 : decode (am_Mof y_RC_hasStock).1 4 = .ok (.invokevirtual 106, 3) := by decide +kernel
theorem d_RC_hasStock_7 : decode (am_Mof y_RC_hasStock).1 7 = .ok (.ifCond .eq 28, 3) := by decide +kernel
theorem d_RC_hasStock_10 : decode (am_Mof y_RC_hasStock).1 10 = .ok (.iload_n 1, 1) := by decide +kernel
theorem d_RC_hasStock_11 : decode (am_Mof y_RC_hasStock).1 11 = .ok (.invokestatic 81, 3) := by decide +kernel
theorem d_RC_hasStock_14 : decode (am_Mof y_RC_hasStock).1 14 = .ok (.ifCond .eq 21, 3) := by decide +kernel
theorem d_RC_hasStock_17 : decode (am_Mof y_RC_hasStock).1 17 = .ok (.iload_n 2, 1) := by decide +kernel
theorem d_RC_hasStock_18 : decode (am_Mof y_RC_hasStock).1 18 = .ok (.invokestatic 67, 3) := by decide +kernel
theorem d_RC_hasStock_21 : decode (am_Mof y_RC_hasStock).1 21 = .ok (.ifCond .eq 14, 3) := by decide +kernel
theorem d_RC_hasStock_24 : decode (am_Mof y_RC_hasStock).1 24 = .ok (.iload_n 3, 1) := by decide +kernel
theorem d_RC_hasStock_25 : decode (am_Mof y_RC_hasStock).1 25 = .ok (.invokestatic 78, 3) := by decide +kernel
theorem d_RC_hasStock_28 : decode (am_Mof y_RC_hasStock).1 28 = .ok (.ifCond .eq 7, 3) := by decide +kernel
theorem d_RC_hasStock_31 : decode (am_Mof y_RC_hasStock).1 31 = .ok (.iconst 1, 1) := by decide +kernel
theorem d_RC_hasStock_32 : decode (am_Mof y_RC_hasStock).1 32 = .ok (.goto 4, 3) := by decide +kernel
theorem d_RC_hasStock_35 : decode (am_Mof y_RC_hasStock).1 35 = .ok (.iconst 0, 1) := by decide +kernel
theorem d_RC_hasStock_36 : decode (am_Mof y_RC_hasStock).1 36 = .ok (.ireturn, 1) := by decide +kernel
theorem d_RC_left_0 : decode (am_Mof y_RC_left).1 0 = .ok (.aload_n 0, 1) := by decide +kernel
theorem d_RC_left_1 : decode (am_Mof y_RC_left).1 1 = .ok (.iload_n 1, 1) := by decide +kernel
theorem d_RC_left_2 : decode (am_Mof y_RC_left).1 2 = .ok (.iload_n 2, 1) := by decide +kernel
theorem d_RC_left_3 : decode (am_Mof y_RC_left).1 3 = .ok (.iload_n 3, 1) := by decide +kernel
theorem d_RC_left_4 : decode (am_Mof y_RC_left).1 4 = .ok (.invokevirtual 140, 3) := by decide +kernel
theorem d_RC_left_7 : decode (am_Mof y_RC_left).1 7 = .ok (.ifCond .eq 16, 3) := by decide +kernel
theorem d_RC_left_10 : decode (am_Mof y_RC_left).1 10 = .ok (.aload_n 0, 1) := by decide +kernel
theorem d_RC_left_11 : decode (am_Mof y_RC_left).1 11 = .ok (.getfield 33, 3) := by decide +kernel
theorem d_RC_left_14 : decode (am_Mof y_RC_left).1 14 = .ok (.iload_n 1, 1) := by decide +kernel
theorem d_RC_left_15 : decode (am_Mof y_RC_left).1 15 = .ok (.iload_n 2, 1) := by decide +kernel
theorem d_RC_left_16 : decode (am_Mof y_RC_left).1 16 = .ok (.iload_n 3, 1) := by decide +kernel
theorem d_RC_left_17 : decode (am_Mof y_RC_left).1 17 = .ok (.invokevirtual 149, 3) := by decide +kernel
theorem d_RC_left_20 : decode (am_Mof y_RC_left).1 20 = .ok (.goto 6, 3) := by decide +kernel
theorem d_RC_left_23 : decode (am_Mof y_RC_left).1 23 = .ok (.ldc2_w 113, 3) := by decide +kernel
theorem d_RC_left_26 : decode (am_Mof y_RC_left).1 26 = .ok (.lreturn, 1) := by decide +kernel
theorem d_RC_open_0 : decode (am_Mof y_RC_open).1 0 = .ok (.aload_n 0, 1) := by decide +kernel
theorem d_RC_open_1 : decode (am_Mof y_RC_open).1 1 = .ok (.getfield 33, 3) := by decide +kernel
theorem d_RC_open_4 : decode (am_Mof y_RC_open).1 4 = .ok (.invokevirtual 106, 3) := by decide +kernel
theorem d_RC_open_7 : decode (am_Mof y_RC_open).1 7 = .ok (.ifCond .eq 25, 3) := by decide +kernel
theorem d_RC_open_10 : decode (am_Mof y_RC_open).1 10 = .ok (.iload_n 1, 1) := by decide +kernel
theorem d_RC_open_11 : decode (am_Mof y_RC_open).1 11 = .ok (.invokestatic 78, 3) := by decide +kernel
theorem d_RC_open_14 : decode (am_Mof y_RC_open).1 14 = .ok (.ifCond .eq 18, 3) := by decide +kernel
theorem d_RC_open_17 : decode (am_Mof y_RC_open).1 17 = .ok (.iload_n 2, 1) := by decide +kernel
theorem d_RC_open_18 : decode (am_Mof y_RC_open).1 18 = .ok (.invokestatic 78, 3) := by decide +kernel
theorem d_RC_open_21 : decode (am_Mof y_RC_open).1 21 = .ok (.ifCond .eq 11, 3) := by decide +kernel
theorem d_RC_open_24 : decode (am_Mof y_RC_open).1 24 = .ok (.iload 4, 2) := by decide +kernel
theorem d_RC_open_26 : decode (am_Mof y_RC_open).1 26 = .ok (.invokestatic 110, 3) := by decide +kernel
theorem d_RC_open_29 : decode (am_Mof y_RC_open).1 29 = .ok (.ifCond .ne 5, 3) := by decide +kernel
theorem d_RC_open_32 : decode (am_Mof y_RC_open).1 32 = .ok (.lconst 0, 1) := by decide +kernel
theorem d_RC_open_33 : decode (am_Mof y_RC_open).1 33 = .ok (.lreturn, 1) := by decide +kernel
theorem d_RC_open_34 : decode (am_Mof y_RC_open).1 34 = .ok (.iload_n 3, 1) := by decide +kernel
theorem d_RC_open_35 : decode (am_Mof y_RC_open).1 35 = .ok (.ifCond .lt 16, 3) := by decide +kernel
theorem d_RC_open_38 : decode (am_Mof y_RC_open).1 38 = .ok (.aload_n 0, 1) := by decide +kernel
theorem d_RC_open_39 : decode (am_Mof y_RC_open).1 39 = .ok (.getfield 10, 3) := by decide +kernel
theorem d_RC_open_42 : decode (am_Mof y_RC_open).1 42 = .ok (.iload_n 3, 1) := by decide +kernel
theorem d_RC_open_43 : decode (am_Mof y_RC_open).1 43 = .ok (.iconst 4, 1) := by decide +kernel
theorem d_RC_open_44 : decode (am_Mof y_RC_open).1 44 = .ok (.idiv, 1) := by decide +kernel
theorem d_RC_open_45 : decode (am_Mof y_RC_open).1 45 = .ok (.invokevirtual 59, 3) := by decide +kernel
theorem d_RC_open_48 : decode (am_Mof y_RC_open).1 48 = .ok (.ifCond .ne 5, 3) := by decide +kernel
theorem d_RC_open_51 : decode (am_Mof y_RC_open).1 51 = .ok (.lconst 0, 1) := by decide +kernel
theorem d_RC_open_52 : decode (am_Mof y_RC_open).1 52 = .ok (.lreturn, 1) := by decide +kernel
theorem d_RC_open_53 : decode (am_Mof y_RC_open).1 53 = .ok (.iload_n 3, 1) := by decide +kernel
theorem d_RC_open_54 : decode (am_Mof y_RC_open).1 54 = .ok (.iconst 4, 1) := by decide +kernel
theorem d_RC_open_55 : decode (am_Mof y_RC_open).1 55 = .ok (.irem, 1) := by decide +kernel
theorem d_RC_open_56 : decode (am_Mof y_RC_open).1 56 = .ok (.istore 5, 2) := by decide +kernel
theorem d_RC_open_58 : decode (am_Mof y_RC_open).1 58 = .ok (.aload_n 0, 1) := by decide +kernel
theorem d_RC_open_59 : decode (am_Mof y_RC_open).1 59 = .ok (.getfield 33, 3) := by decide +kernel
theorem d_RC_open_62 : decode (am_Mof y_RC_open).1 62 = .ok (.iload_n 3, 1) := by decide +kernel
theorem d_RC_open_63 : decode (am_Mof y_RC_open).1 63 = .ok (.iconst 4, 1) := by decide +kernel
theorem d_RC_open_64 : decode (am_Mof y_RC_open).1 64 = .ok (.idiv, 1) := by decide +kernel
theorem d_RC_open_65 : decode (am_Mof y_RC_open).1 65 = .ok (.iload 5, 2) := by decide +kernel
theorem d_RC_open_67 : decode (am_Mof y_RC_open).1 67 = .ok (.iload_n 1, 1) := by decide +kernel
theorem d_RC_open_68 : decode (am_Mof y_RC_open).1 68 = .ok (.iload_n 2, 1) := by decide +kernel
theorem d_RC_open_69 : decode (am_Mof y_RC_open).1 69 = .ok (.invokevirtual 152, 3) := by decide +kernel
theorem d_RC_open_72 : decode (am_Mof y_RC_open).1 72 = .ok (.lstore 6, 2) := by decide +kernel
theorem d_RC_open_74 : decode (am_Mof y_RC_open).1 74 = .ok (.lload 6, 2) := by decide +kernel
theorem d_RC_open_76 : decode (am_Mof y_RC_open).1 76 = .ok (.aload_n 0, 1) := by decide +kernel
theorem d_RC_open_77 : decode (am_Mof y_RC_open).1 77 = .ok (.getfield 33, 3) := by decide +kernel
theorem d_RC_open_80 : decode (am_Mof y_RC_open).1 80 = .ok (.iload 5, 2) := by decide +kernel
theorem d_RC_open_82 : decode (am_Mof y_RC_open).1 82 = .ok (.invokevirtual 119, 3) := by decide +kernel
theorem d_RC_open_85 : decode (am_Mof y_RC_open).1 85 = .ok (.iload 4, 2) := by decide +kernel
theorem d_RC_open_87 : decode (am_Mof y_RC_open).1 87 = .ok (.invokestatic 123, 3) := by decide +kernel
theorem d_RC_open_90 : decode (am_Mof y_RC_open).1 90 = .ok (.lreturn, 1) := by decide +kernel
theorem d_RC_audit_0 : decode (am_Mof y_RC_audit).1 0 = .ok (.iload_n 3, 1) := by decide +kernel
theorem d_RC_audit_1 : decode (am_Mof y_RC_audit).1 1 = .ok (.iconst 1, 1) := by decide +kernel
theorem d_RC_audit_2 : decode (am_Mof y_RC_audit).1 2 = .ok (.if_icmp .lt 14, 3) := by decide +kernel
theorem d_RC_audit_5 : decode (am_Mof y_RC_audit).1 5 = .ok (.iload_n 3, 1) := by decide +kernel
theorem d_RC_audit_6 : decode (am_Mof y_RC_audit).1 6 = .ok (.aload_n 0, 1) := by decide +kernel
theorem d_RC_audit_7 : decode (am_Mof y_RC_audit).1 7 = .ok (.getfield 19, 3) := by decide +kernel
theorem d_RC_audit_10 : decode (am_Mof y_RC_audit).1 10 = .ok (.invokevirtual 156, 3) := by decide +kernel
theorem d_RC_audit_13 : decode (am_Mof y_RC_audit).1 13 = .ok (.if_icmp .le 5, 3) := by decide +kernel
theorem d_RC_audit_16 : decode (am_Mof y_RC_audit).1 16 = .ok (.iconst (-1), 1) := by decide +kernel
theorem d_RC_audit_17 : decode (am_Mof y_RC_audit).1 17 = .ok (.ireturn, 1) := by decide +kernel
theorem d_RC_audit_18 : decode (am_Mof y_RC_audit).1 18 = .ok (.aload_n 0, 1) := by decide +kernel
theorem d_RC_audit_19 : decode (am_Mof y_RC_audit).1 19 = .ok (.getfield 40, 3) := by decide +kernel
theorem d_RC_audit_22 : decode (am_Mof y_RC_audit).1 22 = .ok (.lload_n 1, 1) := by decide +kernel
theorem d_RC_audit_23 : decode (am_Mof y_RC_audit).1 23 = .ok (.iload_n 3, 1) := by decide +kernel
theorem d_RC_audit_24 : decode (am_Mof y_RC_audit).1 24 = .ok (.aload_n 0, 1) := by decide +kernel
theorem d_RC_audit_25 : decode (am_Mof y_RC_audit).1 25 = .ok (.getfield 19, 3) := by decide +kernel
theorem d_RC_audit_28 : decode (am_Mof y_RC_audit).1 28 = .ok (.invokevirtual 156, 3) := by decide +kernel
theorem d_RC_audit_31 : decode (am_Mof y_RC_audit).1 31 = .ok (.invokevirtual 159, 3) := by decide +kernel
theorem d_RC_audit_34 : decode (am_Mof y_RC_audit).1 34 = .ok (.iload_n 3, 1) := by decide +kernel
theorem d_RC_audit_35 : decode (am_Mof y_RC_audit).1 35 = .ok (.ireturn, 1) := by decide +kernel
theorem d_RC_drawn_0 : decode (am_Mof y_RC_drawn).1 0 = .ok (.aload_n 0, 1) := by decide +kernel
theorem d_RC_drawn_1 : decode (am_Mof y_RC_drawn).1 1 = .ok (.getfield 40, 3) := by decide +kernel
theorem d_RC_drawn_4 : decode (am_Mof y_RC_drawn).1 4 = .ok (.iload_n 1, 1) := by decide +kernel
theorem d_RC_drawn_5 : decode (am_Mof y_RC_drawn).1 5 = .ok (.invokevirtual 162, 3) := by decide +kernel
theorem d_RC_drawn_8 : decode (am_Mof y_RC_drawn).1 8 = .ok (.ireturn, 1) := by decide +kernel
theorem d_RC_unit_0 : decode (am_Mof y_RC_unit).1 0 = .ok (.iload_n 1, 1) := by decide +kernel
theorem d_RC_unit_1 : decode (am_Mof y_RC_unit).1 1 = .ok (.ifCond .lt 25, 3) := by decide +kernel
theorem d_RC_unit_4 : decode (am_Mof y_RC_unit).1 4 = .ok (.iload_n 1, 1) := by decide +kernel
theorem d_RC_unit_5 : decode (am_Mof y_RC_unit).1 5 = .ok (.sipush 255, 3) := by decide +kernel
theorem d_RC_unit_8 : decode (am_Mof y_RC_unit).1 8 = .ok (.if_icmp .gt 18, 3) := by decide +kernel
theorem d_RC_unit_11 : decode (am_Mof y_RC_unit).1 11 = .ok (.aload_n 0, 1) := by decide +kernel
theorem d_RC_unit_12 : decode (am_Mof y_RC_unit).1 12 = .ok (.getfield 47, 3) := by decide +kernel
theorem d_RC_unit_15 : decode (am_Mof y_RC_unit).1 15 = .ok (.iload_n 1, 1) := by decide +kernel
theorem d_RC_unit_16 : decode (am_Mof y_RC_unit).1 16 = .ok (.invokevirtual 166, 3) := by decide +kernel
theorem d_RC_unit_19 : decode (am_Mof y_RC_unit).1 19 = .ok (.ifCond .eq 7, 3) := by decide +kernel
theorem d_RC_unit_22 : decode (am_Mof y_RC_unit).1 22 = .ok (.iconst 1, 1) := by decide +kernel
theorem d_RC_unit_23 : decode (am_Mof y_RC_unit).1 23 = .ok (.goto 4, 3) := by decide +kernel
theorem d_RC_unit_26 : decode (am_Mof y_RC_unit).1 26 = .ok (.iconst 0, 1) := by decide +kernel
theorem d_RC_unit_27 : decode (am_Mof y_RC_unit).1 27 = .ok (.ireturn, 1) := by decide +kernel
theorem d_RC_form_0 : decode (am_Mof y_RC_form).1 0 = .ok (.iload_n 1, 1) := by decide +kernel
theorem d_RC_form_1 : decode (am_Mof y_RC_form).1 1 = .ok (.ifCond .ge 7, 3) := by decide +kernel
theorem d_RC_form_4 : decode (am_Mof y_RC_form).1 4 = .ok (.iconst (-1), 1) := by decide +kernel
theorem d_RC_form_5 : decode (am_Mof y_RC_form).1 5 = .ok (.goto 15, 3) := by decide +kernel
theorem d_RC_form_8 : decode (am_Mof y_RC_form).1 8 = .ok (.aload_n 0, 1) := by decide +kernel
theorem d_RC_form_9 : decode (am_Mof y_RC_form).1 9 = .ok (.getfield 47, 3) := by decide +kernel
theorem d_RC_form_12 : decode (am_Mof y_RC_form).1 12 = .ok (.iload_n 1, 1) := by decide +kernel
theorem d_RC_form_13 : decode (am_Mof y_RC_form).1 13 = .ok (.aload_n 0, 1) := by decide +kernel
theorem d_RC_form_14 : decode (am_Mof y_RC_form).1 14 = .ok (.getfield 33, 3) := by decide +kernel
theorem d_RC_form_17 : decode (am_Mof y_RC_form).1 17 = .ok (.invokevirtual 168, 3) := by decide +kernel
theorem d_RC_form_20 : decode (am_Mof y_RC_form).1 20 = .ok (.ireturn, 1) := by decide +kernel
end
section
theorem d_Mo_init_0 : decode (am_Mof y_Mo_init).1 0 = .ok (.aload_n 0, 1) := by decide +kernel
theorem d_Mo_init_1 : decode (am_Mof y_Mo_init).1 1 = .ok (.invokespecial 1, 3) := by decide +kernel
theorem d_Mo_init_4 : decode (am_Mof y_Mo_init).1 4 = .ok (.aload_n 0, 1) := by decide +kernel
theorem d_Mo_init_5 : decode (am_Mof y_Mo_init).1 5 = .ok (.bipush 25, 2) := by decide +kernel
theorem d_Mo_init_7 : decode (am_Mof y_Mo_init).1 7 = .ok (.newarray .int, 2) := by decide +kernel
theorem d_Mo_init_9 : decode (am_Mof y_Mo_init).1 9 = .ok (.putfield 7, 3) := by decide +kernel
theorem d_Mo_init_12 : decode (am_Mof y_Mo_init).1 12 = .ok (.aload_n 0, 1) := by decide +kernel
theorem d_Mo_init_13 : decode (am_Mof y_Mo_init).1 13 = .ok (.bipush 20, 2) := by decide +kernel
theorem d_Mo_init_15 : decode (am_Mof y_Mo_init).1 15 = .ok (.newarray .boolean, 2) := by decide +kernel
theorem d_Mo_init_17 : decode (am_Mof y_Mo_init).1 17 = .ok (.putfield 13, 3) := by decide +kernel
theorem d_Mo_init_20 : decode (am_Mof y_Mo_init).1 20 = .ok (.aload_n 0, 1) := by decide +kernel
theorem d_Mo_init_21 : decode (am_Mof y_Mo_init).1 21 = .ok (.iconst 5, 1) := by decide +kernel
theorem d_Mo_init_22 : decode (am_Mof y_Mo_init).1 22 = .ok (.newarray .boolean, 2) := by decide +kernel
theorem d_Mo_init_24 : decode (am_Mof y_Mo_init).1 24 = .ok (.putfield 17, 3) := by decide +kernel
theorem d_Mo_init_27 : decode (am_Mof y_Mo_init).1 27 = .ok (.aload_n 0, 1) := by decide +kernel
theorem d_Mo_init_28 : decode (am_Mof y_Mo_init).1 28 = .ok (.iconst 5, 1) := by decide +kernel
theorem d_Mo_init_29 : decode (am_Mof y_Mo_init).1 29 = .ok (.newarray .int, 2) := by decide +kernel
theorem d_Mo_init_31 : decode (am_Mof y_Mo_init).1 31 = .ok (.putfield 20, 3) := by decide +kernel
theorem d_Mo_init_34 : decode (am_Mof y_Mo_init).1 34 = .ok (.aload_n 0, 1) := by decide +kernel
theorem d_Mo_init_35 : decode (am_Mof y_Mo_init).1 35 = .ok (.bipush 60, 2) := by decide +kernel
theorem d_Mo_init_37 : decode (am_Mof y_Mo_init).1 37 = .ok (.newarray .int, 2) := by decide +kernel
theorem d_Mo_init_39 : decode (am_Mof y_Mo_init).1 39 = .ok (.putfield 23, 3) := by decide +kernel
theorem d_Mo_init_42 : decode (am_Mof y_Mo_init).1 42 = .ok (.aload_n 0, 1) := by decide +kernel
theorem d_Mo_init_43 : decode (am_Mof y_Mo_init).1 43 = .ok (.bipush 60, 2) := by decide +kernel
theorem d_Mo_init_45 : decode (am_Mof y_Mo_init).1 45 = .ok (.newarray .int, 2) := by decide +kernel
theorem d_Mo_init_47 : decode (am_Mof y_Mo_init).1 47 = .ok (.putfield 26, 3) := by decide +kernel
theorem d_Mo_init_50 : decode (am_Mof y_Mo_init).1 50 = .ok (.aload_n 0, 1) := by decide +kernel
theorem d_Mo_init_51 : decode (am_Mof y_Mo_init).1 51 = .ok (.bipush 60, 2) := by decide +kernel
theorem d_Mo_init_53 : decode (am_Mof y_Mo_init).1 53 = .ok (.newarray .int, 2) := by decide +kernel
theorem d_Mo_init_55 : decode (am_Mof y_Mo_init).1 55 = .ok (.putfield 29, 3) := by decide +kernel
theorem d_Mo_init_58 : decode (am_Mof y_Mo_init).1 58 = .ok (.aload_n 0, 1) := by decide +kernel
theorem d_Mo_init_59 : decode (am_Mof y_Mo_init).1 59 = .ok (.bipush 60, 2) := by decide +kernel
theorem d_Mo_init_61 : decode (am_Mof y_Mo_init).1 61 = .ok (.newarray .int, 2) := by decide +kernel
theorem d_Mo_init_63 : decode (am_Mof y_Mo_init).1 63 = .ok (.putfield 32, 3) := by decide +kernel
theorem d_Mo_init_66 : decode (am_Mof y_Mo_init).1 66 = .ok (.aload_n 0, 1) := by decide +kernel
theorem d_Mo_init_67 : decode (am_Mof y_Mo_init).1 67 = .ok (.bipush 60, 2) := by decide +kernel
theorem d_Mo_init_69 : decode (am_Mof y_Mo_init).1 69 = .ok (.newarray .long, 2) := by decide +kernel
theorem d_Mo_init_71 : decode (am_Mof y_Mo_init).1 71 = .ok (.putfield 35, 3) := by decide +kernel
theorem d_Mo_init_74 : decode (am_Mof y_Mo_init).1 74 = .ok (.aload_n 0, 1) := by decide +kernel
theorem d_Mo_init_75 : decode (am_Mof y_Mo_init).1 75 = .ok (.bipush 10, 2) := by decide +kernel
theorem d_Mo_init_77 : decode (am_Mof y_Mo_init).1 77 = .ok (.newarray .long, 2) := by decide +kernel
theorem d_Mo_init_79 : decode (am_Mof y_Mo_init).1 79 = .ok (.putfield 39, 3) := by decide +kernel
theorem d_Mo_init_82 : decode (am_Mof y_Mo_init).1 82 = .ok (.aload_n 0, 1) := by decide +kernel
theorem d_Mo_init_83 : decode (am_Mof y_Mo_init).1 83 = .ok (.bipush 40, 2) := by decide +kernel
theorem d_Mo_init_85 : decode (am_Mof y_Mo_init).1 85 = .ok (.newarray .long, 2) := by decide +kernel
theorem d_Mo_init_87 : decode (am_Mof y_Mo_init).1 87 = .ok (.putfield 42, 3) := by decide +kernel
theorem d_Mo_init_90 : decode (am_Mof y_Mo_init).1 90 = .ok (.aload_n 0, 1) := by decide +kernel
theorem d_Mo_init_91 : decode (am_Mof y_Mo_init).1 91 = .ok (.bipush 20, 2) := by decide +kernel
theorem d_Mo_init_93 : decode (am_Mof y_Mo_init).1 93 = .ok (.newarray .long, 2) := by decide +kernel
theorem d_Mo_init_95 : decode (am_Mof y_Mo_init).1 95 = .ok (.putfield 45, 3) := by decide +kernel
theorem d_Mo_init_98 : decode (am_Mof y_Mo_init).1 98 = .ok (.aload_n 0, 1) := by decide +kernel
theorem d_Mo_init_99 : decode (am_Mof y_Mo_init).1 99 = .ok (.bipush 20, 2) := by decide +kernel
theorem d_Mo_init_101 : decode (am_Mof y_Mo_init).1 101 = .ok (.newarray .long, 2) := by decide +kernel
theorem d_Mo_init_103 : decode (am_Mof y_Mo_init).1 103 = .ok (.putfield 48, 3) := by decide +kernel
theorem d_Mo_init_106 : decode (am_Mof y_Mo_init).1 106 = .ok (.aload_n 0, 1) := by decide +kernel
theorem d_Mo_init_107 : decode (am_Mof y_Mo_init).1 107 = .ok (.bipush 20, 2) := by decide +kernel
theorem d_Mo_init_109 : decode (am_Mof y_Mo_init).1 109 = .ok (.newarray .boolean, 2) := by decide +kernel
theorem d_Mo_init_111 : decode (am_Mof y_Mo_init).1 111 = .ok (.putfield 51, 3) := by decide +kernel
theorem d_Mo_init_114 : decode (am_Mof y_Mo_init).1 114 = .ok (.aload_n 0, 1) := by decide +kernel
theorem d_Mo_init_115 : decode (am_Mof y_Mo_init).1 115 = .ok (.bipush 10, 2) := by decide +kernel
theorem d_Mo_init_117 : decode (am_Mof y_Mo_init).1 117 = .ok (.newarray .long, 2) := by decide +kernel
theorem d_Mo_init_119 : decode (am_Mof y_Mo_init).1 119 = .ok (.putfield 54, 3) := by decide +kernel
theorem d_Mo_init_122 : decode (am_Mof y_Mo_init).1 122 = .ok (.aload_n 0, 1) := by decide +kernel
theorem d_Mo_init_123 : decode (am_Mof y_Mo_init).1 123 = .ok (.sipush 160, 3) := by decide +kernel
theorem d_Mo_init_126 : decode (am_Mof y_Mo_init).1 126 = .ok (.newarray .long, 2) := by decide +kernel
theorem d_Mo_init_128 : decode (am_Mof y_Mo_init).1 128 = .ok (.putfield 57, 3) := by decide +kernel
theorem d_Mo_init_131 : decode (am_Mof y_Mo_init).1 131 = .ok (.aload_n 0, 1) := by decide +kernel
theorem d_Mo_init_132 : decode (am_Mof y_Mo_init).1 132 = .ok (.bipush 60, 2) := by decide +kernel
theorem d_Mo_init_134 : decode (am_Mof y_Mo_init).1 134 = .ok (.newarray .int, 2) := by decide +kernel
theorem d_Mo_init_136 : decode (am_Mof y_Mo_init).1 136 = .ok (.putfield 60, 3) := by decide +kernel
theorem d_Mo_init_139 : decode (am_Mof y_Mo_init).1 139 = .ok (.aload_n 0, 1) := by decide +kernel
theorem d_Mo_init_140 : decode (am_Mof y_Mo_init).1 140 = .ok (.sipush 200, 3) := by decide +kernel
theorem d_Mo_init_143 : decode (am_Mof y_Mo_init).1 143 = .ok (.newarray .int, 2) := by decide +kernel
theorem d_Mo_init_145 : decode (am_Mof y_Mo_init).1 145 = .ok (.putfield 63, 3) := by decide +kernel
theorem d_Mo_init_148 : decode (am_Mof y_Mo_init).1 148 = .ok (.aload_n 0, 1) := by decide +kernel
theorem d_Mo_init_149 : decode (am_Mof y_Mo_init).1 149 = .ok (.bipush 30, 2) := by decide +kernel
theorem d_Mo_init_151 : decode (am_Mof y_Mo_init).1 151 = .ok (.newarray .long, 2) := by decide +kernel
theorem d_Mo_init_153 : decode (am_Mof y_Mo_init).1 153 = .ok (.putfield 66, 3) := by decide +kernel
theorem d_Mo_init_156 : decode (am_Mof y_Mo_init).1 156 = .ok (.aload_n 0, 1) := by decide +kernel
theorem d_Mo_init_157 : decode (am_Mof y_Mo_init).1 157 = .ok (.bipush 30, 2) := by decide +kernel
theorem d_Mo_init_159 : decode (am_Mof y_Mo_init).1 159 = .ok (.newarray .long, 2) := by decide +kernel
theorem d_Mo_init_161 : decode (am_Mof y_Mo_init).1 161 = .ok (.putfield 69, 3) := by decide +kernel
theorem d_Mo_init_164 : decode (am_Mof y_Mo_init).1 164 = .ok (.return_, 1) := by decide +kernel
theorem d_Mo_plant_0 : decode (am_Mof y_Mo_plant).1 0 = .ok (.aload_n 0, 1) := by decide +kernel
theorem d_Mo_plant_1 : decode (am_Mof y_Mo_plant).1 1 = .ok (.getfield 72, 3) := by decide +kernel
theorem d_Mo_plant_4 : decode (am_Mof y_Mo_plant).1 4 = .ok (.iconst 5, 1) := by decide +kernel
theorem d_Mo_plant_5 : decode (am_Mof y_Mo_plant).1 5 = .ok (.if_icmp .ne 5, 3) := by decide +kernel
theorem d_Mo_plant_8 : decode (am_Mof y_Mo_plant).1 8 = .ok (.iconst (-1), 1) := by decide +kernel
theorem d_Mo_plant_9 : decode (am_Mof y_Mo_plant).1 9 = .ok (.ireturn, 1) := by decide +kernel
theorem d_Mo_plant_10 : decode (am_Mof y_Mo_plant).1 10 = .ok (.aload_n 0, 1) := by decide +kernel
theorem d_Mo_plant_11 : decode (am_Mof y_Mo_plant).1 11 = .ok (.dup, 1) := by decide +kernel
theorem d_Mo_plant_12 : decode (am_Mof y_Mo_plant).1 12 = .ok (.getfield 72, 3) := by decide +kernel
theorem d_Mo_plant_15 : decode (am_Mof y_Mo_plant).1 15 = .ok (.iconst 1, 1) := by decide +kernel
theorem d_Mo_plant_16 : decode (am_Mof y_Mo_plant).1 16 = .ok (.iadd, 1) := by decide +kernel
theorem d_Mo_plant_17 : decode (am_Mof y_Mo_plant).1 17 = .ok (.putfield 72, 3) := by decide +kernel
theorem d_Mo_plant_20 : decode (am_Mof y_Mo_plant).1 20 = .ok (.aload_n 0, 1) := by decide +kernel
theorem d_Mo_plant_21 : decode (am_Mof y_Mo_plant).1 21 = .ok (.getfield 72, 3) := by decide +kernel
theorem d_Mo_plant_24 : decode (am_Mof y_Mo_plant).1 24 = .ok (.iconst 1, 1) := by decide +kernel
theorem d_Mo_plant_25 : decode (am_Mof y_Mo_plant).1 25 = .ok (.isub, 1) := by decide +kernel
theorem d_Mo_plant_26 : decode (am_Mof y_Mo_plant).1 26 = .ok (.ireturn, 1) := by decide +kernel
theorem d_Mo_share_0 : decode (am_Mof y_Mo_share).1 0 = .ok (.aload_n 0, 1) := by decide +kernel
theorem d_Mo_share_1 : decode (am_Mof y_Mo_share).1 1 = .ok (.iload_n 1, 1) := by decide +kernel
theorem d_Mo_share_2 : decode (am_Mof y_Mo_share).1 2 = .ok (.invokevirtual 86, 3) := by decide +kernel
theorem d_Mo_share_5 : decode (am_Mof y_Mo_share).1 5 = .ok (.ifCond .eq 20, 3) := by decide +kernel
theorem d_Mo_share_8 : decode (am_Mof y_Mo_share).1 8 = .ok (.aload_n 0, 1) := by decide +kernel
theorem d_Mo_share_9 : decode (am_Mof y_Mo_share).1 9 = .ok (.iload_n 2, 1) := by decide +kernel
theorem d_Mo_share_10 : decode (am_Mof y_Mo_share).1 10 = .ok (.invokevirtual 86, 3) := by decide +kernel
theorem d_Mo_share_13 : decode (am_Mof y_Mo_share).1 13 = .ok (.ifCond .eq 12, 3) := by decide +kernel
theorem d_Mo_share_16 : decode (am_Mof y_Mo_share).1 16 = .ok (.lload_n 3, 1) := by decide +kernel
theorem d_Mo_share_17 : decode (am_Mof y_Mo_share).1 17 = .ok (.lload 5, 2) := by decide +kernel
theorem d_Mo_share_19 : decode (am_Mof y_Mo_share).1 19 = .ok (.invokestatic 90, 3) := by decide +kernel
theorem d_Mo_share_22 : decode (am_Mof y_Mo_share).1 22 = .ok (.ifCond .ne 5, 3) := by decide +kernel
theorem d_Mo_share_25 : decode (am_Mof y_Mo_share).1 25 = .ok (.iconst 0, 1) := by decide +kernel
theorem d_Mo_share_26 : decode (am_Mof y_Mo_share).1 26 = .ok (.ireturn, 1) := by decide +kernel
theorem d_Mo_share_27 : decode (am_Mof y_Mo_share).1 27 = .ok (.iconst 0, 1) := by decide +kernel
theorem d_Mo_share_28 : decode (am_Mof y_Mo_share).1 28 = .ok (.istore 7, 2) := by decide +kernel
theorem d_Mo_share_30 : decode (am_Mof y_Mo_share).1 30 = .ok (.iconst 0, 1) := by decide +kernel
theorem d_Mo_share_31 : decode (am_Mof y_Mo_share).1 31 = .ok (.istore 8, 2) := by decide +kernel
theorem d_Mo_share_33 : decode (am_Mof y_Mo_share).1 33 = .ok (.iload 8, 2) := by decide +kernel
theorem d_Mo_share_35 : decode (am_Mof y_Mo_share).1 35 = .ok (.iconst 5, 1) := by decide +kernel
theorem d_Mo_share_36 : decode (am_Mof y_Mo_share).1 36 = .ok (.if_icmp .ge 35, 3) := by decide +kernel
theorem d_Mo_share_39 : decode (am_Mof y_Mo_share).1 39 = .ok (.iload 7, 2) := by decide +kernel
theorem d_Mo_share_41 : decode (am_Mof y_Mo_share).1 41 = .ok (.iload 8, 2) := by decide +kernel
theorem d_Mo_share_43 : decode (am_Mof y_Mo_share).1 43 = .ok (.iload_n 2, 1) := by decide +kernel
theorem d_Mo_share_44 : decode (am_Mof y_Mo_share).1 44 = .ok (.if_icmp .ne 7, 3) := by decide +kernel
theorem d_Mo_share_47 : decode (am_Mof y_Mo_share).1 47 = .ok (.iconst 0, 1) := by decide +kernel
theorem d_Mo_share_48 : decode (am_Mof y_Mo_share).1 48 = .ok (.goto 14, 3) := by decide +kernel
theorem d_Mo_share_51 : decode (am_Mof y_Mo_share).1 51 = .ok (.aload_n 0, 1) := by decide +kernel
theorem d_Mo_share_52 : decode (am_Mof y_Mo_share).1 52 = .ok (.getfield 7, 3) := by decide +kernel
theorem d_Mo_share_55 : decode (am_Mof y_Mo_share).1 55 = .ok (.iconst 5, 1) := by decide +kernel
theorem d_Mo_share_56 : decode (am_Mof y_Mo_share).1 56 = .ok (.iload_n 1, 1) := by decide +kernel
theorem d_Mo_share_57 : decode (am_Mof y_Mo_share).1 57 = .ok (.imul, 1) := by decide +kernel
theorem d_Mo_share_58 : decode (am_Mof y_Mo_share).1 58 = .ok (.iload 8, 2) := by decide +kernel
theorem d_Mo_share_60 : decode (am_Mof y_Mo_share).1 60 = .ok (.iadd, 1) := by decide +kernel
theorem d_Mo_share_61 : decode (am_Mof y_Mo_share).1 61 = .ok (.iaload, 1) := by decide +kernel
theorem d_Mo_share_62 : decode (am_Mof y_Mo_share).1 62 = .ok (.iadd, 1) := by decide +kernel
theorem d_Mo_share_63 : decode (am_Mof y_Mo_share).1 63 = .ok (.istore 7, 2) := by decide +kernel
theorem d_Mo_share_65 : decode (am_Mof y_Mo_share).1 65 = .ok (.iinc 8 1, 3) := by decide +kernel
theorem d_Mo_share_68 : decode (am_Mof y_Mo_share).1 68 = .ok (.goto (-35), 3) := by decide +kernel
theorem d_Mo_share_71 : decode (am_Mof y_Mo_share).1 71 = .ok (.ldc2_w 80, 3) := by decide +kernel
theorem d_Mo_share_74 : decode (am_Mof y_Mo_share).1 74 = .ok (.lload 5, 2) := by decide +kernel
theorem d_Mo_share_76 : decode (am_Mof y_Mo_share).1 76 = .ok (.ldiv, 1) := by decide +kernel
theorem d_Mo_share_77 : decode (am_Mof y_Mo_share).1 77 = .ok (.lload_n 3, 1) := by decide +kernel
theorem d_Mo_share_78 : decode (am_Mof y_Mo_share).1 78 = .ok (.lmul, 1) := by decide +kernel
theorem d_Mo_share_79 : decode (am_Mof y_Mo_share).1 79 = .ok (.l2i, 1) := by decide +kernel
theorem d_Mo_share_80 : decode (am_Mof y_Mo_share).1 80 = .ok (.istore 8, 2) := by decide +kernel
theorem d_Mo_share_82 : decode (am_Mof y_Mo_share).1 82 = .ok (.iload 7, 2) := by decide +kernel
theorem d_Mo_share_84 : decode (am_Mof y_Mo_share).1 84 = .ok (.iload 8, 2) := by decide +kernel
theorem d_Mo_share_86 : decode (am_Mof y_Mo_share).1 86 = .ok (.iadd, 1) := by decide +kernel
theorem d_Mo_share_87 : decode (am_Mof y_Mo_share).1 87 = .ok (.bipush 10, 2) := by decide +kernel
theorem d_Mo_share_89 : decode (am_Mof y_Mo_share).1 89 = .ok (.if_icmp .le 5, 3) := by decide +kernel
theorem d_Mo_share_92 : decode (am_Mof y_Mo_share).1 92 = .ok (.iconst 0, 1) := by decide +kernel
theorem d_Mo_share_93 : decode (am_Mof y_Mo_share).1 93 = .ok (.ireturn, 1) := by decide +kernel
theorem d_Mo_share_94 : decode (am_Mof y_Mo_share).1 94 = .ok (.aload_n 0, 1) := by decide +kernel
theorem d_Mo_share_95 : decode (am_Mof y_Mo_share).1 95 = .ok (.getfield 7, 3) := by decide +kernel
theorem d_Mo_share_98 : decode (am_Mof y_Mo_share).1 98 = .ok (.iconst 5, 1) := by decide +kernel
theorem d_Mo_share_99 : decode (am_Mof y_Mo_share).1 99 = .ok (.iload_n 1, 1) := by decide +kernel
theorem d_Mo_share_100 : decode (am_Mof y_Mo_share).1 100 = .ok (.imul, 1) := by decide +kernel
theorem d_Mo_share_101 : decode (am_Mof y_Mo_share).1 101 = .ok (.iload_n 2, 1) := by decide +kernel
theorem d_Mo_share_102 : decode (am_Mof y_Mo_share).1 102 = .ok (.iadd, 1) := by decide +kernel
theorem d_Mo_share_103 : decode (am_Mof y_Mo_share).1 103 = .ok (.iload 8, 2) := by decide +kernel
theorem d_Mo_share_105 : decode (am_Mof y_Mo_share).1 105 = .ok (.iastore, 1) := by decide +kernel
theorem d_Mo_share_106 : decode (am_Mof y_Mo_share).1 106 = .ok (.iconst 1, 1) := by decide +kernel
theorem d_Mo_share_107 : decode (am_Mof y_Mo_share).1 107 = .ok (.ireturn, 1) := by decide +kernel
theorem d_Mo_isPlant_0 : decode (am_Mof y_Mo_isPlant).1 0 = .ok (.iload_n 1, 1) := by decide +kernel
theorem d_Mo_isPlant_1 : decode (am_Mof y_Mo_isPlant).1 1 = .ok (.ifCond .lt 15, 3) := by decide +kernel
theorem d_Mo_isPlant_4 : decode (am_Mof y_Mo_isPlant).1 4 = .ok (.iload_n 1, 1) := by decide +kernel
theorem d_Mo_isPlant_5 : decode (am_Mof y_Mo_isPlant).1 5 = .ok (.aload_n 0, 1) := by decide +kernel
theorem d_Mo_isPlant_6 : decode (am_Mof y_Mo_isPlant).1 6 = .ok (.getfield 72, 3) := by decide +kernel
theorem d_Mo_isPlant_9 : decode (am_Mof y_Mo_isPlant).1 9 = .ok (.if_icmp .ge 7, 3) := by decide +kernel
theorem d_Mo_isPlant_12 : decode (am_Mof y_Mo_isPlant).1 12 = .ok (.iconst 1, 1) := by decide +kernel
theorem d_Mo_isPlant_13 : decode (am_Mof y_Mo_isPlant).1 13 = .ok (.goto 4, 3) := by decide +kernel
theorem d_Mo_isPlant_16 : decode (am_Mof y_Mo_isPlant).1 16 = .ok (.iconst 0, 1) := by decide +kernel
theorem d_Mo_isPlant_17 : decode (am_Mof y_Mo_isPlant).1 17 = .ok (.ireturn, 1) := by decide +kernel
theorem d_Mo_isFraction_0 : decode (am_Mof y_Mo_isFraction).1 0 = .ok (.lload_n 2, 1) := by decide +kernel
theorem d_Mo_isFraction_1 : decode (am_Mof y_Mo_isFraction).1 1 = .ok (.lconst 1, 1) := by decide +kernel
theorem d_Mo_isFraction_2 : decode (am_Mof y_Mo_isFraction).1 2 = .ok (.lcmp, 1) := by decide +kernel
theorem d_Mo_isFraction_3 : decode (am_Mof y_Mo_isFraction).1 3 = .ok (.ifCond .eq 27, 3) := by decide +kernel
theorem d_Mo_isFraction_6 : decode (am_Mof y_Mo_isFraction).1 6 = .ok (.lload_n 2, 1) := by decide +kernel
theorem d_Mo_isFraction_7 : decode (am_Mof y_Mo_isFraction).1 7 = .ok (.ldc2_w 76, 3) := by decide +kernel
theorem d_Mo_isFraction_10 : decode (am_Mof y_Mo_isFraction).1 10 = .ok (.lcmp, 1) := by decide +kernel
theorem d_Mo_isFraction_11 : decode (am_Mof y_Mo_isFraction).1 11 = .ok (.ifCond .eq 19, 3) := by decide +kernel
theorem d_Mo_isFraction_14 : decode (am_Mof y_Mo_isFraction).1 14 = .ok (.lload_n 2, 1) := by decide +kernel
theorem d_Mo_isFraction_15 : decode (am_Mof y_Mo_isFraction).1 15 = .ok (.ldc2_w 78, 3) := by decide +kernel
theorem d_Mo_isFraction_18 : decode (am_Mof y_Mo_isFraction).1 18 = .ok (.lcmp, 1) := by decide +kernel
theorem d_Mo_isFraction_19 : decode (am_Mof y_Mo_isFraction).1 19 = .ok (.ifCond .eq 11, 3) := by decide +kernel
theorem d_Mo_isFraction_22 : decode (am_Mof y_Mo_isFraction).1 22 = .ok (.lload_n 2, 1) := by decide +kernel
theorem d_Mo_isFraction_23 : decode (am_Mof y_Mo_isFraction).1 23 = .ok (.ldc2_w 80, 3) := by decide +kernel
theorem d_Mo_isFraction_26 : decode (am_Mof y_Mo_isFraction).1 26 = .ok (.lcmp, 1) := by decide +kernel
theorem d_Mo_isFraction_27 : decode (am_Mof y_Mo_isFraction).1 27 = .ok (.ifCond .ne 16, 3) := by decide +kernel
theorem d_Mo_isFraction_30 : decode (am_Mof y_Mo_isFraction).1 30 = .ok (.lload_n 0, 1) := by decide +kernel
theorem d_Mo_isFraction_31 : decode (am_Mof y_Mo_isFraction).1 31 = .ok (.lconst 0, 1) := by decide +kernel
theorem d_Mo_isFraction_32 : decode (am_Mof y_Mo_isFraction).1 32 = .ok (.lload_n 2, 1) := by decide +kernel
theorem d_Mo_isFraction_33 : decode (am_Mof y_Mo_isFraction).1 33 = .ok (.invokestatic 82, 3) := by decide +kernel
theorem d_Mo_isFraction_36 : decode (am_Mof y_Mo_isFraction).1 36 = .ok (.ifCond .eq 7, 3) := by decide +kernel
theorem d_Mo_isFraction_39 : decode (am_Mof y_Mo_isFraction).1 39 = .ok (.iconst 1, 1) := by decide +kernel
theorem d_Mo_isFraction_40 : decode (am_Mof y_Mo_isFraction).1 40 = .ok (.goto 4, 3) := by decide +kernel
theorem d_Mo_isFraction_43 : decode (am_Mof y_Mo_isFraction).1 43 = .ok (.iconst 0, 1) := by decide +kernel
theorem d_Mo_isFraction_44 : decode (am_Mof y_Mo_isFraction).1 44 = .ok (.ireturn, 1) := by decide +kernel
theorem d_Mo_isIn_0 : decode (am_Mof y_Mo_isIn).1 0 = .ok (.lload_n 0, 1) := by decide +kernel
theorem d_Mo_isIn_1 : decode (am_Mof y_Mo_isIn).1 1 = .ok (.lload_n 2, 1) := by decide +kernel
theorem d_Mo_isIn_2 : decode (am_Mof y_Mo_isIn).1 2 = .ok (.lcmp, 1) := by decide +kernel
theorem d_Mo_isIn_3 : decode (am_Mof y_Mo_isIn).1 3 = .ok (.ifCond .lt 14, 3) := by decide +kernel
theorem d_Mo_isIn_6 : decode (am_Mof y_Mo_isIn).1 6 = .ok (.lload_n 0, 1) := by decide +kernel
theorem d_Mo_isIn_7 : decode (am_Mof y_Mo_isIn).1 7 = .ok (.lload 4, 2) := by decide +kernel
theorem d_Mo_isIn_9 : decode (am_Mof y_Mo_isIn).1 9 = .ok (.lcmp, 1) := by decide +kernel
theorem d_Mo_isIn_10 : decode (am_Mof y_Mo_isIn).1 10 = .ok (.ifCond .gt 7, 3) := by decide +kernel
theorem d_Mo_isIn_13 : decode (am_Mof y_Mo_isIn).1 13 = .ok (.iconst 1, 1) := by decide +kernel
theorem d_Mo_isIn_14 : decode (am_Mof y_Mo_isIn).1 14 = .ok (.goto 4, 3) := by decide +kernel
theorem d_Mo_isIn_17 : decode (am_Mof y_Mo_isIn).1 17 = .ok (.iconst 0, 1) := by decide +kernel
theorem d_Mo_isIn_18 : decode (am_Mof y_Mo_isIn).1 18 = .ok (.ireturn, 1) := by decide +kernel
theorem d_Mo_point_0 : decode (am_Mof y_Mo_point).1 0 = .ok (.aload_n 0, 1) := by decide +kernel
theorem d_Mo_point_1 : decode (am_Mof y_Mo_point).1 1 = .ok (.iload_n 1, 1) := by decide +kernel
theorem d_Mo_point_2 : decode (am_Mof y_Mo_point).1 2 = .ok (.invokevirtual 86, 3) := by decide +kernel
theorem d_Mo_point_5 : decode (am_Mof y_Mo_point).1 5 = .ok (.ifCond .eq 23, 3) := by decide +kernel
theorem d_Mo_point_8 : decode (am_Mof y_Mo_point).1 8 = .ok (.iload_n 2, 1) := by decide +kernel
theorem d_Mo_point_9 : decode (am_Mof y_Mo_point).1 9 = .ok (.invokestatic 94, 3) := by decide +kernel
theorem d_Mo_point_12 : decode (am_Mof y_Mo_point).1 12 = .ok (.ifCond .eq 16, 3) := by decide +kernel
theorem d_Mo_point_15 : decode (am_Mof y_Mo_point).1 15 = .ok (.aload_n 0, 1) := by decide +kernel
theorem d_Mo_point_16 : decode (am_Mof y_Mo_point).1 16 = .ok (.getfield 13, 3) := by decide +kernel
theorem d_Mo_point_19 : decode (am_Mof y_Mo_point).1 19 = .ok (.iconst 4, 1) := by decide +kernel
theorem d_Mo_point_20 : decode (am_Mof y_Mo_point).1 20 = .ok (.iload_n 1, 1) := by decide +kernel
theorem d_Mo_point_21 : decode (am_Mof y_Mo_point).1 21 = .ok (.imul, 1) := by decide +kernel
theorem d_Mo_point_22 : decode (am_Mof y_Mo_point).1 22 = .ok (.iload_n 2, 1) := by decide +kernel
theorem d_Mo_point_23 : decode (am_Mof y_Mo_point).1 23 = .ok (.iadd, 1) := by decide +kernel
theorem d_Mo_point_24 : decode (am_Mof y_Mo_point).1 24 = .ok (.baload, 1) := by decide +kernel
theorem d_Mo_point_25 : decode (am_Mof y_Mo_point).1 25 = .ok (.ifCond .eq 5, 3) := by decide +kernel
theorem d_Mo_point_28 : decode (am_Mof y_Mo_point).1 28 = .ok (.iconst 0, 1) := by decide +kernel
theorem d_Mo_point_29 : decode (am_Mof y_Mo_point).1 29 = .ok (.ireturn, 1) := by decide +kernel
theorem d_Mo_point_30 : decode (am_Mof y_Mo_point).1 30 = .ok (.aload_n 0, 1) := by decide +kernel
theorem d_Mo_point_31 : decode (am_Mof y_Mo_point).1 31 = .ok (.getfield 13, 3) := by decide +kernel
theorem d_Mo_point_34 : decode (am_Mof y_Mo_point).1 34 = .ok (.iconst 4, 1) := by decide +kernel
theorem d_Mo_point_35 : decode (am_Mof y_Mo_point).1 35 = .ok (.iload_n 1, 1) := by decide +kernel
theorem d_Mo_point_36 : decode (am_Mof y_Mo_point).1 36 = .ok (.imul, 1) := by decide +kernel
theorem d_Mo_point_37 : decode (am_Mof y_Mo_point).1 37 = .ok (.iload_n 2, 1) := by decide +kernel
theorem d_Mo_point_38 : decode (am_Mof y_Mo_point).1 38 = .ok (.iadd, 1) := by decide +kernel
theorem d_Mo_point_39 : decode (am_Mof y_Mo_point).1 39 = .ok (.iconst 1, 1) := by decide +kernel
theorem d_Mo_point_40 : decode (am_Mof y_Mo_point).1 40 = .ok (.bastore, 1) := by decide +kernel
theorem d_Mo_point_41 : decode (am_Mof y_Mo_point).1 41 = .ok (.iconst 1, 1) := by decide +kernel
theorem d_Mo_point_42 : decode (am_Mof y_Mo_point).1 42 = .ok (.ireturn, 1) := by decide +kernel
theorem d_Mo_isKind_0 : decode (am_Mof y_Mo_isKind).1 0 = .ok (.iload_n 0, 1) := by decide +kernel
theorem d_Mo_isKind_1 : decode (am_Mof y_Mo_isKind).1 1 = .ok (.ifCond .lt 12, 3) := by decide +kernel
theorem d_Mo_isKind_4 : decode (am_Mof y_Mo_isKind).1 4 = .ok (.iload_n 0, 1) := by decide +kernel
theorem d_Mo_isKind_5 : decode (am_Mof y_Mo_isKind).1 5 = .ok (.iconst 4, 1) := by decide +kernel
theorem d_Mo_isKind_6 : decode (am_Mof y_Mo_isKind).1 6 = .ok (.if_icmp .ge 7, 3) := by decide +kernel
theorem d_Mo_isKind_9 : decode (am_Mof y_Mo_isKind).1 9 = .ok (.iconst 1, 1) := by decide +kernel
theorem d_Mo_isKind_10 : decode (am_Mof y_Mo_isKind).1 10 = .ok (.goto 4, 3) := by decide +kernel
theorem d_Mo_isKind_13 : decode (am_Mof y_Mo_isKind).1 13 = .ok (.iconst 0, 1) := by decide +kernel
theorem d_Mo_isKind_14 : decode (am_Mof y_Mo_isKind).1 14 = .ok (.ireturn, 1) := by decide +kernel
theorem d_Mo_average_0 : decode (am_Mof y_Mo_average).1 0 = .ok (.aload_n 0, 1) := by decide +kernel
theorem d_Mo_average_1 : decode (am_Mof y_Mo_average).1 1 = .ok (.iload_n 1, 1) := by decide +kernel
theorem d_Mo_average_2 : decode (am_Mof y_Mo_average).1 2 = .ok (.invokevirtual 86, 3) := by decide +kernel
theorem d_Mo_average_5 : decode (am_Mof y_Mo_average).1 5 = .ok (.ifCond .eq 12, 3) := by decide +kernel
theorem d_Mo_average_8 : decode (am_Mof y_Mo_average).1 8 = .ok (.lload_n 2, 1) := by decide +kernel
theorem d_Mo_average_9 : decode (am_Mof y_Mo_average).1 9 = .ok (.lload 4, 2) := by decide +kernel
theorem d_Mo_average_11 : decode (am_Mof y_Mo_average).1 11 = .ok (.invokestatic 90, 3) := by decide +kernel
theorem d_Mo_average_14 : decode (am_Mof y_Mo_average).1 14 = .ok (.ifCond .ne 5, 3) := by decide +kernel
theorem d_Mo_average_17 : decode (am_Mof y_Mo_average).1 17 = .ok (.iconst 0, 1) := by decide +kernel
theorem d_Mo_average_18 : decode (am_Mof y_Mo_average).1 18 = .ok (.ireturn, 1) := by decide +kernel
theorem d_Mo_average_19 : decode (am_Mof y_Mo_average).1 19 = .ok (.aload_n 0, 1) := by decide +kernel
theorem d_Mo_average_20 : decode (am_Mof y_Mo_average).1 20 = .ok (.getfield 17, 3) := by decide +kernel
theorem d_Mo_average_23 : decode (am_Mof y_Mo_average).1 23 = .ok (.iload_n 1, 1) := by decide +kernel
theorem d_Mo_average_24 : decode (am_Mof y_Mo_average).1 24 = .ok (.iconst 1, 1) := by decide +kernel
theorem d_Mo_average_25 : decode (am_Mof y_Mo_average).1 25 = .ok (.bastore, 1) := by decide +kernel
theorem d_Mo_average_26 : decode (am_Mof y_Mo_average).1 26 = .ok (.aload_n 0, 1) := by decide +kernel
theorem d_Mo_average_27 : decode (am_Mof y_Mo_average).1 27 = .ok (.getfield 20, 3) := by decide +kernel
theorem d_Mo_average_30 : decode (am_Mof y_Mo_average).1 30 = .ok (.iload_n 1, 1) := by decide +kernel
theorem d_Mo_average_31 : decode (am_Mof y_Mo_average).1 31 = .ok (.ldc2_w 80, 3) := by decide +kernel
theorem d_Mo_average_34 : decode (am_Mof y_Mo_average).1 34 = .ok (.lload 4, 2) := by decide +kernel
theorem d_Mo_average_36 : decode (am_Mof y_Mo_average).1 36 = .ok (.ldiv, 1) := by decide +kernel
theorem d_Mo_average_37 : decode (am_Mof y_Mo_average).1 37 = .ok (.lload_n 2, 1) := by decide +kernel
theorem d_Mo_average_38 : decode (am_Mof y_Mo_average).1 38 = .ok (.lmul, 1) := by decide +kernel
theorem d_Mo_average_39 : decode (am_Mof y_Mo_average).1 39 = .ok (.l2i, 1) := by decide +kernel
theorem d_Mo_average_40 : decode (am_Mof y_Mo_average).1 40 = .ok (.iastore, 1) := by decide +kernel
theorem d_Mo_average_41 : decode (am_Mof y_Mo_average).1 41 = .ok (.iconst 1, 1) := by decide +kernel
theorem d_Mo_average_42 : decode (am_Mof y_Mo_average).1 42 = .ok (.ireturn, 1) := by decide +kernel
theorem d_Mo_feed_0 : decode (am_Mof y_Mo_feed).1 0 = .ok (.aload_n 0, 1) := by decide +kernel
theorem d_Mo_feed_1 : decode (am_Mof y_Mo_feed).1 1 = .ok (.getfield 97, 3) := by decide +kernel
theorem d_Mo_feed_4 : decode (am_Mof y_Mo_feed).1 4 = .ok (.bipush 60, 2) := by decide +kernel
theorem d_Mo_feed_6 : decode (am_Mof y_Mo_feed).1 6 = .ok (.if_icmp .eq 45, 3) := by decide +kernel
theorem d_Mo_feed_9 : decode (am_Mof y_Mo_feed).1 9 = .ok (.aload_n 0, 1) := by decide +kernel
theorem d_Mo_feed_10 : decode (am_Mof y_Mo_feed).1 10 = .ok (.iload_n 1, 1) := by decide +kernel
theorem d_Mo_feed_11 : decode (am_Mof y_Mo_feed).1 11 = .ok (.invokevirtual 86, 3) := by decide +kernel
theorem d_Mo_feed_14 : decode (am_Mof y_Mo_feed).1 14 = .ok (.ifCond .eq 37, 3) := by decide +kernel
theorem d_Mo_feed_17 : decode (am_Mof y_Mo_feed).1 17 = .ok (.iload_n 2, 1) := by decide +kernel
theorem d_Mo_feed_18 : decode (am_Mof y_Mo_feed).1 18 = .ok (.invokestatic 94, 3) := by decide +kernel
theorem d_Mo_feed_21 : decode (am_Mof y_Mo_feed).1 21 = .ok (.ifCond .eq 30, 3) := by decide +kernel
theorem d_Mo_feed_24 : decode (am_Mof y_Mo_feed).1 24 = .ok (.lload_n 3, 1) := by decide +kernel
theorem d_Mo_feed_25 : decode (am_Mof y_Mo_feed).1 25 = .ok (.lconst 0, 1) := by decide +kernel
theorem d_Mo_feed_26 : decode (am_Mof y_Mo_feed).1 26 = .ok (.ldc2_w 100, 3) := by decide +kernel
theorem d_Mo_feed_29 : decode (am_Mof y_Mo_feed).1 29 = .ok (.invokestatic 82, 3) := by decide +kernel
theorem d_Mo_feed_32 : decode (am_Mof y_Mo_feed).1 32 = .ok (.ifCond .eq 19, 3) := by decide +kernel
theorem d_Mo_feed_35 : decode (am_Mof y_Mo_feed).1 35 = .ok (.iload 5, 2) := by decide +kernel
theorem d_Mo_feed_37 : decode (am_Mof y_Mo_feed).1 37 = .ok (.invokestatic 102, 3) := by decide +kernel
theorem d_Mo_feed_40 : decode (am_Mof y_Mo_feed).1 40 = .ok (.ifCond .eq 11, 3) := by decide +kernel
theorem d_Mo_feed_43 : decode (am_Mof y_Mo_feed).1 43 = .ok (.iload 6, 2) := by decide +kernel
theorem d_Mo_feed_45 : decode (am_Mof y_Mo_feed).1 45 = .ok (.invokestatic 105, 3) := by decide +kernel
theorem d_Mo_feed_48 : decode (am_Mof y_Mo_feed).1 48 = .ok (.ifCond .ne 5, 3) := by decide +kernel
theorem d_Mo_feed_51 : decode (am_Mof y_Mo_feed).1 51 = .ok (.iconst 0, 1) := by decide +kernel
theorem d_Mo_feed_52 : decode (am_Mof y_Mo_feed).1 52 = .ok (.ireturn, 1) := by decide +kernel
theorem d_Mo_feed_53 : decode (am_Mof y_Mo_feed).1 53 = .ok (.aload_n 0, 1) := by decide +kernel
theorem d_Mo_feed_54 : decode (am_Mof y_Mo_feed).1 54 = .ok (.getfield 23, 3) := by decide +kernel
theorem d_Mo_feed_57 : decode (am_Mof y_Mo_feed).1 57 = .ok (.aload_n 0, 1) := by decide +kernel
theorem d_Mo_feed_58 : decode (am_Mof y_Mo_feed).1 58 = .ok (.getfield 97, 3) := by decide +kernel
theorem d_Mo_feed_61 : decode (am_Mof y_Mo_feed).1 61 = .ok (.iload_n 1, 1) := by decide +kernel
theorem d_Mo_feed_62 : decode (am_Mof y_Mo_feed).1 62 = .ok (.iastore, 1) := by decide +kernel
theorem d_Mo_feed_63 : decode (am_Mof y_Mo_feed).1 63 = .ok (.aload_n 0, 1) := by decide +kernel
theorem d_Mo_feed_64 : decode (am_Mof y_Mo_feed).1 64 = .ok (.getfield 26, 3) := by decide +kernel
theorem d_Mo_feed_67 : decode (am_Mof y_Mo_feed).1 67 = .ok (.aload_n 0, 1) := by decide +kernel
theorem d_Mo_feed_68 : decode (am_Mof y_Mo_feed).1 68 = .ok (.getfield 97, 3) := by decide +kernel
theorem d_Mo_feed_71 : decode (am_Mof y_Mo_feed).1 71 = .ok (.iload_n 2, 1) := by decide +kernel
theorem d_Mo_feed_72 : decode (am_Mof y_Mo_feed).1 72 = .ok (.iastore, 1) := by decide +kernel
theorem d_Mo_feed_73 : decode (am_Mof y_Mo_feed).1 73 = .ok (.aload_n 0, 1) := by decide +kernel
theorem d_Mo_feed_74 : decode (am_Mof y_Mo_feed).1 74 = .ok (.getfield 35, 3) := by decide +kernel
theorem d_Mo_feed_77 : decode (am_Mof y_Mo_feed).1 77 = .ok (.aload_n 0, 1) := by decide +kernel
theorem d_Mo_feed_78 : decode (am_Mof y_Mo_feed).1 78 = .ok (.getfield 97, 3) := by decide +kernel
theorem d_Mo_feed_81 : decode (am_Mof y_Mo_feed).1 81 = .ok (.lload_n 3, 1) := by decide +kernel
theorem d_Mo_feed_82 : decode (am_Mof y_Mo_feed).1 82 = .ok (.lastore, 1) := by decide +kernel
theorem d_Mo_feed_83 : decode (am_Mof y_Mo_feed).1 83 = .ok (.aload_n 0, 1) := by decide +kernel
theorem d_Mo_feed_84 : decode (am_Mof y_Mo_feed).1 84 = .ok (.getfield 29, 3) := by decide +kernel
theorem d_Mo_feed_87 : decode (am_Mof y_Mo_feed).1 87 = .ok (.aload_n 0, 1) := by decide +kernel
theorem d_Mo_feed_88 : decode (am_Mof y_Mo_feed).1 88 = .ok (.getfield 97, 3) := by decide +kernel
theorem d_Mo_feed_91 : decode (am_Mof y_Mo_feed).1 91 = .ok (.iload 5, 2) := by decide +kernel
theorem d_Mo_feed_93 : decode (am_Mof y_Mo_feed).1 93 = .ok (.iastore, 1) := by decide +kernel
theorem d_Mo_feed_94 : decode (am_Mof y_Mo_feed).1 94 = .ok (.aload_n 0, 1) := by decide +kernel
theorem d_Mo_feed_95 : decode (am_Mof y_Mo_feed).1 95 = .ok (.getfield 32, 3) := by decide +kernel
theorem d_Mo_feed_98 : decode (am_Mof y_Mo_feed).1 98 = .ok (.aload_n 0, 1) := by decide +kernel
theorem d_Mo_feed_99 : decode (am_Mof y_Mo_feed).1 99 = .ok (.getfield 97, 3) := by decide +kernel
theorem d_Mo_feed_102 : decode (am_Mof y_Mo_feed).1 102 = .ok (.iload 6, 2) := by decide +kernel
theorem d_Mo_feed_104 : decode (am_Mof y_Mo_feed).1 104 = .ok (.iastore, 1) := by decide +kernel
theorem d_Mo_feed_105 : decode (am_Mof y_Mo_feed).1 105 = .ok (.aload_n 0, 1) := by decide +kernel
theorem d_Mo_feed_106 : decode (am_Mof y_Mo_feed).1 106 = .ok (.dup, 1) := by decide +kernel
theorem d_Mo_feed_107 : decode (am_Mof y_Mo_feed).1 107 = .ok (.getfield 97, 3) := by decide +kernel
theorem d_Mo_feed_110 : decode (am_Mof y_Mo_feed).1 110 = .ok (.iconst 1, 1) := by decide +kernel
theorem d_Mo_feed_111 : decode (am_Mof y_Mo_feed).1 111 = .ok (.iadd, 1) := by decide +kernel
theorem d_Mo_feed_112 : decode (am_Mof y_Mo_feed).1 112 = .ok (.putfield 97, 3) := by decide +kernel
theorem d_Mo_feed_115 : decode (am_Mof y_Mo_feed).1 115 = .ok (.iconst 1, 1) := by decide +kernel
theorem d_Mo_feed_116 : decode (am_Mof y_Mo_feed).1 116 = .ok (.ireturn, 1) := by decide +kernel
theorem d_Mo_isYear_0 : decode (am_Mof y_Mo_isYear).1 0 = .ok (.iload_n 0, 1) := by decide +kernel
theorem d_Mo_isYear_1 : decode (am_Mof y_Mo_isYear).1 1 = .ok (.ifCond .lt 13, 3) := by decide +kernel
theorem d_Mo_isYear_4 : decode (am_Mof y_Mo_isYear).1 4 = .ok (.iload_n 0, 1) := by decide +kernel
theorem d_Mo_isYear_5 : decode (am_Mof y_Mo_isYear).1 5 = .ok (.bipush 10, 2) := by decide +kernel
theorem d_Mo_isYear_7 : decode (am_Mof y_Mo_isYear).1 7 = .ok (.if_icmp .ge 7, 3) := by decide +kernel
theorem d_Mo_isYear_10 : decode (am_Mof y_Mo_isYear).1 10 = .ok (.iconst 1, 1) := by decide +kernel
theorem d_Mo_isYear_11 : decode (am_Mof y_Mo_isYear).1 11 = .ok (.goto 4, 3) := by decide +kernel
theorem d_Mo_isYear_14 : decode (am_Mof y_Mo_isYear).1 14 = .ok (.iconst 0, 1) := by decide +kernel
theorem d_Mo_isYear_15 : decode (am_Mof y_Mo_isYear).1 15 = .ok (.ireturn, 1) := by decide +kernel
theorem d_Mo_isCountry_0 : decode (am_Mof y_Mo_isCountry).1 0 = .ok (.iload_n 0, 1) := by decide +kernel
theorem d_Mo_isCountry_1 : decode (am_Mof y_Mo_isCountry).1 1 = .ok (.ifCond .lt 12, 3) := by decide +kernel
theorem d_Mo_isCountry_4 : decode (am_Mof y_Mo_isCountry).1 4 = .ok (.iload_n 0, 1) := by decide +kernel
theorem d_Mo_isCountry_5 : decode (am_Mof y_Mo_isCountry).1 5 = .ok (.iconst 4, 1) := by decide +kernel
theorem d_Mo_isCountry_6 : decode (am_Mof y_Mo_isCountry).1 6 = .ok (.if_icmp .ge 7, 3) := by decide +kernel
theorem d_Mo_isCountry_9 : decode (am_Mof y_Mo_isCountry).1 9 = .ok (.iconst 1, 1) := by decide +kernel
theorem d_Mo_isCountry_10 : decode (am_Mof y_Mo_isCountry).1 10 = .ok (.goto 4, 3) := by decide +kernel
theorem d_Mo_isCountry_13 : decode (am_Mof y_Mo_isCountry).1 13 = .ok (.iconst 0, 1) := by decide +kernel
theorem d_Mo_isCountry_14 : decode (am_Mof y_Mo_isCountry).1 14 = .ok (.ireturn, 1) := by decide +kernel
theorem d_Mo_metals_0 : decode (am_Mof y_Mo_metals).1 0 = .ok (.iload_n 1, 1) := by decide +kernel
theorem d_Mo_metals_1 : decode (am_Mof y_Mo_metals).1 1 = .ok (.invokestatic 102, 3) := by decide +kernel
theorem d_Mo_metals_4 : decode (am_Mof y_Mo_metals).1 4 = .ok (.ifCond .eq 14, 3) := by decide +kernel
theorem d_Mo_metals_7 : decode (am_Mof y_Mo_metals).1 7 = .ok (.lload_n 2, 1) := by decide +kernel
theorem d_Mo_metals_8 : decode (am_Mof y_Mo_metals).1 8 = .ok (.lconst 0, 1) := by decide +kernel
theorem d_Mo_metals_9 : decode (am_Mof y_Mo_metals).1 9 = .ok (.ldc2_w 100, 3) := by decide +kernel
theorem d_Mo_metals_12 : decode (am_Mof y_Mo_metals).1 12 = .ok (.invokestatic 82, 3) := by decide +kernel
theorem d_Mo_metals_15 : decode (am_Mof y_Mo_metals).1 15 = .ok (.ifCond .ne 5, 3) := by decide +kernel
theorem d_Mo_metals_18 : decode (am_Mof y_Mo_metals).1 18 = .ok (.iconst 0, 1) := by decide +kernel
theorem d_Mo_metals_19 : decode (am_Mof y_Mo_metals).1 19 = .ok (.ireturn, 1) := by decide +kernel
theorem d_Mo_metals_20 : decode (am_Mof y_Mo_metals).1 20 = .ok (.aload_n 0, 1) := by decide +kernel
theorem d_Mo_metals_21 : decode (am_Mof y_Mo_metals).1 21 = .ok (.getfield 39, 3) := by decide +kernel
theorem d_Mo_metals_24 : decode (am_Mof y_Mo_metals).1 24 = .ok (.iload_n 1, 1) := by decide +kernel
theorem d_Mo_metals_25 : decode (am_Mof y_Mo_metals).1 25 = .ok (.lload_n 2, 1) := by decide +kernel
theorem d_Mo_metals_26 : decode (am_Mof y_Mo_metals).1 26 = .ok (.lastore, 1) := by decide +kernel
theorem d_Mo_metals_27 : decode (am_Mof y_Mo_metals).1 27 = .ok (.iconst 1, 1) := by decide +kernel
theorem d_Mo_metals_28 : decode (am_Mof y_Mo_metals).1 28 = .ok (.ireturn, 1) := by decide +kernel
theorem d_Mo_placed_0 : decode (am_Mof y_Mo_placed).1 0 = .ok (.iload_n 1, 1) := by decide +kernel
theorem d_Mo_placed_1 : decode (am_Mof y_Mo_placed).1 1 = .ok (.invokestatic 94, 3) := by decide +kernel
theorem d_Mo_placed_4 : decode (am_Mof y_Mo_placed).1 4 = .ok (.ifCond .eq 21, 3) := by decide +kernel
theorem d_Mo_placed_7 : decode (am_Mof y_Mo_placed).1 7 = .ok (.iload_n 2, 1) := by decide +kernel
theorem d_Mo_placed_8 : decode (am_Mof y_Mo_placed).1 8 = .ok (.invokestatic 102, 3) := by decide +kernel
theorem d_Mo_placed_11 : decode (am_Mof y_Mo_placed).1 11 = .ok (.ifCond .eq 14, 3) := by decide +kernel
theorem d_Mo_placed_14 : decode (am_Mof y_Mo_placed).1 14 = .ok (.lload_n 3, 1) := by decide +kernel
theorem d_Mo_placed_15 : decode (am_Mof y_Mo_placed).1 15 = .ok (.lconst 0, 1) := by decide +kernel
theorem d_Mo_placed_16 : decode (am_Mof y_Mo_placed).1 16 = .ok (.ldc2_w 108, 3) := by decide +kernel
theorem d_Mo_placed_19 : decode (am_Mof y_Mo_placed).1 19 = .ok (.invokestatic 82, 3) := by decide +kernel
theorem d_Mo_placed_22 : decode (am_Mof y_Mo_placed).1 22 = .ok (.ifCond .ne 5, 3) := by decide +kernel
theorem d_Mo_placed_25 : decode (am_Mof y_Mo_placed).1 25 = .ok (.iconst 0, 1) := by decide +kernel
theorem d_Mo_placed_26 : decode (am_Mof y_Mo_placed).1 26 = .ok (.ireturn, 1) := by decide +kernel
theorem d_Mo_placed_27 : decode (am_Mof y_Mo_placed).1 27 = .ok (.aload_n 0, 1) := by decide +kernel
theorem d_Mo_placed_28 : decode (am_Mof y_Mo_placed).1 28 = .ok (.getfield 42, 3) := by decide +kernel
theorem d_Mo_placed_31 : decode (am_Mof y_Mo_placed).1 31 = .ok (.bipush 10, 2) := by decide +kernel
theorem d_Mo_placed_33 : decode (am_Mof y_Mo_placed).1 33 = .ok (.iload_n 1, 1) := by decide +kernel
theorem d_Mo_placed_34 : decode (am_Mof y_Mo_placed).1 34 = .ok (.imul, 1) := by decide +kernel
theorem d_Mo_placed_35 : decode (am_Mof y_Mo_placed).1 35 = .ok (.iload_n 2, 1) := by decide +kernel
theorem d_Mo_placed_36 : decode (am_Mof y_Mo_placed).1 36 = .ok (.iadd, 1) := by decide +kernel
theorem d_Mo_placed_37 : decode (am_Mof y_Mo_placed).1 37 = .ok (.lload_n 3, 1) := by decide +kernel
theorem d_Mo_placed_38 : decode (am_Mof y_Mo_placed).1 38 = .ok (.lastore, 1) := by decide +kernel
theorem d_Mo_placed_39 : decode (am_Mof y_Mo_placed).1 39 = .ok (.iconst 1, 1) := by decide +kernel
theorem d_Mo_placed_40 : decode (am_Mof y_Mo_placed).1 40 = .ok (.ireturn, 1) := by decide +kernel
theorem d_Mo_solve_0 : decode (am_Mof y_Mo_solve).1 0 = .ok (.iconst 0, 1) := by decide +kernel
theorem d_Mo_solve_1 : decode (am_Mof y_Mo_solve).1 1 = .ok (.istore_n 1, 1) := by decide +kernel
theorem d_Mo_solve_2 : decode (am_Mof y_Mo_solve).1 2 = .ok (.iload_n 1, 1) := by decide +kernel
theorem d_Mo_solve_3 : decode (am_Mof y_Mo_solve).1 3 = .ok (.aload_n 0, 1) := by decide +kernel
theorem d_Mo_solve_4 : decode (am_Mof y_Mo_solve).1 4 = .ok (.getfield 72, 3) := by decide +kernel
theorem d_Mo_solve_7 : decode (am_Mof y_Mo_solve).1 7 = .ok (.if_icmp .ge 35, 3) := by decide +kernel
theorem d_Mo_solve_10 : decode (am_Mof y_Mo_solve).1 10 = .ok (.iconst 0, 1) := by decide +kernel
theorem d_Mo_solve_11 : decode (am_Mof y_Mo_solve).1 11 = .ok (.istore_n 2, 1) := by decide +kernel
theorem d_Mo_solve_12 : decode (am_Mof y_Mo_solve).1 12 = .ok (.iload_n 2, 1) := by decide +kernel
theorem d_Mo_solve_13 : decode (am_Mof y_Mo_solve).1 13 = .ok (.iconst 4, 1) := by decide +kernel
theorem d_Mo_solve_14 : decode (am_Mof y_Mo_solve).1 14 = .ok (.if_icmp .ge 22, 3) := by decide +kernel
theorem d_Mo_solve_17 : decode (am_Mof y_Mo_solve).1 17 = .ok (.aload_n 0, 1) := by decide +kernel
theorem d_Mo_solve_18 : decode (am_Mof y_Mo_solve).1 18 = .ok (.iload_n 1, 1) := by decide +kernel
theorem d_Mo_solve_19 : decode (am_Mof y_Mo_solve).1 19 = .ok (.iload_n 2, 1) := by decide +kernel
theorem d_Mo_solve_20 : decode (am_Mof y_Mo_solve).1 20 = .ok (.invokevirtual 130, 3) := by decide +kernel
theorem d_Mo_solve_23 : decode (am_Mof y_Mo_solve).1 23 = .ok (.ifCond .ne 7, 3) := by decide +kernel
theorem d_Mo_solve_26 : decode (am_Mof y_Mo_solve).1 26 = .ok (.iconst 1, 1) := by decide +kernel
theorem d_Mo_solve_27 : decode (am_Mof y_Mo_solve).1 27 = .ok (.iload_n 1, 1) := by decide +kernel
theorem d_Mo_solve_28 : decode (am_Mof y_Mo_solve).1 28 = .ok (.iadd, 1) := by decide +kernel
theorem d_Mo_solve_29 : decode (am_Mof y_Mo_solve).1 29 = .ok (.ireturn, 1) := by decide +kernel
theorem d_Mo_solve_30 : decode (am_Mof y_Mo_solve).1 30 = .ok (.iinc 2 1, 3) := by decide +kernel
theorem d_Mo_solve_33 : decode (am_Mof y_Mo_solve).1 33 = .ok (.goto (-21), 3) := by decide +kernel
theorem d_Mo_solve_36 : decode (am_Mof y_Mo_solve).1 36 = .ok (.iinc 1 1, 3) := by decide +kernel
theorem d_Mo_solve_39 : decode (am_Mof y_Mo_solve).1 39 = .ok (.goto (-37), 3) := by decide +kernel
theorem d_Mo_solve_42 : decode (am_Mof y_Mo_solve).1 42 = .ok (.iconst 0, 1) := by decide +kernel
theorem d_Mo_solve_43 : decode (am_Mof y_Mo_solve).1 43 = .ok (.istore_n 1, 1) := by decide +kernel
theorem d_Mo_solve_44 : decode (am_Mof y_Mo_solve).1 44 = .ok (.iload_n 1, 1) := by decide +kernel
theorem d_Mo_solve_45 : decode (am_Mof y_Mo_solve).1 45 = .ok (.iconst 4, 1) := by decide +kernel
theorem d_Mo_solve_46 : decode (am_Mof y_Mo_solve).1 46 = .ok (.if_icmp .ge 161, 3) := by decide +kernel
theorem d_Mo_solve_49 : decode (am_Mof y_Mo_solve).1 49 = .ok (.aload_n 0, 1) := by decide +kernel
theorem d_Mo_solve_50 : decode (am_Mof y_Mo_solve).1 50 = .ok (.iload_n 1, 1) := by decide +kernel
theorem d_Mo_solve_51 : decode (am_Mof y_Mo_solve).1 51 = .ok (.invokevirtual 134, 3) := by decide +kernel
theorem d_Mo_solve_54 : decode (am_Mof y_Mo_solve).1 54 = .ok (.aload_n 0, 1) := by decide +kernel
theorem d_Mo_solve_55 : decode (am_Mof y_Mo_solve).1 55 = .ok (.invokevirtual 138, 3) := by decide +kernel
theorem d_Mo_solve_58 : decode (am_Mof y_Mo_solve).1 58 = .ok (.iconst 0, 1) := by decide +kernel
theorem d_Mo_solve_59 : decode (am_Mof y_Mo_solve).1 59 = .ok (.istore_n 2, 1) := by decide +kernel
theorem d_Mo_solve_60 : decode (am_Mof y_Mo_solve).1 60 = .ok (.iload_n 2, 1) := by decide +kernel
theorem d_Mo_solve_61 : decode (am_Mof y_Mo_solve).1 61 = .ok (.aload_n 0, 1) := by decide +kernel
theorem d_Mo_solve_62 : decode (am_Mof y_Mo_solve).1 62 = .ok (.getfield 72, 3) := by decide +kernel
theorem d_Mo_solve_65 : decode (am_Mof y_Mo_solve).1 65 = .ok (.if_icmp .ge 136, 3) := by decide +kernel
theorem d_Mo_solve_68 : decode (am_Mof y_Mo_solve).1 68 = .ok (.aload_n 0, 1) := by decide +kernel
theorem d_Mo_solve_69 : decode (am_Mof y_Mo_solve).1 69 = .ok (.getfield 66, 3) := by decide +kernel
theorem d_Mo_solve_72 : decode (am_Mof y_Mo_solve).1 72 = .ok (.bipush 6, 2) := by decide +kernel
theorem d_Mo_solve_74 : decode (am_Mof y_Mo_solve).1 74 = .ok (.iload_n 2, 1) := by decide +kernel
theorem d_Mo_solve_75 : decode (am_Mof y_Mo_solve).1 75 = .ok (.imul, 1) := by decide +kernel
theorem d_Mo_solve_76 : decode (am_Mof y_Mo_solve).1 76 = .ok (.iconst 5, 1) := by decide +kernel
theorem d_Mo_solve_77 : decode (am_Mof y_Mo_solve).1 77 = .ok (.iadd, 1) := by decide +kernel
theorem d_Mo_solve_78 : decode (am_Mof y_Mo_solve).1 78 = .ok (.laload, 1) := by decide +kernel
theorem d_Mo_solve_79 : decode (am_Mof y_Mo_solve).1 79 = .ok (.aload_n 0, 1) := by decide +kernel
theorem d_Mo_solve_80 : decode (am_Mof y_Mo_solve).1 80 = .ok (.getfield 69, 3) := by decide +kernel
theorem d_Mo_solve_83 : decode (am_Mof y_Mo_solve).1 83 = .ok (.bipush 6, 2) := by decide +kernel
theorem d_Mo_solve_85 : decode (am_Mof y_Mo_solve).1 85 = .ok (.iload_n 2, 1) := by decide +kernel
theorem d_Mo_solve_86 : decode (am_Mof y_Mo_solve).1 86 = .ok (.imul, 1) := by decide +kernel
theorem d_Mo_solve_87 : decode (am_Mof y_Mo_solve).1 87 = .ok (.iload_n 2, 1) := by decide +kernel
theorem d_Mo_solve_88 : decode (am_Mof y_Mo_solve).1 88 = .ok (.iadd, 1) := by decide +kernel
theorem d_Mo_solve_89 : decode (am_Mof y_Mo_solve).1 89 = .ok (.laload, 1) := by decide +kernel
theorem d_Mo_solve_90 : decode (am_Mof y_Mo_solve).1 90 = .ok (.lmul, 1) := by decide +kernel
theorem d_Mo_solve_91 : decode (am_Mof y_Mo_solve).1 91 = .ok (.lstore_n 3, 1) := by decide +kernel
theorem d_Mo_solve_92 : decode (am_Mof y_Mo_solve).1 92 = .ok (.aload_n 0, 1) := by decide +kernel
theorem d_Mo_solve_93 : decode (am_Mof y_Mo_solve).1 93 = .ok (.getfield 69, 3) := by decide +kernel
theorem d_Mo_solve_96 : decode (am_Mof y_Mo_solve).1 96 = .ok (.bipush 6, 2) := by decide +kernel
theorem d_Mo_solve_98 : decode (am_Mof y_Mo_solve).1 98 = .ok (.iload_n 2, 1) := by decide +kernel
theorem d_Mo_solve_99 : decode (am_Mof y_Mo_solve).1 99 = .ok (.imul, 1) := by decide +kernel
theorem d_Mo_solve_100 : decode (am_Mof y_Mo_solve).1 100 = .ok (.iconst 5, 1) := by decide +kernel
theorem d_Mo_solve_101 : decode (am_Mof y_Mo_solve).1 101 = .ok (.iadd, 1) := by decide +kernel
theorem d_Mo_solve_102 : decode (am_Mof y_Mo_solve).1 102 = .ok (.laload, 1) := by decide +kernel
theorem d_Mo_solve_103 : decode (am_Mof y_Mo_solve).1 103 = .ok (.aload_n 0, 1) := by decide +kernel
theorem d_Mo_solve_104 : decode (am_Mof y_Mo_solve).1 104 = .ok (.getfield 66, 3) := by decide +kernel
theorem d_Mo_solve_107 : decode (am_Mof y_Mo_solve).1 107 = .ok (.bipush 6, 2) := by decide +kernel
theorem d_Mo_solve_109 : decode (am_Mof y_Mo_solve).1 109 = .ok (.iload_n 2, 1) := by decide +kernel
theorem d_Mo_solve_110 : decode (am_Mof y_Mo_solve).1 110 = .ok (.imul, 1) := by decide +kernel
theorem d_Mo_solve_111 : decode (am_Mof y_Mo_solve).1 111 = .ok (.iload_n 2, 1) := by decide +kernel
theorem d_Mo_solve_112 : decode (am_Mof y_Mo_solve).1 112 = .ok (.iadd, 1) := by decide +kernel
theorem d_Mo_solve_113 : decode (am_Mof y_Mo_solve).1 113 = .ok (.laload, 1) := by decide +kernel
theorem d_Mo_solve_114 : decode (am_Mof y_Mo_solve).1 114 = .ok (.lmul, 1) := by decide +kernel
theorem d_Mo_solve_115 : decode (am_Mof y_Mo_solve).1 115 = .ok (.lstore 5, 2) := by decide +kernel
theorem d_Mo_solve_117 : decode (am_Mof y_Mo_solve).1 117 = .ok (.lload_n 3, 1) := by decide +kernel
theorem d_Mo_solve_118 : decode (am_Mof y_Mo_solve).1 118 = .ok (.lload 5, 2) := by decide +kernel
theorem d_Mo_solve_120 : decode (am_Mof y_Mo_solve).1 120 = .ok (.lconst 0, 1) := by decide +kernel
theorem d_Mo_solve_121 : decode (am_Mof y_Mo_solve).1 121 = .ok (.lcmp, 1) := by decide +kernel
theorem d_Mo_solve_122 : decode (am_Mof y_Mo_solve).1 122 = .ok (.ifCond .ge 9, 3) := by decide +kernel
theorem d_Mo_solve_125 : decode (am_Mof y_Mo_solve).1 125 = .ok (.lload 5, 2) := by decide +kernel
theorem d_Mo_solve_127 : decode (am_Mof y_Mo_solve).1 127 = .ok (.lneg, 1) := by decide +kernel
theorem d_Mo_solve_128 : decode (am_Mof y_Mo_solve).1 128 = .ok (.goto 5, 3) := by decide +kernel
theorem d_Mo_solve_131 : decode (am_Mof y_Mo_solve).1 131 = .ok (.lload 5, 2) := by decide +kernel
theorem d_Mo_solve_133 : decode (am_Mof y_Mo_solve).1 133 = .ok (.invokestatic 114, 3) := by decide +kernel
theorem d_Mo_solve_136 : decode (am_Mof y_Mo_solve).1 136 = .ok (.lstore 7, 2) := by decide +kernel
theorem d_Mo_solve_138 : decode (am_Mof y_Mo_solve).1 138 = .ok (.aload_n 0, 1) := by decide +kernel
theorem d_Mo_solve_139 : decode (am_Mof y_Mo_solve).1 139 = .ok (.getfield 45, 3) := by decide +kernel
theorem d_Mo_solve_142 : decode (am_Mof y_Mo_solve).1 142 = .ok (.iconst 4, 1) := by decide +kernel
theorem d_Mo_solve_143 : decode (am_Mof y_Mo_solve).1 143 = .ok (.iload_n 2, 1) := by decide +kernel
theorem d_Mo_solve_144 : decode (am_Mof y_Mo_solve).1 144 = .ok (.imul, 1) := by decide +kernel
theorem d_Mo_solve_145 : decode (am_Mof y_Mo_solve).1 145 = .ok (.iload_n 1, 1) := by decide +kernel
theorem d_Mo_solve_146 : decode (am_Mof y_Mo_solve).1 146 = .ok (.iadd, 1) := by decide +kernel
theorem d_Mo_solve_147 : decode (am_Mof y_Mo_solve).1 147 = .ok (.lload 5, 2) := by decide +kernel
theorem d_Mo_solve_149 : decode (am_Mof y_Mo_solve).1 149 = .ok (.lconst 0, 1) := by decide +kernel
theorem d_Mo_solve_150 : decode (am_Mof y_Mo_solve).1 150 = .ok (.lcmp, 1) := by decide +kernel
theorem d_Mo_solve_151 : decode (am_Mof y_Mo_solve).1 151 = .ok (.ifCond .ge 11, 3) := by decide +kernel
theorem d_Mo_solve_154 : decode (am_Mof y_Mo_solve).1 154 = .ok (.lload_n 3, 1) := by decide +kernel
theorem d_Mo_solve_155 : decode (am_Mof y_Mo_solve).1 155 = .ok (.lneg, 1) := by decide +kernel
theorem d_Mo_solve_156 : decode (am_Mof y_Mo_solve).1 156 = .ok (.lload 7, 2) := by decide +kernel
theorem d_Mo_solve_158 : decode (am_Mof y_Mo_solve).1 158 = .ok (.ldiv, 1) := by decide +kernel
theorem d_Mo_solve_159 : decode (am_Mof y_Mo_solve).1 159 = .ok (.goto 7, 3) := by decide +kernel
theorem d_Mo_solve_162 : decode (am_Mof y_Mo_solve).1 162 = .ok (.lload_n 3, 1) := by decide +kernel
theorem d_Mo_solve_163 : decode (am_Mof y_Mo_solve).1 163 = .ok (.lload 7, 2) := by decide +kernel
theorem d_Mo_solve_165 : decode (am_Mof y_Mo_solve).1 165 = .ok (.ldiv, 1) := by decide +kernel
theorem d_Mo_solve_166 : decode (am_Mof y_Mo_solve).1 166 = .ok (.lastore, 1) := by decide +kernel
theorem d_Mo_solve_167 : decode (am_Mof y_Mo_solve).1 167 = .ok (.aload_n 0, 1) := by decide +kernel
theorem d_Mo_solve_168 : decode (am_Mof y_Mo_solve).1 168 = .ok (.getfield 48, 3) := by decide +kernel
theorem d_Mo_solve_171 : decode (am_Mof y_Mo_solve).1 171 = .ok (.iconst 4, 1) := by decide +kernel
theorem d_Mo_solve_172 : decode (am_Mof y_Mo_solve).1 172 = .ok (.iload_n 2, 1) := by decide +kernel
theorem d_Mo_solve_173 : decode (am_Mof y_Mo_solve).1 173 = .ok (.imul, 1) := by decide +kernel
theorem d_Mo_solve_174 : decode (am_Mof y_Mo_solve).1 174 = .ok (.iload_n 1, 1) := by decide +kernel
theorem d_Mo_solve_175 : decode (am_Mof y_Mo_solve).1 175 = .ok (.iadd, 1) := by decide +kernel
theorem d_Mo_solve_176 : decode (am_Mof y_Mo_solve).1 176 = .ok (.lload 5, 2) := by decide +kernel
theorem d_Mo_solve_178 : decode (am_Mof y_Mo_solve).1 178 = .ok (.lconst 0, 1) := by decide +kernel
theorem d_Mo_solve_179 : decode (am_Mof y_Mo_solve).1 179 = .ok (.lcmp, 1) := by decide +kernel
theorem d_Mo_solve_180 : decode (am_Mof y_Mo_solve).1 180 = .ok (.ifCond .ge 9, 3) := by decide +kernel
theorem d_Mo_solve_183 : decode (am_Mof y_Mo_solve).1 183 = .ok (.lload 5, 2) := by decide +kernel
theorem d_Mo_solve_185 : decode (am_Mof y_Mo_solve).1 185 = .ok (.lneg, 1) := by decide +kernel
theorem d_Mo_solve_186 : decode (am_Mof y_Mo_solve).1 186 = .ok (.goto 5, 3) := by decide +kernel
theorem d_Mo_solve_189 : decode (am_Mof y_Mo_solve).1 189 = .ok (.lload 5, 2) := by decide +kernel
theorem d_Mo_solve_191 : decode (am_Mof y_Mo_solve).1 191 = .ok (.lload 7, 2) := by decide +kernel
theorem d_Mo_solve_193 : decode (am_Mof y_Mo_solve).1 193 = .ok (.ldiv, 1) := by decide +kernel
theorem d_Mo_solve_194 : decode (am_Mof y_Mo_solve).1 194 = .ok (.lastore, 1) := by decide +kernel
theorem d_Mo_solve_195 : decode (am_Mof y_Mo_solve).1 195 = .ok (.iinc 2 1, 3) := by decide +kernel
theorem d_Mo_solve_198 : decode (am_Mof y_Mo_solve).1 198 = .ok (.goto (-138), 3) := by decide +kernel
theorem d_Mo_solve_201 : decode (am_Mof y_Mo_solve).1 201 = .ok (.iinc 1 1, 3) := by decide +kernel
theorem d_Mo_solve_204 : decode (am_Mof y_Mo_solve).1 204 = .ok (.goto (-160), 3) := by decide +kernel
theorem d_Mo_solve_207 : decode (am_Mof y_Mo_solve).1 207 = .ok (.aload_n 0, 1) := by decide +kernel
theorem d_Mo_solve_208 : decode (am_Mof y_Mo_solve).1 208 = .ok (.iconst 1, 1) := by decide +kernel
theorem d_Mo_solve_209 : decode (am_Mof y_Mo_solve).1 209 = .ok (.putfield 141, 3) := by decide +kernel
theorem d_Mo_solve_212 : decode (am_Mof y_Mo_solve).1 212 = .ok (.aload_n 0, 1) := by decide +kernel
theorem d_Mo_solve_213 : decode (am_Mof y_Mo_solve).1 213 = .ok (.aload_n 0, 1) := by decide +kernel
theorem d_Mo_solve_214 : decode (am_Mof y_Mo_solve).1 214 = .ok (.getfield 72, 3) := by decide +kernel
theorem d_Mo_solve_217 : decode (am_Mof y_Mo_solve).1 217 = .ok (.putfield 145, 3) := by decide +kernel
theorem d_Mo_solve_220 : decode (am_Mof y_Mo_solve).1 220 = .ok (.aload_n 0, 1) := by decide +kernel
theorem d_Mo_solve_221 : decode (am_Mof y_Mo_solve).1 221 = .ok (.aload_n 0, 1) := by decide +kernel
theorem d_Mo_solve_222 : decode (am_Mof y_Mo_solve).1 222 = .ok (.getfield 97, 3) := by decide +kernel
theorem d_Mo_solve_225 : decode (am_Mof y_Mo_solve).1 225 = .ok (.putfield 148, 3) := by decide +kernel
theorem d_Mo_solve_228 : decode (am_Mof y_Mo_solve).1 228 = .ok (.iconst 0, 1) := by decide +kernel
theorem d_Mo_solve_229 : decode (am_Mof y_Mo_solve).1 229 = .ok (.istore_n 1, 1) := by decide +kernel
theorem d_Mo_solve_230 : decode (am_Mof y_Mo_solve).1 230 = .ok (.iload_n 1, 1) := by decide +kernel
theorem d_Mo_solve_231 : decode (am_Mof y_Mo_solve).1 231 = .ok (.bipush 10, 2) := by decide +kernel
theorem d_Mo_solve_233 : decode (am_Mof y_Mo_solve).1 233 = .ok (.if_icmp .ge 21, 3) := by decide +kernel
theorem d_Mo_solve_236 : decode (am_Mof y_Mo_solve).1 236 = .ok (.aload_n 0, 1) := by decide +kernel
theorem d_Mo_solve_237 : decode (am_Mof y_Mo_solve).1 237 = .ok (.getfield 54, 3) := by decide +kernel
theorem d_Mo_solve_240 : decode (am_Mof y_Mo_solve).1 240 = .ok (.iload_n 1, 1) := by decide +kernel
theorem d_Mo_solve_241 : decode (am_Mof y_Mo_solve).1 241 = .ok (.aload_n 0, 1) := by decide +kernel
theorem d_Mo_solve_242 : decode (am_Mof y_Mo_solve).1 242 = .ok (.getfield 39, 3) := by decide +kernel
theorem d_Mo_solve_245 : decode (am_Mof y_Mo_solve).1 245 = .ok (.iload_n 1, 1) := by decide +kernel
theorem d_Mo_solve_246 : decode (am_Mof y_Mo_solve).1 246 = .ok (.laload, 1) := by decide +kernel
theorem d_Mo_solve_247 : decode (am_Mof y_Mo_solve).1 247 = .ok (.lastore, 1) := by decide +kernel
theorem d_Mo_solve_248 : decode (am_Mof y_Mo_solve).1 248 = .ok (.iinc 1 1, 3) := by decide +kernel
theorem d_Mo_solve_251 : decode (am_Mof y_Mo_solve).1 251 = .ok (.goto (-21), 3) := by decide +kernel
theorem d_Mo_solve_254 : decode (am_Mof y_Mo_solve).1 254 = .ok (.iconst 0, 1) := by decide +kernel
theorem d_Mo_solve_255 : decode (am_Mof y_Mo_solve).1 255 = .ok (.istore_n 1, 1) := by decide +kernel
theorem d_Mo_solve_256 : decode (am_Mof y_Mo_solve).1 256 = .ok (.iload_n 1, 1) := by decide +kernel
theorem d_Mo_solve_257 : decode (am_Mof y_Mo_solve).1 257 = .ok (.sipush 160, 3) := by decide +kernel
theorem d_Mo_solve_260 : decode (am_Mof y_Mo_solve).1 260 = .ok (.if_icmp .ge 16, 3) := by decide +kernel
theorem d_Mo_solve_263 : decode (am_Mof y_Mo_solve).1 263 = .ok (.aload_n 0, 1) := by decide +kernel
theorem d_Mo_solve_264 : decode (am_Mof y_Mo_solve).1 264 = .ok (.getfield 57, 3) := by decide +kernel
theorem d_Mo_solve_267 : decode (am_Mof y_Mo_solve).1 267 = .ok (.iload_n 1, 1) := by decide +kernel
theorem d_Mo_solve_268 : decode (am_Mof y_Mo_solve).1 268 = .ok (.lconst 0, 1) := by decide +kernel
theorem d_Mo_solve_269 : decode (am_Mof y_Mo_solve).1 269 = .ok (.lastore, 1) := by decide +kernel
theorem d_Mo_solve_270 : decode (am_Mof y_Mo_solve).1 270 = .ok (.iinc 1 1, 3) := by decide +kernel
theorem d_Mo_solve_273 : decode (am_Mof y_Mo_solve).1 273 = .ok (.goto (-17), 3) := by decide +kernel
theorem d_Mo_solve_276 : decode (am_Mof y_Mo_solve).1 276 = .ok (.aload_n 0, 1) := by decide +kernel
theorem d_Mo_solve_277 : decode (am_Mof y_Mo_solve).1 277 = .ok (.invokevirtual 151, 3) := by decide +kernel
theorem d_Mo_solve_280 : decode (am_Mof y_Mo_solve).1 280 = .ok (.iconst 0, 1) := by decide +kernel
theorem d_Mo_solve_281 : decode (am_Mof y_Mo_solve).1 281 = .ok (.ireturn, 1) := by decide +kernel
theorem d_Mo_ends_0 : decode (am_Mof y_Mo_ends).1 0 = .ok (.iconst 1, 1) := by decide +kernel
theorem d_Mo_ends_1 : decode (am_Mof y_Mo_ends).1 1 = .ok (.iload_n 1, 1) := by decide +kernel
theorem d_Mo_ends_2 : decode (am_Mof y_Mo_ends).1 2 = .ok (.ishl, 1) := by decide +kernel
theorem d_Mo_ends_3 : decode (am_Mof y_Mo_ends).1 3 = .ok (.istore_n 3, 1) := by decide +kernel
theorem d_Mo_ends_4 : decode (am_Mof y_Mo_ends).1 4 = .ok (.iconst 0, 1) := by decide +kernel
theorem d_Mo_ends_5 : decode (am_Mof y_Mo_ends).1 5 = .ok (.istore 4, 2) := by decide +kernel
theorem d_Mo_ends_7 : decode (am_Mof y_Mo_ends).1 7 = .ok (.iload 4, 2) := by decide +kernel
theorem d_Mo_ends_9 : decode (am_Mof y_Mo_ends).1 9 = .ok (.iconst 5, 1) := by decide +kernel
theorem d_Mo_ends_10 : decode (am_Mof y_Mo_ends).1 10 = .ok (.if_icmp .ge 107, 3) := by decide +kernel
theorem d_Mo_ends_13 : decode (am_Mof y_Mo_ends).1 13 = .ok (.iconst 0, 1) := by decide +kernel
theorem d_Mo_ends_14 : decode (am_Mof y_Mo_ends).1 14 = .ok (.istore 5, 2) := by decide +kernel
theorem d_Mo_ends_16 : decode (am_Mof y_Mo_ends).1 16 = .ok (.iload 5, 2) := by decide +kernel
theorem d_Mo_ends_18 : decode (am_Mof y_Mo_ends).1 18 = .ok (.aload_n 0, 1) := by decide +kernel
theorem d_Mo_ends_19 : decode (am_Mof y_Mo_ends).1 19 = .ok (.getfield 72, 3) := by decide +kernel
theorem d_Mo_ends_22 : decode (am_Mof y_Mo_ends).1 22 = .ok (.if_icmp .ge 89, 3) := by decide +kernel
theorem d_Mo_ends_25 : decode (am_Mof y_Mo_ends).1 25 = .ok (.iconst 0, 1) := by decide +kernel
theorem d_Mo_ends_26 : decode (am_Mof y_Mo_ends).1 26 = .ok (.istore 6, 2) := by decide +kernel
theorem d_Mo_ends_28 : decode (am_Mof y_Mo_ends).1 28 = .ok (.iload 6, 2) := by decide +kernel
theorem d_Mo_ends_30 : decode (am_Mof y_Mo_ends).1 30 = .ok (.aload_n 0, 1) := by decide +kernel
theorem d_Mo_ends_31 : decode (am_Mof y_Mo_ends).1 31 = .ok (.getfield 72, 3) := by decide +kernel
theorem d_Mo_ends_34 : decode (am_Mof y_Mo_ends).1 34 = .ok (.if_icmp .ge 71, 3) := by decide +kernel
theorem d_Mo_ends_37 : decode (am_Mof y_Mo_ends).1 37 = .ok (.iload_n 3, 1) := by decide +kernel
theorem d_Mo_ends_38 : decode (am_Mof y_Mo_ends).1 38 = .ok (.iload 5, 2) := by decide +kernel
theorem d_Mo_ends_40 : decode (am_Mof y_Mo_ends).1 40 = .ok (.ishr, 1) := by decide +kernel
theorem d_Mo_ends_41 : decode (am_Mof y_Mo_ends).1 41 = .ok (.iconst 1, 1) := by decide +kernel
theorem d_Mo_ends_42 : decode (am_Mof y_Mo_ends).1 42 = .ok (.iand, 1) := by decide +kernel
theorem d_Mo_ends_43 : decode (am_Mof y_Mo_ends).1 43 = .ok (.iconst 1, 1) := by decide +kernel
theorem d_Mo_ends_44 : decode (am_Mof y_Mo_ends).1 44 = .ok (.if_icmp .ne 36, 3) := by decide +kernel
theorem d_Mo_ends_47 : decode (am_Mof y_Mo_ends).1 47 = .ok (.aload_n 0, 1) := by decide +kernel
theorem d_Mo_ends_48 : decode (am_Mof y_Mo_ends).1 48 = .ok (.getfield 13, 3) := by decide +kernel
theorem d_Mo_ends_51 : decode (am_Mof y_Mo_ends).1 51 = .ok (.iconst 4, 1) := by decide +kernel
theorem d_Mo_ends_52 : decode (am_Mof y_Mo_ends).1 52 = .ok (.iload 5, 2) := by decide +kernel
theorem d_Mo_ends_54 : decode (am_Mof y_Mo_ends).1 54 = .ok (.imul, 1) := by decide +kernel
theorem d_Mo_ends_55 : decode (am_Mof y_Mo_ends).1 55 = .ok (.iload_n 2, 1) := by decide +kernel
theorem d_Mo_ends_56 : decode (am_Mof y_Mo_ends).1 56 = .ok (.iadd, 1) := by decide +kernel
theorem d_Mo_ends_57 : decode (am_Mof y_Mo_ends).1 57 = .ok (.baload, 1) := by decide +kernel
theorem d_Mo_ends_58 : decode (am_Mof y_Mo_ends).1 58 = .ok (.ifCond .ne 22, 3) := by decide +kernel
theorem d_Mo_ends_61 : decode (am_Mof y_Mo_ends).1 61 = .ok (.aload_n 0, 1) := by decide +kernel
theorem d_Mo_ends_62 : decode (am_Mof y_Mo_ends).1 62 = .ok (.getfield 7, 3) := by decide +kernel
theorem d_Mo_ends_65 : decode (am_Mof y_Mo_ends).1 65 = .ok (.iconst 5, 1) := by decide +kernel
theorem d_Mo_ends_66 : decode (am_Mof y_Mo_ends).1 66 = .ok (.iload 5, 2) := by decide +kernel
theorem d_Mo_ends_68 : decode (am_Mof y_Mo_ends).1 68 = .ok (.imul, 1) := by decide +kernel
theorem d_Mo_ends_69 : decode (am_Mof y_Mo_ends).1 69 = .ok (.iload 6, 2) := by decide +kernel
theorem d_Mo_ends_71 : decode (am_Mof y_Mo_ends).1 71 = .ok (.iadd, 1) := by decide +kernel
theorem d_Mo_ends_72 : decode (am_Mof y_Mo_ends).1 72 = .ok (.iaload, 1) := by decide +kernel
theorem d_Mo_ends_73 : decode (am_Mof y_Mo_ends).1 73 = .ok (.ifCond .le 7, 3) := by decide +kernel
theorem d_Mo_ends_76 : decode (am_Mof y_Mo_ends).1 76 = .ok (.iconst 1, 1) := by decide +kernel
theorem d_Mo_ends_77 : decode (am_Mof y_Mo_ends).1 77 = .ok (.goto 4, 3) := by decide +kernel
theorem d_Mo_ends_80 : decode (am_Mof y_Mo_ends).1 80 = .ok (.iconst 0, 1) := by decide +kernel
theorem d_Mo_ends_81 : decode (am_Mof y_Mo_ends).1 81 = .ok (.istore 7, 2) := by decide +kernel
theorem d_Mo_ends_83 : decode (am_Mof y_Mo_ends).1 83 = .ok (.iload_n 3, 1) := by decide +kernel
theorem d_Mo_ends_84 : decode (am_Mof y_Mo_ends).1 84 = .ok (.iload 7, 2) := by decide +kernel
theorem d_Mo_ends_86 : decode (am_Mof y_Mo_ends).1 86 = .ok (.ifCond .eq 10, 3) := by decide +kernel
theorem d_Mo_ends_89 : decode (am_Mof y_Mo_ends).1 89 = .ok (.iconst 1, 1) := by decide +kernel
theorem d_Mo_ends_90 : decode (am_Mof y_Mo_ends).1 90 = .ok (.iload 6, 2) := by decide +kernel
theorem d_Mo_ends_92 : decode (am_Mof y_Mo_ends).1 92 = .ok (.ishl, 1) := by decide +kernel
theorem d_Mo_ends_93 : decode (am_Mof y_Mo_ends).1 93 = .ok (.goto 4, 3) := by decide +kernel
theorem d_Mo_ends_96 : decode (am_Mof y_Mo_ends).1 96 = .ok (.iconst 0, 1) := by decide +kernel
theorem d_Mo_ends_97 : decode (am_Mof y_Mo_ends).1 97 = .ok (.ior, 1) := by decide +kernel
theorem d_Mo_ends_98 : decode (am_Mof y_Mo_ends).1 98 = .ok (.istore_n 3, 1) := by decide +kernel
theorem d_Mo_ends_99 : decode (am_Mof y_Mo_ends).1 99 = .ok (.iinc 6 1, 3) := by decide +kernel
theorem d_Mo_ends_102 : decode (am_Mof y_Mo_ends).1 102 = .ok (.goto (-74), 3) := by decide +kernel
theorem d_Mo_ends_105 : decode (am_Mof y_Mo_ends).1 105 = .ok (.iinc 5 1, 3) := by decide +kernel
theorem d_Mo_ends_108 : decode (am_Mof y_Mo_ends).1 108 = .ok (.goto (-92), 3) := by decide +kernel
theorem d_Mo_ends_111 : decode (am_Mof y_Mo_ends).1 111 = .ok (.iinc 4 1, 3) := by decide +kernel
theorem d_Mo_ends_114 : decode (am_Mof y_Mo_ends).1 114 = .ok (.goto (-107), 3) := by decide +kernel
theorem d_Mo_ends_117 : decode (am_Mof y_Mo_ends).1 117 = .ok (.iconst 0, 1) := by decide +kernel
theorem d_Mo_ends_118 : decode (am_Mof y_Mo_ends).1 118 = .ok (.istore 4, 2) := by decide +kernel
theorem d_Mo_ends_120 : decode (am_Mof y_Mo_ends).1 120 = .ok (.iconst 0, 1) := by decide +kernel
theorem d_Mo_ends_121 : decode (am_Mof y_Mo_ends).1 121 = .ok (.istore 5, 2) := by decide +kernel
theorem d_Mo_ends_123 : decode (am_Mof y_Mo_ends).1 123 = .ok (.iload 5, 2) := by decide +kernel
theorem d_Mo_ends_125 : decode (am_Mof y_Mo_ends).1 125 = .ok (.aload_n 0, 1) := by decide +kernel
theorem d_Mo_ends_126 : decode (am_Mof y_Mo_ends).1 126 = .ok (.getfield 72, 3) := by decide +kernel
theorem d_Mo_ends_129 : decode (am_Mof y_Mo_ends).1 129 = .ok (.if_icmp .ge 65, 3) := by decide +kernel
theorem d_Mo_ends_132 : decode (am_Mof y_Mo_ends).1 132 = .ok (.iload 4, 2) := by decide +kernel
theorem d_Mo_ends_134 : decode (am_Mof y_Mo_ends).1 134 = .ok (.ifCond .ne 47, 3) := by decide +kernel
theorem d_Mo_ends_137 : decode (am_Mof y_Mo_ends).1 137 = .ok (.iload_n 3, 1) := by decide +kernel
theorem d_Mo_ends_138 : decode (am_Mof y_Mo_ends).1 138 = .ok (.iload 5, 2) := by decide +kernel
theorem d_Mo_ends_140 : decode (am_Mof y_Mo_ends).1 140 = .ok (.ishr, 1) := by decide +kernel
theorem d_Mo_ends_141 : decode (am_Mof y_Mo_ends).1 141 = .ok (.iconst 1, 1) := by decide +kernel
theorem d_Mo_ends_142 : decode (am_Mof y_Mo_ends).1 142 = .ok (.iand, 1) := by decide +kernel
theorem d_Mo_ends_143 : decode (am_Mof y_Mo_ends).1 143 = .ok (.iconst 1, 1) := by decide +kernel
theorem d_Mo_ends_144 : decode (am_Mof y_Mo_ends).1 144 = .ok (.if_icmp .ne 41, 3) := by decide +kernel
theorem d_Mo_ends_147 : decode (am_Mof y_Mo_ends).1 147 = .ok (.aload_n 0, 1) := by decide +kernel
theorem d_Mo_ends_148 : decode (am_Mof y_Mo_ends).1 148 = .ok (.getfield 13, 3) := by decide +kernel
theorem d_Mo_ends_151 : decode (am_Mof y_Mo_ends).1 151 = .ok (.iconst 4, 1) := by decide +kernel
theorem d_Mo_ends_152 : decode (am_Mof y_Mo_ends).1 152 = .ok (.iload 5, 2) := by decide +kernel
theorem d_Mo_ends_154 : decode (am_Mof y_Mo_ends).1 154 = .ok (.imul, 1) := by decide +kernel
theorem d_Mo_ends_155 : decode (am_Mof y_Mo_ends).1 155 = .ok (.iload_n 2, 1) := by decide +kernel
theorem d_Mo_ends_156 : decode (am_Mof y_Mo_ends).1 156 = .ok (.iadd, 1) := by decide +kernel
theorem d_Mo_ends_157 : decode (am_Mof y_Mo_ends).1 157 = .ok (.baload, 1) := by decide +kernel
theorem d_Mo_ends_158 : decode (am_Mof y_Mo_ends).1 158 = .ok (.ifCond .ne 23, 3) := by decide +kernel
theorem d_Mo_ends_161 : decode (am_Mof y_Mo_ends).1 161 = .ok (.aload_n 0, 1) := by decide +kernel
theorem d_Mo_ends_162 : decode (am_Mof y_Mo_ends).1 162 = .ok (.iload 5, 2) := by decide +kernel
theorem d_Mo_ends_164 : decode (am_Mof y_Mo_ends).1 164 = .ok (.invokevirtual 110, 3) := by decide +kernel
theorem d_Mo_ends_167 : decode (am_Mof y_Mo_ends).1 167 = .ok (.ifCond .eq 14, 3) := by decide +kernel
theorem d_Mo_ends_170 : decode (am_Mof y_Mo_ends).1 170 = .ok (.aload_n 0, 1) := by decide +kernel
theorem d_Mo_ends_171 : decode (am_Mof y_Mo_ends).1 171 = .ok (.iload 5, 2) := by decide +kernel
theorem d_Mo_ends_173 : decode (am_Mof y_Mo_ends).1 173 = .ok (.invokevirtual 110, 3) := by decide +kernel
theorem d_Mo_ends_176 : decode (am_Mof y_Mo_ends).1 176 = .ok (.bipush 10, 2) := by decide +kernel
theorem d_Mo_ends_178 : decode (am_Mof y_Mo_ends).1 178 = .ok (.if_icmp .ge 7, 3) := by decide +kernel
theorem d_Mo_ends_181 : decode (am_Mof y_Mo_ends).1 181 = .ok (.iconst 1, 1) := by decide +kernel
theorem d_Mo_ends_182 : decode (am_Mof y_Mo_ends).1 182 = .ok (.goto 4, 3) := by decide +kernel
theorem d_Mo_ends_185 : decode (am_Mof y_Mo_ends).1 185 = .ok (.iconst 0, 1) := by decide +kernel
theorem d_Mo_ends_186 : decode (am_Mof y_Mo_ends).1 186 = .ok (.istore 4, 2) := by decide +kernel
theorem d_Mo_ends_188 : decode (am_Mof y_Mo_ends).1 188 = .ok (.iinc 5 1, 3) := by decide +kernel
theorem d_Mo_ends_191 : decode (am_Mof y_Mo_ends).1 191 = .ok (.goto (-68), 3) := by decide +kernel
theorem d_Mo_ends_194 : decode (am_Mof y_Mo_ends).1 194 = .ok (.iload 4, 2) := by decide +kernel
theorem d_Mo_ends_196 : decode (am_Mof y_Mo_ends).1 196 = .ok (.ireturn, 1) := by decide +kernel
theorem d_Mo_shared_0 : decode (am_Mof y_Mo_shared).1 0 = .ok (.iconst 0, 1) := by decide +kernel
theorem d_Mo_shared_1 : decode (am_Mof y_Mo_shared).1 1 = .ok (.istore_n 2, 1) := by decide +kernel
theorem d_Mo_shared_2 : decode (am_Mof y_Mo_shared).1 2 = .ok (.iconst 0, 1) := by decide +kernel
theorem d_Mo_shared_3 : decode (am_Mof y_Mo_shared).1 3 = .ok (.istore_n 3, 1) := by decide +kernel
theorem d_Mo_shared_4 : decode (am_Mof y_Mo_shared).1 4 = .ok (.iload_n 3, 1) := by decide +kernel
theorem d_Mo_shared_5 : decode (am_Mof y_Mo_shared).1 5 = .ok (.iconst 5, 1) := by decide +kernel
theorem d_Mo_shared_6 : decode (am_Mof y_Mo_shared).1 6 = .ok (.if_icmp .ge 22, 3) := by decide +kernel
theorem d_Mo_shared_9 : decode (am_Mof y_Mo_shared).1 9 = .ok (.iload_n 2, 1) := by decide +kernel
theorem d_Mo_shared_10 : decode (am_Mof y_Mo_shared).1 10 = .ok (.aload_n 0, 1) := by decide +kernel
theorem d_Mo_shared_11 : decode (am_Mof y_Mo_shared).1 11 = .ok (.getfield 7, 3) := by decide +kernel
theorem d_Mo_shared_14 : decode (am_Mof y_Mo_shared).1 14 = .ok (.iconst 5, 1) := by decide +kernel
theorem d_Mo_shared_15 : decode (am_Mof y_Mo_shared).1 15 = .ok (.iload_n 1, 1) := by decide +kernel
theorem d_Mo_shared_16 : decode (am_Mof y_Mo_shared).1 16 = .ok (.imul, 1) := by decide +kernel
theorem d_Mo_shared_17 : decode (am_Mof y_Mo_shared).1 17 = .ok (.iload_n 3, 1) := by decide +kernel
theorem d_Mo_shared_18 : decode (am_Mof y_Mo_shared).1 18 = .ok (.iadd, 1) := by decide +kernel
theorem d_Mo_shared_19 : decode (am_Mof y_Mo_shared).1 19 = .ok (.iaload, 1) := by decide +kernel
theorem d_Mo_shared_20 : decode (am_Mof y_Mo_shared).1 20 = .ok (.iadd, 1) := by decide +kernel
theorem d_Mo_shared_21 : decode (am_Mof y_Mo_shared).1 21 = .ok (.istore_n 2, 1) := by decide +kernel
theorem d_Mo_shared_22 : decode (am_Mof y_Mo_shared).1 22 = .ok (.iinc 3 1, 3) := by decide +kernel
theorem d_Mo_shared_25 : decode (am_Mof y_Mo_shared).1 25 = .ok (.goto (-21), 3) := by decide +kernel
theorem d_Mo_shared_28 : decode (am_Mof y_Mo_shared).1 28 = .ok (.iload_n 2, 1) := by decide +kernel
theorem d_Mo_shared_29 : decode (am_Mof y_Mo_shared).1 29 = .ok (.ireturn, 1) := by decide +kernel
theorem d_Mo_layOut_0 : decode (am_Mof y_Mo_layOut).1 0 = .ok (.iconst 0, 1) := by decide +kernel
theorem d_Mo_layOut_1 : decode (am_Mof y_Mo_layOut).1 1 = .ok (.istore_n 2, 1) := by decide +kernel
theorem d_Mo_layOut_2 : decode (am_Mof y_Mo_layOut).1 2 = .ok (.iload_n 2, 1) := by decide +kernel
theorem d_Mo_layOut_3 : decode (am_Mof y_Mo_layOut).1 3 = .ok (.aload_n 0, 1) := by decide +kernel
theorem d_Mo_layOut_4 : decode (am_Mof y_Mo_layOut).1 4 = .ok (.getfield 72, 3) := by decide +kernel
theorem d_Mo_layOut_7 : decode (am_Mof y_Mo_layOut).1 7 = .ok (.if_icmp .ge 191, 3) := by decide +kernel
theorem d_Mo_layOut_10 : decode (am_Mof y_Mo_layOut).1 10 = .ok (.iconst 0, 1) := by decide +kernel
theorem d_Mo_layOut_11 : decode (am_Mof y_Mo_layOut).1 11 = .ok (.istore_n 3, 1) := by decide +kernel
theorem d_Mo_layOut_12 : decode (am_Mof y_Mo_layOut).1 12 = .ok (.iload_n 3, 1) := by decide +kernel
theorem d_Mo_layOut_13 : decode (am_Mof y_Mo_layOut).1 13 = .ok (.iconst 5, 1) := by decide +kernel
theorem d_Mo_layOut_14 : decode (am_Mof y_Mo_layOut).1 14 = .ok (.if_icmp .gt 21, 3) := by decide +kernel
theorem d_Mo_layOut_17 : decode (am_Mof y_Mo_layOut).1 17 = .ok (.aload_n 0, 1) := by decide +kernel
theorem d_Mo_layOut_18 : decode (am_Mof y_Mo_layOut).1 18 = .ok (.bipush 6, 2) := by decide +kernel
theorem d_Mo_layOut_20 : decode (am_Mof y_Mo_layOut).1 20 = .ok (.iload_n 2, 1) := by decide +kernel
theorem d_Mo_layOut_21 : decode (am_Mof y_Mo_layOut).1 21 = .ok (.imul, 1) := by decide +kernel
theorem d_Mo_layOut_22 : decode (am_Mof y_Mo_layOut).1 22 = .ok (.iload_n 3, 1) := by decide +kernel
theorem d_Mo_layOut_23 : decode (am_Mof y_Mo_layOut).1 23 = .ok (.iadd, 1) := by decide +kernel
theorem d_Mo_layOut_24 : decode (am_Mof y_Mo_layOut).1 24 = .ok (.lconst 0, 1) := by decide +kernel
theorem d_Mo_layOut_25 : decode (am_Mof y_Mo_layOut).1 25 = .ok (.lconst 1, 1) := by decide +kernel
theorem d_Mo_layOut_26 : decode (am_Mof y_Mo_layOut).1 26 = .ok (.invokevirtual 118, 3) := by decide +kernel
theorem d_Mo_layOut_29 : decode (am_Mof y_Mo_layOut).1 29 = .ok (.iinc 3 1, 3) := by decide +kernel
theorem d_Mo_layOut_32 : decode (am_Mof y_Mo_layOut).1 32 = .ok (.goto (-20), 3) := by decide +kernel
theorem d_Mo_layOut_35 : decode (am_Mof y_Mo_layOut).1 35 = .ok (.aload_n 0, 1) := by decide +kernel
theorem d_Mo_layOut_36 : decode (am_Mof y_Mo_layOut).1 36 = .ok (.getfield 13, 3) := by decide +kernel
theorem d_Mo_layOut_39 : decode (am_Mof y_Mo_layOut).1 39 = .ok (.iconst 4, 1) := by decide +kernel
theorem d_Mo_layOut_40 : decode (am_Mof y_Mo_layOut).1 40 = .ok (.iload_n 2, 1) := by decide +kernel
theorem d_Mo_layOut_41 : decode (am_Mof y_Mo_layOut).1 41 = .ok (.imul, 1) := by decide +kernel
theorem d_Mo_layOut_42 : decode (am_Mof y_Mo_layOut).1 42 = .ok (.iload_n 1, 1) := by decide +kernel
theorem d_Mo_layOut_43 : decode (am_Mof y_Mo_layOut).1 43 = .ok (.iadd, 1) := by decide +kernel
theorem d_Mo_layOut_44 : decode (am_Mof y_Mo_layOut).1 44 = .ok (.baload, 1) := by decide +kernel
theorem d_Mo_layOut_45 : decode (am_Mof y_Mo_layOut).1 45 = .ok (.ifCond .ne 15, 3) := by decide +kernel
theorem d_Mo_layOut_48 : decode (am_Mof y_Mo_layOut).1 48 = .ok (.aload_n 0, 1) := by decide +kernel
theorem d_Mo_layOut_49 : decode (am_Mof y_Mo_layOut).1 49 = .ok (.iload_n 2, 1) := by decide +kernel
theorem d_Mo_layOut_50 : decode (am_Mof y_Mo_layOut).1 50 = .ok (.invokevirtual 110, 3) := by decide +kernel
theorem d_Mo_layOut_53 : decode (am_Mof y_Mo_layOut).1 53 = .ok (.ifCond .le 7, 3) := by decide +kernel
theorem d_Mo_layOut_56 : decode (am_Mof y_Mo_layOut).1 56 = .ok (.iconst 1, 1) := by decide +kernel
theorem d_Mo_layOut_57 : decode (am_Mof y_Mo_layOut).1 57 = .ok (.goto 4, 3) := by decide +kernel
theorem d_Mo_layOut_60 : decode (am_Mof y_Mo_layOut).1 60 = .ok (.iconst 0, 1) := by decide +kernel
theorem d_Mo_layOut_61 : decode (am_Mof y_Mo_layOut).1 61 = .ok (.istore_n 3, 1) := by decide +kernel
theorem d_Mo_layOut_62 : decode (am_Mof y_Mo_layOut).1 62 = .ok (.iconst 0, 1) := by decide +kernel
theorem d_Mo_layOut_63 : decode (am_Mof y_Mo_layOut).1 63 = .ok (.istore 4, 2) := by decide +kernel
theorem d_Mo_layOut_65 : decode (am_Mof y_Mo_layOut).1 65 = .ok (.iload 4, 2) := by decide +kernel
theorem d_Mo_layOut_67 : decode (am_Mof y_Mo_layOut).1 67 = .ok (.aload_n 0, 1) := by decide +kernel
theorem d_Mo_layOut_68 : decode (am_Mof y_Mo_layOut).1 68 = .ok (.getfield 72, 3) := by decide +kernel
theorem d_Mo_layOut_71 : decode (am_Mof y_Mo_layOut).1 71 = .ok (.if_icmp .ge 57, 3) := by decide +kernel
theorem d_Mo_layOut_74 : decode (am_Mof y_Mo_layOut).1 74 = .ok (.aload_n 0, 1) := by decide +kernel
theorem d_Mo_layOut_75 : decode (am_Mof y_Mo_layOut).1 75 = .ok (.bipush 6, 2) := by decide +kernel
theorem d_Mo_layOut_77 : decode (am_Mof y_Mo_layOut).1 77 = .ok (.iload_n 2, 1) := by decide +kernel
theorem d_Mo_layOut_78 : decode (am_Mof y_Mo_layOut).1 78 = .ok (.imul, 1) := by decide +kernel
theorem d_Mo_layOut_79 : decode (am_Mof y_Mo_layOut).1 79 = .ok (.iload 4, 2) := by decide +kernel
theorem d_Mo_layOut_81 : decode (am_Mof y_Mo_layOut).1 81 = .ok (.iadd, 1) := by decide +kernel
theorem d_Mo_layOut_82 : decode (am_Mof y_Mo_layOut).1 82 = .ok (.iload 4, 2) := by decide +kernel
theorem d_Mo_layOut_84 : decode (am_Mof y_Mo_layOut).1 84 = .ok (.iload_n 2, 1) := by decide +kernel
theorem d_Mo_layOut_85 : decode (am_Mof y_Mo_layOut).1 85 = .ok (.if_icmp .ne 9, 3) := by decide +kernel
theorem d_Mo_layOut_88 : decode (am_Mof y_Mo_layOut).1 88 = .ok (.ldc2_w 80, 3) := by decide +kernel
theorem d_Mo_layOut_91 : decode (am_Mof y_Mo_layOut).1 91 = .ok (.goto 4, 3) := by decide +kernel
theorem d_Mo_layOut_94 : decode (am_Mof y_Mo_layOut).1 94 = .ok (.lconst 0, 1) := by decide +kernel
theorem d_Mo_layOut_95 : decode (am_Mof y_Mo_layOut).1 95 = .ok (.iload_n 3, 1) := by decide +kernel
theorem d_Mo_layOut_96 : decode (am_Mof y_Mo_layOut).1 96 = .ok (.ifCond .eq 17, 3) := by decide +kernel
theorem d_Mo_layOut_99 : decode (am_Mof y_Mo_layOut).1 99 = .ok (.aload_n 0, 1) := by decide +kernel
theorem d_Mo_layOut_100 : decode (am_Mof y_Mo_layOut).1 100 = .ok (.getfield 7, 3) := by decide +kernel
theorem d_Mo_layOut_103 : decode (am_Mof y_Mo_layOut).1 103 = .ok (.iconst 5, 1) := by decide +kernel
theorem d_Mo_layOut_104 : decode (am_Mof y_Mo_layOut).1 104 = .ok (.iload_n 2, 1) := by decide +kernel
theorem d_Mo_layOut_105 : decode (am_Mof y_Mo_layOut).1 105 = .ok (.imul, 1) := by decide +kernel
theorem d_Mo_layOut_106 : decode (am_Mof y_Mo_layOut).1 106 = .ok (.iload 4, 2) := by decide +kernel
theorem d_Mo_layOut_108 : decode (am_Mof y_Mo_layOut).1 108 = .ok (.iadd, 1) := by decide +kernel
theorem d_Mo_layOut_109 : decode (am_Mof y_Mo_layOut).1 109 = .ok (.iaload, 1) := by decide +kernel
theorem d_Mo_layOut_110 : decode (am_Mof y_Mo_layOut).1 110 = .ok (.goto 4, 3) := by decide +kernel
theorem d_Mo_layOut_113 : decode (am_Mof y_Mo_layOut).1 113 = .ok (.iconst 0, 1) := by decide +kernel
theorem d_Mo_layOut_114 : decode (am_Mof y_Mo_layOut).1 114 = .ok (.i2l, 1) := by decide +kernel
theorem d_Mo_layOut_115 : decode (am_Mof y_Mo_layOut).1 115 = .ok (.lsub, 1) := by decide +kernel
theorem d_Mo_layOut_116 : decode (am_Mof y_Mo_layOut).1 116 = .ok (.ldc2_w 80, 3) := by decide +kernel
theorem d_Mo_layOut_119 : decode (am_Mof y_Mo_layOut).1 119 = .ok (.invokevirtual 118, 3) := by decide +kernel
theorem d_Mo_layOut_122 : decode (am_Mof y_Mo_layOut).1 122 = .ok (.iinc 4 1, 3) := by decide +kernel
theorem d_Mo_layOut_125 : decode (am_Mof y_Mo_layOut).1 125 = .ok (.goto (-60), 3) := by decide +kernel
theorem d_Mo_layOut_128 : decode (am_Mof y_Mo_layOut).1 128 = .ok (.aload_n 0, 1) := by decide +kernel
theorem d_Mo_layOut_129 : decode (am_Mof y_Mo_layOut).1 129 = .ok (.getfield 13, 3) := by decide +kernel
theorem d_Mo_layOut_132 : decode (am_Mof y_Mo_layOut).1 132 = .ok (.iconst 4, 1) := by decide +kernel
theorem d_Mo_layOut_133 : decode (am_Mof y_Mo_layOut).1 133 = .ok (.iload_n 2, 1) := by decide +kernel
theorem d_Mo_layOut_134 : decode (am_Mof y_Mo_layOut).1 134 = .ok (.imul, 1) := by decide +kernel
theorem d_Mo_layOut_135 : decode (am_Mof y_Mo_layOut).1 135 = .ok (.iload_n 1, 1) := by decide +kernel
theorem d_Mo_layOut_136 : decode (am_Mof y_Mo_layOut).1 136 = .ok (.iadd, 1) := by decide +kernel
theorem d_Mo_layOut_137 : decode (am_Mof y_Mo_layOut).1 137 = .ok (.baload, 1) := by decide +kernel
theorem d_Mo_layOut_138 : decode (am_Mof y_Mo_layOut).1 138 = .ok (.ifCond .eq 18, 3) := by decide +kernel
theorem d_Mo_layOut_141 : decode (am_Mof y_Mo_layOut).1 141 = .ok (.aload_n 0, 1) := by decide +kernel
theorem d_Mo_layOut_142 : decode (am_Mof y_Mo_layOut).1 142 = .ok (.bipush 6, 2) := by decide +kernel
theorem d_Mo_layOut_144 : decode (am_Mof y_Mo_layOut).1 144 = .ok (.iload_n 2, 1) := by decide +kernel
theorem d_Mo_layOut_145 : decode (am_Mof y_Mo_layOut).1 145 = .ok (.imul, 1) := by decide +kernel
theorem d_Mo_layOut_146 : decode (am_Mof y_Mo_layOut).1 146 = .ok (.iconst 5, 1) := by decide +kernel
theorem d_Mo_layOut_147 : decode (am_Mof y_Mo_layOut).1 147 = .ok (.iadd, 1) := by decide +kernel
theorem d_Mo_layOut_148 : decode (am_Mof y_Mo_layOut).1 148 = .ok (.lconst 1, 1) := by decide +kernel
theorem d_Mo_layOut_149 : decode (am_Mof y_Mo_layOut).1 149 = .ok (.lconst 1, 1) := by decide +kernel
theorem d_Mo_layOut_150 : decode (am_Mof y_Mo_layOut).1 150 = .ok (.invokevirtual 118, 3) := by decide +kernel
theorem d_Mo_layOut_153 : decode (am_Mof y_Mo_layOut).1 153 = .ok (.goto 39, 3) := by decide +kernel
theorem d_Mo_layOut_156 : decode (am_Mof y_Mo_layOut).1 156 = .ok (.iload_n 3, 1) := by decide +kernel
theorem d_Mo_layOut_157 : decode (am_Mof y_Mo_layOut).1 157 = .ok (.ifCond .ne 35, 3) := by decide +kernel
theorem d_Mo_layOut_160 : decode (am_Mof y_Mo_layOut).1 160 = .ok (.aload_n 0, 1) := by decide +kernel
theorem d_Mo_layOut_161 : decode (am_Mof y_Mo_layOut).1 161 = .ok (.getfield 17, 3) := by decide +kernel
theorem d_Mo_layOut_164 : decode (am_Mof y_Mo_layOut).1 164 = .ok (.iload_n 2, 1) := by decide +kernel
theorem d_Mo_layOut_165 : decode (am_Mof y_Mo_layOut).1 165 = .ok (.baload, 1) := by decide +kernel
theorem d_Mo_layOut_166 : decode (am_Mof y_Mo_layOut).1 166 = .ok (.ifCond .eq 26, 3) := by decide +kernel
theorem d_Mo_layOut_169 : decode (am_Mof y_Mo_layOut).1 169 = .ok (.aload_n 0, 1) := by decide +kernel
theorem d_Mo_layOut_170 : decode (am_Mof y_Mo_layOut).1 170 = .ok (.bipush 6, 2) := by decide +kernel
theorem d_Mo_layOut_172 : decode (am_Mof y_Mo_layOut).1 172 = .ok (.iload_n 2, 1) := by decide +kernel
theorem d_Mo_layOut_173 : decode (am_Mof y_Mo_layOut).1 173 = .ok (.imul, 1) := by decide +kernel
theorem d_Mo_layOut_174 : decode (am_Mof y_Mo_layOut).1 174 = .ok (.iconst 5, 1) := by decide +kernel
theorem d_Mo_layOut_175 : decode (am_Mof y_Mo_layOut).1 175 = .ok (.iadd, 1) := by decide +kernel
theorem d_Mo_layOut_176 : decode (am_Mof y_Mo_layOut).1 176 = .ok (.bipush 10, 2) := by decide +kernel
theorem d_Mo_layOut_178 : decode (am_Mof y_Mo_layOut).1 178 = .ok (.aload_n 0, 1) := by decide +kernel
theorem d_Mo_layOut_179 : decode (am_Mof y_Mo_layOut).1 179 = .ok (.getfield 20, 3) := by decide +kernel
theorem d_Mo_layOut_182 : decode (am_Mof y_Mo_layOut).1 182 = .ok (.iload_n 2, 1) := by decide +kernel
theorem d_Mo_layOut_183 : decode (am_Mof y_Mo_layOut).1 183 = .ok (.iaload, 1) := by decide +kernel
theorem d_Mo_layOut_184 : decode (am_Mof y_Mo_layOut).1 184 = .ok (.isub, 1) := by decide +kernel
theorem d_Mo_layOut_185 : decode (am_Mof y_Mo_layOut).1 185 = .ok (.i2l, 1) := by decide +kernel
theorem d_Mo_layOut_186 : decode (am_Mof y_Mo_layOut).1 186 = .ok (.ldc2_w 80, 3) := by decide +kernel
theorem d_Mo_layOut_189 : decode (am_Mof y_Mo_layOut).1 189 = .ok (.invokevirtual 118, 3) := by decide +kernel
theorem d_Mo_layOut_192 : decode (am_Mof y_Mo_layOut).1 192 = .ok (.iinc 2 1, 3) := by decide +kernel
theorem d_Mo_layOut_195 : decode (am_Mof y_Mo_layOut).1 195 = .ok (.goto (-193), 3) := by decide +kernel
theorem d_Mo_layOut_198 : decode (am_Mof y_Mo_layOut).1 198 = .ok (.return_, 1) := by decide +kernel
theorem d_Mo_put_0 : decode (am_Mof y_Mo_put).1 0 = .ok (.lload_n 2, 1) := by decide +kernel
theorem d_Mo_put_1 : decode (am_Mof y_Mo_put).1 1 = .ok (.lload 4, 2) := by decide +kernel
theorem d_Mo_put_3 : decode (am_Mof y_Mo_put).1 3 = .ok (.invokestatic 114, 3) := by decide +kernel
theorem d_Mo_put_6 : decode (am_Mof y_Mo_put).1 6 = .ok (.lstore 6, 2) := by decide +kernel
theorem d_Mo_put_8 : decode (am_Mof y_Mo_put).1 8 = .ok (.aload_n 0, 1) := by decide +kernel
theorem d_Mo_put_9 : decode (am_Mof y_Mo_put).1 9 = .ok (.getfield 66, 3) := by decide +kernel
theorem d_Mo_put_12 : decode (am_Mof y_Mo_put).1 12 = .ok (.iload_n 1, 1) := by decide +kernel
theorem d_Mo_put_13 : decode (am_Mof y_Mo_put).1 13 = .ok (.lload 4, 2) := by decide +kernel
theorem d_Mo_put_15 : decode (am_Mof y_Mo_put).1 15 = .ok (.lconst 0, 1) := by decide +kernel
theorem d_Mo_put_16 : decode (am_Mof y_Mo_put).1 16 = .ok (.lcmp, 1) := by decide +kernel
theorem d_Mo_put_17 : decode (am_Mof y_Mo_put).1 17 = .ok (.ifCond .ge 11, 3) := by decide +kernel
theorem d_Mo_put_20 : decode (am_Mof y_Mo_put).1 20 = .ok (.lload_n 2, 1) := by decide +kernel
theorem d_Mo_put_21 : decode (am_Mof y_Mo_put).1 21 = .ok (.lload 6, 2) := by decide +kernel
theorem d_Mo_put_23 : decode (am_Mof y_Mo_put).1 23 = .ok (.ldiv, 1) := by decide +kernel
theorem d_Mo_put_24 : decode (am_Mof y_Mo_put).1 24 = .ok (.lneg, 1) := by decide +kernel
theorem d_Mo_put_25 : decode (am_Mof y_Mo_put).1 25 = .ok (.goto 7, 3) := by decide +kernel
theorem d_Mo_put_28 : decode (am_Mof y_Mo_put).1 28 = .ok (.lload_n 2, 1) := by decide +kernel
theorem d_Mo_put_29 : decode (am_Mof y_Mo_put).1 29 = .ok (.lload 6, 2) := by decide +kernel
theorem d_Mo_put_31 : decode (am_Mof y_Mo_put).1 31 = .ok (.ldiv, 1) := by decide +kernel
theorem d_Mo_put_32 : decode (am_Mof y_Mo_put).1 32 = .ok (.lastore, 1) := by decide +kernel
theorem d_Mo_put_33 : decode (am_Mof y_Mo_put).1 33 = .ok (.aload_n 0, 1) := by decide +kernel
theorem d_Mo_put_34 : decode (am_Mof y_Mo_put).1 34 = .ok (.getfield 69, 3) := by decide +kernel
theorem d_Mo_put_37 : decode (am_Mof y_Mo_put).1 37 = .ok (.iload_n 1, 1) := by decide +kernel
theorem d_Mo_put_38 : decode (am_Mof y_Mo_put).1 38 = .ok (.lload 4, 2) := by decide +kernel
theorem d_Mo_put_40 : decode (am_Mof y_Mo_put).1 40 = .ok (.lconst 0, 1) := by decide +kernel
theorem d_Mo_put_41 : decode (am_Mof y_Mo_put).1 41 = .ok (.lcmp, 1) := by decide +kernel
theorem d_Mo_put_42 : decode (am_Mof y_Mo_put).1 42 = .ok (.ifCond .ge 12, 3) := by decide +kernel
theorem d_Mo_put_45 : decode (am_Mof y_Mo_put).1 45 = .ok (.lload 4, 2) := by decide +kernel
theorem d_Mo_put_47 : decode (am_Mof y_Mo_put).1 47 = .ok (.lload 6, 2) := by decide +kernel
theorem d_Mo_put_49 : decode (am_Mof y_Mo_put).1 49 = .ok (.ldiv, 1) := by decide +kernel
theorem d_Mo_put_50 : decode (am_Mof y_Mo_put).1 50 = .ok (.lneg, 1) := by decide +kernel
theorem d_Mo_put_51 : decode (am_Mof y_Mo_put).1 51 = .ok (.goto 8, 3) := by decide +kernel
theorem d_Mo_put_54 : decode (am_Mof y_Mo_put).1 54 = .ok (.lload 4, 2) := by decide +kernel
theorem d_Mo_put_56 : decode (am_Mof y_Mo_put).1 56 = .ok (.lload 6, 2) := by decide +kernel
theorem d_Mo_put_58 : decode (am_Mof y_Mo_put).1 58 = .ok (.ldiv, 1) := by decide +kernel
theorem d_Mo_put_59 : decode (am_Mof y_Mo_put).1 59 = .ok (.lastore, 1) := by decide +kernel
theorem d_Mo_put_60 : decode (am_Mof y_Mo_put).1 60 = .ok (.aload_n 0, 1) := by decide +kernel
theorem d_Mo_put_61 : decode (am_Mof y_Mo_put).1 61 = .ok (.getfield 69, 3) := by decide +kernel
theorem d_Mo_put_64 : decode (am_Mof y_Mo_put).1 64 = .ok (.iload_n 1, 1) := by decide +kernel
theorem d_Mo_put_65 : decode (am_Mof y_Mo_put).1 65 = .ok (.laload, 1) := by decide +kernel
theorem d_Mo_put_66 : decode (am_Mof y_Mo_put).1 66 = .ok (.lconst 0, 1) := by decide +kernel
theorem d_Mo_put_67 : decode (am_Mof y_Mo_put).1 67 = .ok (.lcmp, 1) := by decide +kernel
theorem d_Mo_put_68 : decode (am_Mof y_Mo_put).1 68 = .ok (.ifCond .ge 29, 3) := by decide +kernel
theorem d_Mo_put_71 : decode (am_Mof y_Mo_put).1 71 = .ok (.aload_n 0, 1) := by decide +kernel
theorem d_Mo_put_72 : decode (am_Mof y_Mo_put).1 72 = .ok (.getfield 66, 3) := by decide +kernel
theorem d_Mo_put_75 : decode (am_Mof y_Mo_put).1 75 = .ok (.iload_n 1, 1) := by decide +kernel
theorem d_Mo_put_76 : decode (am_Mof y_Mo_put).1 76 = .ok (.aload_n 0, 1) := by decide +kernel
theorem d_Mo_put_77 : decode (am_Mof y_Mo_put).1 77 = .ok (.getfield 66, 3) := by decide +kernel
theorem d_Mo_put_80 : decode (am_Mof y_Mo_put).1 80 = .ok (.iload_n 1, 1) := by decide +kernel
theorem d_Mo_put_81 : decode (am_Mof y_Mo_put).1 81 = .ok (.laload, 1) := by decide +kernel
theorem d_Mo_put_82 : decode (am_Mof y_Mo_put).1 82 = .ok (.lneg, 1) := by decide +kernel
theorem d_Mo_put_83 : decode (am_Mof y_Mo_put).1 83 = .ok (.lastore, 1) := by decide +kernel
theorem d_Mo_put_84 : decode (am_Mof y_Mo_put).1 84 = .ok (.aload_n 0, 1) := by decide +kernel
theorem d_Mo_put_85 : decode (am_Mof y_Mo_put).1 85 = .ok (.getfield 69, 3) := by decide +kernel
theorem d_Mo_put_88 : decode (am_Mof y_Mo_put).1 88 = .ok (.iload_n 1, 1) := by decide +kernel
theorem d_Mo_put_89 : decode (am_Mof y_Mo_put).1 89 = .ok (.aload_n 0, 1) := by decide +kernel
theorem d_Mo_put_90 : decode (am_Mof y_Mo_put).1 90 = .ok (.getfield 69, 3) := by decide +kernel
theorem d_Mo_put_93 : decode (am_Mof y_Mo_put).1 93 = .ok (.iload_n 1, 1) := by decide +kernel
theorem d_Mo_put_94 : decode (am_Mof y_Mo_put).1 94 = .ok (.laload, 1) := by decide +kernel
theorem d_Mo_put_95 : decode (am_Mof y_Mo_put).1 95 = .ok (.lneg, 1) := by decide +kernel
theorem d_Mo_put_96 : decode (am_Mof y_Mo_put).1 96 = .ok (.lastore, 1) := by decide +kernel
theorem d_Mo_put_97 : decode (am_Mof y_Mo_put).1 97 = .ok (.return_, 1) := by decide +kernel
theorem d_Mo_common_0 : decode (am_Mof y_Mo_common).1 0 = .ok (.lload_n 0, 1) := by decide +kernel
theorem d_Mo_common_1 : decode (am_Mof y_Mo_common).1 1 = .ok (.lconst 0, 1) := by decide +kernel
theorem d_Mo_common_2 : decode (am_Mof y_Mo_common).1 2 = .ok (.lcmp, 1) := by decide +kernel
theorem d_Mo_common_3 : decode (am_Mof y_Mo_common).1 3 = .ok (.ifCond .ge 8, 3) := by decide +kernel
theorem d_Mo_common_6 : decode (am_Mof y_Mo_common).1 6 = .ok (.lload_n 0, 1) := by decide +kernel
theorem d_Mo_common_7 : decode (am_Mof y_Mo_common).1 7 = .ok (.lneg, 1) := by decide +kernel
theorem d_Mo_common_8 : decode (am_Mof y_Mo_common).1 8 = .ok (.goto 4, 3) := by decide +kernel
theorem d_Mo_common_11 : decode (am_Mof y_Mo_common).1 11 = .ok (.lload_n 0, 1) := by decide +kernel
theorem d_Mo_common_12 : decode (am_Mof y_Mo_common).1 12 = .ok (.lstore 4, 2) := by decide +kernel
theorem d_Mo_common_14 : decode (am_Mof y_Mo_common).1 14 = .ok (.lload_n 2, 1) := by decide +kernel
theorem d_Mo_common_15 : decode (am_Mof y_Mo_common).1 15 = .ok (.lstore 6, 2) := by decide +kernel
theorem d_Mo_common_17 : decode (am_Mof y_Mo_common).1 17 = .ok (.lload 4, 2) := by decide +kernel
theorem d_Mo_common_19 : decode (am_Mof y_Mo_common).1 19 = .ok (.lconst 0, 1) := by decide +kernel
theorem d_Mo_common_20 : decode (am_Mof y_Mo_common).1 20 = .ok (.lcmp, 1) := by decide +kernel
theorem d_Mo_common_21 : decode (am_Mof y_Mo_common).1 21 = .ok (.ifCond .eq 21, 3) := by decide +kernel
theorem d_Mo_common_24 : decode (am_Mof y_Mo_common).1 24 = .ok (.lload 6, 2) := by decide +kernel
theorem d_Mo_common_26 : decode (am_Mof y_Mo_common).1 26 = .ok (.lload 4, 2) := by decide +kernel
theorem d_Mo_common_28 : decode (am_Mof y_Mo_common).1 28 = .ok (.lrem, 1) := by decide +kernel
theorem d_Mo_common_29 : decode (am_Mof y_Mo_common).1 29 = .ok (.lstore 8, 2) := by decide +kernel
theorem d_Mo_common_31 : decode (am_Mof y_Mo_common).1 31 = .ok (.lload 4, 2) := by decide +kernel
theorem d_Mo_common_33 : decode (am_Mof y_Mo_common).1 33 = .ok (.lstore 6, 2) := by decide +kernel
theorem d_Mo_common_35 : decode (am_Mof y_Mo_common).1 35 = .ok (.lload 8, 2) := by decide +kernel
theorem d_Mo_common_37 : decode (am_Mof y_Mo_common).1 37 = .ok (.lstore 4, 2) := by decide +kernel
theorem d_Mo_common_39 : decode (am_Mof y_Mo_common).1 39 = .ok (.goto (-22), 3) := by decide +kernel
theorem d_Mo_common_42 : decode (am_Mof y_Mo_common).1 42 = .ok (.lload 6, 2) := by decide +kernel
theorem d_Mo_common_44 : decode (am_Mof y_Mo_common).1 44 = .ok (.lreturn, 1) := by decide +kernel
theorem d_Mo_eliminate_0 : decode (am_Mof y_Mo_eliminate).1 0 = .ok (.iconst 0, 1) := by decide +kernel
theorem d_Mo_eliminate_1 : decode (am_Mof y_Mo_eliminate).1 1 = .ok (.istore_n 1, 1) := by decide +kernel
theorem d_Mo_eliminate_2 : decode (am_Mof y_Mo_eliminate).1 2 = .ok (.iload_n 1, 1) := by decide +kernel
theorem d_Mo_eliminate_3 : decode (am_Mof y_Mo_eliminate).1 3 = .ok (.aload_n 0, 1) := by decide +kernel
theorem d_Mo_eliminate_4 : decode (am_Mof y_Mo_eliminate).1 4 = .ok (.getfield 72, 3) := by decide +kernel
theorem d_Mo_eliminate_7 : decode (am_Mof y_Mo_eliminate).1 7 = .ok (.if_icmp .ge 228, 3) := by decide +kernel
theorem d_Mo_eliminate_10 : decode (am_Mof y_Mo_eliminate).1 10 = .ok (.iload_n 1, 1) := by decide +kernel
theorem d_Mo_eliminate_11 : decode (am_Mof y_Mo_eliminate).1 11 = .ok (.istore_n 2, 1) := by decide +kernel
theorem d_Mo_eliminate_12 : decode (am_Mof y_Mo_eliminate).1 12 = .ok (.aload_n 0, 1) := by decide +kernel
theorem d_Mo_eliminate_13 : decode (am_Mof y_Mo_eliminate).1 13 = .ok (.getfield 66, 3) := by decide +kernel
theorem d_Mo_eliminate_16 : decode (am_Mof y_Mo_eliminate).1 16 = .ok (.bipush 6, 2) := by decide +kernel
theorem d_Mo_eliminate_18 : decode (am_Mof y_Mo_eliminate).1 18 = .ok (.iload_n 2, 1) := by decide +kernel
theorem d_Mo_eliminate_19 : decode (am_Mof y_Mo_eliminate).1 19 = .ok (.imul, 1) := by decide +kernel
theorem d_Mo_eliminate_20 : decode (am_Mof y_Mo_eliminate).1 20 = .ok (.iload_n 1, 1) := by decide +kernel
theorem d_Mo_eliminate_21 : decode (am_Mof y_Mo_eliminate).1 21 = .ok (.iadd, 1) := by decide +kernel
theorem d_Mo_eliminate_22 : decode (am_Mof y_Mo_eliminate).1 22 = .ok (.laload, 1) := by decide +kernel
theorem d_Mo_eliminate_23 : decode (am_Mof y_Mo_eliminate).1 23 = .ok (.lconst 0, 1) := by decide +kernel
theorem d_Mo_eliminate_24 : decode (am_Mof y_Mo_eliminate).1 24 = .ok (.lcmp, 1) := by decide +kernel
theorem d_Mo_eliminate_25 : decode (am_Mof y_Mo_eliminate).1 25 = .ok (.ifCond .ne 9, 3) := by decide +kernel
theorem d_Mo_eliminate_28 : decode (am_Mof y_Mo_eliminate).1 28 = .ok (.iinc 2 1, 3) := by decide +kernel
theorem d_Mo_eliminate_31 : decode (am_Mof y_Mo_eliminate).1 31 = .ok (.goto (-19), 3) := by decide +kernel
theorem d_Mo_eliminate_34 : decode (am_Mof y_Mo_eliminate).1 34 = .ok (.aload_n 0, 1) := by decide +kernel
theorem d_Mo_eliminate_35 : decode (am_Mof y_Mo_eliminate).1 35 = .ok (.iload_n 2, 1) := by decide +kernel
theorem d_Mo_eliminate_36 : decode (am_Mof y_Mo_eliminate).1 36 = .ok (.iload_n 1, 1) := by decide +kernel
theorem d_Mo_eliminate_37 : decode (am_Mof y_Mo_eliminate).1 37 = .ok (.invokevirtual 122, 3) := by decide +kernel
theorem d_Mo_eliminate_40 : decode (am_Mof y_Mo_eliminate).1 40 = .ok (.iconst 0, 1) := by decide +kernel
theorem d_Mo_eliminate_41 : decode (am_Mof y_Mo_eliminate).1 41 = .ok (.istore_n 3, 1) := by decide +kernel
theorem d_Mo_eliminate_42 : decode (am_Mof y_Mo_eliminate).1 42 = .ok (.iload_n 3, 1) := by decide +kernel
theorem d_Mo_eliminate_43 : decode (am_Mof y_Mo_eliminate).1 43 = .ok (.aload_n 0, 1) := by decide +kernel
theorem d_Mo_eliminate_44 : decode (am_Mof y_Mo_eliminate).1 44 = .ok (.getfield 72, 3) := by decide +kernel
theorem d_Mo_eliminate_47 : decode (am_Mof y_Mo_eliminate).1 47 = .ok (.if_icmp .ge 182, 3) := by decide +kernel
theorem d_Mo_eliminate_50 : decode (am_Mof y_Mo_eliminate).1 50 = .ok (.iload_n 3, 1) := by decide +kernel
theorem d_Mo_eliminate_51 : decode (am_Mof y_Mo_eliminate).1 51 = .ok (.iload_n 1, 1) := by decide +kernel
theorem d_Mo_eliminate_52 : decode (am_Mof y_Mo_eliminate).1 52 = .ok (.if_icmp .eq 171, 3) := by decide +kernel
theorem d_Mo_eliminate_55 : decode (am_Mof y_Mo_eliminate).1 55 = .ok (.aload_n 0, 1) := by decide +kernel
theorem d_Mo_eliminate_56 : decode (am_Mof y_Mo_eliminate).1 56 = .ok (.getfield 66, 3) := by decide +kernel
theorem d_Mo_eliminate_59 : decode (am_Mof y_Mo_eliminate).1 59 = .ok (.bipush 6, 2) := by decide +kernel
theorem d_Mo_eliminate_61 : decode (am_Mof y_Mo_eliminate).1 61 = .ok (.iload_n 3, 1) := by decide +kernel
theorem d_Mo_eliminate_62 : decode (am_Mof y_Mo_eliminate).1 62 = .ok (.imul, 1) := by decide +kernel
theorem d_Mo_eliminate_63 : decode (am_Mof y_Mo_eliminate).1 63 = .ok (.iload_n 1, 1) := by decide +kernel
theorem d_Mo_eliminate_64 : decode (am_Mof y_Mo_eliminate).1 64 = .ok (.iadd, 1) := by decide +kernel
theorem d_Mo_eliminate_65 : decode (am_Mof y_Mo_eliminate).1 65 = .ok (.laload, 1) := by decide +kernel
theorem d_Mo_eliminate_66 : decode (am_Mof y_Mo_eliminate).1 66 = .ok (.lconst 0, 1) := by decide +kernel
theorem d_Mo_eliminate_67 : decode (am_Mof y_Mo_eliminate).1 67 = .ok (.lcmp, 1) := by decide +kernel
theorem d_Mo_eliminate_68 : decode (am_Mof y_Mo_eliminate).1 68 = .ok (.ifCond .eq 155, 3) := by decide +kernel
theorem d_Mo_eliminate_71 : decode (am_Mof y_Mo_eliminate).1 71 = .ok (.aload_n 0, 1) := by decide +kernel
theorem d_Mo_eliminate_72 : decode (am_Mof y_Mo_eliminate).1 72 = .ok (.getfield 66, 3) := by decide +kernel
theorem d_Mo_eliminate_75 : decode (am_Mof y_Mo_eliminate).1 75 = .ok (.bipush 6, 2) := by decide +kernel
theorem d_Mo_eliminate_77 : decode (am_Mof y_Mo_eliminate).1 77 = .ok (.iload_n 3, 1) := by decide +kernel
theorem d_Mo_eliminate_78 : decode (am_Mof y_Mo_eliminate).1 78 = .ok (.imul, 1) := by decide +kernel
theorem d_Mo_eliminate_79 : decode (am_Mof y_Mo_eliminate).1 79 = .ok (.iload_n 1, 1) := by decide +kernel
theorem d_Mo_eliminate_80 : decode (am_Mof y_Mo_eliminate).1 80 = .ok (.iadd, 1) := by decide +kernel
theorem d_Mo_eliminate_81 : decode (am_Mof y_Mo_eliminate).1 81 = .ok (.laload, 1) := by decide +kernel
theorem d_Mo_eliminate_82 : decode (am_Mof y_Mo_eliminate).1 82 = .ok (.aload_n 0, 1) := by decide +kernel
theorem d_Mo_eliminate_83 : decode (am_Mof y_Mo_eliminate).1 83 = .ok (.getfield 69, 3) := by decide +kernel
theorem d_Mo_eliminate_86 : decode (am_Mof y_Mo_eliminate).1 86 = .ok (.bipush 6, 2) := by decide +kernel
theorem d_Mo_eliminate_88 : decode (am_Mof y_Mo_eliminate).1 88 = .ok (.iload_n 1, 1) := by decide +kernel
theorem d_Mo_eliminate_89 : decode (am_Mof y_Mo_eliminate).1 89 = .ok (.imul, 1) := by decide +kernel
theorem d_Mo_eliminate_90 : decode (am_Mof y_Mo_eliminate).1 90 = .ok (.iload_n 1, 1) := by decide +kernel
theorem d_Mo_eliminate_91 : decode (am_Mof y_Mo_eliminate).1 91 = .ok (.iadd, 1) := by decide +kernel
theorem d_Mo_eliminate_92 : decode (am_Mof y_Mo_eliminate).1 92 = .ok (.laload, 1) := by decide +kernel
theorem d_Mo_eliminate_93 : decode (am_Mof y_Mo_eliminate).1 93 = .ok (.lmul, 1) := by decide +kernel
theorem d_Mo_eliminate_94 : decode (am_Mof y_Mo_eliminate).1 94 = .ok (.lstore 4, 2) := by decide +kernel
theorem d_Mo_eliminate_96 : decode (am_Mof y_Mo_eliminate).1 96 = .ok (.aload_n 0, 1) := by decide +kernel
theorem d_Mo_eliminate_97 : decode (am_Mof y_Mo_eliminate).1 97 = .ok (.getfield 69, 3) := by decide +kernel
theorem d_Mo_eliminate_100 : decode (am_Mof y_Mo_eliminate).1 100 = .ok (.bipush 6, 2) := by decide +kernel
theorem d_Mo_eliminate_102 : decode (am_Mof y_Mo_eliminate).1 102 = .ok (.iload_n 3, 1) := by decide +kernel
theorem d_Mo_eliminate_103 : decode (am_Mof y_Mo_eliminate).1 103 = .ok (.imul, 1) := by decide +kernel
theorem d_Mo_eliminate_104 : decode (am_Mof y_Mo_eliminate).1 104 = .ok (.iload_n 1, 1) := by decide +kernel
theorem d_Mo_eliminate_105 : decode (am_Mof y_Mo_eliminate).1 105 = .ok (.iadd, 1) := by decide +kernel
theorem d_Mo_eliminate_106 : decode (am_Mof y_Mo_eliminate).1 106 = .ok (.laload, 1) := by decide +kernel
theorem d_Mo_eliminate_107 : decode (am_Mof y_Mo_eliminate).1 107 = .ok (.aload_n 0, 1) := by decide +kernel
theorem d_Mo_eliminate_108 : decode (am_Mof y_Mo_eliminate).1 108 = .ok (.getfield 66, 3) := by decide +kernel
theorem d_Mo_eliminate_111 : decode (am_Mof y_Mo_eliminate).1 111 = .ok (.bipush 6, 2) := by decide +kernel
theorem d_Mo_eliminate_113 : decode (am_Mof y_Mo_eliminate).1 113 = .ok (.iload_n 1, 1) := by decide +kernel
theorem d_Mo_eliminate_114 : decode (am_Mof y_Mo_eliminate).1 114 = .ok (.imul, 1) := by decide +kernel
theorem d_Mo_eliminate_115 : decode (am_Mof y_Mo_eliminate).1 115 = .ok (.iload_n 1, 1) := by decide +kernel
theorem d_Mo_eliminate_116 : decode (am_Mof y_Mo_eliminate).1 116 = .ok (.iadd, 1) := by decide +kernel
theorem d_Mo_eliminate_117 : decode (am_Mof y_Mo_eliminate).1 117 = .ok (.laload, 1) := by decide +kernel
theorem d_Mo_eliminate_118 : decode (am_Mof y_Mo_eliminate).1 118 = .ok (.lmul, 1) := by decide +kernel
theorem d_Mo_eliminate_119 : decode (am_Mof y_Mo_eliminate).1 119 = .ok (.lstore 6, 2) := by decide +kernel
theorem d_Mo_eliminate_121 : decode (am_Mof y_Mo_eliminate).1 121 = .ok (.lload 4, 2) := by decide +kernel
theorem d_Mo_eliminate_123 : decode (am_Mof y_Mo_eliminate).1 123 = .ok (.lload 6, 2) := by decide +kernel
theorem d_Mo_eliminate_125 : decode (am_Mof y_Mo_eliminate).1 125 = .ok (.lconst 0, 1) := by decide +kernel
theorem d_Mo_eliminate_126 : decode (am_Mof y_Mo_eliminate).1 126 = .ok (.lcmp, 1) := by decide +kernel
theorem d_Mo_eliminate_127 : decode (am_Mof y_Mo_eliminate).1 127 = .ok (.ifCond .ge 9, 3) := by decide +kernel
theorem d_Mo_eliminate_130 : decode (am_Mof y_Mo_eliminate).1 130 = .ok (.lload 6, 2) := by decide +kernel
theorem d_Mo_eliminate_132 : decode (am_Mof y_Mo_eliminate).1 132 = .ok (.lneg, 1) := by decide +kernel
theorem d_Mo_eliminate_133 : decode (am_Mof y_Mo_eliminate).1 133 = .ok (.goto 5, 3) := by decide +kernel
theorem d_Mo_eliminate_136 : decode (am_Mof y_Mo_eliminate).1 136 = .ok (.lload 6, 2) := by decide +kernel
theorem d_Mo_eliminate_138 : decode (am_Mof y_Mo_eliminate).1 138 = .ok (.invokestatic 114, 3) := by decide +kernel
theorem d_Mo_eliminate_141 : decode (am_Mof y_Mo_eliminate).1 141 = .ok (.lstore 8, 2) := by decide +kernel
theorem d_Mo_eliminate_143 : decode (am_Mof y_Mo_eliminate).1 143 = .ok (.lload 6, 2) := by decide +kernel
theorem d_Mo_eliminate_145 : decode (am_Mof y_Mo_eliminate).1 145 = .ok (.lconst 0, 1) := by decide +kernel
theorem d_Mo_eliminate_146 : decode (am_Mof y_Mo_eliminate).1 146 = .ok (.lcmp, 1) := by decide +kernel
theorem d_Mo_eliminate_147 : decode (am_Mof y_Mo_eliminate).1 147 = .ok (.ifCond .ge 12, 3) := by decide +kernel
theorem d_Mo_eliminate_150 : decode (am_Mof y_Mo_eliminate).1 150 = .ok (.lload 4, 2) := by decide +kernel
theorem d_Mo_eliminate_152 : decode (am_Mof y_Mo_eliminate).1 152 = .ok (.lneg, 1) := by decide +kernel
theorem d_Mo_eliminate_153 : decode (am_Mof y_Mo_eliminate).1 153 = .ok (.lload 8, 2) := by decide +kernel
theorem d_Mo_eliminate_155 : decode (am_Mof y_Mo_eliminate).1 155 = .ok (.ldiv, 1) := by decide +kernel
theorem d_Mo_eliminate_156 : decode (am_Mof y_Mo_eliminate).1 156 = .ok (.goto 8, 3) := by decide +kernel
theorem d_Mo_eliminate_159 : decode (am_Mof y_Mo_eliminate).1 159 = .ok (.lload 4, 2) := by decide +kernel
theorem d_Mo_eliminate_161 : decode (am_Mof y_Mo_eliminate).1 161 = .ok (.lload 8, 2) := by decide +kernel
theorem d_Mo_eliminate_163 : decode (am_Mof y_Mo_eliminate).1 163 = .ok (.ldiv, 1) := by decide +kernel
theorem d_Mo_eliminate_164 : decode (am_Mof y_Mo_eliminate).1 164 = .ok (.lstore 4, 2) := by decide +kernel
theorem d_Mo_eliminate_166 : decode (am_Mof y_Mo_eliminate).1 166 = .ok (.lload 6, 2) := by decide +kernel
theorem d_Mo_eliminate_168 : decode (am_Mof y_Mo_eliminate).1 168 = .ok (.lconst 0, 1) := by decide +kernel
theorem d_Mo_eliminate_169 : decode (am_Mof y_Mo_eliminate).1 169 = .ok (.lcmp, 1) := by decide +kernel
theorem d_Mo_eliminate_170 : decode (am_Mof y_Mo_eliminate).1 170 = .ok (.ifCond .ge 9, 3) := by decide +kernel
theorem d_Mo_eliminate_173 : decode (am_Mof y_Mo_eliminate).1 173 = .ok (.lload 6, 2) := by decide +kernel
theorem d_Mo_eliminate_175 : decode (am_Mof y_Mo_eliminate).1 175 = .ok (.lneg, 1) := by decide +kernel
theorem d_Mo_eliminate_176 : decode (am_Mof y_Mo_eliminate).1 176 = .ok (.goto 5, 3) := by decide +kernel
theorem d_Mo_eliminate_179 : decode (am_Mof y_Mo_eliminate).1 179 = .ok (.lload 6, 2) := by decide +kernel
theorem d_Mo_eliminate_181 : decode (am_Mof y_Mo_eliminate).1 181 = .ok (.lload 8, 2) := by decide +kernel
theorem d_Mo_eliminate_183 : decode (am_Mof y_Mo_eliminate).1 183 = .ok (.ldiv, 1) := by decide +kernel
theorem d_Mo_eliminate_184 : decode (am_Mof y_Mo_eliminate).1 184 = .ok (.lstore 6, 2) := by decide +kernel
theorem d_Mo_eliminate_186 : decode (am_Mof y_Mo_eliminate).1 186 = .ok (.iconst 0, 1) := by decide +kernel
theorem d_Mo_eliminate_187 : decode (am_Mof y_Mo_eliminate).1 187 = .ok (.istore 10, 2) := by decide +kernel
theorem d_Mo_eliminate_189 : decode (am_Mof y_Mo_eliminate).1 189 = .ok (.iload 10, 2) := by decide +kernel
theorem d_Mo_eliminate_191 : decode (am_Mof y_Mo_eliminate).1 191 = .ok (.iconst 5, 1) := by decide +kernel
theorem d_Mo_eliminate_192 : decode (am_Mof y_Mo_eliminate).1 192 = .ok (.if_icmp .gt 31, 3) := by decide +kernel
theorem d_Mo_eliminate_195 : decode (am_Mof y_Mo_eliminate).1 195 = .ok (.aload_n 0, 1) := by decide +kernel
theorem d_Mo_eliminate_196 : decode (am_Mof y_Mo_eliminate).1 196 = .ok (.bipush 6, 2) := by decide +kernel
theorem d_Mo_eliminate_198 : decode (am_Mof y_Mo_eliminate).1 198 = .ok (.iload_n 3, 1) := by decide +kernel
theorem d_Mo_eliminate_199 : decode (am_Mof y_Mo_eliminate).1 199 = .ok (.imul, 1) := by decide +kernel
theorem d_Mo_eliminate_200 : decode (am_Mof y_Mo_eliminate).1 200 = .ok (.iload 10, 2) := by decide +kernel
theorem d_Mo_eliminate_202 : decode (am_Mof y_Mo_eliminate).1 202 = .ok (.iadd, 1) := by decide +kernel
theorem d_Mo_eliminate_203 : decode (am_Mof y_Mo_eliminate).1 203 = .ok (.lload 4, 2) := by decide +kernel
theorem d_Mo_eliminate_205 : decode (am_Mof y_Mo_eliminate).1 205 = .ok (.lload 6, 2) := by decide +kernel
theorem d_Mo_eliminate_207 : decode (am_Mof y_Mo_eliminate).1 207 = .ok (.bipush 6, 2) := by decide +kernel
theorem d_Mo_eliminate_209 : decode (am_Mof y_Mo_eliminate).1 209 = .ok (.iload_n 1, 1) := by decide +kernel
theorem d_Mo_eliminate_210 : decode (am_Mof y_Mo_eliminate).1 210 = .ok (.imul, 1) := by decide +kernel
theorem d_Mo_eliminate_211 : decode (am_Mof y_Mo_eliminate).1 211 = .ok (.iload 10, 2) := by decide +kernel
theorem d_Mo_eliminate_213 : decode (am_Mof y_Mo_eliminate).1 213 = .ok (.iadd, 1) := by decide +kernel
theorem d_Mo_eliminate_214 : decode (am_Mof y_Mo_eliminate).1 214 = .ok (.invokevirtual 126, 3) := by decide +kernel
theorem d_Mo_eliminate_217 : decode (am_Mof y_Mo_eliminate).1 217 = .ok (.iinc 10 1, 3) := by decide +kernel
theorem d_Mo_eliminate_220 : decode (am_Mof y_Mo_eliminate).1 220 = .ok (.goto (-31), 3) := by decide +kernel
theorem d_Mo_eliminate_223 : decode (am_Mof y_Mo_eliminate).1 223 = .ok (.iinc 3 1, 3) := by decide +kernel
theorem d_Mo_eliminate_226 : decode (am_Mof y_Mo_eliminate).1 226 = .ok (.goto (-184), 3) := by decide +kernel
theorem d_Mo_eliminate_229 : decode (am_Mof y_Mo_eliminate).1 229 = .ok (.iinc 1 1, 3) := by decide +kernel
theorem d_Mo_eliminate_232 : decode (am_Mof y_Mo_eliminate).1 232 = .ok (.goto (-230), 3) := by decide +kernel
theorem d_Mo_eliminate_235 : decode (am_Mof y_Mo_eliminate).1 235 = .ok (.return_, 1) := by decide +kernel
theorem d_Mo_swap_0 : decode (am_Mof y_Mo_swap).1 0 = .ok (.iconst 0, 1) := by decide +kernel
theorem d_Mo_swap_1 : decode (am_Mof y_Mo_swap).1 1 = .ok (.istore_n 3, 1) := by decide +kernel
theorem d_Mo_swap_2 : decode (am_Mof y_Mo_swap).1 2 = .ok (.iload_n 3, 1) := by decide +kernel
theorem d_Mo_swap_3 : decode (am_Mof y_Mo_swap).1 3 = .ok (.iconst 5, 1) := by decide +kernel
theorem d_Mo_swap_4 : decode (am_Mof y_Mo_swap).1 4 = .ok (.if_icmp .gt 105, 3) := by decide +kernel
theorem d_Mo_swap_7 : decode (am_Mof y_Mo_swap).1 7 = .ok (.aload_n 0, 1) := by decide +kernel
theorem d_Mo_swap_8 : decode (am_Mof y_Mo_swap).1 8 = .ok (.getfield 66, 3) := by decide +kernel
theorem d_Mo_swap_11 : decode (am_Mof y_Mo_swap).1 11 = .ok (.bipush 6, 2) := by decide +kernel
theorem d_Mo_swap_13 : decode (am_Mof y_Mo_swap).1 13 = .ok (.iload_n 1, 1) := by decide +kernel
theorem d_Mo_swap_14 : decode (am_Mof y_Mo_swap).1 14 = .ok (.imul, 1) := by decide +kernel
theorem d_Mo_swap_15 : decode (am_Mof y_Mo_swap).1 15 = .ok (.iload_n 3, 1) := by decide +kernel
theorem d_Mo_swap_16 : decode (am_Mof y_Mo_swap).1 16 = .ok (.iadd, 1) := by decide +kernel
theorem d_Mo_swap_17 : decode (am_Mof y_Mo_swap).1 17 = .ok (.laload, 1) := by decide +kernel
theorem d_Mo_swap_18 : decode (am_Mof y_Mo_swap).1 18 = .ok (.lstore 4, 2) := by decide +kernel
theorem d_Mo_swap_20 : decode (am_Mof y_Mo_swap).1 20 = .ok (.aload_n 0, 1) := by decide +kernel
theorem d_Mo_swap_21 : decode (am_Mof y_Mo_swap).1 21 = .ok (.getfield 69, 3) := by decide +kernel
theorem d_Mo_swap_24 : decode (am_Mof y_Mo_swap).1 24 = .ok (.bipush 6, 2) := by decide +kernel
theorem d_Mo_swap_26 : decode (am_Mof y_Mo_swap).1 26 = .ok (.iload_n 1, 1) := by decide +kernel
theorem d_Mo_swap_27 : decode (am_Mof y_Mo_swap).1 27 = .ok (.imul, 1) := by decide +kernel
theorem d_Mo_swap_28 : decode (am_Mof y_Mo_swap).1 28 = .ok (.iload_n 3, 1) := by decide +kernel
theorem d_Mo_swap_29 : decode (am_Mof y_Mo_swap).1 29 = .ok (.iadd, 1) := by decide +kernel
theorem d_Mo_swap_30 : decode (am_Mof y_Mo_swap).1 30 = .ok (.laload, 1) := by decide +kernel
theorem d_Mo_swap_31 : decode (am_Mof y_Mo_swap).1 31 = .ok (.lstore 6, 2) := by decide +kernel
theorem d_Mo_swap_33 : decode (am_Mof y_Mo_swap).1 33 = .ok (.aload_n 0, 1) := by decide +kernel
theorem d_Mo_swap_34 : decode (am_Mof y_Mo_swap).1 34 = .ok (.getfield 66, 3) := by decide +kernel
theorem d_Mo_swap_37 : decode (am_Mof y_Mo_swap).1 37 = .ok (.bipush 6, 2) := by decide +kernel
theorem d_Mo_swap_39 : decode (am_Mof y_Mo_swap).1 39 = .ok (.iload_n 1, 1) := by decide +kernel
theorem d_Mo_swap_40 : decode (am_Mof y_Mo_swap).1 40 = .ok (.imul, 1) := by decide +kernel
theorem d_Mo_swap_41 : decode (am_Mof y_Mo_swap).1 41 = .ok (.iload_n 3, 1) := by decide +kernel
theorem d_Mo_swap_42 : decode (am_Mof y_Mo_swap).1 42 = .ok (.iadd, 1) := by decide +kernel
theorem d_Mo_swap_43 : decode (am_Mof y_Mo_swap).1 43 = .ok (.aload_n 0, 1) := by decide +kernel
theorem d_Mo_swap_44 : decode (am_Mof y_Mo_swap).1 44 = .ok (.getfield 66, 3) := by decide +kernel
theorem d_Mo_swap_47 : decode (am_Mof y_Mo_swap).1 47 = .ok (.bipush 6, 2) := by decide +kernel
theorem d_Mo_swap_49 : decode (am_Mof y_Mo_swap).1 49 = .ok (.iload_n 2, 1) := by decide +kernel
theorem d_Mo_swap_50 : decode (am_Mof y_Mo_swap).1 50 = .ok (.imul, 1) := by decide +kernel
theorem d_Mo_swap_51 : decode (am_Mof y_Mo_swap).1 51 = .ok (.iload_n 3, 1) := by decide +kernel
theorem d_Mo_swap_52 : decode (am_Mof y_Mo_swap).1 52 = .ok (.iadd, 1) := by decide +kernel
theorem d_Mo_swap_53 : decode (am_Mof y_Mo_swap).1 53 = .ok (.laload, 1) := by decide +kernel
theorem d_Mo_swap_54 : decode (am_Mof y_Mo_swap).1 54 = .ok (.lastore, 1) := by decide +kernel
theorem d_Mo_swap_55 : decode (am_Mof y_Mo_swap).1 55 = .ok (.aload_n 0, 1) := by decide +kernel
theorem d_Mo_swap_56 : decode (am_Mof y_Mo_swap).1 56 = .ok (.getfield 69, 3) := by decide +kernel
theorem d_Mo_swap_59 : decode (am_Mof y_Mo_swap).1 59 = .ok (.bipush 6, 2) := by decide +kernel
theorem d_Mo_swap_61 : decode (am_Mof y_Mo_swap).1 61 = .ok (.iload_n 1, 1) := by decide +kernel
theorem d_Mo_swap_62 : decode (am_Mof y_Mo_swap).1 62 = .ok (.imul, 1) := by decide +kernel
theorem d_Mo_swap_63 : decode (am_Mof y_Mo_swap).1 63 = .ok (.iload_n 3, 1) := by decide +kernel
theorem d_Mo_swap_64 : decode (am_Mof y_Mo_swap).1 64 = .ok (.iadd, 1) := by decide +kernel
theorem d_Mo_swap_65 : decode (am_Mof y_Mo_swap).1 65 = .ok (.aload_n 0, 1) := by decide +kernel
theorem d_Mo_swap_66 : decode (am_Mof y_Mo_swap).1 66 = .ok (.getfield 69, 3) := by decide +kernel
theorem d_Mo_swap_69 : decode (am_Mof y_Mo_swap).1 69 = .ok (.bipush 6, 2) := by decide +kernel
theorem d_Mo_swap_71 : decode (am_Mof y_Mo_swap).1 71 = .ok (.iload_n 2, 1) := by decide +kernel
theorem d_Mo_swap_72 : decode (am_Mof y_Mo_swap).1 72 = .ok (.imul, 1) := by decide +kernel
theorem d_Mo_swap_73 : decode (am_Mof y_Mo_swap).1 73 = .ok (.iload_n 3, 1) := by decide +kernel
theorem d_Mo_swap_74 : decode (am_Mof y_Mo_swap).1 74 = .ok (.iadd, 1) := by decide +kernel
theorem d_Mo_swap_75 : decode (am_Mof y_Mo_swap).1 75 = .ok (.laload, 1) := by decide +kernel
theorem d_Mo_swap_76 : decode (am_Mof y_Mo_swap).1 76 = .ok (.lastore, 1) := by decide +kernel
theorem d_Mo_swap_77 : decode (am_Mof y_Mo_swap).1 77 = .ok (.aload_n 0, 1) := by decide +kernel
theorem d_Mo_swap_78 : decode (am_Mof y_Mo_swap).1 78 = .ok (.getfield 66, 3) := by decide +kernel
theorem d_Mo_swap_81 : decode (am_Mof y_Mo_swap).1 81 = .ok (.bipush 6, 2) := by decide +kernel
theorem d_Mo_swap_83 : decode (am_Mof y_Mo_swap).1 83 = .ok (.iload_n 2, 1) := by decide +kernel
theorem d_Mo_swap_84 : decode (am_Mof y_Mo_swap).1 84 = .ok (.imul, 1) := by decide +kernel
theorem d_Mo_swap_85 : decode (am_Mof y_Mo_swap).1 85 = .ok (.iload_n 3, 1) := by decide +kernel
theorem d_Mo_swap_86 : decode (am_Mof y_Mo_swap).1 86 = .ok (.iadd, 1) := by decide +kernel
theorem d_Mo_swap_87 : decode (am_Mof y_Mo_swap).1 87 = .ok (.lload 4, 2) := by decide +kernel
theorem d_Mo_swap_89 : decode (am_Mof y_Mo_swap).1 89 = .ok (.lastore, 1) := by decide +kernel
theorem d_Mo_swap_90 : decode (am_Mof y_Mo_swap).1 90 = .ok (.aload_n 0, 1) := by decide +kernel
theorem d_Mo_swap_91 : decode (am_Mof y_Mo_swap).1 91 = .ok (.getfield 69, 3) := by decide +kernel
theorem d_Mo_swap_94 : decode (am_Mof y_Mo_swap).1 94 = .ok (.bipush 6, 2) := by decide +kernel
theorem d_Mo_swap_96 : decode (am_Mof y_Mo_swap).1 96 = .ok (.iload_n 2, 1) := by decide +kernel
theorem d_Mo_swap_97 : decode (am_Mof y_Mo_swap).1 97 = .ok (.imul, 1) := by decide +kernel
theorem d_Mo_swap_98 : decode (am_Mof y_Mo_swap).1 98 = .ok (.iload_n 3, 1) := by decide +kernel
theorem d_Mo_swap_99 : decode (am_Mof y_Mo_swap).1 99 = .ok (.iadd, 1) := by decide +kernel
theorem d_Mo_swap_100 : decode (am_Mof y_Mo_swap).1 100 = .ok (.lload 6, 2) := by decide +kernel
theorem d_Mo_swap_102 : decode (am_Mof y_Mo_swap).1 102 = .ok (.lastore, 1) := by decide +kernel
theorem d_Mo_swap_103 : decode (am_Mof y_Mo_swap).1 103 = .ok (.iinc 3 1, 3) := by decide +kernel
theorem d_Mo_swap_106 : decode (am_Mof y_Mo_swap).1 106 = .ok (.goto (-104), 3) := by decide +kernel
theorem d_Mo_swap_109 : decode (am_Mof y_Mo_swap).1 109 = .ok (.return_, 1) := by decide +kernel
theorem d_Mo_lessen_0 : decode (am_Mof y_Mo_lessen).1 0 = .ok (.lload_n 2, 1) := by decide +kernel
theorem d_Mo_lessen_1 : decode (am_Mof y_Mo_lessen).1 1 = .ok (.aload_n 0, 1) := by decide +kernel
theorem d_Mo_lessen_2 : decode (am_Mof y_Mo_lessen).1 2 = .ok (.getfield 66, 3) := by decide +kernel
theorem d_Mo_lessen_5 : decode (am_Mof y_Mo_lessen).1 5 = .ok (.iload 6, 2) := by decide +kernel
theorem d_Mo_lessen_7 : decode (am_Mof y_Mo_lessen).1 7 = .ok (.laload, 1) := by decide +kernel
theorem d_Mo_lessen_8 : decode (am_Mof y_Mo_lessen).1 8 = .ok (.lmul, 1) := by decide +kernel
theorem d_Mo_lessen_9 : decode (am_Mof y_Mo_lessen).1 9 = .ok (.lstore 7, 2) := by decide +kernel
theorem d_Mo_lessen_11 : decode (am_Mof y_Mo_lessen).1 11 = .ok (.lload 4, 2) := by decide +kernel
theorem d_Mo_lessen_13 : decode (am_Mof y_Mo_lessen).1 13 = .ok (.aload_n 0, 1) := by decide +kernel
theorem d_Mo_lessen_14 : decode (am_Mof y_Mo_lessen).1 14 = .ok (.getfield 69, 3) := by decide +kernel
theorem d_Mo_lessen_17 : decode (am_Mof y_Mo_lessen).1 17 = .ok (.iload 6, 2) := by decide +kernel
theorem d_Mo_lessen_19 : decode (am_Mof y_Mo_lessen).1 19 = .ok (.laload, 1) := by decide +kernel
theorem d_Mo_lessen_20 : decode (am_Mof y_Mo_lessen).1 20 = .ok (.lmul, 1) := by decide +kernel
theorem d_Mo_lessen_21 : decode (am_Mof y_Mo_lessen).1 21 = .ok (.lstore 9, 2) := by decide +kernel
theorem d_Mo_lessen_23 : decode (am_Mof y_Mo_lessen).1 23 = .ok (.lload 7, 2) := by decide +kernel
theorem d_Mo_lessen_25 : decode (am_Mof y_Mo_lessen).1 25 = .ok (.lload 9, 2) := by decide +kernel
theorem d_Mo_lessen_27 : decode (am_Mof y_Mo_lessen).1 27 = .ok (.invokestatic 114, 3) := by decide +kernel
theorem d_Mo_lessen_30 : decode (am_Mof y_Mo_lessen).1 30 = .ok (.lstore 11, 2) := by decide +kernel
theorem d_Mo_lessen_32 : decode (am_Mof y_Mo_lessen).1 32 = .ok (.lload 7, 2) := by decide +kernel
theorem d_Mo_lessen_34 : decode (am_Mof y_Mo_lessen).1 34 = .ok (.lload 11, 2) := by decide +kernel
theorem d_Mo_lessen_36 : decode (am_Mof y_Mo_lessen).1 36 = .ok (.ldiv, 1) := by decide +kernel
theorem d_Mo_lessen_37 : decode (am_Mof y_Mo_lessen).1 37 = .ok (.lstore 7, 2) := by decide +kernel
theorem d_Mo_lessen_39 : decode (am_Mof y_Mo_lessen).1 39 = .ok (.lload 9, 2) := by decide +kernel
theorem d_Mo_lessen_41 : decode (am_Mof y_Mo_lessen).1 41 = .ok (.lload 11, 2) := by decide +kernel
theorem d_Mo_lessen_43 : decode (am_Mof y_Mo_lessen).1 43 = .ok (.ldiv, 1) := by decide +kernel
theorem d_Mo_lessen_44 : decode (am_Mof y_Mo_lessen).1 44 = .ok (.lstore 9, 2) := by decide +kernel
theorem d_Mo_lessen_46 : decode (am_Mof y_Mo_lessen).1 46 = .ok (.aload_n 0, 1) := by decide +kernel
theorem d_Mo_lessen_47 : decode (am_Mof y_Mo_lessen).1 47 = .ok (.iload_n 1, 1) := by decide +kernel
theorem d_Mo_lessen_48 : decode (am_Mof y_Mo_lessen).1 48 = .ok (.aload_n 0, 1) := by decide +kernel
theorem d_Mo_lessen_49 : decode (am_Mof y_Mo_lessen).1 49 = .ok (.getfield 66, 3) := by decide +kernel
theorem d_Mo_lessen_52 : decode (am_Mof y_Mo_lessen).1 52 = .ok (.iload_n 1, 1) := by decide +kernel
theorem d_Mo_lessen_53 : decode (am_Mof y_Mo_lessen).1 53 = .ok (.laload, 1) := by decide +kernel
theorem d_Mo_lessen_54 : decode (am_Mof y_Mo_lessen).1 54 = .ok (.lload 9, 2) := by decide +kernel
theorem d_Mo_lessen_56 : decode (am_Mof y_Mo_lessen).1 56 = .ok (.lmul, 1) := by decide +kernel
theorem d_Mo_lessen_57 : decode (am_Mof y_Mo_lessen).1 57 = .ok (.lload 7, 2) := by decide +kernel
theorem d_Mo_lessen_59 : decode (am_Mof y_Mo_lessen).1 59 = .ok (.aload_n 0, 1) := by decide +kernel
theorem d_Mo_lessen_60 : decode (am_Mof y_Mo_lessen).1 60 = .ok (.getfield 69, 3) := by decide +kernel
theorem d_Mo_lessen_63 : decode (am_Mof y_Mo_lessen).1 63 = .ok (.iload_n 1, 1) := by decide +kernel
theorem d_Mo_lessen_64 : decode (am_Mof y_Mo_lessen).1 64 = .ok (.laload, 1) := by decide +kernel
theorem d_Mo_lessen_65 : decode (am_Mof y_Mo_lessen).1 65 = .ok (.lmul, 1) := by decide +kernel
theorem d_Mo_lessen_66 : decode (am_Mof y_Mo_lessen).1 66 = .ok (.lsub, 1) := by decide +kernel
theorem d_Mo_lessen_67 : decode (am_Mof y_Mo_lessen).1 67 = .ok (.aload_n 0, 1) := by decide +kernel
theorem d_Mo_lessen_68 : decode (am_Mof y_Mo_lessen).1 68 = .ok (.getfield 69, 3) := by decide +kernel
theorem d_Mo_lessen_71 : decode (am_Mof y_Mo_lessen).1 71 = .ok (.iload_n 1, 1) := by decide +kernel
theorem d_Mo_lessen_72 : decode (am_Mof y_Mo_lessen).1 72 = .ok (.laload, 1) := by decide +kernel
theorem d_Mo_lessen_73 : decode (am_Mof y_Mo_lessen).1 73 = .ok (.lload 9, 2) := by decide +kernel
theorem d_Mo_lessen_75 : decode (am_Mof y_Mo_lessen).1 75 = .ok (.lmul, 1) := by decide +kernel
theorem d_Mo_lessen_76 : decode (am_Mof y_Mo_lessen).1 76 = .ok (.invokevirtual 118, 3) := by decide +kernel
theorem d_Mo_lessen_79 : decode (am_Mof y_Mo_lessen).1 79 = .ok (.return_, 1) := by decide +kernel
theorem d_Mo_noteBare_0 : decode (am_Mof y_Mo_noteBare).1 0 = .ok (.iconst 0, 1) := by decide +kernel
theorem d_Mo_noteBare_1 : decode (am_Mof y_Mo_noteBare).1 1 = .ok (.istore_n 1, 1) := by decide +kernel
theorem d_Mo_noteBare_2 : decode (am_Mof y_Mo_noteBare).1 2 = .ok (.iload_n 1, 1) := by decide +kernel
theorem d_Mo_noteBare_3 : decode (am_Mof y_Mo_noteBare).1 3 = .ok (.iconst 4, 1) := by decide +kernel
theorem d_Mo_noteBare_4 : decode (am_Mof y_Mo_noteBare).1 4 = .ok (.if_icmp .ge 256, 3) := by decide +kernel
theorem d_Mo_noteBare_7 : decode (am_Mof y_Mo_noteBare).1 7 = .ok (.iconst 0, 1) := by decide +kernel
theorem d_Mo_noteBare_8 : decode (am_Mof y_Mo_noteBare).1 8 = .ok (.istore_n 2, 1) := by decide +kernel
theorem d_Mo_noteBare_9 : decode (am_Mof y_Mo_noteBare).1 9 = .ok (.iconst 0, 1) := by decide +kernel
theorem d_Mo_noteBare_10 : decode (am_Mof y_Mo_noteBare).1 10 = .ok (.istore_n 3, 1) := by decide +kernel
theorem d_Mo_noteBare_11 : decode (am_Mof y_Mo_noteBare).1 11 = .ok (.iload_n 3, 1) := by decide +kernel
theorem d_Mo_noteBare_12 : decode (am_Mof y_Mo_noteBare).1 12 = .ok (.aload_n 0, 1) := by decide +kernel
theorem d_Mo_noteBare_13 : decode (am_Mof y_Mo_noteBare).1 13 = .ok (.getfield 97, 3) := by decide +kernel
theorem d_Mo_noteBare_16 : decode (am_Mof y_Mo_noteBare).1 16 = .ok (.if_icmp .ge 45, 3) := by decide +kernel
theorem d_Mo_noteBare_19 : decode (am_Mof y_Mo_noteBare).1 19 = .ok (.iload_n 2, 1) := by decide +kernel
theorem d_Mo_noteBare_20 : decode (am_Mof y_Mo_noteBare).1 20 = .ok (.aload_n 0, 1) := by decide +kernel
theorem d_Mo_noteBare_21 : decode (am_Mof y_Mo_noteBare).1 21 = .ok (.getfield 26, 3) := by decide +kernel
theorem d_Mo_noteBare_24 : decode (am_Mof y_Mo_noteBare).1 24 = .ok (.iload_n 3, 1) := by decide +kernel
theorem d_Mo_noteBare_25 : decode (am_Mof y_Mo_noteBare).1 25 = .ok (.iaload, 1) := by decide +kernel
theorem d_Mo_noteBare_26 : decode (am_Mof y_Mo_noteBare).1 26 = .ok (.iload_n 1, 1) := by decide +kernel
theorem d_Mo_noteBare_27 : decode (am_Mof y_Mo_noteBare).1 27 = .ok (.if_icmp .ne 25, 3) := by decide +kernel
theorem d_Mo_noteBare_30 : decode (am_Mof y_Mo_noteBare).1 30 = .ok (.aload_n 0, 1) := by decide +kernel
theorem d_Mo_noteBare_31 : decode (am_Mof y_Mo_noteBare).1 31 = .ok (.getfield 35, 3) := by decide +kernel
theorem d_Mo_noteBare_34 : decode (am_Mof y_Mo_noteBare).1 34 = .ok (.iload_n 3, 1) := by decide +kernel
theorem d_Mo_noteBare_35 : decode (am_Mof y_Mo_noteBare).1 35 = .ok (.laload, 1) := by decide +kernel
theorem d_Mo_noteBare_36 : decode (am_Mof y_Mo_noteBare).1 36 = .ok (.lconst 0, 1) := by decide +kernel
theorem d_Mo_noteBare_37 : decode (am_Mof y_Mo_noteBare).1 37 = .ok (.lcmp, 1) := by decide +kernel
theorem d_Mo_noteBare_38 : decode (am_Mof y_Mo_noteBare).1 38 = .ok (.ifCond .le 14, 3) := by decide +kernel
theorem d_Mo_noteBare_41 : decode (am_Mof y_Mo_noteBare).1 41 = .ok (.iconst 1, 1) := by decide +kernel
theorem d_Mo_noteBare_42 : decode (am_Mof y_Mo_noteBare).1 42 = .ok (.aload_n 0, 1) := by decide +kernel
theorem d_Mo_noteBare_43 : decode (am_Mof y_Mo_noteBare).1 43 = .ok (.getfield 23, 3) := by decide +kernel
theorem d_Mo_noteBare_46 : decode (am_Mof y_Mo_noteBare).1 46 = .ok (.iload_n 3, 1) := by decide +kernel
theorem d_Mo_noteBare_47 : decode (am_Mof y_Mo_noteBare).1 47 = .ok (.iaload, 1) := by decide +kernel
theorem d_Mo_noteBare_48 : decode (am_Mof y_Mo_noteBare).1 48 = .ok (.ishl, 1) := by decide +kernel
theorem d_Mo_noteBare_49 : decode (am_Mof y_Mo_noteBare).1 49 = .ok (.goto 4, 3) := by decide +kernel
theorem d_Mo_noteBare_52 : decode (am_Mof y_Mo_noteBare).1 52 = .ok (.iconst 0, 1) := by decide +kernel
theorem d_Mo_noteBare_53 : decode (am_Mof y_Mo_noteBare).1 53 = .ok (.ior, 1) := by decide +kernel
theorem d_Mo_noteBare_54 : decode (am_Mof y_Mo_noteBare).1 54 = .ok (.istore_n 2, 1) := by decide +kernel
theorem d_Mo_noteBare_55 : decode (am_Mof y_Mo_noteBare).1 55 = .ok (.iinc 3 1, 3) := by decide +kernel
theorem d_Mo_noteBare_58 : decode (am_Mof y_Mo_noteBare).1 58 = .ok (.goto (-47), 3) := by decide +kernel
theorem d_Mo_noteBare_61 : decode (am_Mof y_Mo_noteBare).1 61 = .ok (.iconst 0, 1) := by decide +kernel
theorem d_Mo_noteBare_62 : decode (am_Mof y_Mo_noteBare).1 62 = .ok (.istore_n 3, 1) := by decide +kernel
theorem d_Mo_noteBare_63 : decode (am_Mof y_Mo_noteBare).1 63 = .ok (.iload_n 3, 1) := by decide +kernel
theorem d_Mo_noteBare_64 : decode (am_Mof y_Mo_noteBare).1 64 = .ok (.iconst 5, 1) := by decide +kernel
theorem d_Mo_noteBare_65 : decode (am_Mof y_Mo_noteBare).1 65 = .ok (.if_icmp .ge 107, 3) := by decide +kernel
theorem d_Mo_noteBare_68 : decode (am_Mof y_Mo_noteBare).1 68 = .ok (.iconst 0, 1) := by decide +kernel
theorem d_Mo_noteBare_69 : decode (am_Mof y_Mo_noteBare).1 69 = .ok (.istore 4, 2) := by decide +kernel
theorem d_Mo_noteBare_71 : decode (am_Mof y_Mo_noteBare).1 71 = .ok (.iload 4, 2) := by decide +kernel
theorem d_Mo_noteBare_73 : decode (am_Mof y_Mo_noteBare).1 73 = .ok (.aload_n 0, 1) := by decide +kernel
theorem d_Mo_noteBare_74 : decode (am_Mof y_Mo_noteBare).1 74 = .ok (.getfield 72, 3) := by decide +kernel
theorem d_Mo_noteBare_77 : decode (am_Mof y_Mo_noteBare).1 77 = .ok (.if_icmp .ge 89, 3) := by decide +kernel
theorem d_Mo_noteBare_80 : decode (am_Mof y_Mo_noteBare).1 80 = .ok (.iconst 0, 1) := by decide +kernel
theorem d_Mo_noteBare_81 : decode (am_Mof y_Mo_noteBare).1 81 = .ok (.istore 5, 2) := by decide +kernel
theorem d_Mo_noteBare_83 : decode (am_Mof y_Mo_noteBare).1 83 = .ok (.iload 5, 2) := by decide +kernel
theorem d_Mo_noteBare_85 : decode (am_Mof y_Mo_noteBare).1 85 = .ok (.aload_n 0, 1) := by decide +kernel
theorem d_Mo_noteBare_86 : decode (am_Mof y_Mo_noteBare).1 86 = .ok (.getfield 72, 3) := by decide +kernel
theorem d_Mo_noteBare_89 : decode (am_Mof y_Mo_noteBare).1 89 = .ok (.if_icmp .ge 71, 3) := by decide +kernel
theorem d_Mo_noteBare_92 : decode (am_Mof y_Mo_noteBare).1 92 = .ok (.iload_n 2, 1) := by decide +kernel
theorem d_Mo_noteBare_93 : decode (am_Mof y_Mo_noteBare).1 93 = .ok (.iload 4, 2) := by decide +kernel
theorem d_Mo_noteBare_95 : decode (am_Mof y_Mo_noteBare).1 95 = .ok (.ishr, 1) := by decide +kernel
theorem d_Mo_noteBare_96 : decode (am_Mof y_Mo_noteBare).1 96 = .ok (.iconst 1, 1) := by decide +kernel
theorem d_Mo_noteBare_97 : decode (am_Mof y_Mo_noteBare).1 97 = .ok (.iand, 1) := by decide +kernel
theorem d_Mo_noteBare_98 : decode (am_Mof y_Mo_noteBare).1 98 = .ok (.iconst 1, 1) := by decide +kernel
theorem d_Mo_noteBare_99 : decode (am_Mof y_Mo_noteBare).1 99 = .ok (.if_icmp .ne 36, 3) := by decide +kernel
theorem d_Mo_noteBare_102 : decode (am_Mof y_Mo_noteBare).1 102 = .ok (.aload_n 0, 1) := by decide +kernel
theorem d_Mo_noteBare_103 : decode (am_Mof y_Mo_noteBare).1 103 = .ok (.getfield 13, 3) := by decide +kernel
theorem d_Mo_noteBare_106 : decode (am_Mof y_Mo_noteBare).1 106 = .ok (.iconst 4, 1) := by decide +kernel
theorem d_Mo_noteBare_107 : decode (am_Mof y_Mo_noteBare).1 107 = .ok (.iload 4, 2) := by decide +kernel
theorem d_Mo_noteBare_109 : decode (am_Mof y_Mo_noteBare).1 109 = .ok (.imul, 1) := by decide +kernel
theorem d_Mo_noteBare_110 : decode (am_Mof y_Mo_noteBare).1 110 = .ok (.iload_n 1, 1) := by decide +kernel
theorem d_Mo_noteBare_111 : decode (am_Mof y_Mo_noteBare).1 111 = .ok (.iadd, 1) := by decide +kernel
theorem d_Mo_noteBare_112 : decode (am_Mof y_Mo_noteBare).1 112 = .ok (.baload, 1) := by decide +kernel
theorem d_Mo_noteBare_113 : decode (am_Mof y_Mo_noteBare).1 113 = .ok (.ifCond .ne 22, 3) := by decide +kernel
theorem d_Mo_noteBare_116 : decode (am_Mof y_Mo_noteBare).1 116 = .ok (.aload_n 0, 1) := by decide +kernel
theorem d_Mo_noteBare_117 : decode (am_Mof y_Mo_noteBare).1 117 = .ok (.getfield 7, 3) := by decide +kernel
theorem d_Mo_noteBare_120 : decode (am_Mof y_Mo_noteBare).1 120 = .ok (.iconst 5, 1) := by decide +kernel
theorem d_Mo_noteBare_121 : decode (am_Mof y_Mo_noteBare).1 121 = .ok (.iload 4, 2) := by decide +kernel
theorem d_Mo_noteBare_123 : decode (am_Mof y_Mo_noteBare).1 123 = .ok (.imul, 1) := by decide +kernel
theorem d_Mo_noteBare_124 : decode (am_Mof y_Mo_noteBare).1 124 = .ok (.iload 5, 2) := by decide +kernel
theorem d_Mo_noteBare_126 : decode (am_Mof y_Mo_noteBare).1 126 = .ok (.iadd, 1) := by decide +kernel
theorem d_Mo_noteBare_127 : decode (am_Mof y_Mo_noteBare).1 127 = .ok (.iaload, 1) := by decide +kernel
theorem d_Mo_noteBare_128 : decode (am_Mof y_Mo_noteBare).1 128 = .ok (.ifCond .le 7, 3) := by decide +kernel
theorem d_Mo_noteBare_131 : decode (am_Mof y_Mo_noteBare).1 131 = .ok (.iconst 1, 1) := by decide +kernel
theorem d_Mo_noteBare_132 : decode (am_Mof y_Mo_noteBare).1 132 = .ok (.goto 4, 3) := by decide +kernel
theorem d_Mo_noteBare_135 : decode (am_Mof y_Mo_noteBare).1 135 = .ok (.iconst 0, 1) := by decide +kernel
theorem d_Mo_noteBare_136 : decode (am_Mof y_Mo_noteBare).1 136 = .ok (.istore 6, 2) := by decide +kernel
theorem d_Mo_noteBare_138 : decode (am_Mof y_Mo_noteBare).1 138 = .ok (.iload_n 2, 1) := by decide +kernel
theorem d_Mo_noteBare_139 : decode (am_Mof y_Mo_noteBare).1 139 = .ok (.iload 6, 2) := by decide +kernel
theorem d_Mo_noteBare_141 : decode (am_Mof y_Mo_noteBare).1 141 = .ok (.ifCond .eq 10, 3) := by decide +kernel
theorem d_Mo_noteBare_144 : decode (am_Mof y_Mo_noteBare).1 144 = .ok (.iconst 1, 1) := by decide +kernel
theorem d_Mo_noteBare_145 : decode (am_Mof y_Mo_noteBare).1 145 = .ok (.iload 5, 2) := by decide +kernel
theorem d_Mo_noteBare_147 : decode (am_Mof y_Mo_noteBare).1 147 = .ok (.ishl, 1) := by decide +kernel
theorem d_Mo_noteBare_148 : decode (am_Mof y_Mo_noteBare).1 148 = .ok (.goto 4, 3) := by decide +kernel
theorem d_Mo_noteBare_151 : decode (am_Mof y_Mo_noteBare).1 151 = .ok (.iconst 0, 1) := by decide +kernel
theorem d_Mo_noteBare_152 : decode (am_Mof y_Mo_noteBare).1 152 = .ok (.ior, 1) := by decide +kernel
theorem d_Mo_noteBare_153 : decode (am_Mof y_Mo_noteBare).1 153 = .ok (.istore_n 2, 1) := by decide +kernel
theorem d_Mo_noteBare_154 : decode (am_Mof y_Mo_noteBare).1 154 = .ok (.iinc 5 1, 3) := by decide +kernel
theorem d_Mo_noteBare_157 : decode (am_Mof y_Mo_noteBare).1 157 = .ok (.goto (-74), 3) := by decide +kernel
theorem d_Mo_noteBare_160 : decode (am_Mof y_Mo_noteBare).1 160 = .ok (.iinc 4 1, 3) := by decide +kernel
theorem d_Mo_noteBare_163 : decode (am_Mof y_Mo_noteBare).1 163 = .ok (.goto (-92), 3) := by decide +kernel
theorem d_Mo_noteBare_166 : decode (am_Mof y_Mo_noteBare).1 166 = .ok (.iinc 3 1, 3) := by decide +kernel
theorem d_Mo_noteBare_169 : decode (am_Mof y_Mo_noteBare).1 169 = .ok (.goto (-106), 3) := by decide +kernel
theorem d_Mo_noteBare_172 : decode (am_Mof y_Mo_noteBare).1 172 = .ok (.iconst 0, 1) := by decide +kernel
theorem d_Mo_noteBare_173 : decode (am_Mof y_Mo_noteBare).1 173 = .ok (.istore_n 3, 1) := by decide +kernel
theorem d_Mo_noteBare_174 : decode (am_Mof y_Mo_noteBare).1 174 = .ok (.iload_n 3, 1) := by decide +kernel
theorem d_Mo_noteBare_175 : decode (am_Mof y_Mo_noteBare).1 175 = .ok (.aload_n 0, 1) := by decide +kernel
theorem d_Mo_noteBare_176 : decode (am_Mof y_Mo_noteBare).1 176 = .ok (.getfield 72, 3) := by decide +kernel
theorem d_Mo_noteBare_179 : decode (am_Mof y_Mo_noteBare).1 179 = .ok (.if_icmp .ge 75, 3) := by decide +kernel
theorem d_Mo_noteBare_182 : decode (am_Mof y_Mo_noteBare).1 182 = .ok (.aload_n 0, 1) := by decide +kernel
theorem d_Mo_noteBare_183 : decode (am_Mof y_Mo_noteBare).1 183 = .ok (.getfield 13, 3) := by decide +kernel
theorem d_Mo_noteBare_186 : decode (am_Mof y_Mo_noteBare).1 186 = .ok (.iconst 4, 1) := by decide +kernel
theorem d_Mo_noteBare_187 : decode (am_Mof y_Mo_noteBare).1 187 = .ok (.iload_n 3, 1) := by decide +kernel
theorem d_Mo_noteBare_188 : decode (am_Mof y_Mo_noteBare).1 188 = .ok (.imul, 1) := by decide +kernel
theorem d_Mo_noteBare_189 : decode (am_Mof y_Mo_noteBare).1 189 = .ok (.iload_n 1, 1) := by decide +kernel
theorem d_Mo_noteBare_190 : decode (am_Mof y_Mo_noteBare).1 190 = .ok (.iadd, 1) := by decide +kernel
theorem d_Mo_noteBare_191 : decode (am_Mof y_Mo_noteBare).1 191 = .ok (.baload, 1) := by decide +kernel
theorem d_Mo_noteBare_192 : decode (am_Mof y_Mo_noteBare).1 192 = .ok (.ifCond .ne 24, 3) := by decide +kernel
theorem d_Mo_noteBare_195 : decode (am_Mof y_Mo_noteBare).1 195 = .ok (.aload_n 0, 1) := by decide +kernel
theorem d_Mo_noteBare_196 : decode (am_Mof y_Mo_noteBare).1 196 = .ok (.iload_n 3, 1) := by decide +kernel
theorem d_Mo_noteBare_197 : decode (am_Mof y_Mo_noteBare).1 197 = .ok (.invokevirtual 110, 3) := by decide +kernel
theorem d_Mo_noteBare_200 : decode (am_Mof y_Mo_noteBare).1 200 = .ok (.ifCond .ne 16, 3) := by decide +kernel
theorem d_Mo_noteBare_203 : decode (am_Mof y_Mo_noteBare).1 203 = .ok (.aload_n 0, 1) := by decide +kernel
theorem d_Mo_noteBare_204 : decode (am_Mof y_Mo_noteBare).1 204 = .ok (.getfield 17, 3) := by decide +kernel
theorem d_Mo_noteBare_207 : decode (am_Mof y_Mo_noteBare).1 207 = .ok (.iload_n 3, 1) := by decide +kernel
theorem d_Mo_noteBare_208 : decode (am_Mof y_Mo_noteBare).1 208 = .ok (.baload, 1) := by decide +kernel
theorem d_Mo_noteBare_209 : decode (am_Mof y_Mo_noteBare).1 209 = .ok (.ifCond .ne 7, 3) := by decide +kernel
theorem d_Mo_noteBare_212 : decode (am_Mof y_Mo_noteBare).1 212 = .ok (.iconst 1, 1) := by decide +kernel
theorem d_Mo_noteBare_213 : decode (am_Mof y_Mo_noteBare).1 213 = .ok (.goto 4, 3) := by decide +kernel
theorem d_Mo_noteBare_216 : decode (am_Mof y_Mo_noteBare).1 216 = .ok (.iconst 0, 1) := by decide +kernel
theorem d_Mo_noteBare_217 : decode (am_Mof y_Mo_noteBare).1 217 = .ok (.istore 4, 2) := by decide +kernel
theorem d_Mo_noteBare_219 : decode (am_Mof y_Mo_noteBare).1 219 = .ok (.aload_n 0, 1) := by decide +kernel
theorem d_Mo_noteBare_220 : decode (am_Mof y_Mo_noteBare).1 220 = .ok (.getfield 51, 3) := by decide +kernel
theorem d_Mo_noteBare_223 : decode (am_Mof y_Mo_noteBare).1 223 = .ok (.iconst 4, 1) := by decide +kernel
theorem d_Mo_noteBare_224 : decode (am_Mof y_Mo_noteBare).1 224 = .ok (.iload_n 3, 1) := by decide +kernel
theorem d_Mo_noteBare_225 : decode (am_Mof y_Mo_noteBare).1 225 = .ok (.imul, 1) := by decide +kernel
theorem d_Mo_noteBare_226 : decode (am_Mof y_Mo_noteBare).1 226 = .ok (.iload_n 1, 1) := by decide +kernel
theorem d_Mo_noteBare_227 : decode (am_Mof y_Mo_noteBare).1 227 = .ok (.iadd, 1) := by decide +kernel
theorem d_Mo_noteBare_228 : decode (am_Mof y_Mo_noteBare).1 228 = .ok (.iload 4, 2) := by decide +kernel
theorem d_Mo_noteBare_230 : decode (am_Mof y_Mo_noteBare).1 230 = .ok (.ifCond .eq 16, 3) := by decide +kernel
theorem d_Mo_noteBare_233 : decode (am_Mof y_Mo_noteBare).1 233 = .ok (.iload_n 2, 1) := by decide +kernel
theorem d_Mo_noteBare_234 : decode (am_Mof y_Mo_noteBare).1 234 = .ok (.iload_n 3, 1) := by decide +kernel
theorem d_Mo_noteBare_235 : decode (am_Mof y_Mo_noteBare).1 235 = .ok (.ishr, 1) := by decide +kernel
theorem d_Mo_noteBare_236 : decode (am_Mof y_Mo_noteBare).1 236 = .ok (.iconst 1, 1) := by decide +kernel
theorem d_Mo_noteBare_237 : decode (am_Mof y_Mo_noteBare).1 237 = .ok (.iand, 1) := by decide +kernel
theorem d_Mo_noteBare_238 : decode (am_Mof y_Mo_noteBare).1 238 = .ok (.iconst 1, 1) := by decide +kernel
theorem d_Mo_noteBare_239 : decode (am_Mof y_Mo_noteBare).1 239 = .ok (.if_icmp .ne 7, 3) := by decide +kernel
theorem d_Mo_noteBare_242 : decode (am_Mof y_Mo_noteBare).1 242 = .ok (.iconst 1, 1) := by decide +kernel
theorem d_Mo_noteBare_243 : decode (am_Mof y_Mo_noteBare).1 243 = .ok (.goto 4, 3) := by decide +kernel
theorem d_Mo_noteBare_246 : decode (am_Mof y_Mo_noteBare).1 246 = .ok (.iconst 0, 1) := by decide +kernel
theorem d_Mo_noteBare_247 : decode (am_Mof y_Mo_noteBare).1 247 = .ok (.bastore, 1) := by decide +kernel
theorem d_Mo_noteBare_248 : decode (am_Mof y_Mo_noteBare).1 248 = .ok (.iinc 3 1, 3) := by decide +kernel
theorem d_Mo_noteBare_251 : decode (am_Mof y_Mo_noteBare).1 251 = .ok (.goto (-77), 3) := by decide +kernel
theorem d_Mo_noteBare_254 : decode (am_Mof y_Mo_noteBare).1 254 = .ok (.iinc 1 1, 3) := by decide +kernel
theorem d_Mo_noteBare_257 : decode (am_Mof y_Mo_noteBare).1 257 = .ok (.goto (-255), 3) := by decide +kernel
theorem d_Mo_noteBare_260 : decode (am_Mof y_Mo_noteBare).1 260 = .ok (.return_, 1) := by decide +kernel
theorem d_Mo_counted_0 : decode (am_Mof y_Mo_counted).1 0 = .ok (.aload_n 0, 1) := by decide +kernel
theorem d_Mo_counted_1 : decode (am_Mof y_Mo_counted).1 1 = .ok (.getfield 141, 3) := by decide +kernel
theorem d_Mo_counted_4 : decode (am_Mof y_Mo_counted).1 4 = .ok (.ifCond .eq 27, 3) := by decide +kernel
theorem d_Mo_counted_7 : decode (am_Mof y_Mo_counted).1 7 = .ok (.iload_n 1, 1) := by decide +kernel
theorem d_Mo_counted_8 : decode (am_Mof y_Mo_counted).1 8 = .ok (.invokestatic 94, 3) := by decide +kernel
theorem d_Mo_counted_11 : decode (am_Mof y_Mo_counted).1 11 = .ok (.ifCond .eq 20, 3) := by decide +kernel
theorem d_Mo_counted_14 : decode (am_Mof y_Mo_counted).1 14 = .ok (.iload_n 2, 1) := by decide +kernel
theorem d_Mo_counted_15 : decode (am_Mof y_Mo_counted).1 15 = .ok (.invokestatic 102, 3) := by decide +kernel
theorem d_Mo_counted_18 : decode (am_Mof y_Mo_counted).1 18 = .ok (.ifCond .eq 13, 3) := by decide +kernel
theorem d_Mo_counted_21 : decode (am_Mof y_Mo_counted).1 21 = .ok (.iload_n 3, 1) := by decide +kernel
theorem d_Mo_counted_22 : decode (am_Mof y_Mo_counted).1 22 = .ok (.i2l, 1) := by decide +kernel
theorem d_Mo_counted_23 : decode (am_Mof y_Mo_counted).1 23 = .ok (.lconst 0, 1) := by decide +kernel
theorem d_Mo_counted_24 : decode (am_Mof y_Mo_counted).1 24 = .ok (.lconst 1, 1) := by decide +kernel
theorem d_Mo_counted_25 : decode (am_Mof y_Mo_counted).1 25 = .ok (.invokestatic 82, 3) := by decide +kernel
theorem d_Mo_counted_28 : decode (am_Mof y_Mo_counted).1 28 = .ok (.ifCond .ne 7, 3) := by decide +kernel
theorem d_Mo_counted_31 : decode (am_Mof y_Mo_counted).1 31 = .ok (.ldc2_w 172, 3) := by decide +kernel
theorem d_Mo_counted_34 : decode (am_Mof y_Mo_counted).1 34 = .ok (.lreturn, 1) := by decide +kernel
theorem d_Mo_counted_35 : decode (am_Mof y_Mo_counted).1 35 = .ok (.aload_n 0, 1) := by decide +kernel
theorem d_Mo_counted_36 : decode (am_Mof y_Mo_counted).1 36 = .ok (.iload_n 1, 1) := by decide +kernel
theorem d_Mo_counted_37 : decode (am_Mof y_Mo_counted).1 37 = .ok (.iload_n 2, 1) := by decide +kernel
theorem d_Mo_counted_38 : decode (am_Mof y_Mo_counted).1 38 = .ok (.iconst (-1), 1) := by decide +kernel
theorem d_Mo_counted_39 : decode (am_Mof y_Mo_counted).1 39 = .ok (.invokevirtual 174, 3) := by decide +kernel
theorem d_Mo_counted_42 : decode (am_Mof y_Mo_counted).1 42 = .ok (.iload_n 3, 1) := by decide +kernel
theorem d_Mo_counted_43 : decode (am_Mof y_Mo_counted).1 43 = .ok (.ifCond .ne 10, 3) := by decide +kernel
theorem d_Mo_counted_46 : decode (am_Mof y_Mo_counted).1 46 = .ok (.aload_n 0, 1) := by decide +kernel
theorem d_Mo_counted_47 : decode (am_Mof y_Mo_counted).1 47 = .ok (.getfield 154, 3) := by decide +kernel
theorem d_Mo_counted_50 : decode (am_Mof y_Mo_counted).1 50 = .ok (.goto 7, 3) := by decide +kernel
theorem d_Mo_counted_53 : decode (am_Mof y_Mo_counted).1 53 = .ok (.aload_n 0, 1) := by decide +kernel
theorem d_Mo_counted_54 : decode (am_Mof y_Mo_counted).1 54 = .ok (.getfield 158, 3) := by decide +kernel
theorem d_Mo_counted_57 : decode (am_Mof y_Mo_counted).1 57 = .ok (.lreturn, 1) := by decide +kernel
theorem d_Mo_count_0 : decode (am_Mof y_Mo_count).1 0 = .ok (.aload_n 0, 1) := by decide +kernel
theorem d_Mo_count_1 : decode (am_Mof y_Mo_count).1 1 = .ok (.invokevirtual 165, 3) := by decide +kernel
theorem d_Mo_count_4 : decode (am_Mof y_Mo_count).1 4 = .ok (.aload_n 0, 1) := by decide +kernel
theorem d_Mo_count_5 : decode (am_Mof y_Mo_count).1 5 = .ok (.iload_n 1, 1) := by decide +kernel
theorem d_Mo_count_6 : decode (am_Mof y_Mo_count).1 6 = .ok (.iload_n 2, 1) := by decide +kernel
theorem d_Mo_count_7 : decode (am_Mof y_Mo_count).1 7 = .ok (.iload_n 3, 1) := by decide +kernel
theorem d_Mo_count_8 : decode (am_Mof y_Mo_count).1 8 = .ok (.iconst (-1), 1) := by decide +kernel
theorem d_Mo_count_9 : decode (am_Mof y_Mo_count).1 9 = .ok (.invokevirtual 168, 3) := by decide +kernel
theorem d_Mo_count_12 : decode (am_Mof y_Mo_count).1 12 = .ok (.iload_n 1, 1) := by decide +kernel
theorem d_Mo_count_13 : decode (am_Mof y_Mo_count).1 13 = .ok (.iconst 3, 1) := by decide +kernel
theorem d_Mo_count_14 : decode (am_Mof y_Mo_count).1 14 = .ok (.if_icmp .ne 18, 3) := by decide +kernel
theorem d_Mo_count_17 : decode (am_Mof y_Mo_count).1 17 = .ok (.iload_n 3, 1) := by decide +kernel
theorem d_Mo_count_18 : decode (am_Mof y_Mo_count).1 18 = .ok (.ifCond .gt 14, 3) := by decide +kernel
theorem d_Mo_count_21 : decode (am_Mof y_Mo_count).1 21 = .ok (.aload_n 0, 1) := by decide +kernel
theorem d_Mo_count_22 : decode (am_Mof y_Mo_count).1 22 = .ok (.aload_n 0, 1) := by decide +kernel
theorem d_Mo_count_23 : decode (am_Mof y_Mo_count).1 23 = .ok (.getfield 54, 3) := by decide +kernel
theorem d_Mo_count_26 : decode (am_Mof y_Mo_count).1 26 = .ok (.iload_n 2, 1) := by decide +kernel
theorem d_Mo_count_27 : decode (am_Mof y_Mo_count).1 27 = .ok (.laload, 1) := by decide +kernel
theorem d_Mo_count_28 : decode (am_Mof y_Mo_count).1 28 = .ok (.lconst 1, 1) := by decide +kernel
theorem d_Mo_count_29 : decode (am_Mof y_Mo_count).1 29 = .ok (.invokevirtual 161, 3) := by decide +kernel
theorem d_Mo_count_32 : decode (am_Mof y_Mo_count).1 32 = .ok (.return_, 1) := by decide +kernel
theorem d_Mo_nothing_0 : decode (am_Mof y_Mo_nothing).1 0 = .ok (.aload_n 0, 1) := by decide +kernel
theorem d_Mo_nothing_1 : decode (am_Mof y_Mo_nothing).1 1 = .ok (.lconst 0, 1) := by decide +kernel
theorem d_Mo_nothing_2 : decode (am_Mof y_Mo_nothing).1 2 = .ok (.putfield 154, 3) := by decide +kernel
theorem d_Mo_nothing_5 : decode (am_Mof y_Mo_nothing).1 5 = .ok (.aload_n 0, 1) := by decide +kernel
theorem d_Mo_nothing_6 : decode (am_Mof y_Mo_nothing).1 6 = .ok (.lconst 1, 1) := by decide +kernel
theorem d_Mo_nothing_7 : decode (am_Mof y_Mo_nothing).1 7 = .ok (.putfield 158, 3) := by decide +kernel
theorem d_Mo_nothing_10 : decode (am_Mof y_Mo_nothing).1 10 = .ok (.return_, 1) := by decide +kernel
theorem d_Mo_sum_0 : decode (am_Mof y_Mo_sum).1 0 = .ok (.iconst 0, 1) := by decide +kernel
theorem d_Mo_sum_1 : decode (am_Mof y_Mo_sum).1 1 = .ok (.istore 5, 2) := by decide +kernel
theorem d_Mo_sum_3 : decode (am_Mof y_Mo_sum).1 3 = .ok (.iload 5, 2) := by decide +kernel
theorem d_Mo_sum_5 : decode (am_Mof y_Mo_sum).1 5 = .ok (.aload_n 0, 1) := by decide +kernel
theorem d_Mo_sum_6 : decode (am_Mof y_Mo_sum).1 6 = .ok (.getfield 148, 3) := by decide +kernel
theorem d_Mo_sum_9 : decode (am_Mof y_Mo_sum).1 9 = .ok (.if_icmp .ge 139, 3) := by decide +kernel
theorem d_Mo_sum_12 : decode (am_Mof y_Mo_sum).1 12 = .ok (.aload_n 0, 1) := by decide +kernel
theorem d_Mo_sum_13 : decode (am_Mof y_Mo_sum).1 13 = .ok (.getfield 26, 3) := by decide +kernel
theorem d_Mo_sum_16 : decode (am_Mof y_Mo_sum).1 16 = .ok (.iload 5, 2) := by decide +kernel
theorem d_Mo_sum_18 : decode (am_Mof y_Mo_sum).1 18 = .ok (.iaload, 1) := by decide +kernel
theorem d_Mo_sum_19 : decode (am_Mof y_Mo_sum).1 19 = .ok (.iload_n 1, 1) := by decide +kernel
theorem d_Mo_sum_20 : decode (am_Mof y_Mo_sum).1 20 = .ok (.if_icmp .ne 50, 3) := by decide +kernel
theorem d_Mo_sum_23 : decode (am_Mof y_Mo_sum).1 23 = .ok (.aload_n 0, 1) := by decide +kernel
theorem d_Mo_sum_24 : decode (am_Mof y_Mo_sum).1 24 = .ok (.getfield 29, 3) := by decide +kernel
theorem d_Mo_sum_27 : decode (am_Mof y_Mo_sum).1 27 = .ok (.iload 5, 2) := by decide +kernel
theorem d_Mo_sum_29 : decode (am_Mof y_Mo_sum).1 29 = .ok (.iaload, 1) := by decide +kernel
theorem d_Mo_sum_30 : decode (am_Mof y_Mo_sum).1 30 = .ok (.iload_n 2, 1) := by decide +kernel
theorem d_Mo_sum_31 : decode (am_Mof y_Mo_sum).1 31 = .ok (.if_icmp .ne 39, 3) := by decide +kernel
theorem d_Mo_sum_34 : decode (am_Mof y_Mo_sum).1 34 = .ok (.iload_n 3, 1) := by decide +kernel
theorem d_Mo_sum_35 : decode (am_Mof y_Mo_sum).1 35 = .ok (.ifCond .lt 14, 3) := by decide +kernel
theorem d_Mo_sum_38 : decode (am_Mof y_Mo_sum).1 38 = .ok (.aload_n 0, 1) := by decide +kernel
theorem d_Mo_sum_39 : decode (am_Mof y_Mo_sum).1 39 = .ok (.getfield 32, 3) := by decide +kernel
theorem d_Mo_sum_42 : decode (am_Mof y_Mo_sum).1 42 = .ok (.iload 5, 2) := by decide +kernel
theorem d_Mo_sum_44 : decode (am_Mof y_Mo_sum).1 44 = .ok (.iaload, 1) := by decide +kernel
theorem d_Mo_sum_45 : decode (am_Mof y_Mo_sum).1 45 = .ok (.iload_n 3, 1) := by decide +kernel
theorem d_Mo_sum_46 : decode (am_Mof y_Mo_sum).1 46 = .ok (.if_icmp .ne 24, 3) := by decide +kernel
theorem d_Mo_sum_49 : decode (am_Mof y_Mo_sum).1 49 = .ok (.iload 4, 2) := by decide +kernel
theorem d_Mo_sum_51 : decode (am_Mof y_Mo_sum).1 51 = .ok (.ifCond .lt 15, 3) := by decide +kernel
theorem d_Mo_sum_54 : decode (am_Mof y_Mo_sum).1 54 = .ok (.aload_n 0, 1) := by decide +kernel
theorem d_Mo_sum_55 : decode (am_Mof y_Mo_sum).1 55 = .ok (.getfield 23, 3) := by decide +kernel
theorem d_Mo_sum_58 : decode (am_Mof y_Mo_sum).1 58 = .ok (.iload 5, 2) := by decide +kernel
theorem d_Mo_sum_60 : decode (am_Mof y_Mo_sum).1 60 = .ok (.iaload, 1) := by decide +kernel
theorem d_Mo_sum_61 : decode (am_Mof y_Mo_sum).1 61 = .ok (.iload 4, 2) := by decide +kernel
theorem d_Mo_sum_63 : decode (am_Mof y_Mo_sum).1 63 = .ok (.if_icmp .ne 7, 3) := by decide +kernel
theorem d_Mo_sum_66 : decode (am_Mof y_Mo_sum).1 66 = .ok (.iconst 1, 1) := by decide +kernel
theorem d_Mo_sum_67 : decode (am_Mof y_Mo_sum).1 67 = .ok (.goto 4, 3) := by decide +kernel
theorem d_Mo_sum_70 : decode (am_Mof y_Mo_sum).1 70 = .ok (.iconst 0, 1) := by decide +kernel
theorem d_Mo_sum_71 : decode (am_Mof y_Mo_sum).1 71 = .ok (.istore 6, 2) := by decide +kernel
theorem d_Mo_sum_73 : decode (am_Mof y_Mo_sum).1 73 = .ok (.iload 6, 2) := by decide +kernel
theorem d_Mo_sum_75 : decode (am_Mof y_Mo_sum).1 75 = .ok (.ifCond .eq 67, 3) := by decide +kernel
theorem d_Mo_sum_78 : decode (am_Mof y_Mo_sum).1 78 = .ok (.iconst 4, 1) := by decide +kernel
theorem d_Mo_sum_79 : decode (am_Mof y_Mo_sum).1 79 = .ok (.aload_n 0, 1) := by decide +kernel
theorem d_Mo_sum_80 : decode (am_Mof y_Mo_sum).1 80 = .ok (.getfield 23, 3) := by decide +kernel
theorem d_Mo_sum_83 : decode (am_Mof y_Mo_sum).1 83 = .ok (.iload 5, 2) := by decide +kernel
theorem d_Mo_sum_85 : decode (am_Mof y_Mo_sum).1 85 = .ok (.iaload, 1) := by decide +kernel
theorem d_Mo_sum_86 : decode (am_Mof y_Mo_sum).1 86 = .ok (.imul, 1) := by decide +kernel
theorem d_Mo_sum_87 : decode (am_Mof y_Mo_sum).1 87 = .ok (.iload_n 1, 1) := by decide +kernel
theorem d_Mo_sum_88 : decode (am_Mof y_Mo_sum).1 88 = .ok (.iadd, 1) := by decide +kernel
theorem d_Mo_sum_89 : decode (am_Mof y_Mo_sum).1 89 = .ok (.istore 7, 2) := by decide +kernel
theorem d_Mo_sum_91 : decode (am_Mof y_Mo_sum).1 91 = .ok (.aload_n 0, 1) := by decide +kernel
theorem d_Mo_sum_92 : decode (am_Mof y_Mo_sum).1 92 = .ok (.getfield 35, 3) := by decide +kernel
theorem d_Mo_sum_95 : decode (am_Mof y_Mo_sum).1 95 = .ok (.iload 5, 2) := by decide +kernel
theorem d_Mo_sum_97 : decode (am_Mof y_Mo_sum).1 97 = .ok (.laload, 1) := by decide +kernel
theorem d_Mo_sum_98 : decode (am_Mof y_Mo_sum).1 98 = .ok (.aload_n 0, 1) := by decide +kernel
theorem d_Mo_sum_99 : decode (am_Mof y_Mo_sum).1 99 = .ok (.getfield 48, 3) := by decide +kernel
theorem d_Mo_sum_102 : decode (am_Mof y_Mo_sum).1 102 = .ok (.iload 7, 2) := by decide +kernel
theorem d_Mo_sum_104 : decode (am_Mof y_Mo_sum).1 104 = .ok (.laload, 1) := by decide +kernel
theorem d_Mo_sum_105 : decode (am_Mof y_Mo_sum).1 105 = .ok (.invokestatic 114, 3) := by decide +kernel
theorem d_Mo_sum_108 : decode (am_Mof y_Mo_sum).1 108 = .ok (.lstore 8, 2) := by decide +kernel
theorem d_Mo_sum_110 : decode (am_Mof y_Mo_sum).1 110 = .ok (.aload_n 0, 1) := by decide +kernel
theorem d_Mo_sum_111 : decode (am_Mof y_Mo_sum).1 111 = .ok (.aload_n 0, 1) := by decide +kernel
theorem d_Mo_sum_112 : decode (am_Mof y_Mo_sum).1 112 = .ok (.getfield 35, 3) := by decide +kernel
theorem d_Mo_sum_115 : decode (am_Mof y_Mo_sum).1 115 = .ok (.iload 5, 2) := by decide +kernel
theorem d_Mo_sum_117 : decode (am_Mof y_Mo_sum).1 117 = .ok (.laload, 1) := by decide +kernel
theorem d_Mo_sum_118 : decode (am_Mof y_Mo_sum).1 118 = .ok (.lload 8, 2) := by decide +kernel
theorem d_Mo_sum_120 : decode (am_Mof y_Mo_sum).1 120 = .ok (.ldiv, 1) := by decide +kernel
theorem d_Mo_sum_121 : decode (am_Mof y_Mo_sum).1 121 = .ok (.aload_n 0, 1) := by decide +kernel
theorem d_Mo_sum_122 : decode (am_Mof y_Mo_sum).1 122 = .ok (.getfield 45, 3) := by decide +kernel
theorem d_Mo_sum_125 : decode (am_Mof y_Mo_sum).1 125 = .ok (.iload 7, 2) := by decide +kernel
theorem d_Mo_sum_127 : decode (am_Mof y_Mo_sum).1 127 = .ok (.laload, 1) := by decide +kernel
theorem d_Mo_sum_128 : decode (am_Mof y_Mo_sum).1 128 = .ok (.lmul, 1) := by decide +kernel
theorem d_Mo_sum_129 : decode (am_Mof y_Mo_sum).1 129 = .ok (.aload_n 0, 1) := by decide +kernel
theorem d_Mo_sum_130 : decode (am_Mof y_Mo_sum).1 130 = .ok (.getfield 48, 3) := by decide +kernel
theorem d_Mo_sum_133 : decode (am_Mof y_Mo_sum).1 133 = .ok (.iload 7, 2) := by decide +kernel
theorem d_Mo_sum_135 : decode (am_Mof y_Mo_sum).1 135 = .ok (.laload, 1) := by decide +kernel
theorem d_Mo_sum_136 : decode (am_Mof y_Mo_sum).1 136 = .ok (.lload 8, 2) := by decide +kernel
theorem d_Mo_sum_138 : decode (am_Mof y_Mo_sum).1 138 = .ok (.ldiv, 1) := by decide +kernel
theorem d_Mo_sum_139 : decode (am_Mof y_Mo_sum).1 139 = .ok (.invokevirtual 161, 3) := by decide +kernel
theorem d_Mo_sum_142 : decode (am_Mof y_Mo_sum).1 142 = .ok (.iinc 5 1, 3) := by decide +kernel
theorem d_Mo_sum_145 : decode (am_Mof y_Mo_sum).1 145 = .ok (.goto (-142), 3) := by decide +kernel
theorem d_Mo_sum_148 : decode (am_Mof y_Mo_sum).1 148 = .ok (.return_, 1) := by decide +kernel
theorem d_Mo_add_0 : decode (am_Mof y_Mo_add).1 0 = .ok (.aload_n 0, 1) := by decide +kernel
theorem d_Mo_add_1 : decode (am_Mof y_Mo_add).1 1 = .ok (.getfield 158, 3) := by decide +kernel
theorem d_Mo_add_4 : decode (am_Mof y_Mo_add).1 4 = .ok (.aload_n 0, 1) := by decide +kernel
theorem d_Mo_add_5 : decode (am_Mof y_Mo_add).1 5 = .ok (.getfield 158, 3) := by decide +kernel
theorem d_Mo_add_8 : decode (am_Mof y_Mo_add).1 8 = .ok (.lload_n 3, 1) := by decide +kernel
theorem d_Mo_add_9 : decode (am_Mof y_Mo_add).1 9 = .ok (.invokestatic 114, 3) := by decide +kernel
theorem d_Mo_add_12 : decode (am_Mof y_Mo_add).1 12 = .ok (.ldiv, 1) := by decide +kernel
theorem d_Mo_add_13 : decode (am_Mof y_Mo_add).1 13 = .ok (.lload_n 3, 1) := by decide +kernel
theorem d_Mo_add_14 : decode (am_Mof y_Mo_add).1 14 = .ok (.lmul, 1) := by decide +kernel
theorem d_Mo_add_15 : decode (am_Mof y_Mo_add).1 15 = .ok (.lstore 5, 2) := by decide +kernel
theorem d_Mo_add_17 : decode (am_Mof y_Mo_add).1 17 = .ok (.aload_n 0, 1) := by decide +kernel
theorem d_Mo_add_18 : decode (am_Mof y_Mo_add).1 18 = .ok (.getfield 154, 3) := by decide +kernel
theorem d_Mo_add_21 : decode (am_Mof y_Mo_add).1 21 = .ok (.lload 5, 2) := by decide +kernel
theorem d_Mo_add_23 : decode (am_Mof y_Mo_add).1 23 = .ok (.aload_n 0, 1) := by decide +kernel
theorem d_Mo_add_24 : decode (am_Mof y_Mo_add).1 24 = .ok (.getfield 158, 3) := by decide +kernel
theorem d_Mo_add_27 : decode (am_Mof y_Mo_add).1 27 = .ok (.ldiv, 1) := by decide +kernel
theorem d_Mo_add_28 : decode (am_Mof y_Mo_add).1 28 = .ok (.lmul, 1) := by decide +kernel
theorem d_Mo_add_29 : decode (am_Mof y_Mo_add).1 29 = .ok (.lload_n 1, 1) := by decide +kernel
theorem d_Mo_add_30 : decode (am_Mof y_Mo_add).1 30 = .ok (.lload 5, 2) := by decide +kernel
theorem d_Mo_add_32 : decode (am_Mof y_Mo_add).1 32 = .ok (.lload_n 3, 1) := by decide +kernel
theorem d_Mo_add_33 : decode (am_Mof y_Mo_add).1 33 = .ok (.ldiv, 1) := by decide +kernel
theorem d_Mo_add_34 : decode (am_Mof y_Mo_add).1 34 = .ok (.lmul, 1) := by decide +kernel
theorem d_Mo_add_35 : decode (am_Mof y_Mo_add).1 35 = .ok (.ladd, 1) := by decide +kernel
theorem d_Mo_add_36 : decode (am_Mof y_Mo_add).1 36 = .ok (.lstore 7, 2) := by decide +kernel
theorem d_Mo_add_38 : decode (am_Mof y_Mo_add).1 38 = .ok (.lload 7, 2) := by decide +kernel
theorem d_Mo_add_40 : decode (am_Mof y_Mo_add).1 40 = .ok (.lload 5, 2) := by decide +kernel
theorem d_Mo_add_42 : decode (am_Mof y_Mo_add).1 42 = .ok (.invokestatic 114, 3) := by decide +kernel
theorem d_Mo_add_45 : decode (am_Mof y_Mo_add).1 45 = .ok (.lstore 9, 2) := by decide +kernel
theorem d_Mo_add_47 : decode (am_Mof y_Mo_add).1 47 = .ok (.aload_n 0, 1) := by decide +kernel
theorem d_Mo_add_48 : decode (am_Mof y_Mo_add).1 48 = .ok (.lload 7, 2) := by decide +kernel
theorem d_Mo_add_50 : decode (am_Mof y_Mo_add).1 50 = .ok (.lload 9, 2) := by decide +kernel
theorem d_Mo_add_52 : decode (am_Mof y_Mo_add).1 52 = .ok (.ldiv, 1) := by decide +kernel
theorem d_Mo_add_53 : decode (am_Mof y_Mo_add).1 53 = .ok (.putfield 154, 3) := by decide +kernel
theorem d_Mo_add_56 : decode (am_Mof y_Mo_add).1 56 = .ok (.aload_n 0, 1) := by decide +kernel
theorem d_Mo_add_57 : decode (am_Mof y_Mo_add).1 57 = .ok (.lload 5, 2) := by decide +kernel
theorem d_Mo_add_59 : decode (am_Mof y_Mo_add).1 59 = .ok (.lload 9, 2) := by decide +kernel
theorem d_Mo_add_61 : decode (am_Mof y_Mo_add).1 61 = .ok (.ldiv, 1) := by decide +kernel
theorem d_Mo_add_62 : decode (am_Mof y_Mo_add).1 62 = .ok (.putfield 158, 3) := by decide +kernel
theorem d_Mo_add_65 : decode (am_Mof y_Mo_add).1 65 = .ok (.return_, 1) := by decide +kernel
theorem d_Mo_rate_0 : decode (am_Mof y_Mo_rate).1 0 = .ok (.aload_n 0, 1) := by decide +kernel
theorem d_Mo_rate_1 : decode (am_Mof y_Mo_rate).1 1 = .ok (.getfield 141, 3) := by decide +kernel
theorem d_Mo_rate_4 : decode (am_Mof y_Mo_rate).1 4 = .ok (.ifCond .eq 27, 3) := by decide +kernel
theorem d_Mo_rate_7 : decode (am_Mof y_Mo_rate).1 7 = .ok (.iload_n 1, 1) := by decide +kernel
theorem d_Mo_rate_8 : decode (am_Mof y_Mo_rate).1 8 = .ok (.invokestatic 94, 3) := by decide +kernel
theorem d_Mo_rate_11 : decode (am_Mof y_Mo_rate).1 11 = .ok (.ifCond .eq 20, 3) := by decide +kernel
theorem d_Mo_rate_14 : decode (am_Mof y_Mo_rate).1 14 = .ok (.iload_n 2, 1) := by decide +kernel
theorem d_Mo_rate_15 : decode (am_Mof y_Mo_rate).1 15 = .ok (.invokestatic 102, 3) := by decide +kernel
theorem d_Mo_rate_18 : decode (am_Mof y_Mo_rate).1 18 = .ok (.ifCond .eq 13, 3) := by decide +kernel
theorem d_Mo_rate_21 : decode (am_Mof y_Mo_rate).1 21 = .ok (.iload_n 3, 1) := by decide +kernel
theorem d_Mo_rate_22 : decode (am_Mof y_Mo_rate).1 22 = .ok (.i2l, 1) := by decide +kernel
theorem d_Mo_rate_23 : decode (am_Mof y_Mo_rate).1 23 = .ok (.lconst 0, 1) := by decide +kernel
theorem d_Mo_rate_24 : decode (am_Mof y_Mo_rate).1 24 = .ok (.lconst 1, 1) := by decide +kernel
theorem d_Mo_rate_25 : decode (am_Mof y_Mo_rate).1 25 = .ok (.invokestatic 82, 3) := by decide +kernel
theorem d_Mo_rate_28 : decode (am_Mof y_Mo_rate).1 28 = .ok (.ifCond .ne 7, 3) := by decide +kernel
theorem d_Mo_rate_31 : decode (am_Mof y_Mo_rate).1 31 = .ok (.ldc2_w 172, 3) := by decide +kernel
theorem d_Mo_rate_34 : decode (am_Mof y_Mo_rate).1 34 = .ok (.lreturn, 1) := by decide +kernel
theorem d_Mo_rate_35 : decode (am_Mof y_Mo_rate).1 35 = .ok (.aload_n 0, 1) := by decide +kernel
theorem d_Mo_rate_36 : decode (am_Mof y_Mo_rate).1 36 = .ok (.getfield 42, 3) := by decide +kernel
theorem d_Mo_rate_39 : decode (am_Mof y_Mo_rate).1 39 = .ok (.bipush 10, 2) := by decide +kernel
theorem d_Mo_rate_41 : decode (am_Mof y_Mo_rate).1 41 = .ok (.iload_n 1, 1) := by decide +kernel
theorem d_Mo_rate_42 : decode (am_Mof y_Mo_rate).1 42 = .ok (.imul, 1) := by decide +kernel
theorem d_Mo_rate_43 : decode (am_Mof y_Mo_rate).1 43 = .ok (.iload_n 2, 1) := by decide +kernel
theorem d_Mo_rate_44 : decode (am_Mof y_Mo_rate).1 44 = .ok (.iadd, 1) := by decide +kernel
theorem d_Mo_rate_45 : decode (am_Mof y_Mo_rate).1 45 = .ok (.laload, 1) := by decide +kernel
theorem d_Mo_rate_46 : decode (am_Mof y_Mo_rate).1 46 = .ok (.lstore 4, 2) := by decide +kernel
theorem d_Mo_rate_48 : decode (am_Mof y_Mo_rate).1 48 = .ok (.lload 4, 2) := by decide +kernel
theorem d_Mo_rate_50 : decode (am_Mof y_Mo_rate).1 50 = .ok (.lconst 0, 1) := by decide +kernel
theorem d_Mo_rate_51 : decode (am_Mof y_Mo_rate).1 51 = .ok (.lcmp, 1) := by decide +kernel
theorem d_Mo_rate_52 : decode (am_Mof y_Mo_rate).1 52 = .ok (.ifCond .ne 5, 3) := by decide +kernel
theorem d_Mo_rate_55 : decode (am_Mof y_Mo_rate).1 55 = .ok (.lconst 0, 1) := by decide +kernel
theorem d_Mo_rate_56 : decode (am_Mof y_Mo_rate).1 56 = .ok (.lreturn, 1) := by decide +kernel
theorem d_Mo_rate_57 : decode (am_Mof y_Mo_rate).1 57 = .ok (.aload_n 0, 1) := by decide +kernel
theorem d_Mo_rate_58 : decode (am_Mof y_Mo_rate).1 58 = .ok (.iload_n 1, 1) := by decide +kernel
theorem d_Mo_rate_59 : decode (am_Mof y_Mo_rate).1 59 = .ok (.iload_n 2, 1) := by decide +kernel
theorem d_Mo_rate_60 : decode (am_Mof y_Mo_rate).1 60 = .ok (.iconst 0, 1) := by decide +kernel
theorem d_Mo_rate_61 : decode (am_Mof y_Mo_rate).1 61 = .ok (.invokevirtual 174, 3) := by decide +kernel
theorem d_Mo_rate_64 : decode (am_Mof y_Mo_rate).1 64 = .ok (.aload_n 0, 1) := by decide +kernel
theorem d_Mo_rate_65 : decode (am_Mof y_Mo_rate).1 65 = .ok (.getfield 154, 3) := by decide +kernel
theorem d_Mo_rate_68 : decode (am_Mof y_Mo_rate).1 68 = .ok (.lload 4, 2) := by decide +kernel
theorem d_Mo_rate_70 : decode (am_Mof y_Mo_rate).1 70 = .ok (.invokestatic 114, 3) := by decide +kernel
theorem d_Mo_rate_73 : decode (am_Mof y_Mo_rate).1 73 = .ok (.lstore 6, 2) := by decide +kernel
theorem d_Mo_rate_75 : decode (am_Mof y_Mo_rate).1 75 = .ok (.aload_n 0, 1) := by decide +kernel
theorem d_Mo_rate_76 : decode (am_Mof y_Mo_rate).1 76 = .ok (.getfield 154, 3) := by decide +kernel
theorem d_Mo_rate_79 : decode (am_Mof y_Mo_rate).1 79 = .ok (.lload 6, 2) := by decide +kernel
theorem d_Mo_rate_81 : decode (am_Mof y_Mo_rate).1 81 = .ok (.ldiv, 1) := by decide +kernel
theorem d_Mo_rate_82 : decode (am_Mof y_Mo_rate).1 82 = .ok (.lstore 8, 2) := by decide +kernel
theorem d_Mo_rate_84 : decode (am_Mof y_Mo_rate).1 84 = .ok (.lload 4, 2) := by decide +kernel
theorem d_Mo_rate_86 : decode (am_Mof y_Mo_rate).1 86 = .ok (.lload 6, 2) := by decide +kernel
theorem d_Mo_rate_88 : decode (am_Mof y_Mo_rate).1 88 = .ok (.ldiv, 1) := by decide +kernel
theorem d_Mo_rate_89 : decode (am_Mof y_Mo_rate).1 89 = .ok (.aload_n 0, 1) := by decide +kernel
theorem d_Mo_rate_90 : decode (am_Mof y_Mo_rate).1 90 = .ok (.getfield 158, 3) := by decide +kernel
theorem d_Mo_rate_93 : decode (am_Mof y_Mo_rate).1 93 = .ok (.lmul, 1) := by decide +kernel
theorem d_Mo_rate_94 : decode (am_Mof y_Mo_rate).1 94 = .ok (.lstore 10, 2) := by decide +kernel
theorem d_Mo_rate_96 : decode (am_Mof y_Mo_rate).1 96 = .ok (.iload_n 3, 1) := by decide +kernel
theorem d_Mo_rate_97 : decode (am_Mof y_Mo_rate).1 97 = .ok (.ifCond .ne 8, 3) := by decide +kernel
theorem d_Mo_rate_100 : decode (am_Mof y_Mo_rate).1 100 = .ok (.lload 8, 2) := by decide +kernel
theorem d_Mo_rate_102 : decode (am_Mof y_Mo_rate).1 102 = .ok (.goto 5, 3) := by decide +kernel
theorem d_Mo_rate_105 : decode (am_Mof y_Mo_rate).1 105 = .ok (.lload 10, 2) := by decide +kernel
theorem d_Mo_rate_107 : decode (am_Mof y_Mo_rate).1 107 = .ok (.lreturn, 1) := by decide +kernel
theorem d_Mo_twice_0 : decode (am_Mof y_Mo_twice).1 0 = .ok (.iconst 0, 1) := by decide +kernel
theorem d_Mo_twice_1 : decode (am_Mof y_Mo_twice).1 1 = .ok (.istore_n 2, 1) := by decide +kernel
theorem d_Mo_twice_2 : decode (am_Mof y_Mo_twice).1 2 = .ok (.iconst 0, 1) := by decide +kernel
theorem d_Mo_twice_3 : decode (am_Mof y_Mo_twice).1 3 = .ok (.istore_n 3, 1) := by decide +kernel
theorem d_Mo_twice_4 : decode (am_Mof y_Mo_twice).1 4 = .ok (.iload_n 3, 1) := by decide +kernel
theorem d_Mo_twice_5 : decode (am_Mof y_Mo_twice).1 5 = .ok (.iconst 4, 1) := by decide +kernel
theorem d_Mo_twice_6 : decode (am_Mof y_Mo_twice).1 6 = .ok (.aload_n 0, 1) := by decide +kernel
theorem d_Mo_twice_7 : decode (am_Mof y_Mo_twice).1 7 = .ok (.getfield 72, 3) := by decide +kernel
theorem d_Mo_twice_10 : decode (am_Mof y_Mo_twice).1 10 = .ok (.imul, 1) := by decide +kernel
theorem d_Mo_twice_11 : decode (am_Mof y_Mo_twice).1 11 = .ok (.if_icmp .ge 39, 3) := by decide +kernel
theorem d_Mo_twice_14 : decode (am_Mof y_Mo_twice).1 14 = .ok (.aload_n 0, 1) := by decide +kernel
theorem d_Mo_twice_15 : decode (am_Mof y_Mo_twice).1 15 = .ok (.getfield 13, 3) := by decide +kernel
theorem d_Mo_twice_18 : decode (am_Mof y_Mo_twice).1 18 = .ok (.iload_n 3, 1) := by decide +kernel
theorem d_Mo_twice_19 : decode (am_Mof y_Mo_twice).1 19 = .ok (.baload, 1) := by decide +kernel
theorem d_Mo_twice_20 : decode (am_Mof y_Mo_twice).1 20 = .ok (.ifCond .eq 24, 3) := by decide +kernel
theorem d_Mo_twice_23 : decode (am_Mof y_Mo_twice).1 23 = .ok (.aload_n 0, 1) := by decide +kernel
theorem d_Mo_twice_24 : decode (am_Mof y_Mo_twice).1 24 = .ok (.getfield 17, 3) := by decide +kernel
theorem d_Mo_twice_27 : decode (am_Mof y_Mo_twice).1 27 = .ok (.iload_n 3, 1) := by decide +kernel
theorem d_Mo_twice_28 : decode (am_Mof y_Mo_twice).1 28 = .ok (.iconst 4, 1) := by decide +kernel
theorem d_Mo_twice_29 : decode (am_Mof y_Mo_twice).1 29 = .ok (.idiv, 1) := by decide +kernel
theorem d_Mo_twice_30 : decode (am_Mof y_Mo_twice).1 30 = .ok (.baload, 1) := by decide +kernel
theorem d_Mo_twice_31 : decode (am_Mof y_Mo_twice).1 31 = .ok (.ifCond .eq 13, 3) := by decide +kernel
theorem d_Mo_twice_34 : decode (am_Mof y_Mo_twice).1 34 = .ok (.iload_n 2, 1) := by decide +kernel
theorem d_Mo_twice_35 : decode (am_Mof y_Mo_twice).1 35 = .ok (.iload_n 1, 1) := by decide +kernel
theorem d_Mo_twice_36 : decode (am_Mof y_Mo_twice).1 36 = .ok (.if_icmp .ne 5, 3) := by decide +kernel
theorem d_Mo_twice_39 : decode (am_Mof y_Mo_twice).1 39 = .ok (.iload_n 3, 1) := by decide +kernel
theorem d_Mo_twice_40 : decode (am_Mof y_Mo_twice).1 40 = .ok (.ireturn, 1) := by decide +kernel
theorem d_Mo_twice_41 : decode (am_Mof y_Mo_twice).1 41 = .ok (.iinc 2 1, 3) := by decide +kernel
theorem d_Mo_twice_44 : decode (am_Mof y_Mo_twice).1 44 = .ok (.iinc 3 1, 3) := by decide +kernel
theorem d_Mo_twice_47 : decode (am_Mof y_Mo_twice).1 47 = .ok (.goto (-43), 3) := by decide +kernel
theorem d_Mo_twice_50 : decode (am_Mof y_Mo_twice).1 50 = .ok (.iconst (-1), 1) := by decide +kernel
theorem d_Mo_twice_51 : decode (am_Mof y_Mo_twice).1 51 = .ok (.ireturn, 1) := by decide +kernel
theorem d_Mo_told_0 : decode (am_Mof y_Mo_told).1 0 = .ok (.iconst 0, 1) := by decide +kernel
theorem d_Mo_told_1 : decode (am_Mof y_Mo_told).1 1 = .ok (.istore_n 2, 1) := by decide +kernel
theorem d_Mo_told_2 : decode (am_Mof y_Mo_told).1 2 = .ok (.iconst 0, 1) := by decide +kernel
theorem d_Mo_told_3 : decode (am_Mof y_Mo_told).1 3 = .ok (.istore_n 3, 1) := by decide +kernel
theorem d_Mo_told_4 : decode (am_Mof y_Mo_told).1 4 = .ok (.iload_n 3, 1) := by decide +kernel
theorem d_Mo_told_5 : decode (am_Mof y_Mo_told).1 5 = .ok (.aload_n 0, 1) := by decide +kernel
theorem d_Mo_told_6 : decode (am_Mof y_Mo_told).1 6 = .ok (.getfield 145, 3) := by decide +kernel
theorem d_Mo_told_9 : decode (am_Mof y_Mo_told).1 9 = .ok (.if_icmp .ge 75, 3) := by decide +kernel
theorem d_Mo_told_12 : decode (am_Mof y_Mo_told).1 12 = .ok (.aload_n 0, 1) := by decide +kernel
theorem d_Mo_told_13 : decode (am_Mof y_Mo_told).1 13 = .ok (.getfield 141, 3) := by decide +kernel
theorem d_Mo_told_16 : decode (am_Mof y_Mo_told).1 16 = .ok (.ifCond .eq 68, 3) := by decide +kernel
theorem d_Mo_told_19 : decode (am_Mof y_Mo_told).1 19 = .ok (.iconst 0, 1) := by decide +kernel
theorem d_Mo_told_20 : decode (am_Mof y_Mo_told).1 20 = .ok (.istore 4, 2) := by decide +kernel
theorem d_Mo_told_22 : decode (am_Mof y_Mo_told).1 22 = .ok (.iconst 0, 1) := by decide +kernel
theorem d_Mo_told_23 : decode (am_Mof y_Mo_told).1 23 = .ok (.istore 5, 2) := by decide +kernel
theorem d_Mo_told_25 : decode (am_Mof y_Mo_told).1 25 = .ok (.iload 5, 2) := by decide +kernel
theorem d_Mo_told_27 : decode (am_Mof y_Mo_told).1 27 = .ok (.iconst 4, 1) := by decide +kernel
theorem d_Mo_told_28 : decode (am_Mof y_Mo_told).1 28 = .ok (.if_icmp .ge 35, 3) := by decide +kernel
theorem d_Mo_told_31 : decode (am_Mof y_Mo_told).1 31 = .ok (.iload 4, 2) := by decide +kernel
theorem d_Mo_told_33 : decode (am_Mof y_Mo_told).1 33 = .ok (.ifCond .ne 17, 3) := by decide +kernel
theorem d_Mo_told_36 : decode (am_Mof y_Mo_told).1 36 = .ok (.aload_n 0, 1) := by decide +kernel
theorem d_Mo_told_37 : decode (am_Mof y_Mo_told).1 37 = .ok (.getfield 51, 3) := by decide +kernel
theorem d_Mo_told_40 : decode (am_Mof y_Mo_told).1 40 = .ok (.iconst 4, 1) := by decide +kernel
theorem d_Mo_told_41 : decode (am_Mof y_Mo_told).1 41 = .ok (.iload_n 3, 1) := by decide +kernel
theorem d_Mo_told_42 : decode (am_Mof y_Mo_told).1 42 = .ok (.imul, 1) := by decide +kernel
theorem d_Mo_told_43 : decode (am_Mof y_Mo_told).1 43 = .ok (.iload 5, 2) := by decide +kernel
theorem d_Mo_told_45 : decode (am_Mof y_Mo_told).1 45 = .ok (.iadd, 1) := by decide +kernel
theorem d_Mo_told_46 : decode (am_Mof y_Mo_told).1 46 = .ok (.baload, 1) := by decide +kernel
theorem d_Mo_told_47 : decode (am_Mof y_Mo_told).1 47 = .ok (.ifCond .eq 7, 3) := by decide +kernel
theorem d_Mo_told_50 : decode (am_Mof y_Mo_told).1 50 = .ok (.iconst 1, 1) := by decide +kernel
theorem d_Mo_told_51 : decode (am_Mof y_Mo_told).1 51 = .ok (.goto 4, 3) := by decide +kernel
theorem d_Mo_told_54 : decode (am_Mof y_Mo_told).1 54 = .ok (.iconst 0, 1) := by decide +kernel
theorem d_Mo_told_55 : decode (am_Mof y_Mo_told).1 55 = .ok (.istore 4, 2) := by decide +kernel
theorem d_Mo_told_57 : decode (am_Mof y_Mo_told).1 57 = .ok (.iinc 5 1, 3) := by decide +kernel
theorem d_Mo_told_60 : decode (am_Mof y_Mo_told).1 60 = .ok (.goto (-35), 3) := by decide +kernel
theorem d_Mo_told_63 : decode (am_Mof y_Mo_told).1 63 = .ok (.iload 4, 2) := by decide +kernel
theorem d_Mo_told_65 : decode (am_Mof y_Mo_told).1 65 = .ok (.ifCond .eq 13, 3) := by decide +kernel
theorem d_Mo_told_68 : decode (am_Mof y_Mo_told).1 68 = .ok (.iload_n 2, 1) := by decide +kernel
theorem d_Mo_told_69 : decode (am_Mof y_Mo_told).1 69 = .ok (.iload_n 1, 1) := by decide +kernel
theorem d_Mo_told_70 : decode (am_Mof y_Mo_told).1 70 = .ok (.if_icmp .ne 5, 3) := by decide +kernel
theorem d_Mo_told_73 : decode (am_Mof y_Mo_told).1 73 = .ok (.iload_n 3, 1) := by decide +kernel
theorem d_Mo_told_74 : decode (am_Mof y_Mo_told).1 74 = .ok (.ireturn, 1) := by decide +kernel
theorem d_Mo_told_75 : decode (am_Mof y_Mo_told).1 75 = .ok (.iinc 2 1, 3) := by decide +kernel
theorem d_Mo_told_78 : decode (am_Mof y_Mo_told).1 78 = .ok (.iinc 3 1, 3) := by decide +kernel
theorem d_Mo_told_81 : decode (am_Mof y_Mo_told).1 81 = .ok (.goto (-77), 3) := by decide +kernel
theorem d_Mo_told_84 : decode (am_Mof y_Mo_told).1 84 = .ok (.iconst (-1), 1) := by decide +kernel
theorem d_Mo_told_85 : decode (am_Mof y_Mo_told).1 85 = .ok (.ireturn, 1) := by decide +kernel
theorem d_Mo_once_0 : decode (am_Mof y_Mo_once).1 0 = .ok (.iconst 1, 1) := by decide +kernel
theorem d_Mo_once_1 : decode (am_Mof y_Mo_once).1 1 = .ok (.istore_n 1, 1) := by decide +kernel
theorem d_Mo_once_2 : decode (am_Mof y_Mo_once).1 2 = .ok (.iconst 0, 1) := by decide +kernel
theorem d_Mo_once_3 : decode (am_Mof y_Mo_once).1 3 = .ok (.istore_n 2, 1) := by decide +kernel
theorem d_Mo_once_4 : decode (am_Mof y_Mo_once).1 4 = .ok (.iload_n 2, 1) := by decide +kernel
theorem d_Mo_once_5 : decode (am_Mof y_Mo_once).1 5 = .ok (.iconst 4, 1) := by decide +kernel
theorem d_Mo_once_6 : decode (am_Mof y_Mo_once).1 6 = .ok (.if_icmp .ge 135, 3) := by decide +kernel
theorem d_Mo_once_9 : decode (am_Mof y_Mo_once).1 9 = .ok (.aload_n 0, 1) := by decide +kernel
theorem d_Mo_once_10 : decode (am_Mof y_Mo_once).1 10 = .ok (.getfield 141, 3) := by decide +kernel
theorem d_Mo_once_13 : decode (am_Mof y_Mo_once).1 13 = .ok (.ifCond .eq 128, 3) := by decide +kernel
theorem d_Mo_once_16 : decode (am_Mof y_Mo_once).1 16 = .ok (.iconst 0, 1) := by decide +kernel
theorem d_Mo_once_17 : decode (am_Mof y_Mo_once).1 17 = .ok (.istore_n 3, 1) := by decide +kernel
theorem d_Mo_once_18 : decode (am_Mof y_Mo_once).1 18 = .ok (.iload_n 3, 1) := by decide +kernel
theorem d_Mo_once_19 : decode (am_Mof y_Mo_once).1 19 = .ok (.bipush 10, 2) := by decide +kernel
theorem d_Mo_once_21 : decode (am_Mof y_Mo_once).1 21 = .ok (.if_icmp .ge 114, 3) := by decide +kernel
theorem d_Mo_once_24 : decode (am_Mof y_Mo_once).1 24 = .ok (.iload_n 2, 1) := by decide +kernel
theorem d_Mo_once_25 : decode (am_Mof y_Mo_once).1 25 = .ok (.iconst 3, 1) := by decide +kernel
theorem d_Mo_once_26 : decode (am_Mof y_Mo_once).1 26 = .ok (.if_icmp .ne 12, 3) := by decide +kernel
theorem d_Mo_once_29 : decode (am_Mof y_Mo_once).1 29 = .ok (.aload_n 0, 1) := by decide +kernel
theorem d_Mo_once_30 : decode (am_Mof y_Mo_once).1 30 = .ok (.getfield 54, 3) := by decide +kernel
theorem d_Mo_once_33 : decode (am_Mof y_Mo_once).1 33 = .ok (.iload_n 3, 1) := by decide +kernel
theorem d_Mo_once_34 : decode (am_Mof y_Mo_once).1 34 = .ok (.laload, 1) := by decide +kernel
theorem d_Mo_once_35 : decode (am_Mof y_Mo_once).1 35 = .ok (.goto 4, 3) := by decide +kernel
theorem d_Mo_once_38 : decode (am_Mof y_Mo_once).1 38 = .ok (.lconst 0, 1) := by decide +kernel
theorem d_Mo_once_39 : decode (am_Mof y_Mo_once).1 39 = .ok (.lstore 4, 2) := by decide +kernel
theorem d_Mo_once_41 : decode (am_Mof y_Mo_once).1 41 = .ok (.iconst 0, 1) := by decide +kernel
theorem d_Mo_once_42 : decode (am_Mof y_Mo_once).1 42 = .ok (.istore 6, 2) := by decide +kernel
theorem d_Mo_once_44 : decode (am_Mof y_Mo_once).1 44 = .ok (.iload 6, 2) := by decide +kernel
theorem d_Mo_once_46 : decode (am_Mof y_Mo_once).1 46 = .ok (.aload_n 0, 1) := by decide +kernel
theorem d_Mo_once_47 : decode (am_Mof y_Mo_once).1 47 = .ok (.getfield 148, 3) := by decide +kernel
theorem d_Mo_once_50 : decode (am_Mof y_Mo_once).1 50 = .ok (.if_icmp .ge 47, 3) := by decide +kernel
theorem d_Mo_once_53 : decode (am_Mof y_Mo_once).1 53 = .ok (.lload 4, 2) := by decide +kernel
theorem d_Mo_once_55 : decode (am_Mof y_Mo_once).1 55 = .ok (.aload_n 0, 1) := by decide +kernel
theorem d_Mo_once_56 : decode (am_Mof y_Mo_once).1 56 = .ok (.getfield 26, 3) := by decide +kernel
theorem d_Mo_once_59 : decode (am_Mof y_Mo_once).1 59 = .ok (.iload 6, 2) := by decide +kernel
theorem d_Mo_once_61 : decode (am_Mof y_Mo_once).1 61 = .ok (.iaload, 1) := by decide +kernel
theorem d_Mo_once_62 : decode (am_Mof y_Mo_once).1 62 = .ok (.iload_n 2, 1) := by decide +kernel
theorem d_Mo_once_63 : decode (am_Mof y_Mo_once).1 63 = .ok (.if_icmp .ne 24, 3) := by decide +kernel
theorem d_Mo_once_66 : decode (am_Mof y_Mo_once).1 66 = .ok (.aload_n 0, 1) := by decide +kernel
theorem d_Mo_once_67 : decode (am_Mof y_Mo_once).1 67 = .ok (.getfield 29, 3) := by decide +kernel
theorem d_Mo_once_70 : decode (am_Mof y_Mo_once).1 70 = .ok (.iload 6, 2) := by decide +kernel
theorem d_Mo_once_72 : decode (am_Mof y_Mo_once).1 72 = .ok (.iaload, 1) := by decide +kernel
theorem d_Mo_once_73 : decode (am_Mof y_Mo_once).1 73 = .ok (.iload_n 3, 1) := by decide +kernel
theorem d_Mo_once_74 : decode (am_Mof y_Mo_once).1 74 = .ok (.if_icmp .ne 13, 3) := by decide +kernel
theorem d_Mo_once_77 : decode (am_Mof y_Mo_once).1 77 = .ok (.aload_n 0, 1) := by decide +kernel
theorem d_Mo_once_78 : decode (am_Mof y_Mo_once).1 78 = .ok (.getfield 35, 3) := by decide +kernel
theorem d_Mo_once_81 : decode (am_Mof y_Mo_once).1 81 = .ok (.iload 6, 2) := by decide +kernel
theorem d_Mo_once_83 : decode (am_Mof y_Mo_once).1 83 = .ok (.laload, 1) := by decide +kernel
theorem d_Mo_once_84 : decode (am_Mof y_Mo_once).1 84 = .ok (.goto 4, 3) := by decide +kernel
theorem d_Mo_once_87 : decode (am_Mof y_Mo_once).1 87 = .ok (.lconst 0, 1) := by decide +kernel
theorem d_Mo_once_88 : decode (am_Mof y_Mo_once).1 88 = .ok (.ladd, 1) := by decide +kernel
theorem d_Mo_once_89 : decode (am_Mof y_Mo_once).1 89 = .ok (.lstore 4, 2) := by decide +kernel
theorem d_Mo_once_91 : decode (am_Mof y_Mo_once).1 91 = .ok (.iinc 6 1, 3) := by decide +kernel
theorem d_Mo_once_94 : decode (am_Mof y_Mo_once).1 94 = .ok (.goto (-50), 3) := by decide +kernel
theorem d_Mo_once_97 : decode (am_Mof y_Mo_once).1 97 = .ok (.aload_n 0, 1) := by decide +kernel
theorem d_Mo_once_98 : decode (am_Mof y_Mo_once).1 98 = .ok (.iload_n 2, 1) := by decide +kernel
theorem d_Mo_once_99 : decode (am_Mof y_Mo_once).1 99 = .ok (.iload_n 3, 1) := by decide +kernel
theorem d_Mo_once_100 : decode (am_Mof y_Mo_once).1 100 = .ok (.iconst (-1), 1) := by decide +kernel
theorem d_Mo_once_101 : decode (am_Mof y_Mo_once).1 101 = .ok (.invokevirtual 174, 3) := by decide +kernel
theorem d_Mo_once_104 : decode (am_Mof y_Mo_once).1 104 = .ok (.iload_n 1, 1) := by decide +kernel
theorem d_Mo_once_105 : decode (am_Mof y_Mo_once).1 105 = .ok (.ifCond .eq 22, 3) := by decide +kernel
theorem d_Mo_once_108 : decode (am_Mof y_Mo_once).1 108 = .ok (.aload_n 0, 1) := by decide +kernel
theorem d_Mo_once_109 : decode (am_Mof y_Mo_once).1 109 = .ok (.getfield 154, 3) := by decide +kernel
theorem d_Mo_once_112 : decode (am_Mof y_Mo_once).1 112 = .ok (.lload 4, 2) := by decide +kernel
theorem d_Mo_once_114 : decode (am_Mof y_Mo_once).1 114 = .ok (.aload_n 0, 1) := by decide +kernel
theorem d_Mo_once_115 : decode (am_Mof y_Mo_once).1 115 = .ok (.getfield 158, 3) := by decide +kernel
theorem d_Mo_once_118 : decode (am_Mof y_Mo_once).1 118 = .ok (.lmul, 1) := by decide +kernel
theorem d_Mo_once_119 : decode (am_Mof y_Mo_once).1 119 = .ok (.lcmp, 1) := by decide +kernel
theorem d_Mo_once_120 : decode (am_Mof y_Mo_once).1 120 = .ok (.ifCond .gt 7, 3) := by decide +kernel
theorem d_Mo_once_123 : decode (am_Mof y_Mo_once).1 123 = .ok (.iconst 1, 1) := by decide +kernel
theorem d_Mo_once_124 : decode (am_Mof y_Mo_once).1 124 = .ok (.goto 4, 3) := by decide +kernel
theorem d_Mo_once_127 : decode (am_Mof y_Mo_once).1 127 = .ok (.iconst 0, 1) := by decide +kernel
theorem d_Mo_once_128 : decode (am_Mof y_Mo_once).1 128 = .ok (.istore_n 1, 1) := by decide +kernel
theorem d_Mo_once_129 : decode (am_Mof y_Mo_once).1 129 = .ok (.iinc 3 1, 3) := by decide +kernel
theorem d_Mo_once_132 : decode (am_Mof y_Mo_once).1 132 = .ok (.goto (-114), 3) := by decide +kernel
theorem d_Mo_once_135 : decode (am_Mof y_Mo_once).1 135 = .ok (.iinc 2 1, 3) := by decide +kernel
theorem d_Mo_once_138 : decode (am_Mof y_Mo_once).1 138 = .ok (.goto (-134), 3) := by decide +kernel
theorem d_Mo_once_141 : decode (am_Mof y_Mo_once).1 141 = .ok (.iload_n 1, 1) := by decide +kernel
theorem d_Mo_once_142 : decode (am_Mof y_Mo_once).1 142 = .ok (.ireturn, 1) := by decide +kernel
theorem d_Mo_left_0 : decode (am_Mof y_Mo_left).1 0 = .ok (.aload_n 0, 1) := by decide +kernel
theorem d_Mo_left_1 : decode (am_Mof y_Mo_left).1 1 = .ok (.getfield 141, 3) := by decide +kernel
theorem d_Mo_left_4 : decode (am_Mof y_Mo_left).1 4 = .ok (.ifCond .eq 34, 3) := by decide +kernel
theorem d_Mo_left_7 : decode (am_Mof y_Mo_left).1 7 = .ok (.iload_n 1, 1) := by decide +kernel
theorem d_Mo_left_8 : decode (am_Mof y_Mo_left).1 8 = .ok (.invokestatic 105, 3) := by decide +kernel
theorem d_Mo_left_11 : decode (am_Mof y_Mo_left).1 11 = .ok (.ifCond .eq 27, 3) := by decide +kernel
theorem d_Mo_left_14 : decode (am_Mof y_Mo_left).1 14 = .ok (.iload_n 2, 1) := by decide +kernel
theorem d_Mo_left_15 : decode (am_Mof y_Mo_left).1 15 = .ok (.invokestatic 94, 3) := by decide +kernel
theorem d_Mo_left_18 : decode (am_Mof y_Mo_left).1 18 = .ok (.ifCond .eq 20, 3) := by decide +kernel
theorem d_Mo_left_21 : decode (am_Mof y_Mo_left).1 21 = .ok (.iload_n 3, 1) := by decide +kernel
theorem d_Mo_left_22 : decode (am_Mof y_Mo_left).1 22 = .ok (.invokestatic 102, 3) := by decide +kernel
theorem d_Mo_left_25 : decode (am_Mof y_Mo_left).1 25 = .ok (.ifCond .eq 13, 3) := by decide +kernel
theorem d_Mo_left_28 : decode (am_Mof y_Mo_left).1 28 = .ok (.aload_n 0, 1) := by decide +kernel
theorem d_Mo_left_29 : decode (am_Mof y_Mo_left).1 29 = .ok (.iload_n 1, 1) := by decide +kernel
theorem d_Mo_left_30 : decode (am_Mof y_Mo_left).1 30 = .ok (.iload_n 2, 1) := by decide +kernel
theorem d_Mo_left_31 : decode (am_Mof y_Mo_left).1 31 = .ok (.iload_n 3, 1) := by decide +kernel
theorem d_Mo_left_32 : decode (am_Mof y_Mo_left).1 32 = .ok (.invokevirtual 178, 3) := by decide +kernel
theorem d_Mo_left_35 : decode (am_Mof y_Mo_left).1 35 = .ok (.goto 6, 3) := by decide +kernel
theorem d_Mo_left_38 : decode (am_Mof y_Mo_left).1 38 = .ok (.ldc2_w 172, 3) := by decide +kernel
theorem d_Mo_left_41 : decode (am_Mof y_Mo_left).1 41 = .ok (.lreturn, 1) := by decide +kernel
theorem d_Mo_stock_0 : decode (am_Mof y_Mo_stock).1 0 = .ok (.aload_n 0, 1) := by decide +kernel
theorem d_Mo_stock_1 : decode (am_Mof y_Mo_stock).1 1 = .ok (.iload_n 2, 1) := by decide +kernel
theorem d_Mo_stock_2 : decode (am_Mof y_Mo_stock).1 2 = .ok (.iload_n 3, 1) := by decide +kernel
theorem d_Mo_stock_3 : decode (am_Mof y_Mo_stock).1 3 = .ok (.iload_n 1, 1) := by decide +kernel
theorem d_Mo_stock_4 : decode (am_Mof y_Mo_stock).1 4 = .ok (.invokevirtual 174, 3) := by decide +kernel
theorem d_Mo_stock_7 : decode (am_Mof y_Mo_stock).1 7 = .ok (.aload_n 0, 1) := by decide +kernel
theorem d_Mo_stock_8 : decode (am_Mof y_Mo_stock).1 8 = .ok (.getfield 154, 3) := by decide +kernel
theorem d_Mo_stock_11 : decode (am_Mof y_Mo_stock).1 11 = .ok (.aload_n 0, 1) := by decide +kernel
theorem d_Mo_stock_12 : decode (am_Mof y_Mo_stock).1 12 = .ok (.getfield 158, 3) := by decide +kernel
theorem d_Mo_stock_15 : decode (am_Mof y_Mo_stock).1 15 = .ok (.ldiv, 1) := by decide +kernel
theorem d_Mo_stock_16 : decode (am_Mof y_Mo_stock).1 16 = .ok (.aload_n 0, 1) := by decide +kernel
theorem d_Mo_stock_17 : decode (am_Mof y_Mo_stock).1 17 = .ok (.getfield 57, 3) := by decide +kernel
theorem d_Mo_stock_20 : decode (am_Mof y_Mo_stock).1 20 = .ok (.bipush 40, 2) := by decide +kernel
theorem d_Mo_stock_22 : decode (am_Mof y_Mo_stock).1 22 = .ok (.iload_n 1, 1) := by decide +kernel
theorem d_Mo_stock_23 : decode (am_Mof y_Mo_stock).1 23 = .ok (.imul, 1) := by decide +kernel
theorem d_Mo_stock_24 : decode (am_Mof y_Mo_stock).1 24 = .ok (.bipush 10, 2) := by decide +kernel
theorem d_Mo_stock_26 : decode (am_Mof y_Mo_stock).1 26 = .ok (.iload_n 2, 1) := by decide +kernel
theorem d_Mo_stock_27 : decode (am_Mof y_Mo_stock).1 27 = .ok (.imul, 1) := by decide +kernel
theorem d_Mo_stock_28 : decode (am_Mof y_Mo_stock).1 28 = .ok (.iadd, 1) := by decide +kernel
theorem d_Mo_stock_29 : decode (am_Mof y_Mo_stock).1 29 = .ok (.iload_n 3, 1) := by decide +kernel
theorem d_Mo_stock_30 : decode (am_Mof y_Mo_stock).1 30 = .ok (.iadd, 1) := by decide +kernel
theorem d_Mo_stock_31 : decode (am_Mof y_Mo_stock).1 31 = .ok (.laload, 1) := by decide +kernel
theorem d_Mo_stock_32 : decode (am_Mof y_Mo_stock).1 32 = .ok (.lsub, 1) := by decide +kernel
theorem d_Mo_stock_33 : decode (am_Mof y_Mo_stock).1 33 = .ok (.lreturn, 1) := by decide +kernel
theorem d_Mo_claim_0 : decode (am_Mof y_Mo_claim).1 0 = .ok (.aload_n 0, 1) := by decide +kernel
theorem d_Mo_claim_1 : decode (am_Mof y_Mo_claim).1 1 = .ok (.getfield 141, 3) := by decide +kernel
theorem d_Mo_claim_4 : decode (am_Mof y_Mo_claim).1 4 = .ok (.ifCond .eq 36, 3) := by decide +kernel
theorem d_Mo_claim_7 : decode (am_Mof y_Mo_claim).1 7 = .ok (.iload_n 1, 1) := by decide +kernel
theorem d_Mo_claim_8 : decode (am_Mof y_Mo_claim).1 8 = .ok (.invokestatic 105, 3) := by decide +kernel
theorem d_Mo_claim_11 : decode (am_Mof y_Mo_claim).1 11 = .ok (.ifCond .eq 29, 3) := by decide +kernel
theorem d_Mo_claim_14 : decode (am_Mof y_Mo_claim).1 14 = .ok (.iload_n 2, 1) := by decide +kernel
theorem d_Mo_claim_15 : decode (am_Mof y_Mo_claim).1 15 = .ok (.invokestatic 94, 3) := by decide +kernel
theorem d_Mo_claim_18 : decode (am_Mof y_Mo_claim).1 18 = .ok (.ifCond .eq 22, 3) := by decide +kernel
theorem d_Mo_claim_21 : decode (am_Mof y_Mo_claim).1 21 = .ok (.iload_n 3, 1) := by decide +kernel
theorem d_Mo_claim_22 : decode (am_Mof y_Mo_claim).1 22 = .ok (.invokestatic 102, 3) := by decide +kernel
theorem d_Mo_claim_25 : decode (am_Mof y_Mo_claim).1 25 = .ok (.ifCond .eq 15, 3) := by decide +kernel
theorem d_Mo_claim_28 : decode (am_Mof y_Mo_claim).1 28 = .ok (.lload 4, 2) := by decide +kernel
theorem d_Mo_claim_30 : decode (am_Mof y_Mo_claim).1 30 = .ok (.lconst 1, 1) := by decide +kernel
theorem d_Mo_claim_31 : decode (am_Mof y_Mo_claim).1 31 = .ok (.ldc2_w 182, 3) := by decide +kernel
theorem d_Mo_claim_34 : decode (am_Mof y_Mo_claim).1 34 = .ok (.invokestatic 82, 3) := by decide +kernel
theorem d_Mo_claim_37 : decode (am_Mof y_Mo_claim).1 37 = .ok (.ifCond .ne 7, 3) := by decide +kernel
theorem d_Mo_claim_40 : decode (am_Mof y_Mo_claim).1 40 = .ok (.ldc2_w 172, 3) := by decide +kernel
theorem d_Mo_claim_43 : decode (am_Mof y_Mo_claim).1 43 = .ok (.lreturn, 1) := by decide +kernel
theorem d_Mo_claim_44 : decode (am_Mof y_Mo_claim).1 44 = .ok (.lconst 0, 1) := by decide +kernel
theorem d_Mo_claim_45 : decode (am_Mof y_Mo_claim).1 45 = .ok (.lstore 6, 2) := by decide +kernel
theorem d_Mo_claim_47 : decode (am_Mof y_Mo_claim).1 47 = .ok (.iload_n 3, 1) := by decide +kernel
theorem d_Mo_claim_48 : decode (am_Mof y_Mo_claim).1 48 = .ok (.iconst 2, 1) := by decide +kernel
theorem d_Mo_claim_49 : decode (am_Mof y_Mo_claim).1 49 = .ok (.if_icmp .ge 7, 3) := by decide +kernel
theorem d_Mo_claim_52 : decode (am_Mof y_Mo_claim).1 52 = .ok (.iconst 0, 1) := by decide +kernel
theorem d_Mo_claim_53 : decode (am_Mof y_Mo_claim).1 53 = .ok (.goto 6, 3) := by decide +kernel
theorem d_Mo_claim_56 : decode (am_Mof y_Mo_claim).1 56 = .ok (.iload_n 3, 1) := by decide +kernel
theorem d_Mo_claim_57 : decode (am_Mof y_Mo_claim).1 57 = .ok (.iconst 2, 1) := by decide +kernel
theorem d_Mo_claim_58 : decode (am_Mof y_Mo_claim).1 58 = .ok (.isub, 1) := by decide +kernel
theorem d_Mo_claim_59 : decode (am_Mof y_Mo_claim).1 59 = .ok (.istore 8, 2) := by decide +kernel
theorem d_Mo_claim_61 : decode (am_Mof y_Mo_claim).1 61 = .ok (.iload 8, 2) := by decide +kernel
theorem d_Mo_claim_63 : decode (am_Mof y_Mo_claim).1 63 = .ok (.iload_n 3, 1) := by decide +kernel
theorem d_Mo_claim_64 : decode (am_Mof y_Mo_claim).1 64 = .ok (.if_icmp .gt 22, 3) := by decide +kernel
theorem d_Mo_claim_67 : decode (am_Mof y_Mo_claim).1 67 = .ok (.lload 6, 2) := by decide +kernel
theorem d_Mo_claim_69 : decode (am_Mof y_Mo_claim).1 69 = .ok (.aload_n 0, 1) := by decide +kernel
theorem d_Mo_claim_70 : decode (am_Mof y_Mo_claim).1 70 = .ok (.iload_n 1, 1) := by decide +kernel
theorem d_Mo_claim_71 : decode (am_Mof y_Mo_claim).1 71 = .ok (.iload_n 2, 1) := by decide +kernel
theorem d_Mo_claim_72 : decode (am_Mof y_Mo_claim).1 72 = .ok (.iload 8, 2) := by decide +kernel
theorem d_Mo_claim_74 : decode (am_Mof y_Mo_claim).1 74 = .ok (.invokevirtual 178, 3) := by decide +kernel
theorem d_Mo_claim_77 : decode (am_Mof y_Mo_claim).1 77 = .ok (.ladd, 1) := by decide +kernel
theorem d_Mo_claim_78 : decode (am_Mof y_Mo_claim).1 78 = .ok (.lstore 6, 2) := by decide +kernel
theorem d_Mo_claim_80 : decode (am_Mof y_Mo_claim).1 80 = .ok (.iinc 8 1, 3) := by decide +kernel
theorem d_Mo_claim_83 : decode (am_Mof y_Mo_claim).1 83 = .ok (.goto (-22), 3) := by decide +kernel
theorem d_Mo_claim_86 : decode (am_Mof y_Mo_claim).1 86 = .ok (.lload 6, 2) := by decide +kernel
theorem d_Mo_claim_88 : decode (am_Mof y_Mo_claim).1 88 = .ok (.lload 4, 2) := by decide +kernel
theorem d_Mo_claim_90 : decode (am_Mof y_Mo_claim).1 90 = .ok (.lcmp, 1) := by decide +kernel
theorem d_Mo_claim_91 : decode (am_Mof y_Mo_claim).1 91 = .ok (.ifCond .ge 7, 3) := by decide +kernel
theorem d_Mo_claim_94 : decode (am_Mof y_Mo_claim).1 94 = .ok (.ldc2_w 172, 3) := by decide +kernel
theorem d_Mo_claim_97 : decode (am_Mof y_Mo_claim).1 97 = .ok (.lreturn, 1) := by decide +kernel
theorem d_Mo_claim_98 : decode (am_Mof y_Mo_claim).1 98 = .ok (.lload 4, 2) := by decide +kernel
theorem d_Mo_claim_100 : decode (am_Mof y_Mo_claim).1 100 = .ok (.lstore 8, 2) := by decide +kernel
theorem d_Mo_claim_102 : decode (am_Mof y_Mo_claim).1 102 = .ok (.iload_n 3, 1) := by decide +kernel
theorem d_Mo_claim_103 : decode (am_Mof y_Mo_claim).1 103 = .ok (.iconst 2, 1) := by decide +kernel
theorem d_Mo_claim_104 : decode (am_Mof y_Mo_claim).1 104 = .ok (.if_icmp .ge 7, 3) := by decide +kernel
theorem d_Mo_claim_107 : decode (am_Mof y_Mo_claim).1 107 = .ok (.iconst 0, 1) := by decide +kernel
theorem d_Mo_claim_108 : decode (am_Mof y_Mo_claim).1 108 = .ok (.goto 6, 3) := by decide +kernel
theorem d_Mo_claim_111 : decode (am_Mof y_Mo_claim).1 111 = .ok (.iload_n 3, 1) := by decide +kernel
theorem d_Mo_claim_112 : decode (am_Mof y_Mo_claim).1 112 = .ok (.iconst 2, 1) := by decide +kernel
theorem d_Mo_claim_113 : decode (am_Mof y_Mo_claim).1 113 = .ok (.isub, 1) := by decide +kernel
theorem d_Mo_claim_114 : decode (am_Mof y_Mo_claim).1 114 = .ok (.istore 10, 2) := by decide +kernel
theorem d_Mo_claim_116 : decode (am_Mof y_Mo_claim).1 116 = .ok (.iload 10, 2) := by decide +kernel
theorem d_Mo_claim_118 : decode (am_Mof y_Mo_claim).1 118 = .ok (.iload_n 3, 1) := by decide +kernel
theorem d_Mo_claim_119 : decode (am_Mof y_Mo_claim).1 119 = .ok (.if_icmp .gt 65, 3) := by decide +kernel
theorem d_Mo_claim_122 : decode (am_Mof y_Mo_claim).1 122 = .ok (.aload_n 0, 1) := by decide +kernel
theorem d_Mo_claim_123 : decode (am_Mof y_Mo_claim).1 123 = .ok (.iload_n 1, 1) := by decide +kernel
theorem d_Mo_claim_124 : decode (am_Mof y_Mo_claim).1 124 = .ok (.iload_n 2, 1) := by decide +kernel
theorem d_Mo_claim_125 : decode (am_Mof y_Mo_claim).1 125 = .ok (.iload 10, 2) := by decide +kernel
theorem d_Mo_claim_127 : decode (am_Mof y_Mo_claim).1 127 = .ok (.invokevirtual 178, 3) := by decide +kernel
theorem d_Mo_claim_130 : decode (am_Mof y_Mo_claim).1 130 = .ok (.lstore 11, 2) := by decide +kernel
theorem d_Mo_claim_132 : decode (am_Mof y_Mo_claim).1 132 = .ok (.lload 11, 2) := by decide +kernel
theorem d_Mo_claim_134 : decode (am_Mof y_Mo_claim).1 134 = .ok (.lload 8, 2) := by decide +kernel
theorem d_Mo_claim_136 : decode (am_Mof y_Mo_claim).1 136 = .ok (.lcmp, 1) := by decide +kernel
theorem d_Mo_claim_137 : decode (am_Mof y_Mo_claim).1 137 = .ok (.ifCond .ge 8, 3) := by decide +kernel
theorem d_Mo_claim_140 : decode (am_Mof y_Mo_claim).1 140 = .ok (.lload 11, 2) := by decide +kernel
theorem d_Mo_claim_142 : decode (am_Mof y_Mo_claim).1 142 = .ok (.goto 5, 3) := by decide +kernel
theorem d_Mo_claim_145 : decode (am_Mof y_Mo_claim).1 145 = .ok (.lload 8, 2) := by decide +kernel
theorem d_Mo_claim_147 : decode (am_Mof y_Mo_claim).1 147 = .ok (.lstore 13, 2) := by decide +kernel
theorem d_Mo_claim_149 : decode (am_Mof y_Mo_claim).1 149 = .ok (.aload_n 0, 1) := by decide +kernel
theorem d_Mo_claim_150 : decode (am_Mof y_Mo_claim).1 150 = .ok (.getfield 57, 3) := by decide +kernel
theorem d_Mo_claim_153 : decode (am_Mof y_Mo_claim).1 153 = .ok (.bipush 40, 2) := by decide +kernel
theorem d_Mo_claim_155 : decode (am_Mof y_Mo_claim).1 155 = .ok (.iload_n 1, 1) := by decide +kernel
theorem d_Mo_claim_156 : decode (am_Mof y_Mo_claim).1 156 = .ok (.imul, 1) := by decide +kernel
theorem d_Mo_claim_157 : decode (am_Mof y_Mo_claim).1 157 = .ok (.bipush 10, 2) := by decide +kernel
theorem d_Mo_claim_159 : decode (am_Mof y_Mo_claim).1 159 = .ok (.iload_n 2, 1) := by decide +kernel
theorem d_Mo_claim_160 : decode (am_Mof y_Mo_claim).1 160 = .ok (.imul, 1) := by decide +kernel
theorem d_Mo_claim_161 : decode (am_Mof y_Mo_claim).1 161 = .ok (.iadd, 1) := by decide +kernel
theorem d_Mo_claim_162 : decode (am_Mof y_Mo_claim).1 162 = .ok (.iload 10, 2) := by decide +kernel
theorem d_Mo_claim_164 : decode (am_Mof y_Mo_claim).1 164 = .ok (.iadd, 1) := by decide +kernel
theorem d_Mo_claim_165 : decode (am_Mof y_Mo_claim).1 165 = .ok (.dup2, 1) := by decide +kernel
theorem d_Mo_claim_166 : decode (am_Mof y_Mo_claim).1 166 = .ok (.laload, 1) := by decide +kernel
theorem d_Mo_claim_167 : decode (am_Mof y_Mo_claim).1 167 = .ok (.lload 13, 2) := by decide +kernel
theorem d_Mo_claim_169 : decode (am_Mof y_Mo_claim).1 169 = .ok (.ladd, 1) := by decide +kernel
theorem d_Mo_claim_170 : decode (am_Mof y_Mo_claim).1 170 = .ok (.lastore, 1) := by decide +kernel
theorem d_Mo_claim_171 : decode (am_Mof y_Mo_claim).1 171 = .ok (.lload 8, 2) := by decide +kernel
theorem d_Mo_claim_173 : decode (am_Mof y_Mo_claim).1 173 = .ok (.lload 13, 2) := by decide +kernel
theorem d_Mo_claim_175 : decode (am_Mof y_Mo_claim).1 175 = .ok (.lsub, 1) := by decide +kernel
theorem d_Mo_claim_176 : decode (am_Mof y_Mo_claim).1 176 = .ok (.lstore 8, 2) := by decide +kernel
theorem d_Mo_claim_178 : decode (am_Mof y_Mo_claim).1 178 = .ok (.iinc 10 1, 3) := by decide +kernel
theorem d_Mo_claim_181 : decode (am_Mof y_Mo_claim).1 181 = .ok (.goto (-65), 3) := by decide +kernel
theorem d_Mo_claim_184 : decode (am_Mof y_Mo_claim).1 184 = .ok (.lload 6, 2) := by decide +kernel
theorem d_Mo_claim_186 : decode (am_Mof y_Mo_claim).1 186 = .ok (.lload 4, 2) := by decide +kernel
theorem d_Mo_claim_188 : decode (am_Mof y_Mo_claim).1 188 = .ok (.lsub, 1) := by decide +kernel
theorem d_Mo_claim_189 : decode (am_Mof y_Mo_claim).1 189 = .ok (.lreturn, 1) := by decide +kernel
theorem d_Mo_open_0 : decode (am_Mof y_Mo_open).1 0 = .ok (.aload_n 0, 1) := by decide +kernel
theorem d_Mo_open_1 : decode (am_Mof y_Mo_open).1 1 = .ok (.getfield 141, 3) := by decide +kernel
theorem d_Mo_open_4 : decode (am_Mof y_Mo_open).1 4 = .ok (.ifCond .eq 42, 3) := by decide +kernel
theorem d_Mo_open_7 : decode (am_Mof y_Mo_open).1 7 = .ok (.iload_n 1, 1) := by decide +kernel
theorem d_Mo_open_8 : decode (am_Mof y_Mo_open).1 8 = .ok (.invokestatic 102, 3) := by decide +kernel
theorem d_Mo_open_11 : decode (am_Mof y_Mo_open).1 11 = .ok (.ifCond .eq 35, 3) := by decide +kernel
theorem d_Mo_open_14 : decode (am_Mof y_Mo_open).1 14 = .ok (.iload_n 2, 1) := by decide +kernel
theorem d_Mo_open_15 : decode (am_Mof y_Mo_open).1 15 = .ok (.invokestatic 102, 3) := by decide +kernel
theorem d_Mo_open_18 : decode (am_Mof y_Mo_open).1 18 = .ok (.ifCond .eq 28, 3) := by decide +kernel
theorem d_Mo_open_21 : decode (am_Mof y_Mo_open).1 21 = .ok (.iload_n 3, 1) := by decide +kernel
theorem d_Mo_open_22 : decode (am_Mof y_Mo_open).1 22 = .ok (.ifCond .lt 24, 3) := by decide +kernel
theorem d_Mo_open_25 : decode (am_Mof y_Mo_open).1 25 = .ok (.iload_n 3, 1) := by decide +kernel
theorem d_Mo_open_26 : decode (am_Mof y_Mo_open).1 26 = .ok (.iconst 4, 1) := by decide +kernel
theorem d_Mo_open_27 : decode (am_Mof y_Mo_open).1 27 = .ok (.aload_n 0, 1) := by decide +kernel
theorem d_Mo_open_28 : decode (am_Mof y_Mo_open).1 28 = .ok (.getfield 72, 3) := by decide +kernel
theorem d_Mo_open_31 : decode (am_Mof y_Mo_open).1 31 = .ok (.imul, 1) := by decide +kernel
theorem d_Mo_open_32 : decode (am_Mof y_Mo_open).1 32 = .ok (.if_icmp .ge 14, 3) := by decide +kernel
theorem d_Mo_open_35 : decode (am_Mof y_Mo_open).1 35 = .ok (.iload 4, 2) := by decide +kernel
theorem d_Mo_open_37 : decode (am_Mof y_Mo_open).1 37 = .ok (.i2l, 1) := by decide +kernel
theorem d_Mo_open_38 : decode (am_Mof y_Mo_open).1 38 = .ok (.lconst 0, 1) := by decide +kernel
theorem d_Mo_open_39 : decode (am_Mof y_Mo_open).1 39 = .ok (.lconst 1, 1) := by decide +kernel
theorem d_Mo_open_40 : decode (am_Mof y_Mo_open).1 40 = .ok (.invokestatic 82, 3) := by decide +kernel
theorem d_Mo_open_43 : decode (am_Mof y_Mo_open).1 43 = .ok (.ifCond .ne 5, 3) := by decide +kernel
theorem d_Mo_open_46 : decode (am_Mof y_Mo_open).1 46 = .ok (.lconst 0, 1) := by decide +kernel
theorem d_Mo_open_47 : decode (am_Mof y_Mo_open).1 47 = .ok (.lreturn, 1) := by decide +kernel
theorem d_Mo_open_48 : decode (am_Mof y_Mo_open).1 48 = .ok (.aload_n 0, 1) := by decide +kernel
theorem d_Mo_open_49 : decode (am_Mof y_Mo_open).1 49 = .ok (.invokevirtual 165, 3) := by decide +kernel
theorem d_Mo_open_52 : decode (am_Mof y_Mo_open).1 52 = .ok (.aload_n 0, 1) := by decide +kernel
theorem d_Mo_open_53 : decode (am_Mof y_Mo_open).1 53 = .ok (.iload_n 3, 1) := by decide +kernel
theorem d_Mo_open_54 : decode (am_Mof y_Mo_open).1 54 = .ok (.iconst 4, 1) := by decide +kernel
theorem d_Mo_open_55 : decode (am_Mof y_Mo_open).1 55 = .ok (.irem, 1) := by decide +kernel
theorem d_Mo_open_56 : decode (am_Mof y_Mo_open).1 56 = .ok (.iload_n 1, 1) := by decide +kernel
theorem d_Mo_open_57 : decode (am_Mof y_Mo_open).1 57 = .ok (.iconst (-1), 1) := by decide +kernel
theorem d_Mo_open_58 : decode (am_Mof y_Mo_open).1 58 = .ok (.iload_n 3, 1) := by decide +kernel
theorem d_Mo_open_59 : decode (am_Mof y_Mo_open).1 59 = .ok (.iconst 4, 1) := by decide +kernel
theorem d_Mo_open_60 : decode (am_Mof y_Mo_open).1 60 = .ok (.idiv, 1) := by decide +kernel
theorem d_Mo_open_61 : decode (am_Mof y_Mo_open).1 61 = .ok (.invokevirtual 168, 3) := by decide +kernel
theorem d_Mo_open_64 : decode (am_Mof y_Mo_open).1 64 = .ok (.aload_n 0, 1) := by decide +kernel
theorem d_Mo_open_65 : decode (am_Mof y_Mo_open).1 65 = .ok (.aload_n 0, 1) := by decide +kernel
theorem d_Mo_open_66 : decode (am_Mof y_Mo_open).1 66 = .ok (.getfield 154, 3) := by decide +kernel
theorem d_Mo_open_69 : decode (am_Mof y_Mo_open).1 69 = .ok (.lneg, 1) := by decide +kernel
theorem d_Mo_open_70 : decode (am_Mof y_Mo_open).1 70 = .ok (.putfield 154, 3) := by decide +kernel
theorem d_Mo_open_73 : decode (am_Mof y_Mo_open).1 73 = .ok (.aload_n 0, 1) := by decide +kernel
theorem d_Mo_open_74 : decode (am_Mof y_Mo_open).1 74 = .ok (.iload_n 3, 1) := by decide +kernel
theorem d_Mo_open_75 : decode (am_Mof y_Mo_open).1 75 = .ok (.iconst 4, 1) := by decide +kernel
theorem d_Mo_open_76 : decode (am_Mof y_Mo_open).1 76 = .ok (.irem, 1) := by decide +kernel
theorem d_Mo_open_77 : decode (am_Mof y_Mo_open).1 77 = .ok (.iload_n 2, 1) := by decide +kernel
theorem d_Mo_open_78 : decode (am_Mof y_Mo_open).1 78 = .ok (.iconst (-1), 1) := by decide +kernel
theorem d_Mo_open_79 : decode (am_Mof y_Mo_open).1 79 = .ok (.iload_n 3, 1) := by decide +kernel
theorem d_Mo_open_80 : decode (am_Mof y_Mo_open).1 80 = .ok (.iconst 4, 1) := by decide +kernel
theorem d_Mo_open_81 : decode (am_Mof y_Mo_open).1 81 = .ok (.idiv, 1) := by decide +kernel
theorem d_Mo_open_82 : decode (am_Mof y_Mo_open).1 82 = .ok (.invokevirtual 168, 3) := by decide +kernel
theorem d_Mo_open_85 : decode (am_Mof y_Mo_open).1 85 = .ok (.iload 4, 2) := by decide +kernel
theorem d_Mo_open_87 : decode (am_Mof y_Mo_open).1 87 = .ok (.ifCond .ne 10, 3) := by decide +kernel
theorem d_Mo_open_90 : decode (am_Mof y_Mo_open).1 90 = .ok (.aload_n 0, 1) := by decide +kernel
theorem d_Mo_open_91 : decode (am_Mof y_Mo_open).1 91 = .ok (.getfield 154, 3) := by decide +kernel
theorem d_Mo_open_94 : decode (am_Mof y_Mo_open).1 94 = .ok (.goto 7, 3) := by decide +kernel
theorem d_Mo_open_97 : decode (am_Mof y_Mo_open).1 97 = .ok (.aload_n 0, 1) := by decide +kernel
theorem d_Mo_open_98 : decode (am_Mof y_Mo_open).1 98 = .ok (.getfield 158, 3) := by decide +kernel
theorem d_Mo_open_101 : decode (am_Mof y_Mo_open).1 101 = .ok (.lreturn, 1) := by decide +kernel
theorem d_Mo_audit_0 : decode (am_Mof y_Mo_audit).1 0 = .ok (.iload_n 3, 1) := by decide +kernel
theorem d_Mo_audit_1 : decode (am_Mof y_Mo_audit).1 1 = .ok (.iconst 1, 1) := by decide +kernel
theorem d_Mo_audit_2 : decode (am_Mof y_Mo_audit).1 2 = .ok (.if_icmp .lt 11, 3) := by decide +kernel
theorem d_Mo_audit_5 : decode (am_Mof y_Mo_audit).1 5 = .ok (.iload_n 3, 1) := by decide +kernel
theorem d_Mo_audit_6 : decode (am_Mof y_Mo_audit).1 6 = .ok (.aload_n 0, 1) := by decide +kernel
theorem d_Mo_audit_7 : decode (am_Mof y_Mo_audit).1 7 = .ok (.getfield 97, 3) := by decide +kernel
theorem d_Mo_audit_10 : decode (am_Mof y_Mo_audit).1 10 = .ok (.if_icmp .le 5, 3) := by decide +kernel
theorem d_Mo_audit_13 : decode (am_Mof y_Mo_audit).1 13 = .ok (.iconst (-1), 1) := by decide +kernel
theorem d_Mo_audit_14 : decode (am_Mof y_Mo_audit).1 14 = .ok (.ireturn, 1) := by decide +kernel
theorem d_Mo_audit_15 : decode (am_Mof y_Mo_audit).1 15 = .ok (.iconst 0, 1) := by decide +kernel
theorem d_Mo_audit_16 : decode (am_Mof y_Mo_audit).1 16 = .ok (.istore 4, 2) := by decide +kernel
theorem d_Mo_audit_18 : decode (am_Mof y_Mo_audit).1 18 = .ok (.iload 4, 2) := by decide +kernel
theorem d_Mo_audit_20 : decode (am_Mof y_Mo_audit).1 20 = .ok (.aload_n 0, 1) := by decide +kernel
theorem d_Mo_audit_21 : decode (am_Mof y_Mo_audit).1 21 = .ok (.getfield 97, 3) := by decide +kernel
theorem d_Mo_audit_24 : decode (am_Mof y_Mo_audit).1 24 = .ok (.if_icmp .ge 18, 3) := by decide +kernel
theorem d_Mo_audit_27 : decode (am_Mof y_Mo_audit).1 27 = .ok (.aload_n 0, 1) := by decide +kernel
theorem d_Mo_audit_28 : decode (am_Mof y_Mo_audit).1 28 = .ok (.getfield 60, 3) := by decide +kernel
theorem d_Mo_audit_31 : decode (am_Mof y_Mo_audit).1 31 = .ok (.iload 4, 2) := by decide +kernel
theorem d_Mo_audit_33 : decode (am_Mof y_Mo_audit).1 33 = .ok (.iload 4, 2) := by decide +kernel
theorem d_Mo_audit_35 : decode (am_Mof y_Mo_audit).1 35 = .ok (.iastore, 1) := by decide +kernel
theorem d_Mo_audit_36 : decode (am_Mof y_Mo_audit).1 36 = .ok (.iinc 4 1, 3) := by decide +kernel
theorem d_Mo_audit_39 : decode (am_Mof y_Mo_audit).1 39 = .ok (.goto (-21), 3) := by decide +kernel
theorem d_Mo_audit_42 : decode (am_Mof y_Mo_audit).1 42 = .ok (.lload_n 1, 1) := by decide +kernel
theorem d_Mo_audit_43 : decode (am_Mof y_Mo_audit).1 43 = .ok (.lstore 4, 2) := by decide +kernel
theorem d_Mo_audit_45 : decode (am_Mof y_Mo_audit).1 45 = .ok (.iconst 0, 1) := by decide +kernel
theorem d_Mo_audit_46 : decode (am_Mof y_Mo_audit).1 46 = .ok (.istore 6, 2) := by decide +kernel
theorem d_Mo_audit_48 : decode (am_Mof y_Mo_audit).1 48 = .ok (.iload 6, 2) := by decide +kernel
theorem d_Mo_audit_50 : decode (am_Mof y_Mo_audit).1 50 = .ok (.iload_n 3, 1) := by decide +kernel
theorem d_Mo_audit_51 : decode (am_Mof y_Mo_audit).1 51 = .ok (.if_icmp .ge 73, 3) := by decide +kernel
theorem d_Mo_audit_54 : decode (am_Mof y_Mo_audit).1 54 = .ok (.lload 4, 2) := by decide +kernel
theorem d_Mo_audit_56 : decode (am_Mof y_Mo_audit).1 56 = .ok (.ldc2_w 184, 3) := by decide +kernel
theorem d_Mo_audit_59 : decode (am_Mof y_Mo_audit).1 59 = .ok (.lmul, 1) := by decide +kernel
theorem d_Mo_audit_60 : decode (am_Mof y_Mo_audit).1 60 = .ok (.ldc2_w 186, 3) := by decide +kernel
theorem d_Mo_audit_63 : decode (am_Mof y_Mo_audit).1 63 = .ok (.ladd, 1) := by decide +kernel
theorem d_Mo_audit_64 : decode (am_Mof y_Mo_audit).1 64 = .ok (.lstore 4, 2) := by decide +kernel
theorem d_Mo_audit_66 : decode (am_Mof y_Mo_audit).1 66 = .ok (.iload 6, 2) := by decide +kernel
theorem d_Mo_audit_68 : decode (am_Mof y_Mo_audit).1 68 = .ok (.lload 4, 2) := by decide +kernel
theorem d_Mo_audit_70 : decode (am_Mof y_Mo_audit).1 70 = .ok (.bipush 33, 2) := by decide +kernel
theorem d_Mo_audit_72 : decode (am_Mof y_Mo_audit).1 72 = .ok (.lushr, 1) := by decide +kernel
theorem d_Mo_audit_73 : decode (am_Mof y_Mo_audit).1 73 = .ok (.aload_n 0, 1) := by decide +kernel
theorem d_Mo_audit_74 : decode (am_Mof y_Mo_audit).1 74 = .ok (.getfield 97, 3) := by decide +kernel
theorem d_Mo_audit_77 : decode (am_Mof y_Mo_audit).1 77 = .ok (.iload 6, 2) := by decide +kernel
theorem d_Mo_audit_79 : decode (am_Mof y_Mo_audit).1 79 = .ok (.isub, 1) := by decide +kernel
theorem d_Mo_audit_80 : decode (am_Mof y_Mo_audit).1 80 = .ok (.i2l, 1) := by decide +kernel
theorem d_Mo_audit_81 : decode (am_Mof y_Mo_audit).1 81 = .ok (.lrem, 1) := by decide +kernel
theorem d_Mo_audit_82 : decode (am_Mof y_Mo_audit).1 82 = .ok (.l2i, 1) := by decide +kernel
theorem d_Mo_audit_83 : decode (am_Mof y_Mo_audit).1 83 = .ok (.iadd, 1) := by decide +kernel
theorem d_Mo_audit_84 : decode (am_Mof y_Mo_audit).1 84 = .ok (.istore 7, 2) := by decide +kernel
theorem d_Mo_audit_86 : decode (am_Mof y_Mo_audit).1 86 = .ok (.aload_n 0, 1) := by decide +kernel
theorem d_Mo_audit_87 : decode (am_Mof y_Mo_audit).1 87 = .ok (.getfield 60, 3) := by decide +kernel
theorem d_Mo_audit_90 : decode (am_Mof y_Mo_audit).1 90 = .ok (.iload 6, 2) := by decide +kernel
theorem d_Mo_audit_92 : decode (am_Mof y_Mo_audit).1 92 = .ok (.iaload, 1) := by decide +kernel
theorem d_Mo_audit_93 : decode (am_Mof y_Mo_audit).1 93 = .ok (.istore 8, 2) := by decide +kernel
theorem d_Mo_audit_95 : decode (am_Mof y_Mo_audit).1 95 = .ok (.aload_n 0, 1) := by decide +kernel
theorem d_Mo_audit_96 : decode (am_Mof y_Mo_audit).1 96 = .ok (.getfield 60, 3) := by decide +kernel
theorem d_Mo_audit_99 : decode (am_Mof y_Mo_audit).1 99 = .ok (.iload 6, 2) := by decide +kernel
theorem d_Mo_audit_101 : decode (am_Mof y_Mo_audit).1 101 = .ok (.aload_n 0, 1) := by decide +kernel
theorem d_Mo_audit_102 : decode (am_Mof y_Mo_audit).1 102 = .ok (.getfield 60, 3) := by decide +kernel
theorem d_Mo_audit_105 : decode (am_Mof y_Mo_audit).1 105 = .ok (.iload 7, 2) := by decide +kernel
theorem d_Mo_audit_107 : decode (am_Mof y_Mo_audit).1 107 = .ok (.iaload, 1) := by decide +kernel
theorem d_Mo_audit_108 : decode (am_Mof y_Mo_audit).1 108 = .ok (.iastore, 1) := by decide +kernel
theorem d_Mo_audit_109 : decode (am_Mof y_Mo_audit).1 109 = .ok (.aload_n 0, 1) := by decide +kernel
theorem d_Mo_audit_110 : decode (am_Mof y_Mo_audit).1 110 = .ok (.getfield 60, 3) := by decide +kernel
theorem d_Mo_audit_113 : decode (am_Mof y_Mo_audit).1 113 = .ok (.iload 7, 2) := by decide +kernel
theorem d_Mo_audit_115 : decode (am_Mof y_Mo_audit).1 115 = .ok (.iload 8, 2) := by decide +kernel
theorem d_Mo_audit_117 : decode (am_Mof y_Mo_audit).1 117 = .ok (.iastore, 1) := by decide +kernel
theorem d_Mo_audit_118 : decode (am_Mof y_Mo_audit).1 118 = .ok (.iinc 6 1, 3) := by decide +kernel
theorem d_Mo_audit_121 : decode (am_Mof y_Mo_audit).1 121 = .ok (.goto (-73), 3) := by decide +kernel
theorem d_Mo_audit_124 : decode (am_Mof y_Mo_audit).1 124 = .ok (.aload_n 0, 1) := by decide +kernel
theorem d_Mo_audit_125 : decode (am_Mof y_Mo_audit).1 125 = .ok (.iload_n 3, 1) := by decide +kernel
theorem d_Mo_audit_126 : decode (am_Mof y_Mo_audit).1 126 = .ok (.putfield 188, 3) := by decide +kernel
theorem d_Mo_audit_129 : decode (am_Mof y_Mo_audit).1 129 = .ok (.iload_n 3, 1) := by decide +kernel
theorem d_Mo_audit_130 : decode (am_Mof y_Mo_audit).1 130 = .ok (.ireturn, 1) := by decide +kernel
theorem d_Mo_drawn_0 : decode (am_Mof y_Mo_drawn).1 0 = .ok (.iload_n 1, 1) := by decide +kernel
theorem d_Mo_drawn_1 : decode (am_Mof y_Mo_drawn).1 1 = .ok (.ifCond .lt 20, 3) := by decide +kernel
theorem d_Mo_drawn_4 : decode (am_Mof y_Mo_drawn).1 4 = .ok (.iload_n 1, 1) := by decide +kernel
theorem d_Mo_drawn_5 : decode (am_Mof y_Mo_drawn).1 5 = .ok (.aload_n 0, 1) := by decide +kernel
theorem d_Mo_drawn_6 : decode (am_Mof y_Mo_drawn).1 6 = .ok (.getfield 188, 3) := by decide +kernel
theorem d_Mo_drawn_9 : decode (am_Mof y_Mo_drawn).1 9 = .ok (.if_icmp .ge 12, 3) := by decide +kernel
theorem d_Mo_drawn_12 : decode (am_Mof y_Mo_drawn).1 12 = .ok (.aload_n 0, 1) := by decide +kernel
theorem d_Mo_drawn_13 : decode (am_Mof y_Mo_drawn).1 13 = .ok (.getfield 60, 3) := by decide +kernel
theorem d_Mo_drawn_16 : decode (am_Mof y_Mo_drawn).1 16 = .ok (.iload_n 1, 1) := by decide +kernel
theorem d_Mo_drawn_17 : decode (am_Mof y_Mo_drawn).1 17 = .ok (.iaload, 1) := by decide +kernel
theorem d_Mo_drawn_18 : decode (am_Mof y_Mo_drawn).1 18 = .ok (.goto 4, 3) := by decide +kernel
theorem d_Mo_drawn_21 : decode (am_Mof y_Mo_drawn).1 21 = .ok (.iconst (-1), 1) := by decide +kernel
theorem d_Mo_drawn_22 : decode (am_Mof y_Mo_drawn).1 22 = .ok (.ireturn, 1) := by decide +kernel
theorem d_Mo_unit_0 : decode (am_Mof y_Mo_unit).1 0 = .ok (.iload_n 1, 1) := by decide +kernel
theorem d_Mo_unit_1 : decode (am_Mof y_Mo_unit).1 1 = .ok (.ifCond .lt 20, 3) := by decide +kernel
theorem d_Mo_unit_4 : decode (am_Mof y_Mo_unit).1 4 = .ok (.iload_n 1, 1) := by decide +kernel
theorem d_Mo_unit_5 : decode (am_Mof y_Mo_unit).1 5 = .ok (.sipush 255, 3) := by decide +kernel
theorem d_Mo_unit_8 : decode (am_Mof y_Mo_unit).1 8 = .ok (.if_icmp .gt 13, 3) := by decide +kernel
theorem d_Mo_unit_11 : decode (am_Mof y_Mo_unit).1 11 = .ok (.aload_n 0, 1) := by decide +kernel
theorem d_Mo_unit_12 : decode (am_Mof y_Mo_unit).1 12 = .ok (.getfield 191, 3) := by decide +kernel
theorem d_Mo_unit_15 : decode (am_Mof y_Mo_unit).1 15 = .ok (.sipush 200, 3) := by decide +kernel
theorem d_Mo_unit_18 : decode (am_Mof y_Mo_unit).1 18 = .ok (.if_icmp .ne 5, 3) := by decide +kernel
theorem d_Mo_unit_21 : decode (am_Mof y_Mo_unit).1 21 = .ok (.iconst 0, 1) := by decide +kernel
theorem d_Mo_unit_22 : decode (am_Mof y_Mo_unit).1 22 = .ok (.ireturn, 1) := by decide +kernel
theorem d_Mo_unit_23 : decode (am_Mof y_Mo_unit).1 23 = .ok (.aload_n 0, 1) := by decide +kernel
theorem d_Mo_unit_24 : decode (am_Mof y_Mo_unit).1 24 = .ok (.getfield 63, 3) := by decide +kernel
theorem d_Mo_unit_27 : decode (am_Mof y_Mo_unit).1 27 = .ok (.aload_n 0, 1) := by decide +kernel
theorem d_Mo_unit_28 : decode (am_Mof y_Mo_unit).1 28 = .ok (.getfield 191, 3) := by decide +kernel
theorem d_Mo_unit_31 : decode (am_Mof y_Mo_unit).1 31 = .ok (.iload_n 1, 1) := by decide +kernel
theorem d_Mo_unit_32 : decode (am_Mof y_Mo_unit).1 32 = .ok (.iastore, 1) := by decide +kernel
theorem d_Mo_unit_33 : decode (am_Mof y_Mo_unit).1 33 = .ok (.aload_n 0, 1) := by decide +kernel
theorem d_Mo_unit_34 : decode (am_Mof y_Mo_unit).1 34 = .ok (.dup, 1) := by decide +kernel
theorem d_Mo_unit_35 : decode (am_Mof y_Mo_unit).1 35 = .ok (.getfield 191, 3) := by decide +kernel
theorem d_Mo_unit_38 : decode (am_Mof y_Mo_unit).1 38 = .ok (.iconst 1, 1) := by decide +kernel
theorem d_Mo_unit_39 : decode (am_Mof y_Mo_unit).1 39 = .ok (.iadd, 1) := by decide +kernel
theorem d_Mo_unit_40 : decode (am_Mof y_Mo_unit).1 40 = .ok (.putfield 191, 3) := by decide +kernel
theorem d_Mo_unit_43 : decode (am_Mof y_Mo_unit).1 43 = .ok (.iconst 1, 1) := by decide +kernel
theorem d_Mo_unit_44 : decode (am_Mof y_Mo_unit).1 44 = .ok (.ireturn, 1) := by decide +kernel
theorem d_Mo_form_0 : decode (am_Mof y_Mo_form).1 0 = .ok (.iload_n 1, 1) := by decide +kernel
theorem d_Mo_form_1 : decode (am_Mof y_Mo_form).1 1 = .ok (.ifCond .ge 5, 3) := by decide +kernel
theorem d_Mo_form_4 : decode (am_Mof y_Mo_form).1 4 = .ok (.iconst (-1), 1) := by decide +kernel
theorem d_Mo_form_5 : decode (am_Mof y_Mo_form).1 5 = .ok (.ireturn, 1) := by decide +kernel
theorem d_Mo_form_6 : decode (am_Mof y_Mo_form).1 6 = .ok (.iconst 0, 1) := by decide +kernel
theorem d_Mo_form_7 : decode (am_Mof y_Mo_form).1 7 = .ok (.istore_n 2, 1) := by decide +kernel
theorem d_Mo_form_8 : decode (am_Mof y_Mo_form).1 8 = .ok (.iload_n 1, 1) := by decide +kernel
theorem d_Mo_form_9 : decode (am_Mof y_Mo_form).1 9 = .ok (.istore_n 3, 1) := by decide +kernel
theorem d_Mo_form_10 : decode (am_Mof y_Mo_form).1 10 = .ok (.iload_n 2, 1) := by decide +kernel
theorem d_Mo_form_11 : decode (am_Mof y_Mo_form).1 11 = .ok (.aload_n 0, 1) := by decide +kernel
theorem d_Mo_form_12 : decode (am_Mof y_Mo_form).1 12 = .ok (.getfield 191, 3) := by decide +kernel
theorem d_Mo_form_15 : decode (am_Mof y_Mo_form).1 15 = .ok (.if_icmp .ge 138, 3) := by decide +kernel
theorem d_Mo_form_18 : decode (am_Mof y_Mo_form).1 18 = .ok (.iconst 1, 1) := by decide +kernel
theorem d_Mo_form_19 : decode (am_Mof y_Mo_form).1 19 = .ok (.istore 4, 2) := by decide +kernel
theorem d_Mo_form_21 : decode (am_Mof y_Mo_form).1 21 = .ok (.ldc2_w 172, 3) := by decide +kernel
theorem d_Mo_form_24 : decode (am_Mof y_Mo_form).1 24 = .ok (.lstore 5, 2) := by decide +kernel
theorem d_Mo_form_26 : decode (am_Mof y_Mo_form).1 26 = .ok (.aload_n 0, 1) := by decide +kernel
theorem d_Mo_form_27 : decode (am_Mof y_Mo_form).1 27 = .ok (.iload_n 2, 1) := by decide +kernel
theorem d_Mo_form_28 : decode (am_Mof y_Mo_form).1 28 = .ok (.invokevirtual 198, 3) := by decide +kernel
theorem d_Mo_form_31 : decode (am_Mof y_Mo_form).1 31 = .ok (.istore 7, 2) := by decide +kernel
theorem d_Mo_form_33 : decode (am_Mof y_Mo_form).1 33 = .ok (.iload 7, 2) := by decide +kernel
theorem d_Mo_form_35 : decode (am_Mof y_Mo_form).1 35 = .ok (.ifCond .eq 55, 3) := by decide +kernel
theorem d_Mo_form_38 : decode (am_Mof y_Mo_form).1 38 = .ok (.aload_n 0, 1) := by decide +kernel
theorem d_Mo_form_39 : decode (am_Mof y_Mo_form).1 39 = .ok (.getfield 141, 3) := by decide +kernel
theorem d_Mo_form_42 : decode (am_Mof y_Mo_form).1 42 = .ok (.ifCond .eq 48, 3) := by decide +kernel
theorem d_Mo_form_45 : decode (am_Mof y_Mo_form).1 45 = .ok (.aload_n 0, 1) := by decide +kernel
theorem d_Mo_form_46 : decode (am_Mof y_Mo_form).1 46 = .ok (.aload_n 0, 1) := by decide +kernel
theorem d_Mo_form_47 : decode (am_Mof y_Mo_form).1 47 = .ok (.getfield 63, 3) := by decide +kernel
theorem d_Mo_form_50 : decode (am_Mof y_Mo_form).1 50 = .ok (.iload_n 2, 1) := by decide +kernel
theorem d_Mo_form_51 : decode (am_Mof y_Mo_form).1 51 = .ok (.iconst 1, 1) := by decide +kernel
theorem d_Mo_form_52 : decode (am_Mof y_Mo_form).1 52 = .ok (.iadd, 1) := by decide +kernel
theorem d_Mo_form_53 : decode (am_Mof y_Mo_form).1 53 = .ok (.iaload, 1) := by decide +kernel
theorem d_Mo_form_54 : decode (am_Mof y_Mo_form).1 54 = .ok (.bipush 48, 2) := by decide +kernel
theorem d_Mo_form_56 : decode (am_Mof y_Mo_form).1 56 = .ok (.isub, 1) := by decide +kernel
theorem d_Mo_form_57 : decode (am_Mof y_Mo_form).1 57 = .ok (.aload_n 0, 1) := by decide +kernel
theorem d_Mo_form_58 : decode (am_Mof y_Mo_form).1 58 = .ok (.getfield 63, 3) := by decide +kernel
theorem d_Mo_form_61 : decode (am_Mof y_Mo_form).1 61 = .ok (.iload_n 2, 1) := by decide +kernel
theorem d_Mo_form_62 : decode (am_Mof y_Mo_form).1 62 = .ok (.iconst 2, 1) := by decide +kernel
theorem d_Mo_form_63 : decode (am_Mof y_Mo_form).1 63 = .ok (.iadd, 1) := by decide +kernel
theorem d_Mo_form_64 : decode (am_Mof y_Mo_form).1 64 = .ok (.iaload, 1) := by decide +kernel
theorem d_Mo_form_65 : decode (am_Mof y_Mo_form).1 65 = .ok (.bipush 48, 2) := by decide +kernel
theorem d_Mo_form_67 : decode (am_Mof y_Mo_form).1 67 = .ok (.isub, 1) := by decide +kernel
theorem d_Mo_form_68 : decode (am_Mof y_Mo_form).1 68 = .ok (.iconst (-1), 1) := by decide +kernel
theorem d_Mo_form_69 : decode (am_Mof y_Mo_form).1 69 = .ok (.invokevirtual 174, 3) := by decide +kernel
theorem d_Mo_form_72 : decode (am_Mof y_Mo_form).1 72 = .ok (.aload_n 0, 1) := by decide +kernel
theorem d_Mo_form_73 : decode (am_Mof y_Mo_form).1 73 = .ok (.getfield 154, 3) := by decide +kernel
theorem d_Mo_form_76 : decode (am_Mof y_Mo_form).1 76 = .ok (.aload_n 0, 1) := by decide +kernel
theorem d_Mo_form_77 : decode (am_Mof y_Mo_form).1 77 = .ok (.getfield 158, 3) := by decide +kernel
theorem d_Mo_form_80 : decode (am_Mof y_Mo_form).1 80 = .ok (.ldiv, 1) := by decide +kernel
theorem d_Mo_form_81 : decode (am_Mof y_Mo_form).1 81 = .ok (.lstore 5, 2) := by decide +kernel
theorem d_Mo_form_83 : decode (am_Mof y_Mo_form).1 83 = .ok (.lload 5, 2) := by decide +kernel
theorem d_Mo_form_85 : decode (am_Mof y_Mo_form).1 85 = .ok (.invokestatic 194, 3) := by decide +kernel
theorem d_Mo_form_88 : decode (am_Mof y_Mo_form).1 88 = .ok (.istore 4, 2) := by decide +kernel
theorem d_Mo_form_90 : decode (am_Mof y_Mo_form).1 90 = .ok (.iload_n 3, 1) := by decide +kernel
theorem d_Mo_form_91 : decode (am_Mof y_Mo_form).1 91 = .ok (.iload 4, 2) := by decide +kernel
theorem d_Mo_form_93 : decode (am_Mof y_Mo_form).1 93 = .ok (.if_icmp .ge 39, 3) := by decide +kernel
theorem d_Mo_form_96 : decode (am_Mof y_Mo_form).1 96 = .ok (.iload 7, 2) := by decide +kernel
theorem d_Mo_form_98 : decode (am_Mof y_Mo_form).1 98 = .ok (.ifCond .ne 12, 3) := by decide +kernel
theorem d_Mo_form_101 : decode (am_Mof y_Mo_form).1 101 = .ok (.aload_n 0, 1) := by decide +kernel
theorem d_Mo_form_102 : decode (am_Mof y_Mo_form).1 102 = .ok (.getfield 63, 3) := by decide +kernel
theorem d_Mo_form_105 : decode (am_Mof y_Mo_form).1 105 = .ok (.iload_n 2, 1) := by decide +kernel
theorem d_Mo_form_106 : decode (am_Mof y_Mo_form).1 106 = .ok (.iaload, 1) := by decide +kernel
theorem d_Mo_form_107 : decode (am_Mof y_Mo_form).1 107 = .ok (.goto 24, 3) := by decide +kernel
theorem d_Mo_form_110 : decode (am_Mof y_Mo_form).1 110 = .ok (.aload_n 0, 1) := by decide +kernel
theorem d_Mo_form_111 : decode (am_Mof y_Mo_form).1 111 = .ok (.getfield 141, 3) := by decide +kernel
theorem d_Mo_form_114 : decode (am_Mof y_Mo_form).1 114 = .ok (.ifCond .eq 15, 3) := by decide +kernel
theorem d_Mo_form_117 : decode (am_Mof y_Mo_form).1 117 = .ok (.bipush 48, 2) := by decide +kernel
theorem d_Mo_form_119 : decode (am_Mof y_Mo_form).1 119 = .ok (.lload 5, 2) := by decide +kernel
theorem d_Mo_form_121 : decode (am_Mof y_Mo_form).1 121 = .ok (.iload_n 3, 1) := by decide +kernel
theorem d_Mo_form_122 : decode (am_Mof y_Mo_form).1 122 = .ok (.invokestatic 201, 3) := by decide +kernel
theorem d_Mo_form_125 : decode (am_Mof y_Mo_form).1 125 = .ok (.iadd, 1) := by decide +kernel
theorem d_Mo_form_126 : decode (am_Mof y_Mo_form).1 126 = .ok (.goto 5, 3) := by decide +kernel
theorem d_Mo_form_129 : decode (am_Mof y_Mo_form).1 129 = .ok (.bipush 45, 2) := by decide +kernel
theorem d_Mo_form_131 : decode (am_Mof y_Mo_form).1 131 = .ok (.ireturn, 1) := by decide +kernel
theorem d_Mo_form_132 : decode (am_Mof y_Mo_form).1 132 = .ok (.iload_n 3, 1) := by decide +kernel
theorem d_Mo_form_133 : decode (am_Mof y_Mo_form).1 133 = .ok (.iload 4, 2) := by decide +kernel
theorem d_Mo_form_135 : decode (am_Mof y_Mo_form).1 135 = .ok (.isub, 1) := by decide +kernel
theorem d_Mo_form_136 : decode (am_Mof y_Mo_form).1 136 = .ok (.istore_n 3, 1) := by decide +kernel
theorem d_Mo_form_137 : decode (am_Mof y_Mo_form).1 137 = .ok (.iload_n 2, 1) := by decide +kernel
theorem d_Mo_form_138 : decode (am_Mof y_Mo_form).1 138 = .ok (.iload 7, 2) := by decide +kernel
theorem d_Mo_form_140 : decode (am_Mof y_Mo_form).1 140 = .ok (.ifCond .eq 7, 3) := by decide +kernel
theorem d_Mo_form_143 : decode (am_Mof y_Mo_form).1 143 = .ok (.iconst 3, 1) := by decide +kernel
theorem d_Mo_form_144 : decode (am_Mof y_Mo_form).1 144 = .ok (.goto 4, 3) := by decide +kernel
theorem d_Mo_form_147 : decode (am_Mof y_Mo_form).1 147 = .ok (.iconst 1, 1) := by decide +kernel
theorem d_Mo_form_148 : decode (am_Mof y_Mo_form).1 148 = .ok (.iadd, 1) := by decide +kernel
theorem d_Mo_form_149 : decode (am_Mof y_Mo_form).1 149 = .ok (.istore_n 2, 1) := by decide +kernel
theorem d_Mo_form_150 : decode (am_Mof y_Mo_form).1 150 = .ok (.goto (-140), 3) := by decide +kernel
theorem d_Mo_form_153 : decode (am_Mof y_Mo_form).1 153 = .ok (.iconst (-1), 1) := by decide +kernel
theorem d_Mo_form_154 : decode (am_Mof y_Mo_form).1 154 = .ok (.ireturn, 1) := by decide +kernel
theorem d_Mo_isNumberAt_0 : decode (am_Mof y_Mo_isNumberAt).1 0 = .ok (.iload_n 1, 1) := by decide +kernel
theorem d_Mo_isNumberAt_1 : decode (am_Mof y_Mo_isNumberAt).1 1 = .ok (.iconst 2, 1) := by decide +kernel
theorem d_Mo_isNumberAt_2 : decode (am_Mof y_Mo_isNumberAt).1 2 = .ok (.iadd, 1) := by decide +kernel
theorem d_Mo_isNumberAt_3 : decode (am_Mof y_Mo_isNumberAt).1 3 = .ok (.aload_n 0, 1) := by decide +kernel
theorem d_Mo_isNumberAt_4 : decode (am_Mof y_Mo_isNumberAt).1 4 = .ok (.getfield 191, 3) := by decide +kernel
theorem d_Mo_isNumberAt_7 : decode (am_Mof y_Mo_isNumberAt).1 7 = .ok (.if_icmp .ge 70, 3) := by decide +kernel
theorem d_Mo_isNumberAt_10 : decode (am_Mof y_Mo_isNumberAt).1 10 = .ok (.aload_n 0, 1) := by decide +kernel
theorem d_Mo_isNumberAt_11 : decode (am_Mof y_Mo_isNumberAt).1 11 = .ok (.getfield 63, 3) := by decide +kernel
theorem d_Mo_isNumberAt_14 : decode (am_Mof y_Mo_isNumberAt).1 14 = .ok (.iload_n 1, 1) := by decide +kernel
theorem d_Mo_isNumberAt_15 : decode (am_Mof y_Mo_isNumberAt).1 15 = .ok (.iaload, 1) := by decide +kernel
theorem d_Mo_isNumberAt_16 : decode (am_Mof y_Mo_isNumberAt).1 16 = .ok (.bipush 35, 2) := by decide +kernel
theorem d_Mo_isNumberAt_18 : decode (am_Mof y_Mo_isNumberAt).1 18 = .ok (.if_icmp .ne 59, 3) := by decide +kernel
theorem d_Mo_isNumberAt_21 : decode (am_Mof y_Mo_isNumberAt).1 21 = .ok (.aload_n 0, 1) := by decide +kernel
theorem d_Mo_isNumberAt_22 : decode (am_Mof y_Mo_isNumberAt).1 22 = .ok (.getfield 63, 3) := by decide +kernel
theorem d_Mo_isNumberAt_25 : decode (am_Mof y_Mo_isNumberAt).1 25 = .ok (.iload_n 1, 1) := by decide +kernel
theorem d_Mo_isNumberAt_26 : decode (am_Mof y_Mo_isNumberAt).1 26 = .ok (.iconst 1, 1) := by decide +kernel
theorem d_Mo_isNumberAt_27 : decode (am_Mof y_Mo_isNumberAt).1 27 = .ok (.iadd, 1) := by decide +kernel
theorem d_Mo_isNumberAt_28 : decode (am_Mof y_Mo_isNumberAt).1 28 = .ok (.iaload, 1) := by decide +kernel
theorem d_Mo_isNumberAt_29 : decode (am_Mof y_Mo_isNumberAt).1 29 = .ok (.bipush 48, 2) := by decide +kernel
theorem d_Mo_isNumberAt_31 : decode (am_Mof y_Mo_isNumberAt).1 31 = .ok (.if_icmp .lt 46, 3) := by decide +kernel
theorem d_Mo_isNumberAt_34 : decode (am_Mof y_Mo_isNumberAt).1 34 = .ok (.aload_n 0, 1) := by decide +kernel
theorem d_Mo_isNumberAt_35 : decode (am_Mof y_Mo_isNumberAt).1 35 = .ok (.getfield 63, 3) := by decide +kernel
theorem d_Mo_isNumberAt_38 : decode (am_Mof y_Mo_isNumberAt).1 38 = .ok (.iload_n 1, 1) := by decide +kernel
theorem d_Mo_isNumberAt_39 : decode (am_Mof y_Mo_isNumberAt).1 39 = .ok (.iconst 1, 1) := by decide +kernel
theorem d_Mo_isNumberAt_40 : decode (am_Mof y_Mo_isNumberAt).1 40 = .ok (.iadd, 1) := by decide +kernel
theorem d_Mo_isNumberAt_41 : decode (am_Mof y_Mo_isNumberAt).1 41 = .ok (.iaload, 1) := by decide +kernel
theorem d_Mo_isNumberAt_42 : decode (am_Mof y_Mo_isNumberAt).1 42 = .ok (.bipush 51, 2) := by decide +kernel
theorem d_Mo_isNumberAt_44 : decode (am_Mof y_Mo_isNumberAt).1 44 = .ok (.if_icmp .gt 33, 3) := by decide +kernel
theorem d_Mo_isNumberAt_47 : decode (am_Mof y_Mo_isNumberAt).1 47 = .ok (.aload_n 0, 1) := by decide +kernel
theorem d_Mo_isNumberAt_48 : decode (am_Mof y_Mo_isNumberAt).1 48 = .ok (.getfield 63, 3) := by decide +kernel
theorem d_Mo_isNumberAt_51 : decode (am_Mof y_Mo_isNumberAt).1 51 = .ok (.iload_n 1, 1) := by decide +kernel
theorem d_Mo_isNumberAt_52 : decode (am_Mof y_Mo_isNumberAt).1 52 = .ok (.iconst 2, 1) := by decide +kernel
theorem d_Mo_isNumberAt_53 : decode (am_Mof y_Mo_isNumberAt).1 53 = .ok (.iadd, 1) := by decide +kernel
theorem d_Mo_isNumberAt_54 : decode (am_Mof y_Mo_isNumberAt).1 54 = .ok (.iaload, 1) := by decide +kernel
theorem d_Mo_isNumberAt_55 : decode (am_Mof y_Mo_isNumberAt).1 55 = .ok (.bipush 48, 2) := by decide +kernel
theorem d_Mo_isNumberAt_57 : decode (am_Mof y_Mo_isNumberAt).1 57 = .ok (.if_icmp .lt 20, 3) := by decide +kernel
theorem d_Mo_isNumberAt_60 : decode (am_Mof y_Mo_isNumberAt).1 60 = .ok (.aload_n 0, 1) := by decide +kernel
theorem d_Mo_isNumberAt_61 : decode (am_Mof y_Mo_isNumberAt).1 61 = .ok (.getfield 63, 3) := by decide +kernel
theorem d_Mo_isNumberAt_64 : decode (am_Mof y_Mo_isNumberAt).1 64 = .ok (.iload_n 1, 1) := by decide +kernel
theorem d_Mo_isNumberAt_65 : decode (am_Mof y_Mo_isNumberAt).1 65 = .ok (.iconst 2, 1) := by decide +kernel
theorem d_Mo_isNumberAt_66 : decode (am_Mof y_Mo_isNumberAt).1 66 = .ok (.iadd, 1) := by decide +kernel
theorem d_Mo_isNumberAt_67 : decode (am_Mof y_Mo_isNumberAt).1 67 = .ok (.iaload, 1) := by decide +kernel
theorem d_Mo_isNumberAt_68 : decode (am_Mof y_Mo_isNumberAt).1 68 = .ok (.bipush 57, 2) := by decide +kernel
theorem d_Mo_isNumberAt_70 : decode (am_Mof y_Mo_isNumberAt).1 70 = .ok (.if_icmp .gt 7, 3) := by decide +kernel
theorem d_Mo_isNumberAt_73 : decode (am_Mof y_Mo_isNumberAt).1 73 = .ok (.iconst 1, 1) := by decide +kernel
theorem d_Mo_isNumberAt_74 : decode (am_Mof y_Mo_isNumberAt).1 74 = .ok (.goto 4, 3) := by decide +kernel
theorem d_Mo_isNumberAt_77 : decode (am_Mof y_Mo_isNumberAt).1 77 = .ok (.iconst 0, 1) := by decide +kernel
theorem d_Mo_isNumberAt_78 : decode (am_Mof y_Mo_isNumberAt).1 78 = .ok (.ireturn, 1) := by decide +kernel
theorem d_Mo_length_0 : decode (am_Mof y_Mo_length).1 0 = .ok (.iconst 1, 1) := by decide +kernel
theorem d_Mo_length_1 : decode (am_Mof y_Mo_length).1 1 = .ok (.istore_n 2, 1) := by decide +kernel
theorem d_Mo_length_2 : decode (am_Mof y_Mo_length).1 2 = .ok (.lload_n 0, 1) := by decide +kernel
theorem d_Mo_length_3 : decode (am_Mof y_Mo_length).1 3 = .ok (.ldc2_w 80, 3) := by decide +kernel
theorem d_Mo_length_6 : decode (am_Mof y_Mo_length).1 6 = .ok (.ldiv, 1) := by decide +kernel
theorem d_Mo_length_7 : decode (am_Mof y_Mo_length).1 7 = .ok (.lstore_n 3, 1) := by decide +kernel
theorem d_Mo_length_8 : decode (am_Mof y_Mo_length).1 8 = .ok (.lload_n 3, 1) := by decide +kernel
theorem d_Mo_length_9 : decode (am_Mof y_Mo_length).1 9 = .ok (.lconst 0, 1) := by decide +kernel
theorem d_Mo_length_10 : decode (am_Mof y_Mo_length).1 10 = .ok (.lcmp, 1) := by decide +kernel
theorem d_Mo_length_11 : decode (am_Mof y_Mo_length).1 11 = .ok (.ifCond .le 15, 3) := by decide +kernel
theorem d_Mo_length_14 : decode (am_Mof y_Mo_length).1 14 = .ok (.iinc 2 1, 3) := by decide +kernel
theorem d_Mo_length_17 : decode (am_Mof y_Mo_length).1 17 = .ok (.lload_n 3, 1) := by decide +kernel
theorem d_Mo_length_18 : decode (am_Mof y_Mo_length).1 18 = .ok (.ldc2_w 80, 3) := by decide +kernel
theorem d_Mo_length_21 : decode (am_Mof y_Mo_length).1 21 = .ok (.ldiv, 1) := by decide +kernel
theorem d_Mo_length_22 : decode (am_Mof y_Mo_length).1 22 = .ok (.lstore_n 3, 1) := by decide +kernel
theorem d_Mo_length_23 : decode (am_Mof y_Mo_length).1 23 = .ok (.goto (-15), 3) := by decide +kernel
theorem d_Mo_length_26 : decode (am_Mof y_Mo_length).1 26 = .ok (.iload_n 2, 1) := by decide +kernel
theorem d_Mo_length_27 : decode (am_Mof y_Mo_length).1 27 = .ok (.ireturn, 1) := by decide +kernel
theorem d_Mo_digit_0 : decode (am_Mof y_Mo_digit).1 0 = .ok (.lload_n 0, 1) := by decide +kernel
theorem d_Mo_digit_1 : decode (am_Mof y_Mo_digit).1 1 = .ok (.lstore_n 3, 1) := by decide +kernel
theorem d_Mo_digit_2 : decode (am_Mof y_Mo_digit).1 2 = .ok (.lload_n 0, 1) := by decide +kernel
theorem d_Mo_digit_3 : decode (am_Mof y_Mo_digit).1 3 = .ok (.invokestatic 194, 3) := by decide +kernel
theorem d_Mo_digit_6 : decode (am_Mof y_Mo_digit).1 6 = .ok (.iconst 1, 1) := by decide +kernel
theorem d_Mo_digit_7 : decode (am_Mof y_Mo_digit).1 7 = .ok (.isub, 1) := by decide +kernel
theorem d_Mo_digit_8 : decode (am_Mof y_Mo_digit).1 8 = .ok (.istore 5, 2) := by decide +kernel
theorem d_Mo_digit_10 : decode (am_Mof y_Mo_digit).1 10 = .ok (.iload 5, 2) := by decide +kernel
theorem d_Mo_digit_12 : decode (am_Mof y_Mo_digit).1 12 = .ok (.iload_n 2, 1) := by decide +kernel
theorem d_Mo_digit_13 : decode (am_Mof y_Mo_digit).1 13 = .ok (.if_icmp .le 15, 3) := by decide +kernel
theorem d_Mo_digit_16 : decode (am_Mof y_Mo_digit).1 16 = .ok (.lload_n 3, 1) := by decide +kernel
theorem d_Mo_digit_17 : decode (am_Mof y_Mo_digit).1 17 = .ok (.ldc2_w 80, 3) := by decide +kernel
theorem d_Mo_digit_20 : decode (am_Mof y_Mo_digit).1 20 = .ok (.ldiv, 1) := by decide +kernel
theorem d_Mo_digit_21 : decode (am_Mof y_Mo_digit).1 21 = .ok (.lstore_n 3, 1) := by decide +kernel
theorem d_Mo_digit_22 : decode (am_Mof y_Mo_digit).1 22 = .ok (.iinc 5 (-1), 3) := by decide +kernel
theorem d_Mo_digit_25 : decode (am_Mof y_Mo_digit).1 25 = .ok (.goto (-15), 3) := by decide +kernel
theorem d_Mo_digit_28 : decode (am_Mof y_Mo_digit).1 28 = .ok (.lload_n 3, 1) := by decide +kernel
theorem d_Mo_digit_29 : decode (am_Mof y_Mo_digit).1 29 = .ok (.ldc2_w 80, 3) := by decide +kernel
theorem d_Mo_digit_32 : decode (am_Mof y_Mo_digit).1 32 = .ok (.lrem, 1) := by decide +kernel
theorem d_Mo_digit_33 : decode (am_Mof y_Mo_digit).1 33 = .ok (.l2i, 1) := by decide +kernel
theorem d_Mo_digit_34 : decode (am_Mof y_Mo_digit).1 34 = .ok (.ireturn, 1) := by decide +kernel
end
section
theorem mk_RC_init : am_mk y_RC_init 0 := ⟨am_in 50 (by decide +kernel) (by decide +kernel), ⟨by decide +kernel, by decide +kernel⟩, by decide +kernel, by decide, am_in 37 (by decide +kernel) (by decide +kernel)⟩
theorem is_RC_init : Cond.instanceMethod ⟨"RateChains", "<init>", "()V"⟩ ∈ am_G ∧ (⟨"RateChains", "<init>", "()V"⟩ : MethodName).name = "<init>" ∧ (none : Option FieldType) = none := ⟨am_in 49 (by decide +kernel) (by decide +kernel), rfl, rfl⟩
theorem mk_Pl_init : am_mk y_Pl_init 0 := ⟨am_in 58 (by decide +kernel) (by decide +kernel), ⟨by decide +kernel, by decide +kernel⟩, by decide +kernel, by decide, am_in 38 (by decide +kernel) (by decide +kernel)⟩
theorem is_Pl_init : Cond.instanceMethod ⟨"RateChains$Plants", "<init>", "()V"⟩ ∈ am_G ∧ (⟨"RateChains$Plants", "<init>", "()V"⟩ : MethodName).name = "<init>" ∧ (none : Option FieldType) = none := ⟨am_in 57 (by decide +kernel) (by decide +kernel), rfl, rfl⟩
theorem mk_Fe_init : am_mk y_Fe_init 0 := ⟨am_in 88 (by decide +kernel) (by decide +kernel), ⟨by decide +kernel, by decide +kernel⟩, by decide +kernel, by decide, am_in 39 (by decide +kernel) (by decide +kernel)⟩
theorem is_Fe_init : Cond.instanceMethod ⟨"RateChains$Feeds", "<init>", "()V"⟩ ∈ am_G ∧ (⟨"RateChains$Feeds", "<init>", "()V"⟩ : MethodName).name = "<init>" ∧ (none : Option FieldType) = none := ⟨am_in 87 (by decide +kernel) (by decide +kernel), rfl, rfl⟩
theorem mk_So_init : am_mk y_So_init 0 := ⟨am_in 114 (by decide +kernel) (by decide +kernel), ⟨by decide +kernel, by decide +kernel⟩, by decide +kernel, by decide, am_in 40 (by decide +kernel) (by decide +kernel)⟩
theorem is_So_init : Cond.instanceMethod ⟨"RateChains$Solved", "<init>", "()V"⟩ ∈ am_G ∧ (⟨"RateChains$Solved", "<init>", "()V"⟩ : MethodName).name = "<init>" ∧ (none : Option FieldType) = none := ⟨am_in 113 (by decide +kernel) (by decide +kernel), rfl, rfl⟩
theorem mk_Wo_init : am_mk y_Wo_init 0 := ⟨am_in 120 (by decide +kernel) (by decide +kernel), ⟨by decide +kernel, by decide +kernel⟩, by decide +kernel, by decide, am_in 41 (by decide +kernel) (by decide +kernel)⟩
theorem is_Wo_init : Cond.instanceMethod ⟨"RateChains$Worths", "<init>", "()V"⟩ ∈ am_G ∧ (⟨"RateChains$Worths", "<init>", "()V"⟩ : MethodName).name = "<init>" ∧ (none : Option FieldType) = none := ⟨am_in 119 (by decide +kernel) (by decide +kernel), rfl, rfl⟩
theorem mk_Dr_init : am_mk y_Dr_init 0 := ⟨am_in 163 (by decide +kernel) (by decide +kernel), ⟨by decide +kernel, by decide +kernel⟩, by decide +kernel, by decide, am_in 42 (by decide +kernel) (by decide +kernel)⟩
theorem is_Dr_init : Cond.instanceMethod ⟨"RateChains$Draw", "<init>", "()V"⟩ ∈ am_G ∧ (⟨"RateChains$Draw", "<init>", "()V"⟩ : MethodName).name = "<init>" ∧ (none : Option FieldType) = none := ⟨am_in 162 (by decide +kernel) (by decide +kernel), rfl, rfl⟩
theorem mk_Te_init : am_mk y_Te_init 0 := ⟨am_in 176 (by decide +kernel) (by decide +kernel), ⟨by decide +kernel, by decide +kernel⟩, by decide +kernel, by decide, am_in 43 (by decide +kernel) (by decide +kernel)⟩
theorem is_Te_init : Cond.instanceMethod ⟨"RateChains$Text", "<init>", "()V"⟩ ∈ am_G ∧ (⟨"RateChains$Text", "<init>", "()V"⟩ : MethodName).name = "<init>" ∧ (none : Option FieldType) = none := ⟨am_in 175 (by decide +kernel) (by decide +kernel), rfl, rfl⟩
theorem mk_RC_plant : am_mk y_RC_plant 0 := ⟨am_in 210 (by decide +kernel) (by decide +kernel), ⟨by decide +kernel, by decide +kernel⟩, by decide +kernel, by decide, am_in 37 (by decide +kernel) (by decide +kernel)⟩
theorem is_RC_plant : Cond.instanceMethod ⟨"RateChains", "plant", "()I"⟩ ∈ am_G ∧ Cond.selects "RateChains" ⟨"RateChains", "plant", "()I"⟩ ⟨"RateChains", "plant", "()I"⟩ ∈ am_G := ⟨am_in 208 (by decide +kernel) (by decide +kernel), am_in 209 (by decide +kernel) (by decide +kernel)⟩
theorem mk_Pl_add : am_mk y_Pl_add 0 := ⟨am_in 214 (by decide +kernel) (by decide +kernel), ⟨by decide +kernel, by decide +kernel⟩, by decide +kernel, by decide, am_in 38 (by decide +kernel) (by decide +kernel)⟩
theorem is_Pl_add : Cond.instanceMethod ⟨"RateChains$Plants", "add", "()I"⟩ ∈ am_G ∧ Cond.selects "RateChains$Plants" ⟨"RateChains$Plants", "add", "()I"⟩ ⟨"RateChains$Plants", "add", "()I"⟩ ∈ am_G := ⟨am_in 212 (by decide +kernel) (by decide +kernel), am_in 213 (by decide +kernel) (by decide +kernel)⟩
theorem mk_RC_share : am_mk y_RC_share 4 := ⟨am_in 218 (by decide +kernel) (by decide +kernel), ⟨by decide +kernel, by decide +kernel⟩, by decide +kernel, by decide, am_in 37 (by decide +kernel) (by decide +kernel)⟩
theorem is_RC_share : Cond.instanceMethod ⟨"RateChains", "share", "(IIJJ)Z"⟩ ∈ am_G ∧ Cond.selects "RateChains" ⟨"RateChains", "share", "(IIJJ)Z"⟩ ⟨"RateChains", "share", "(IIJJ)Z"⟩ ∈ am_G := ⟨am_in 216 (by decide +kernel) (by decide +kernel), am_in 217 (by decide +kernel) (by decide +kernel)⟩
theorem mk_RC_tenthsOf : am_mk y_RC_tenthsOf 2 := ⟨am_in 221 (by decide +kernel) (by decide +kernel), ⟨by decide +kernel, by decide +kernel⟩, by decide +kernel, by decide, am_in 37 (by decide +kernel) (by decide +kernel)⟩
theorem is_RC_tenthsOf : Cond.static ⟨"RateChains", "tenthsOf", "(JJ)I"⟩ ∈ am_G := am_in 220 (by decide +kernel) (by decide +kernel)
theorem mk_Pl_has : am_mk y_Pl_has 1 := ⟨am_in 228 (by decide +kernel) (by decide +kernel), ⟨by decide +kernel, by decide +kernel⟩, by decide +kernel, by decide, am_in 38 (by decide +kernel) (by decide +kernel)⟩
theorem is_Pl_has : Cond.instanceMethod ⟨"RateChains$Plants", "has", "(I)Z"⟩ ∈ am_G ∧ Cond.selects "RateChains$Plants" ⟨"RateChains$Plants", "has", "(I)Z"⟩ ⟨"RateChains$Plants", "has", "(I)Z"⟩ ∈ am_G := ⟨am_in 226 (by decide +kernel) (by decide +kernel), am_in 227 (by decide +kernel) (by decide +kernel)⟩
theorem mk_Pl_setShare : am_mk y_Pl_setShare 3 := ⟨am_in 232 (by decide +kernel) (by decide +kernel), ⟨by decide +kernel, by decide +kernel⟩, by decide +kernel, by decide, am_in 38 (by decide +kernel) (by decide +kernel)⟩
theorem is_Pl_setShare : Cond.instanceMethod ⟨"RateChains$Plants", "setShare", "(III)Z"⟩ ∈ am_G ∧ Cond.selects "RateChains$Plants" ⟨"RateChains$Plants", "setShare", "(III)Z"⟩ ⟨"RateChains$Plants", "setShare", "(III)Z"⟩ ∈ am_G := ⟨am_in 230 (by decide +kernel) (by decide +kernel), am_in 231 (by decide +kernel) (by decide +kernel)⟩
theorem mk_Pl_shareOf : am_mk y_Pl_shareOf 2 := ⟨am_in 236 (by decide +kernel) (by decide +kernel), ⟨by decide +kernel, by decide +kernel⟩, by decide +kernel, by decide, am_in 38 (by decide +kernel) (by decide +kernel)⟩
theorem is_Pl_shareOf : Cond.instanceMethod ⟨"RateChains$Plants", "shareOf", "(II)I"⟩ ∈ am_G ∧ Cond.selects "RateChains$Plants" ⟨"RateChains$Plants", "shareOf", "(II)I"⟩ ⟨"RateChains$Plants", "shareOf", "(II)I"⟩ ∈ am_G := ⟨am_in 234 (by decide +kernel) (by decide +kernel), am_in 235 (by decide +kernel) (by decide +kernel)⟩
theorem mk_RC_point : am_mk y_RC_point 2 := ⟨am_in 240 (by decide +kernel) (by decide +kernel), ⟨by decide +kernel, by decide +kernel⟩, by decide +kernel, by decide, am_in 37 (by decide +kernel) (by decide +kernel)⟩
theorem is_RC_point : Cond.instanceMethod ⟨"RateChains", "point", "(II)Z"⟩ ∈ am_G ∧ Cond.selects "RateChains" ⟨"RateChains", "point", "(II)Z"⟩ ⟨"RateChains", "point", "(II)Z"⟩ ∈ am_G := ⟨am_in 238 (by decide +kernel) (by decide +kernel), am_in 239 (by decide +kernel) (by decide +kernel)⟩
theorem mk_RC_isKind : am_mk y_RC_isKind 1 := ⟨am_in 243 (by decide +kernel) (by decide +kernel), ⟨by decide +kernel, by decide +kernel⟩, by decide +kernel, by decide, am_in 37 (by decide +kernel) (by decide +kernel)⟩
theorem is_RC_isKind : Cond.static ⟨"RateChains", "isKind", "(I)Z"⟩ ∈ am_G := am_in 242 (by decide +kernel) (by decide +kernel)
theorem mk_Pl_setPoint : am_mk y_Pl_setPoint 2 := ⟨am_in 247 (by decide +kernel) (by decide +kernel), ⟨by decide +kernel, by decide +kernel⟩, by decide +kernel, by decide, am_in 38 (by decide +kernel) (by decide +kernel)⟩
theorem is_Pl_setPoint : Cond.instanceMethod ⟨"RateChains$Plants", "setPoint", "(II)Z"⟩ ∈ am_G ∧ Cond.selects "RateChains$Plants" ⟨"RateChains$Plants", "setPoint", "(II)Z"⟩ ⟨"RateChains$Plants", "setPoint", "(II)Z"⟩ ∈ am_G := ⟨am_in 245 (by decide +kernel) (by decide +kernel), am_in 246 (by decide +kernel) (by decide +kernel)⟩
theorem mk_Pl_isPoint : am_mk y_Pl_isPoint 2 := ⟨am_in 251 (by decide +kernel) (by decide +kernel), ⟨by decide +kernel, by decide +kernel⟩, by decide +kernel, by decide, am_in 38 (by decide +kernel) (by decide +kernel)⟩
theorem is_Pl_isPoint : Cond.instanceMethod ⟨"RateChains$Plants", "isPoint", "(II)Z"⟩ ∈ am_G ∧ Cond.selects "RateChains$Plants" ⟨"RateChains$Plants", "isPoint", "(II)Z"⟩ ⟨"RateChains$Plants", "isPoint", "(II)Z"⟩ ∈ am_G := ⟨am_in 249 (by decide +kernel) (by decide +kernel), am_in 250 (by decide +kernel) (by decide +kernel)⟩
theorem mk_RC_slotOf : am_mk y_RC_slotOf 2 := ⟨am_in 254 (by decide +kernel) (by decide +kernel), ⟨by decide +kernel, by decide +kernel⟩, by decide +kernel, by decide, am_in 37 (by decide +kernel) (by decide +kernel)⟩
theorem is_RC_slotOf : Cond.static ⟨"RateChains", "slotOf", "(II)I"⟩ ∈ am_G := am_in 253 (by decide +kernel) (by decide +kernel)
theorem mk_RC_average : am_mk y_RC_average 3 := ⟨am_in 258 (by decide +kernel) (by decide +kernel), ⟨by decide +kernel, by decide +kernel⟩, by decide +kernel, by decide, am_in 37 (by decide +kernel) (by decide +kernel)⟩
theorem is_RC_average : Cond.instanceMethod ⟨"RateChains", "average", "(IJJ)Z"⟩ ∈ am_G ∧ Cond.selects "RateChains" ⟨"RateChains", "average", "(IJJ)Z"⟩ ⟨"RateChains", "average", "(IJJ)Z"⟩ ∈ am_G := ⟨am_in 256 (by decide +kernel) (by decide +kernel), am_in 257 (by decide +kernel) (by decide +kernel)⟩
theorem mk_Pl_setLoss : am_mk y_Pl_setLoss 2 := ⟨am_in 262 (by decide +kernel) (by decide +kernel), ⟨by decide +kernel, by decide +kernel⟩, by decide +kernel, by decide, am_in 38 (by decide +kernel) (by decide +kernel)⟩
theorem is_Pl_setLoss : Cond.instanceMethod ⟨"RateChains$Plants", "setLoss", "(II)V"⟩ ∈ am_G ∧ Cond.selects "RateChains$Plants" ⟨"RateChains$Plants", "setLoss", "(II)V"⟩ ⟨"RateChains$Plants", "setLoss", "(II)V"⟩ ∈ am_G := ⟨am_in 260 (by decide +kernel) (by decide +kernel), am_in 261 (by decide +kernel) (by decide +kernel)⟩
theorem mk_RC_feed : am_mk y_RC_feed 5 := ⟨am_in 266 (by decide +kernel) (by decide +kernel), ⟨by decide +kernel, by decide +kernel⟩, by decide +kernel, by decide, am_in 37 (by decide +kernel) (by decide +kernel)⟩
theorem is_RC_feed : Cond.instanceMethod ⟨"RateChains", "feed", "(IIJII)Z"⟩ ∈ am_G ∧ Cond.selects "RateChains" ⟨"RateChains", "feed", "(IIJII)Z"⟩ ⟨"RateChains", "feed", "(IIJII)Z"⟩ ∈ am_G := ⟨am_in 264 (by decide +kernel) (by decide +kernel), am_in 265 (by decide +kernel) (by decide +kernel)⟩
theorem mk_RC_isYear : am_mk y_RC_isYear 1 := ⟨am_in 269 (by decide +kernel) (by decide +kernel), ⟨by decide +kernel, by decide +kernel⟩, by decide +kernel, by decide, am_in 37 (by decide +kernel) (by decide +kernel)⟩
theorem is_RC_isYear : Cond.static ⟨"RateChains", "isYear", "(I)Z"⟩ ∈ am_G := am_in 268 (by decide +kernel) (by decide +kernel)
theorem mk_RC_isCountry : am_mk y_RC_isCountry 1 := ⟨am_in 272 (by decide +kernel) (by decide +kernel), ⟨by decide +kernel, by decide +kernel⟩, by decide +kernel, by decide, am_in 37 (by decide +kernel) (by decide +kernel)⟩
theorem is_RC_isCountry : Cond.static ⟨"RateChains", "isCountry", "(I)Z"⟩ ∈ am_G := am_in 271 (by decide +kernel) (by decide +kernel)
theorem mk_RC_isWithin : am_mk y_RC_isWithin 3 := ⟨am_in 276 (by decide +kernel) (by decide +kernel), ⟨by decide +kernel, by decide +kernel⟩, by decide +kernel, by decide, am_in 37 (by decide +kernel) (by decide +kernel)⟩
theorem is_RC_isWithin : Cond.static ⟨"RateChains", "isWithin", "(JJJ)Z"⟩ ∈ am_G := am_in 275 (by decide +kernel) (by decide +kernel)
theorem mk_Fe_add : am_mk y_Fe_add 5 := ⟨am_in 280 (by decide +kernel) (by decide +kernel), ⟨by decide +kernel, by decide +kernel⟩, by decide +kernel, by decide, am_in 39 (by decide +kernel) (by decide +kernel)⟩
theorem is_Fe_add : Cond.instanceMethod ⟨"RateChains$Feeds", "add", "(IIJII)Z"⟩ ∈ am_G ∧ Cond.selects "RateChains$Feeds" ⟨"RateChains$Feeds", "add", "(IIJII)Z"⟩ ⟨"RateChains$Feeds", "add", "(IIJII)Z"⟩ ∈ am_G := ⟨am_in 278 (by decide +kernel) (by decide +kernel), am_in 279 (by decide +kernel) (by decide +kernel)⟩
theorem mk_RC_metals : am_mk y_RC_metals 2 := ⟨am_in 284 (by decide +kernel) (by decide +kernel), ⟨by decide +kernel, by decide +kernel⟩, by decide +kernel, by decide, am_in 37 (by decide +kernel) (by decide +kernel)⟩
theorem is_RC_metals : Cond.instanceMethod ⟨"RateChains", "metals", "(IJ)Z"⟩ ∈ am_G ∧ Cond.selects "RateChains" ⟨"RateChains", "metals", "(IJ)Z"⟩ ⟨"RateChains", "metals", "(IJ)Z"⟩ ∈ am_G := ⟨am_in 282 (by decide +kernel) (by decide +kernel), am_in 283 (by decide +kernel) (by decide +kernel)⟩
theorem mk_RC_placed : am_mk y_RC_placed 3 := ⟨am_in 288 (by decide +kernel) (by decide +kernel), ⟨by decide +kernel, by decide +kernel⟩, by decide +kernel, by decide, am_in 37 (by decide +kernel) (by decide +kernel)⟩
theorem is_RC_placed : Cond.instanceMethod ⟨"RateChains", "placed", "(IIJ)Z"⟩ ∈ am_G ∧ Cond.selects "RateChains" ⟨"RateChains", "placed", "(IIJ)Z"⟩ ⟨"RateChains", "placed", "(IIJ)Z"⟩ ∈ am_G := ⟨am_in 286 (by decide +kernel) (by decide +kernel), am_in 287 (by decide +kernel) (by decide +kernel)⟩
theorem mk_RC_cell : am_mk y_RC_cell 2 := ⟨am_in 292 (by decide +kernel) (by decide +kernel), ⟨by decide +kernel, by decide +kernel⟩, by decide +kernel, by decide, am_in 37 (by decide +kernel) (by decide +kernel)⟩
theorem is_RC_cell : Cond.static ⟨"RateChains", "cell", "(II)I"⟩ ∈ am_G := am_in 291 (by decide +kernel) (by decide +kernel)
theorem mk_RC_solve : am_mk y_RC_solve 0 := ⟨am_in 296 (by decide +kernel) (by decide +kernel), ⟨by decide +kernel, by decide +kernel⟩, by decide +kernel, by decide, am_in 37 (by decide +kernel) (by decide +kernel)⟩
theorem is_RC_solve : Cond.instanceMethod ⟨"RateChains", "solve", "()I"⟩ ∈ am_G ∧ Cond.selects "RateChains" ⟨"RateChains", "solve", "()I"⟩ ⟨"RateChains", "solve", "()I"⟩ ∈ am_G := ⟨am_in 294 (by decide +kernel) (by decide +kernel), am_in 295 (by decide +kernel) (by decide +kernel)⟩
theorem mk_Pl_leastInRing : am_mk y_Pl_leastInRing 0 := ⟨am_in 300 (by decide +kernel) (by decide +kernel), ⟨by decide +kernel, by decide +kernel⟩, by decide +kernel, by decide, am_in 38 (by decide +kernel) (by decide +kernel)⟩
theorem is_Pl_leastInRing : Cond.instanceMethod ⟨"RateChains$Plants", "leastInRing", "()I"⟩ ∈ am_G ∧ Cond.selects "RateChains$Plants" ⟨"RateChains$Plants", "leastInRing", "()I"⟩ ⟨"RateChains$Plants", "leastInRing", "()I"⟩ ∈ am_G := ⟨am_in 298 (by decide +kernel) (by decide +kernel), am_in 299 (by decide +kernel) (by decide +kernel)⟩
theorem mk_Pl_leastInRingOf : am_mk y_Pl_leastInRingOf 1 := ⟨am_in 304 (by decide +kernel) (by decide +kernel), ⟨by decide +kernel, by decide +kernel⟩, by decide +kernel, by decide, am_in 38 (by decide +kernel) (by decide +kernel)⟩
theorem is_Pl_leastInRingOf : Cond.instanceMethod ⟨"RateChains$Plants", "leastInRingOf", "(I)I"⟩ ∈ am_G ∧ Cond.selects "RateChains$Plants" ⟨"RateChains$Plants", "leastInRingOf", "(I)I"⟩ ⟨"RateChains$Plants", "leastInRingOf", "(I)I"⟩ ∈ am_G := ⟨am_in 303 (by decide +kernel) (by decide +kernel), am_in 0 (by decide +kernel) (by decide +kernel)⟩
theorem mk_Pl_findEnds : am_mk y_Pl_findEnds 1 := ⟨am_in 308 (by decide +kernel) (by decide +kernel), ⟨by decide +kernel, by decide +kernel⟩, by decide +kernel, by decide, am_in 38 (by decide +kernel) (by decide +kernel)⟩
theorem is_Pl_findEnds : Cond.instanceMethod ⟨"RateChains$Plants", "findEnds", "(I)V"⟩ ∈ am_G ∧ Cond.selects "RateChains$Plants" ⟨"RateChains$Plants", "findEnds", "(I)V"⟩ ⟨"RateChains$Plants", "findEnds", "(I)V"⟩ ∈ am_G := ⟨am_in 307 (by decide +kernel) (by decide +kernel), am_in 1 (by decide +kernel) (by decide +kernel)⟩
theorem mk_Pl_goesOn : am_mk y_Pl_goesOn 2 := ⟨am_in 312 (by decide +kernel) (by decide +kernel), ⟨by decide +kernel, by decide +kernel⟩, by decide +kernel, by decide, am_in 38 (by decide +kernel) (by decide +kernel)⟩
theorem is_Pl_goesOn : Cond.instanceMethod ⟨"RateChains$Plants", "goesOn", "(II)Z"⟩ ∈ am_G ∧ Cond.selects "RateChains$Plants" ⟨"RateChains$Plants", "goesOn", "(II)Z"⟩ ⟨"RateChains$Plants", "goesOn", "(II)Z"⟩ ∈ am_G := ⟨am_in 310 (by decide +kernel) (by decide +kernel), am_in 311 (by decide +kernel) (by decide +kernel)⟩
theorem mk_Pl_goesToAnEnd : am_mk y_Pl_goesToAnEnd 1 := ⟨am_in 316 (by decide +kernel) (by decide +kernel), ⟨by decide +kernel, by decide +kernel⟩, by decide +kernel, by decide, am_in 38 (by decide +kernel) (by decide +kernel)⟩
theorem is_Pl_goesToAnEnd : Cond.instanceMethod ⟨"RateChains$Plants", "goesToAnEnd", "(I)Z"⟩ ∈ am_G ∧ Cond.selects "RateChains$Plants" ⟨"RateChains$Plants", "goesToAnEnd", "(I)Z"⟩ ⟨"RateChains$Plants", "goesToAnEnd", "(I)Z"⟩ ∈ am_G := ⟨am_in 315 (by decide +kernel) (by decide +kernel), am_in 2 (by decide +kernel) (by decide +kernel)⟩
theorem mk_So_keep : am_mk y_So_keep 3 := ⟨am_in 320 (by decide +kernel) (by decide +kernel), ⟨by decide +kernel, by decide +kernel⟩, by decide +kernel, by decide, am_in 40 (by decide +kernel) (by decide +kernel)⟩
theorem is_So_keep : Cond.instanceMethod ⟨"RateChains$Solved", "keep", "(LRateChains$Plants;LRateChains$Feeds;[J)V"⟩ ∈ am_G ∧ Cond.selects "RateChains$Solved" ⟨"RateChains$Solved", "keep", "(LRateChains$Plants;LRateChains$Feeds;[J)V"⟩ ⟨"RateChains$Solved", "keep", "(LRateChains$Plants;LRateChains$Feeds;[J)V"⟩ ∈ am_G := ⟨am_in 318 (by decide +kernel) (by decide +kernel), am_in 319 (by decide +kernel) (by decide +kernel)⟩
theorem mk_So_keepWorths : am_mk y_So_keepWorths 2 := ⟨am_in 324 (by decide +kernel) (by decide +kernel), ⟨by decide +kernel, by decide +kernel⟩, by decide +kernel, by decide, am_in 40 (by decide +kernel) (by decide +kernel)⟩
theorem is_So_keepWorths : Cond.instanceMethod ⟨"RateChains$Solved", "keepWorths", "(LRateChains$Plants;I)V"⟩ ∈ am_G ∧ Cond.selects "RateChains$Solved" ⟨"RateChains$Solved", "keepWorths", "(LRateChains$Plants;I)V"⟩ ⟨"RateChains$Solved", "keepWorths", "(LRateChains$Plants;I)V"⟩ ∈ am_G := ⟨am_in 323 (by decide +kernel) (by decide +kernel), am_in 3 (by decide +kernel) (by decide +kernel)⟩
theorem mk_Wo_find : am_mk y_Wo_find 2 := ⟨am_in 328 (by decide +kernel) (by decide +kernel), ⟨by decide +kernel, by decide +kernel⟩, by decide +kernel, by decide, am_in 41 (by decide +kernel) (by decide +kernel)⟩
theorem is_Wo_find : Cond.instanceMethod ⟨"RateChains$Worths", "find", "(LRateChains$Plants;I)J"⟩ ∈ am_G ∧ Cond.selects "RateChains$Worths" ⟨"RateChains$Worths", "find", "(LRateChains$Plants;I)J"⟩ ⟨"RateChains$Worths", "find", "(LRateChains$Plants;I)J"⟩ ∈ am_G := ⟨am_in 326 (by decide +kernel) (by decide +kernel), am_in 327 (by decide +kernel) (by decide +kernel)⟩
theorem mk_Wo_fill : am_mk y_Wo_fill 2 := ⟨am_in 332 (by decide +kernel) (by decide +kernel), ⟨by decide +kernel, by decide +kernel⟩, by decide +kernel, by decide, am_in 41 (by decide +kernel) (by decide +kernel)⟩
theorem is_Wo_fill : Cond.instanceMethod ⟨"RateChains$Worths", "fill", "(LRateChains$Plants;I)V"⟩ ∈ am_G ∧ Cond.selects "RateChains$Worths" ⟨"RateChains$Worths", "fill", "(LRateChains$Plants;I)V"⟩ ⟨"RateChains$Worths", "fill", "(LRateChains$Plants;I)V"⟩ ∈ am_G := ⟨am_in 331 (by decide +kernel) (by decide +kernel), am_in 4 (by decide +kernel) (by decide +kernel)⟩
theorem mk_Pl_tenthsCounted : am_mk y_Pl_tenthsCounted 2 := ⟨am_in 339 (by decide +kernel) (by decide +kernel), ⟨by decide +kernel, by decide +kernel⟩, by decide +kernel, by decide, am_in 38 (by decide +kernel) (by decide +kernel)⟩
theorem is_Pl_tenthsCounted : Cond.instanceMethod ⟨"RateChains$Plants", "tenthsCounted", "(II)I"⟩ ∈ am_G ∧ Cond.selects "RateChains$Plants" ⟨"RateChains$Plants", "tenthsCounted", "(II)I"⟩ ⟨"RateChains$Plants", "tenthsCounted", "(II)I"⟩ ∈ am_G := ⟨am_in 337 (by decide +kernel) (by decide +kernel), am_in 338 (by decide +kernel) (by decide +kernel)⟩
theorem mk_Wo_clearColumn : am_mk y_Wo_clearColumn 2 := ⟨am_in 343 (by decide +kernel) (by decide +kernel), ⟨by decide +kernel, by decide +kernel⟩, by decide +kernel, by decide, am_in 41 (by decide +kernel) (by decide +kernel)⟩
theorem is_Wo_clearColumn : Cond.instanceMethod ⟨"RateChains$Worths", "clearColumn", "(IJ)V"⟩ ∈ am_G ∧ Cond.selects "RateChains$Worths" ⟨"RateChains$Worths", "clearColumn", "(IJ)V"⟩ ⟨"RateChains$Worths", "clearColumn", "(IJ)V"⟩ ∈ am_G := ⟨am_in 342 (by decide +kernel) (by decide +kernel), am_in 5 (by decide +kernel) (by decide +kernel)⟩
theorem mk_Wo_clearRow : am_mk y_Wo_clearRow 3 := ⟨am_in 347 (by decide +kernel) (by decide +kernel), ⟨by decide +kernel, by decide +kernel⟩, by decide +kernel, by decide, am_in 41 (by decide +kernel) (by decide +kernel)⟩
theorem is_Wo_clearRow : Cond.instanceMethod ⟨"RateChains$Worths", "clearRow", "(IIJ)V"⟩ ∈ am_G ∧ Cond.selects "RateChains$Worths" ⟨"RateChains$Worths", "clearRow", "(IIJ)V"⟩ ⟨"RateChains$Worths", "clearRow", "(IIJ)V"⟩ ∈ am_G := ⟨am_in 346 (by decide +kernel) (by decide +kernel), am_in 6 (by decide +kernel) (by decide +kernel)⟩
theorem mk_Wo_aboveOf : am_mk y_Wo_aboveOf 1 := ⟨am_in 352 (by decide +kernel) (by decide +kernel), ⟨by decide +kernel, by decide +kernel⟩, by decide +kernel, by decide, am_in 41 (by decide +kernel) (by decide +kernel)⟩
theorem is_Wo_aboveOf : Cond.instanceMethod ⟨"RateChains$Worths", "aboveOf", "(I)J"⟩ ∈ am_G ∧ Cond.selects "RateChains$Worths" ⟨"RateChains$Worths", "aboveOf", "(I)J"⟩ ⟨"RateChains$Worths", "aboveOf", "(I)J"⟩ ∈ am_G := ⟨am_in 350 (by decide +kernel) (by decide +kernel), am_in 351 (by decide +kernel) (by decide +kernel)⟩
theorem mk_So_clearSums : am_mk y_So_clearSums 0 := ⟨am_in 356 (by decide +kernel) (by decide +kernel), ⟨by decide +kernel, by decide +kernel⟩, by decide +kernel, by decide, am_in 40 (by decide +kernel) (by decide +kernel)⟩
theorem is_So_clearSums : Cond.instanceMethod ⟨"RateChains$Solved", "clearSums", "()V"⟩ ∈ am_G ∧ Cond.selects "RateChains$Solved" ⟨"RateChains$Solved", "clearSums", "()V"⟩ ⟨"RateChains$Solved", "clearSums", "()V"⟩ ∈ am_G := ⟨am_in 355 (by decide +kernel) (by decide +kernel), am_in 7 (by decide +kernel) (by decide +kernel)⟩
theorem mk_So_clear : am_mk y_So_clear 1 := ⟨am_in 359 (by decide +kernel) (by decide +kernel), ⟨by decide +kernel, by decide +kernel⟩, by decide +kernel, by decide, am_in 40 (by decide +kernel) (by decide +kernel)⟩
theorem is_So_clear : Cond.static ⟨"RateChains$Solved", "clear", "([J)V"⟩ ∈ am_G := am_in 358 (by decide +kernel) (by decide +kernel)
theorem mk_So_addMetals : am_mk y_So_addMetals 1 := ⟨am_in 363 (by decide +kernel) (by decide +kernel), ⟨by decide +kernel, by decide +kernel⟩, by decide +kernel, by decide, am_in 40 (by decide +kernel) (by decide +kernel)⟩
theorem is_So_addMetals : Cond.instanceMethod ⟨"RateChains$Solved", "addMetals", "([J)V"⟩ ∈ am_G ∧ Cond.selects "RateChains$Solved" ⟨"RateChains$Solved", "addMetals", "([J)V"⟩ ⟨"RateChains$Solved", "addMetals", "([J)V"⟩ ∈ am_G := ⟨am_in 362 (by decide +kernel) (by decide +kernel), am_in 8 (by decide +kernel) (by decide +kernel)⟩
theorem mk_So_place : am_mk y_So_place 3 := ⟨am_in 367 (by decide +kernel) (by decide +kernel), ⟨by decide +kernel, by decide +kernel⟩, by decide +kernel, by decide, am_in 40 (by decide +kernel) (by decide +kernel)⟩
theorem is_So_place : Cond.static ⟨"RateChains$Solved", "place", "(III)I"⟩ ∈ am_G := am_in 366 (by decide +kernel) (by decide +kernel)
theorem mk_Fe_size : am_mk y_Fe_size 0 := ⟨am_in 371 (by decide +kernel) (by decide +kernel), ⟨by decide +kernel, by decide +kernel⟩, by decide +kernel, by decide, am_in 39 (by decide +kernel) (by decide +kernel)⟩
theorem is_Fe_size : Cond.instanceMethod ⟨"RateChains$Feeds", "size", "()I"⟩ ∈ am_G ∧ Cond.selects "RateChains$Feeds" ⟨"RateChains$Feeds", "size", "()I"⟩ ⟨"RateChains$Feeds", "size", "()I"⟩ ∈ am_G := ⟨am_in 369 (by decide +kernel) (by decide +kernel), am_in 370 (by decide +kernel) (by decide +kernel)⟩
theorem mk_So_addFeed : am_mk y_So_addFeed 2 := ⟨am_in 375 (by decide +kernel) (by decide +kernel), ⟨by decide +kernel, by decide +kernel⟩, by decide +kernel, by decide, am_in 40 (by decide +kernel) (by decide +kernel)⟩
theorem is_So_addFeed : Cond.instanceMethod ⟨"RateChains$Solved", "addFeed", "(LRateChains$Feeds;I)V"⟩ ∈ am_G ∧ Cond.selects "RateChains$Solved" ⟨"RateChains$Solved", "addFeed", "(LRateChains$Feeds;I)V"⟩ ⟨"RateChains$Solved", "addFeed", "(LRateChains$Feeds;I)V"⟩ ∈ am_G := ⟨am_in 374 (by decide +kernel) (by decide +kernel), am_in 9 (by decide +kernel) (by decide +kernel)⟩
theorem mk_Fe_kindOf : am_mk y_Fe_kindOf 1 := ⟨am_in 379 (by decide +kernel) (by decide +kernel), ⟨by decide +kernel, by decide +kernel⟩, by decide +kernel, by decide, am_in 39 (by decide +kernel) (by decide +kernel)⟩
theorem is_Fe_kindOf : Cond.instanceMethod ⟨"RateChains$Feeds", "kindOf", "(I)I"⟩ ∈ am_G ∧ Cond.selects "RateChains$Feeds" ⟨"RateChains$Feeds", "kindOf", "(I)I"⟩ ⟨"RateChains$Feeds", "kindOf", "(I)I"⟩ ∈ am_G := ⟨am_in 377 (by decide +kernel) (by decide +kernel), am_in 378 (by decide +kernel) (by decide +kernel)⟩
theorem mk_Fe_yearOf : am_mk y_Fe_yearOf 1 := ⟨am_in 383 (by decide +kernel) (by decide +kernel), ⟨by decide +kernel, by decide +kernel⟩, by decide +kernel, by decide, am_in 39 (by decide +kernel) (by decide +kernel)⟩
theorem is_Fe_yearOf : Cond.instanceMethod ⟨"RateChains$Feeds", "yearOf", "(I)I"⟩ ∈ am_G ∧ Cond.selects "RateChains$Feeds" ⟨"RateChains$Feeds", "yearOf", "(I)I"⟩ ⟨"RateChains$Feeds", "yearOf", "(I)I"⟩ ∈ am_G := ⟨am_in 381 (by decide +kernel) (by decide +kernel), am_in 382 (by decide +kernel) (by decide +kernel)⟩
theorem mk_Fe_plantOf : am_mk y_Fe_plantOf 1 := ⟨am_in 387 (by decide +kernel) (by decide +kernel), ⟨by decide +kernel, by decide +kernel⟩, by decide +kernel, by decide, am_in 39 (by decide +kernel) (by decide +kernel)⟩
theorem is_Fe_plantOf : Cond.instanceMethod ⟨"RateChains$Feeds", "plantOf", "(I)I"⟩ ∈ am_G ∧ Cond.selects "RateChains$Feeds" ⟨"RateChains$Feeds", "plantOf", "(I)I"⟩ ⟨"RateChains$Feeds", "plantOf", "(I)I"⟩ ∈ am_G := ⟨am_in 385 (by decide +kernel) (by decide +kernel), am_in 386 (by decide +kernel) (by decide +kernel)⟩
theorem mk_Fe_gramsOf : am_mk y_Fe_gramsOf 1 := ⟨am_in 391 (by decide +kernel) (by decide +kernel), ⟨by decide +kernel, by decide +kernel⟩, by decide +kernel, by decide, am_in 39 (by decide +kernel) (by decide +kernel)⟩
theorem is_Fe_gramsOf : Cond.instanceMethod ⟨"RateChains$Feeds", "gramsOf", "(I)J"⟩ ∈ am_G ∧ Cond.selects "RateChains$Feeds" ⟨"RateChains$Feeds", "gramsOf", "(I)J"⟩ ⟨"RateChains$Feeds", "gramsOf", "(I)J"⟩ ∈ am_G := ⟨am_in 389 (by decide +kernel) (by decide +kernel), am_in 390 (by decide +kernel) (by decide +kernel)⟩
theorem mk_Fe_countryOf : am_mk y_Fe_countryOf 1 := ⟨am_in 395 (by decide +kernel) (by decide +kernel), ⟨by decide +kernel, by decide +kernel⟩, by decide +kernel, by decide, am_in 39 (by decide +kernel) (by decide +kernel)⟩
theorem is_Fe_countryOf : Cond.instanceMethod ⟨"RateChains$Feeds", "countryOf", "(I)I"⟩ ∈ am_G ∧ Cond.selects "RateChains$Feeds" ⟨"RateChains$Feeds", "countryOf", "(I)I"⟩ ⟨"RateChains$Feeds", "countryOf", "(I)I"⟩ ∈ am_G := ⟨am_in 393 (by decide +kernel) (by decide +kernel), am_in 394 (by decide +kernel) (by decide +kernel)⟩
theorem mk_So_fillStocks : am_mk y_So_fillStocks 0 := ⟨am_in 399 (by decide +kernel) (by decide +kernel), ⟨by decide +kernel, by decide +kernel⟩, by decide +kernel, by decide, am_in 40 (by decide +kernel) (by decide +kernel)⟩
theorem is_So_fillStocks : Cond.instanceMethod ⟨"RateChains$Solved", "fillStocks", "()V"⟩ ∈ am_G ∧ Cond.selects "RateChains$Solved" ⟨"RateChains$Solved", "fillStocks", "()V"⟩ ⟨"RateChains$Solved", "fillStocks", "()V"⟩ ∈ am_G := ⟨am_in 398 (by decide +kernel) (by decide +kernel), am_in 10 (by decide +kernel) (by decide +kernel)⟩
theorem mk_So_down : am_mk y_So_down 2 := ⟨am_in 403 (by decide +kernel) (by decide +kernel), ⟨by decide +kernel, by decide +kernel⟩, by decide +kernel, by decide, am_in 40 (by decide +kernel) (by decide +kernel)⟩
theorem is_So_down : Cond.instanceMethod ⟨"RateChains$Solved", "down", "(JI)J"⟩ ∈ am_G ∧ Cond.selects "RateChains$Solved" ⟨"RateChains$Solved", "down", "(JI)J"⟩ ⟨"RateChains$Solved", "down", "(JI)J"⟩ ∈ am_G := ⟨am_in 402 (by decide +kernel) (by decide +kernel), am_in 11 (by decide +kernel) (by decide +kernel)⟩
theorem mk_So_markLostBare : am_mk y_So_markLostBare 3 := ⟨am_in 407 (by decide +kernel) (by decide +kernel), ⟨by decide +kernel, by decide +kernel⟩, by decide +kernel, by decide, am_in 40 (by decide +kernel) (by decide +kernel)⟩
theorem is_So_markLostBare : Cond.instanceMethod ⟨"RateChains$Solved", "markLostBare", "(LRateChains$Plants;LRateChains$Feeds;I)V"⟩ ∈ am_G ∧ Cond.selects "RateChains$Solved" ⟨"RateChains$Solved", "markLostBare", "(LRateChains$Plants;LRateChains$Feeds;I)V"⟩ ⟨"RateChains$Solved", "markLostBare", "(LRateChains$Plants;LRateChains$Feeds;I)V"⟩ ∈ am_G := ⟨am_in 406 (by decide +kernel) (by decide +kernel), am_in 12 (by decide +kernel) (by decide +kernel)⟩
theorem mk_So_findCame : am_mk y_So_findCame 3 := ⟨am_in 411 (by decide +kernel) (by decide +kernel), ⟨by decide +kernel, by decide +kernel⟩, by decide +kernel, by decide, am_in 40 (by decide +kernel) (by decide +kernel)⟩
theorem is_So_findCame : Cond.instanceMethod ⟨"RateChains$Solved", "findCame", "(LRateChains$Plants;LRateChains$Feeds;I)V"⟩ ∈ am_G ∧ Cond.selects "RateChains$Solved" ⟨"RateChains$Solved", "findCame", "(LRateChains$Plants;LRateChains$Feeds;I)V"⟩ ⟨"RateChains$Solved", "findCame", "(LRateChains$Plants;LRateChains$Feeds;I)V"⟩ ∈ am_G := ⟨am_in 410 (by decide +kernel) (by decide +kernel), am_in 13 (by decide +kernel) (by decide +kernel)⟩
theorem mk_So_markNext : am_mk y_So_markNext 2 := ⟨am_in 416 (by decide +kernel) (by decide +kernel), ⟨by decide +kernel, by decide +kernel⟩, by decide +kernel, by decide, am_in 40 (by decide +kernel) (by decide +kernel)⟩
theorem is_So_markNext : Cond.instanceMethod ⟨"RateChains$Solved", "markNext", "(LRateChains$Plants;I)V"⟩ ∈ am_G ∧ Cond.selects "RateChains$Solved" ⟨"RateChains$Solved", "markNext", "(LRateChains$Plants;I)V"⟩ ⟨"RateChains$Solved", "markNext", "(LRateChains$Plants;I)V"⟩ ∈ am_G := ⟨am_in 415 (by decide +kernel) (by decide +kernel), am_in 14 (by decide +kernel) (by decide +kernel)⟩
theorem mk_Pl_isBare : am_mk y_Pl_isBare 2 := ⟨am_in 421 (by decide +kernel) (by decide +kernel), ⟨by decide +kernel, by decide +kernel⟩, by decide +kernel, by decide, am_in 38 (by decide +kernel) (by decide +kernel)⟩
theorem is_Pl_isBare : Cond.instanceMethod ⟨"RateChains$Plants", "isBare", "(II)Z"⟩ ∈ am_G ∧ Cond.selects "RateChains$Plants" ⟨"RateChains$Plants", "isBare", "(II)Z"⟩ ⟨"RateChains$Plants", "isBare", "(II)Z"⟩ ∈ am_G := ⟨am_in 419 (by decide +kernel) (by decide +kernel), am_in 420 (by decide +kernel) (by decide +kernel)⟩
theorem mk_RC_counted : am_mk y_RC_counted 3 := ⟨am_in 425 (by decide +kernel) (by decide +kernel), ⟨by decide +kernel, by decide +kernel⟩, by decide +kernel, by decide, am_in 37 (by decide +kernel) (by decide +kernel)⟩
theorem is_RC_counted : Cond.instanceMethod ⟨"RateChains", "counted", "(III)J"⟩ ∈ am_G ∧ Cond.selects "RateChains" ⟨"RateChains", "counted", "(III)J"⟩ ⟨"RateChains", "counted", "(III)J"⟩ ∈ am_G := ⟨am_in 423 (by decide +kernel) (by decide +kernel), am_in 424 (by decide +kernel) (by decide +kernel)⟩
theorem mk_So_isThere : am_mk y_So_isThere 0 := ⟨am_in 429 (by decide +kernel) (by decide +kernel), ⟨by decide +kernel, by decide +kernel⟩, by decide +kernel, by decide, am_in 40 (by decide +kernel) (by decide +kernel)⟩
theorem is_So_isThere : Cond.instanceMethod ⟨"RateChains$Solved", "isThere", "()Z"⟩ ∈ am_G ∧ Cond.selects "RateChains$Solved" ⟨"RateChains$Solved", "isThere", "()Z"⟩ ⟨"RateChains$Solved", "isThere", "()Z"⟩ ∈ am_G := ⟨am_in 427 (by decide +kernel) (by decide +kernel), am_in 428 (by decide +kernel) (by decide +kernel)⟩
theorem mk_RC_isPart : am_mk y_RC_isPart 1 := ⟨am_in 432 (by decide +kernel) (by decide +kernel), ⟨by decide +kernel, by decide +kernel⟩, by decide +kernel, by decide, am_in 37 (by decide +kernel) (by decide +kernel)⟩
theorem is_RC_isPart : Cond.static ⟨"RateChains", "isPart", "(I)Z"⟩ ∈ am_G := am_in 431 (by decide +kernel) (by decide +kernel)
theorem mk_So_aboveOf : am_mk y_So_aboveOf 2 := ⟨am_in 437 (by decide +kernel) (by decide +kernel), ⟨by decide +kernel, by decide +kernel⟩, by decide +kernel, by decide, am_in 40 (by decide +kernel) (by decide +kernel)⟩
theorem is_So_aboveOf : Cond.instanceMethod ⟨"RateChains$Solved", "aboveOf", "(II)J"⟩ ∈ am_G ∧ Cond.selects "RateChains$Solved" ⟨"RateChains$Solved", "aboveOf", "(II)J"⟩ ⟨"RateChains$Solved", "aboveOf", "(II)J"⟩ ∈ am_G := ⟨am_in 435 (by decide +kernel) (by decide +kernel), am_in 436 (by decide +kernel) (by decide +kernel)⟩
theorem mk_So_aboveOfCountry : am_mk y_So_aboveOfCountry 3 := ⟨am_in 441 (by decide +kernel) (by decide +kernel), ⟨by decide +kernel, by decide +kernel⟩, by decide +kernel, by decide, am_in 40 (by decide +kernel) (by decide +kernel)⟩
theorem is_So_aboveOfCountry : Cond.instanceMethod ⟨"RateChains$Solved", "aboveOfCountry", "(III)J"⟩ ∈ am_G ∧ Cond.selects "RateChains$Solved" ⟨"RateChains$Solved", "aboveOfCountry", "(III)J"⟩ ⟨"RateChains$Solved", "aboveOfCountry", "(III)J"⟩ ∈ am_G := ⟨am_in 439 (by decide +kernel) (by decide +kernel), am_in 440 (by decide +kernel) (by decide +kernel)⟩
theorem mk_So_belowOf : am_mk y_So_belowOf 1 := ⟨am_in 445 (by decide +kernel) (by decide +kernel), ⟨by decide +kernel, by decide +kernel⟩, by decide +kernel, by decide, am_in 40 (by decide +kernel) (by decide +kernel)⟩
theorem is_So_belowOf : Cond.instanceMethod ⟨"RateChains$Solved", "belowOf", "(I)J"⟩ ∈ am_G ∧ Cond.selects "RateChains$Solved" ⟨"RateChains$Solved", "belowOf", "(I)J"⟩ ⟨"RateChains$Solved", "belowOf", "(I)J"⟩ ∈ am_G := ⟨am_in 443 (by decide +kernel) (by decide +kernel), am_in 444 (by decide +kernel) (by decide +kernel)⟩
theorem mk_RC_partOf : am_mk y_RC_partOf 3 := ⟨am_in 448 (by decide +kernel) (by decide +kernel), ⟨by decide +kernel, by decide +kernel⟩, by decide +kernel, by decide, am_in 37 (by decide +kernel) (by decide +kernel)⟩
theorem is_RC_partOf : Cond.static ⟨"RateChains", "partOf", "(JJI)J"⟩ ∈ am_G := am_in 447 (by decide +kernel) (by decide +kernel)
theorem mk_RC_commonOf : am_mk y_RC_commonOf 2 := ⟨am_in 451 (by decide +kernel) (by decide +kernel), ⟨by decide +kernel, by decide +kernel⟩, by decide +kernel, by decide, am_in 37 (by decide +kernel) (by decide +kernel)⟩
theorem is_RC_commonOf : Cond.static ⟨"RateChains", "commonOf", "(JJ)J"⟩ ∈ am_G := am_in 450 (by decide +kernel) (by decide +kernel)
theorem mk_RC_rate : am_mk y_RC_rate 3 := ⟨am_in 455 (by decide +kernel) (by decide +kernel), ⟨by decide +kernel, by decide +kernel⟩, by decide +kernel, by decide, am_in 37 (by decide +kernel) (by decide +kernel)⟩
theorem is_RC_rate : Cond.instanceMethod ⟨"RateChains", "rate", "(III)J"⟩ ∈ am_G ∧ Cond.selects "RateChains" ⟨"RateChains", "rate", "(III)J"⟩ ⟨"RateChains", "rate", "(III)J"⟩ ∈ am_G := ⟨am_in 453 (by decide +kernel) (by decide +kernel), am_in 454 (by decide +kernel) (by decide +kernel)⟩
theorem mk_RC_twice : am_mk y_RC_twice 1 := ⟨am_in 460 (by decide +kernel) (by decide +kernel), ⟨by decide +kernel, by decide +kernel⟩, by decide +kernel, by decide, am_in 37 (by decide +kernel) (by decide +kernel)⟩
theorem is_RC_twice : Cond.instanceMethod ⟨"RateChains", "twice", "(I)I"⟩ ∈ am_G ∧ Cond.selects "RateChains" ⟨"RateChains", "twice", "(I)I"⟩ ⟨"RateChains", "twice", "(I)I"⟩ ∈ am_G := ⟨am_in 458 (by decide +kernel) (by decide +kernel), am_in 459 (by decide +kernel) (by decide +kernel)⟩
theorem mk_Pl_isPointWithAverage : am_mk y_Pl_isPointWithAverage 2 := ⟨am_in 464 (by decide +kernel) (by decide +kernel), ⟨by decide +kernel, by decide +kernel⟩, by decide +kernel, by decide, am_in 38 (by decide +kernel) (by decide +kernel)⟩
theorem is_Pl_isPointWithAverage : Cond.instanceMethod ⟨"RateChains$Plants", "isPointWithAverage", "(II)Z"⟩ ∈ am_G ∧ Cond.selects "RateChains$Plants" ⟨"RateChains$Plants", "isPointWithAverage", "(II)Z"⟩ ⟨"RateChains$Plants", "isPointWithAverage", "(II)Z"⟩ ∈ am_G := ⟨am_in 462 (by decide +kernel) (by decide +kernel), am_in 463 (by decide +kernel) (by decide +kernel)⟩
theorem mk_RC_told : am_mk y_RC_told 1 := ⟨am_in 468 (by decide +kernel) (by decide +kernel), ⟨by decide +kernel, by decide +kernel⟩, by decide +kernel, by decide, am_in 37 (by decide +kernel) (by decide +kernel)⟩
theorem is_RC_told : Cond.instanceMethod ⟨"RateChains", "told", "(I)I"⟩ ∈ am_G ∧ Cond.selects "RateChains" ⟨"RateChains", "told", "(I)I"⟩ ⟨"RateChains", "told", "(I)I"⟩ ∈ am_G := ⟨am_in 466 (by decide +kernel) (by decide +kernel), am_in 467 (by decide +kernel) (by decide +kernel)⟩
theorem mk_So_lostBareAt : am_mk y_So_lostBareAt 1 := ⟨am_in 472 (by decide +kernel) (by decide +kernel), ⟨by decide +kernel, by decide +kernel⟩, by decide +kernel, by decide, am_in 40 (by decide +kernel) (by decide +kernel)⟩
theorem is_So_lostBareAt : Cond.instanceMethod ⟨"RateChains$Solved", "lostBareAt", "(I)Z"⟩ ∈ am_G ∧ Cond.selects "RateChains$Solved" ⟨"RateChains$Solved", "lostBareAt", "(I)Z"⟩ ⟨"RateChains$Solved", "lostBareAt", "(I)Z"⟩ ∈ am_G := ⟨am_in 470 (by decide +kernel) (by decide +kernel), am_in 471 (by decide +kernel) (by decide +kernel)⟩
theorem mk_RC_once : am_mk y_RC_once 0 := ⟨am_in 476 (by decide +kernel) (by decide +kernel), ⟨by decide +kernel, by decide +kernel⟩, by decide +kernel, by decide, am_in 37 (by decide +kernel) (by decide +kernel)⟩
theorem is_RC_once : Cond.instanceMethod ⟨"RateChains", "once", "()Z"⟩ ∈ am_G ∧ Cond.selects "RateChains" ⟨"RateChains", "once", "()Z"⟩ ⟨"RateChains", "once", "()Z"⟩ ∈ am_G := ⟨am_in 474 (by decide +kernel) (by decide +kernel), am_in 475 (by decide +kernel) (by decide +kernel)⟩
theorem mk_So_isNeverMoreThanBrought : am_mk y_So_isNeverMoreThanBrought 0 := ⟨am_in 480 (by decide +kernel) (by decide +kernel), ⟨by decide +kernel, by decide +kernel⟩, by decide +kernel, by decide, am_in 40 (by decide +kernel) (by decide +kernel)⟩
theorem is_So_isNeverMoreThanBrought : Cond.instanceMethod ⟨"RateChains$Solved", "isNeverMoreThanBrought", "()Z"⟩ ∈ am_G ∧ Cond.selects "RateChains$Solved" ⟨"RateChains$Solved", "isNeverMoreThanBrought", "()Z"⟩ ⟨"RateChains$Solved", "isNeverMoreThanBrought", "()Z"⟩ ∈ am_G := ⟨am_in 478 (by decide +kernel) (by decide +kernel), am_in 479 (by decide +kernel) (by decide +kernel)⟩
theorem mk_RC_claim : am_mk y_RC_claim 4 := ⟨am_in 485 (by decide +kernel) (by decide +kernel), ⟨by decide +kernel, by decide +kernel⟩, by decide +kernel, by decide, am_in 37 (by decide +kernel) (by decide +kernel)⟩
theorem is_RC_claim : Cond.instanceMethod ⟨"RateChains", "claim", "(IIIJ)J"⟩ ∈ am_G ∧ Cond.selects "RateChains" ⟨"RateChains", "claim", "(IIIJ)J"⟩ ⟨"RateChains", "claim", "(IIIJ)J"⟩ ∈ am_G := ⟨am_in 483 (by decide +kernel) (by decide +kernel), am_in 484 (by decide +kernel) (by decide +kernel)⟩
theorem mk_RC_hasStock : am_mk y_RC_hasStock 3 := ⟨am_in 489 (by decide +kernel) (by decide +kernel), ⟨by decide +kernel, by decide +kernel⟩, by decide +kernel, by decide, am_in 37 (by decide +kernel) (by decide +kernel)⟩
theorem is_RC_hasStock : Cond.instanceMethod ⟨"RateChains", "hasStock", "(III)Z"⟩ ∈ am_G ∧ Cond.selects "RateChains" ⟨"RateChains", "hasStock", "(III)Z"⟩ ⟨"RateChains", "hasStock", "(III)Z"⟩ ∈ am_G := ⟨am_in 488 (by decide +kernel) (by decide +kernel), am_in 15 (by decide +kernel) (by decide +kernel)⟩
theorem mk_So_take : am_mk y_So_take 4 := ⟨am_in 494 (by decide +kernel) (by decide +kernel), ⟨by decide +kernel, by decide +kernel⟩, by decide +kernel, by decide, am_in 40 (by decide +kernel) (by decide +kernel)⟩
theorem is_So_take : Cond.instanceMethod ⟨"RateChains$Solved", "take", "(IIIJ)J"⟩ ∈ am_G ∧ Cond.selects "RateChains$Solved" ⟨"RateChains$Solved", "take", "(IIIJ)J"⟩ ⟨"RateChains$Solved", "take", "(IIIJ)J"⟩ ∈ am_G := ⟨am_in 492 (by decide +kernel) (by decide +kernel), am_in 493 (by decide +kernel) (by decide +kernel)⟩
theorem mk_So_stockOf : am_mk y_So_stockOf 3 := ⟨am_in 501 (by decide +kernel) (by decide +kernel), ⟨by decide +kernel, by decide +kernel⟩, by decide +kernel, by decide, am_in 40 (by decide +kernel) (by decide +kernel)⟩
theorem is_So_stockOf : Cond.instanceMethod ⟨"RateChains$Solved", "stockOf", "(III)J"⟩ ∈ am_G ∧ Cond.selects "RateChains$Solved" ⟨"RateChains$Solved", "stockOf", "(III)J"⟩ ⟨"RateChains$Solved", "stockOf", "(III)J"⟩ ∈ am_G := ⟨am_in 499 (by decide +kernel) (by decide +kernel), am_in 500 (by decide +kernel) (by decide +kernel)⟩
theorem mk_RC_left : am_mk y_RC_left 3 := ⟨am_in 509 (by decide +kernel) (by decide +kernel), ⟨by decide +kernel, by decide +kernel⟩, by decide +kernel, by decide, am_in 37 (by decide +kernel) (by decide +kernel)⟩
theorem is_RC_left : Cond.instanceMethod ⟨"RateChains", "left", "(III)J"⟩ ∈ am_G ∧ Cond.selects "RateChains" ⟨"RateChains", "left", "(III)J"⟩ ⟨"RateChains", "left", "(III)J"⟩ ∈ am_G := ⟨am_in 507 (by decide +kernel) (by decide +kernel), am_in 508 (by decide +kernel) (by decide +kernel)⟩
theorem mk_RC_open : am_mk y_RC_open 4 := ⟨am_in 514 (by decide +kernel) (by decide +kernel), ⟨by decide +kernel, by decide +kernel⟩, by decide +kernel, by decide, am_in 37 (by decide +kernel) (by decide +kernel)⟩
theorem is_RC_open : Cond.instanceMethod ⟨"RateChains", "open", "(IIII)J"⟩ ∈ am_G ∧ Cond.selects "RateChains" ⟨"RateChains", "open", "(IIII)J"⟩ ⟨"RateChains", "open", "(IIII)J"⟩ ∈ am_G := ⟨am_in 512 (by decide +kernel) (by decide +kernel), am_in 513 (by decide +kernel) (by decide +kernel)⟩
theorem mk_So_difference : am_mk y_So_difference 4 := ⟨am_in 518 (by decide +kernel) (by decide +kernel), ⟨by decide +kernel, by decide +kernel⟩, by decide +kernel, by decide, am_in 40 (by decide +kernel) (by decide +kernel)⟩
theorem is_So_difference : Cond.instanceMethod ⟨"RateChains$Solved", "difference", "(IIII)J"⟩ ∈ am_G ∧ Cond.selects "RateChains$Solved" ⟨"RateChains$Solved", "difference", "(IIII)J"⟩ ⟨"RateChains$Solved", "difference", "(IIII)J"⟩ ∈ am_G := ⟨am_in 516 (by decide +kernel) (by decide +kernel), am_in 517 (by decide +kernel) (by decide +kernel)⟩
theorem mk_RC_audit : am_mk y_RC_audit 2 := ⟨am_in 522 (by decide +kernel) (by decide +kernel), ⟨by decide +kernel, by decide +kernel⟩, by decide +kernel, by decide, am_in 37 (by decide +kernel) (by decide +kernel)⟩
theorem is_RC_audit : Cond.instanceMethod ⟨"RateChains", "audit", "(JI)I"⟩ ∈ am_G ∧ Cond.selects "RateChains" ⟨"RateChains", "audit", "(JI)I"⟩ ⟨"RateChains", "audit", "(JI)I"⟩ ∈ am_G := ⟨am_in 520 (by decide +kernel) (by decide +kernel), am_in 521 (by decide +kernel) (by decide +kernel)⟩
theorem mk_Dr_take : am_mk y_Dr_take 3 := ⟨am_in 527 (by decide +kernel) (by decide +kernel), ⟨by decide +kernel, by decide +kernel⟩, by decide +kernel, by decide, am_in 42 (by decide +kernel) (by decide +kernel)⟩
theorem is_Dr_take : Cond.instanceMethod ⟨"RateChains$Draw", "take", "(JII)V"⟩ ∈ am_G ∧ Cond.selects "RateChains$Draw" ⟨"RateChains$Draw", "take", "(JII)V"⟩ ⟨"RateChains$Draw", "take", "(JII)V"⟩ ∈ am_G := ⟨am_in 525 (by decide +kernel) (by decide +kernel), am_in 526 (by decide +kernel) (by decide +kernel)⟩
theorem mk_Dr_swap : am_mk y_Dr_swap 2 := ⟨am_in 533 (by decide +kernel) (by decide +kernel), ⟨by decide +kernel, by decide +kernel⟩, by decide +kernel, by decide, am_in 42 (by decide +kernel) (by decide +kernel)⟩
theorem is_Dr_swap : Cond.instanceMethod ⟨"RateChains$Draw", "swap", "(II)V"⟩ ∈ am_G ∧ Cond.selects "RateChains$Draw" ⟨"RateChains$Draw", "swap", "(II)V"⟩ ⟨"RateChains$Draw", "swap", "(II)V"⟩ ∈ am_G := ⟨am_in 532 (by decide +kernel) (by decide +kernel), am_in 16 (by decide +kernel) (by decide +kernel)⟩
theorem mk_RC_drawn : am_mk y_RC_drawn 1 := ⟨am_in 537 (by decide +kernel) (by decide +kernel), ⟨by decide +kernel, by decide +kernel⟩, by decide +kernel, by decide, am_in 37 (by decide +kernel) (by decide +kernel)⟩
theorem is_RC_drawn : Cond.instanceMethod ⟨"RateChains", "drawn", "(I)I"⟩ ∈ am_G ∧ Cond.selects "RateChains" ⟨"RateChains", "drawn", "(I)I"⟩ ⟨"RateChains", "drawn", "(I)I"⟩ ∈ am_G := ⟨am_in 535 (by decide +kernel) (by decide +kernel), am_in 536 (by decide +kernel) (by decide +kernel)⟩
theorem mk_Dr_row : am_mk y_Dr_row 1 := ⟨am_in 541 (by decide +kernel) (by decide +kernel), ⟨by decide +kernel, by decide +kernel⟩, by decide +kernel, by decide, am_in 42 (by decide +kernel) (by decide +kernel)⟩
theorem is_Dr_row : Cond.instanceMethod ⟨"RateChains$Draw", "row", "(I)I"⟩ ∈ am_G ∧ Cond.selects "RateChains$Draw" ⟨"RateChains$Draw", "row", "(I)I"⟩ ⟨"RateChains$Draw", "row", "(I)I"⟩ ∈ am_G := ⟨am_in 539 (by decide +kernel) (by decide +kernel), am_in 540 (by decide +kernel) (by decide +kernel)⟩
theorem mk_RC_unit : am_mk y_RC_unit 1 := ⟨am_in 545 (by decide +kernel) (by decide +kernel), ⟨by decide +kernel, by decide +kernel⟩, by decide +kernel, by decide, am_in 37 (by decide +kernel) (by decide +kernel)⟩
theorem is_RC_unit : Cond.instanceMethod ⟨"RateChains", "unit", "(I)Z"⟩ ∈ am_G ∧ Cond.selects "RateChains" ⟨"RateChains", "unit", "(I)Z"⟩ ⟨"RateChains", "unit", "(I)Z"⟩ ∈ am_G := ⟨am_in 543 (by decide +kernel) (by decide +kernel), am_in 544 (by decide +kernel) (by decide +kernel)⟩
theorem mk_Te_add : am_mk y_Te_add 1 := ⟨am_in 549 (by decide +kernel) (by decide +kernel), ⟨by decide +kernel, by decide +kernel⟩, by decide +kernel, by decide, am_in 43 (by decide +kernel) (by decide +kernel)⟩
theorem is_Te_add : Cond.instanceMethod ⟨"RateChains$Text", "add", "(I)Z"⟩ ∈ am_G ∧ Cond.selects "RateChains$Text" ⟨"RateChains$Text", "add", "(I)Z"⟩ ⟨"RateChains$Text", "add", "(I)Z"⟩ ∈ am_G := ⟨am_in 547 (by decide +kernel) (by decide +kernel), am_in 548 (by decide +kernel) (by decide +kernel)⟩
theorem mk_RC_form : am_mk y_RC_form 1 := ⟨am_in 553 (by decide +kernel) (by decide +kernel), ⟨by decide +kernel, by decide +kernel⟩, by decide +kernel, by decide, am_in 37 (by decide +kernel) (by decide +kernel)⟩
theorem is_RC_form : Cond.instanceMethod ⟨"RateChains", "form", "(I)I"⟩ ∈ am_G ∧ Cond.selects "RateChains" ⟨"RateChains", "form", "(I)I"⟩ ⟨"RateChains", "form", "(I)I"⟩ ∈ am_G := ⟨am_in 551 (by decide +kernel) (by decide +kernel), am_in 552 (by decide +kernel) (by decide +kernel)⟩
theorem mk_Te_filledAt : am_mk y_Te_filledAt 2 := ⟨am_in 557 (by decide +kernel) (by decide +kernel), ⟨by decide +kernel, by decide +kernel⟩, by decide +kernel, by decide, am_in 43 (by decide +kernel) (by decide +kernel)⟩
theorem is_Te_filledAt : Cond.instanceMethod ⟨"RateChains$Text", "filledAt", "(ILRateChains$Solved;)I"⟩ ∈ am_G ∧ Cond.selects "RateChains$Text" ⟨"RateChains$Text", "filledAt", "(ILRateChains$Solved;)I"⟩ ⟨"RateChains$Text", "filledAt", "(ILRateChains$Solved;)I"⟩ ∈ am_G := ⟨am_in 555 (by decide +kernel) (by decide +kernel), am_in 556 (by decide +kernel) (by decide +kernel)⟩
theorem mk_Te_isMark : am_mk y_Te_isMark 1 := ⟨am_in 561 (by decide +kernel) (by decide +kernel), ⟨by decide +kernel, by decide +kernel⟩, by decide +kernel, by decide, am_in 43 (by decide +kernel) (by decide +kernel)⟩
theorem is_Te_isMark : Cond.instanceMethod ⟨"RateChains$Text", "isMark", "(I)Z"⟩ ∈ am_G ∧ Cond.selects "RateChains$Text" ⟨"RateChains$Text", "isMark", "(I)Z"⟩ ⟨"RateChains$Text", "isMark", "(I)Z"⟩ ∈ am_G := ⟨am_in 560 (by decide +kernel) (by decide +kernel), am_in 17 (by decide +kernel) (by decide +kernel)⟩
theorem mk_Te_widthOf : am_mk y_Te_widthOf 2 := ⟨am_in 567 (by decide +kernel) (by decide +kernel), ⟨by decide +kernel, by decide +kernel⟩, by decide +kernel, by decide, am_in 43 (by decide +kernel) (by decide +kernel)⟩
theorem is_Te_widthOf : Cond.instanceMethod ⟨"RateChains$Text", "widthOf", "(ILRateChains$Solved;)I"⟩ ∈ am_G ∧ Cond.selects "RateChains$Text" ⟨"RateChains$Text", "widthOf", "(ILRateChains$Solved;)I"⟩ ⟨"RateChains$Text", "widthOf", "(ILRateChains$Solved;)I"⟩ ∈ am_G := ⟨am_in 566 (by decide +kernel) (by decide +kernel), am_in 18 (by decide +kernel) (by decide +kernel)⟩
theorem mk_Te_numberOf : am_mk y_Te_numberOf 2 := ⟨am_in 572 (by decide +kernel) (by decide +kernel), ⟨by decide +kernel, by decide +kernel⟩, by decide +kernel, by decide, am_in 43 (by decide +kernel) (by decide +kernel)⟩
theorem is_Te_numberOf : Cond.instanceMethod ⟨"RateChains$Text", "numberOf", "(ILRateChains$Solved;)J"⟩ ∈ am_G ∧ Cond.selects "RateChains$Text" ⟨"RateChains$Text", "numberOf", "(ILRateChains$Solved;)J"⟩ ⟨"RateChains$Text", "numberOf", "(ILRateChains$Solved;)J"⟩ ∈ am_G := ⟨am_in 571 (by decide +kernel) (by decide +kernel), am_in 19 (by decide +kernel) (by decide +kernel)⟩
theorem mk_So_wholeGrams : am_mk y_So_wholeGrams 2 := ⟨am_in 576 (by decide +kernel) (by decide +kernel), ⟨by decide +kernel, by decide +kernel⟩, by decide +kernel, by decide, am_in 40 (by decide +kernel) (by decide +kernel)⟩
theorem is_So_wholeGrams : Cond.instanceMethod ⟨"RateChains$Solved", "wholeGrams", "(II)J"⟩ ∈ am_G ∧ Cond.selects "RateChains$Solved" ⟨"RateChains$Solved", "wholeGrams", "(II)J"⟩ ⟨"RateChains$Solved", "wholeGrams", "(II)J"⟩ ∈ am_G := ⟨am_in 574 (by decide +kernel) (by decide +kernel), am_in 575 (by decide +kernel) (by decide +kernel)⟩
theorem mk_Te_numberByte : am_mk y_Te_numberByte 3 := ⟨am_in 581 (by decide +kernel) (by decide +kernel), ⟨by decide +kernel, by decide +kernel⟩, by decide +kernel, by decide, am_in 43 (by decide +kernel) (by decide +kernel)⟩
theorem is_Te_numberByte : Cond.instanceMethod ⟨"RateChains$Text", "numberByte", "(IILRateChains$Solved;)I"⟩ ∈ am_G ∧ Cond.selects "RateChains$Text" ⟨"RateChains$Text", "numberByte", "(IILRateChains$Solved;)I"⟩ ⟨"RateChains$Text", "numberByte", "(IILRateChains$Solved;)I"⟩ ∈ am_G := ⟨am_in 580 (by decide +kernel) (by decide +kernel), am_in 20 (by decide +kernel) (by decide +kernel)⟩
theorem mk_Mo_init : am_mk y_Mo_init 0 := ⟨am_in 586 (by decide +kernel) (by decide +kernel), ⟨by decide +kernel, by decide +kernel⟩, by decide +kernel, by decide, am_in 44 (by decide +kernel) (by decide +kernel)⟩
theorem is_Mo_init : Cond.instanceMethod ⟨"RateChainsModel", "<init>", "()V"⟩ ∈ am_G ∧ (⟨"RateChainsModel", "<init>", "()V"⟩ : MethodName).name = "<init>" ∧ (none : Option FieldType) = none := ⟨am_in 585 (by decide +kernel) (by decide +kernel), rfl, rfl⟩
theorem mk_Mo_plant : am_mk y_Mo_plant 0 := ⟨am_in 679 (by decide +kernel) (by decide +kernel), ⟨by decide +kernel, by decide +kernel⟩, by decide +kernel, by decide, am_in 44 (by decide +kernel) (by decide +kernel)⟩
theorem is_Mo_plant : Cond.instanceMethod ⟨"RateChainsModel", "plant", "()I"⟩ ∈ am_G ∧ Cond.selects "RateChainsModel" ⟨"RateChainsModel", "plant", "()I"⟩ ⟨"RateChainsModel", "plant", "()I"⟩ ∈ am_G := ⟨am_in 677 (by decide +kernel) (by decide +kernel), am_in 678 (by decide +kernel) (by decide +kernel)⟩
theorem mk_Mo_share : am_mk y_Mo_share 4 := ⟨am_in 683 (by decide +kernel) (by decide +kernel), ⟨by decide +kernel, by decide +kernel⟩, by decide +kernel, by decide, am_in 44 (by decide +kernel) (by decide +kernel)⟩
theorem is_Mo_share : Cond.instanceMethod ⟨"RateChainsModel", "share", "(IIJJ)Z"⟩ ∈ am_G ∧ Cond.selects "RateChainsModel" ⟨"RateChainsModel", "share", "(IIJJ)Z"⟩ ⟨"RateChainsModel", "share", "(IIJJ)Z"⟩ ∈ am_G := ⟨am_in 681 (by decide +kernel) (by decide +kernel), am_in 682 (by decide +kernel) (by decide +kernel)⟩
theorem mk_Mo_isPlant : am_mk y_Mo_isPlant 1 := ⟨am_in 687 (by decide +kernel) (by decide +kernel), ⟨by decide +kernel, by decide +kernel⟩, by decide +kernel, by decide, am_in 44 (by decide +kernel) (by decide +kernel)⟩
theorem is_Mo_isPlant : Cond.instanceMethod ⟨"RateChainsModel", "isPlant", "(I)Z"⟩ ∈ am_G ∧ Cond.selects "RateChainsModel" ⟨"RateChainsModel", "isPlant", "(I)Z"⟩ ⟨"RateChainsModel", "isPlant", "(I)Z"⟩ ∈ am_G := ⟨am_in 686 (by decide +kernel) (by decide +kernel), am_in 21 (by decide +kernel) (by decide +kernel)⟩
theorem mk_Mo_isFraction : am_mk y_Mo_isFraction 2 := ⟨am_in 690 (by decide +kernel) (by decide +kernel), ⟨by decide +kernel, by decide +kernel⟩, by decide +kernel, by decide, am_in 44 (by decide +kernel) (by decide +kernel)⟩
theorem is_Mo_isFraction : Cond.static ⟨"RateChainsModel", "isFraction", "(JJ)Z"⟩ ∈ am_G := am_in 689 (by decide +kernel) (by decide +kernel)
theorem mk_Mo_isIn : am_mk y_Mo_isIn 3 := ⟨am_in 696 (by decide +kernel) (by decide +kernel), ⟨by decide +kernel, by decide +kernel⟩, by decide +kernel, by decide, am_in 44 (by decide +kernel) (by decide +kernel)⟩
theorem is_Mo_isIn : Cond.static ⟨"RateChainsModel", "isIn", "(JJJ)Z"⟩ ∈ am_G := am_in 695 (by decide +kernel) (by decide +kernel)
theorem mk_Mo_point : am_mk y_Mo_point 2 := ⟨am_in 700 (by decide +kernel) (by decide +kernel), ⟨by decide +kernel, by decide +kernel⟩, by decide +kernel, by decide, am_in 44 (by decide +kernel) (by decide +kernel)⟩
theorem is_Mo_point : Cond.instanceMethod ⟨"RateChainsModel", "point", "(II)Z"⟩ ∈ am_G ∧ Cond.selects "RateChainsModel" ⟨"RateChainsModel", "point", "(II)Z"⟩ ⟨"RateChainsModel", "point", "(II)Z"⟩ ∈ am_G := ⟨am_in 698 (by decide +kernel) (by decide +kernel), am_in 699 (by decide +kernel) (by decide +kernel)⟩
theorem mk_Mo_isKind : am_mk y_Mo_isKind 1 := ⟨am_in 703 (by decide +kernel) (by decide +kernel), ⟨by decide +kernel, by decide +kernel⟩, by decide +kernel, by decide, am_in 44 (by decide +kernel) (by decide +kernel)⟩
theorem is_Mo_isKind : Cond.static ⟨"RateChainsModel", "isKind", "(I)Z"⟩ ∈ am_G := am_in 702 (by decide +kernel) (by decide +kernel)
theorem mk_Mo_average : am_mk y_Mo_average 3 := ⟨am_in 707 (by decide +kernel) (by decide +kernel), ⟨by decide +kernel, by decide +kernel⟩, by decide +kernel, by decide, am_in 44 (by decide +kernel) (by decide +kernel)⟩
theorem is_Mo_average : Cond.instanceMethod ⟨"RateChainsModel", "average", "(IJJ)Z"⟩ ∈ am_G ∧ Cond.selects "RateChainsModel" ⟨"RateChainsModel", "average", "(IJJ)Z"⟩ ⟨"RateChainsModel", "average", "(IJJ)Z"⟩ ∈ am_G := ⟨am_in 705 (by decide +kernel) (by decide +kernel), am_in 706 (by decide +kernel) (by decide +kernel)⟩
theorem mk_Mo_feed : am_mk y_Mo_feed 5 := ⟨am_in 711 (by decide +kernel) (by decide +kernel), ⟨by decide +kernel, by decide +kernel⟩, by decide +kernel, by decide, am_in 44 (by decide +kernel) (by decide +kernel)⟩
theorem is_Mo_feed : Cond.instanceMethod ⟨"RateChainsModel", "feed", "(IIJII)Z"⟩ ∈ am_G ∧ Cond.selects "RateChainsModel" ⟨"RateChainsModel", "feed", "(IIJII)Z"⟩ ⟨"RateChainsModel", "feed", "(IIJII)Z"⟩ ∈ am_G := ⟨am_in 709 (by decide +kernel) (by decide +kernel), am_in 710 (by decide +kernel) (by decide +kernel)⟩
theorem mk_Mo_isYear : am_mk y_Mo_isYear 1 := ⟨am_in 715 (by decide +kernel) (by decide +kernel), ⟨by decide +kernel, by decide +kernel⟩, by decide +kernel, by decide, am_in 44 (by decide +kernel) (by decide +kernel)⟩
theorem is_Mo_isYear : Cond.static ⟨"RateChainsModel", "isYear", "(I)Z"⟩ ∈ am_G := am_in 714 (by decide +kernel) (by decide +kernel)
theorem mk_Mo_isCountry : am_mk y_Mo_isCountry 1 := ⟨am_in 718 (by decide +kernel) (by decide +kernel), ⟨by decide +kernel, by decide +kernel⟩, by decide +kernel, by decide, am_in 44 (by decide +kernel) (by decide +kernel)⟩
theorem is_Mo_isCountry : Cond.static ⟨"RateChainsModel", "isCountry", "(I)Z"⟩ ∈ am_G := am_in 717 (by decide +kernel) (by decide +kernel)
theorem mk_Mo_metals : am_mk y_Mo_metals 2 := ⟨am_in 722 (by decide +kernel) (by decide +kernel), ⟨by decide +kernel, by decide +kernel⟩, by decide +kernel, by decide, am_in 44 (by decide +kernel) (by decide +kernel)⟩
theorem is_Mo_metals : Cond.instanceMethod ⟨"RateChainsModel", "metals", "(IJ)Z"⟩ ∈ am_G ∧ Cond.selects "RateChainsModel" ⟨"RateChainsModel", "metals", "(IJ)Z"⟩ ⟨"RateChainsModel", "metals", "(IJ)Z"⟩ ∈ am_G := ⟨am_in 720 (by decide +kernel) (by decide +kernel), am_in 721 (by decide +kernel) (by decide +kernel)⟩
theorem mk_Mo_placed : am_mk y_Mo_placed 3 := ⟨am_in 726 (by decide +kernel) (by decide +kernel), ⟨by decide +kernel, by decide +kernel⟩, by decide +kernel, by decide, am_in 44 (by decide +kernel) (by decide +kernel)⟩
theorem is_Mo_placed : Cond.instanceMethod ⟨"RateChainsModel", "placed", "(IIJ)Z"⟩ ∈ am_G ∧ Cond.selects "RateChainsModel" ⟨"RateChainsModel", "placed", "(IIJ)Z"⟩ ⟨"RateChainsModel", "placed", "(IIJ)Z"⟩ ∈ am_G := ⟨am_in 724 (by decide +kernel) (by decide +kernel), am_in 725 (by decide +kernel) (by decide +kernel)⟩
theorem mk_Mo_solve : am_mk y_Mo_solve 0 := ⟨am_in 731 (by decide +kernel) (by decide +kernel), ⟨by decide +kernel, by decide +kernel⟩, by decide +kernel, by decide, am_in 44 (by decide +kernel) (by decide +kernel)⟩
theorem is_Mo_solve : Cond.instanceMethod ⟨"RateChainsModel", "solve", "()I"⟩ ∈ am_G ∧ Cond.selects "RateChainsModel" ⟨"RateChainsModel", "solve", "()I"⟩ ⟨"RateChainsModel", "solve", "()I"⟩ ∈ am_G := ⟨am_in 729 (by decide +kernel) (by decide +kernel), am_in 730 (by decide +kernel) (by decide +kernel)⟩
theorem mk_Mo_ends : am_mk y_Mo_ends 2 := ⟨am_in 735 (by decide +kernel) (by decide +kernel), ⟨by decide +kernel, by decide +kernel⟩, by decide +kernel, by decide, am_in 44 (by decide +kernel) (by decide +kernel)⟩
theorem is_Mo_ends : Cond.instanceMethod ⟨"RateChainsModel", "ends", "(II)Z"⟩ ∈ am_G ∧ Cond.selects "RateChainsModel" ⟨"RateChainsModel", "ends", "(II)Z"⟩ ⟨"RateChainsModel", "ends", "(II)Z"⟩ ∈ am_G := ⟨am_in 734 (by decide +kernel) (by decide +kernel), am_in 22 (by decide +kernel) (by decide +kernel)⟩
theorem mk_Mo_shared : am_mk y_Mo_shared 1 := ⟨am_in 739 (by decide +kernel) (by decide +kernel), ⟨by decide +kernel, by decide +kernel⟩, by decide +kernel, by decide, am_in 44 (by decide +kernel) (by decide +kernel)⟩
theorem is_Mo_shared : Cond.instanceMethod ⟨"RateChainsModel", "shared", "(I)I"⟩ ∈ am_G ∧ Cond.selects "RateChainsModel" ⟨"RateChainsModel", "shared", "(I)I"⟩ ⟨"RateChainsModel", "shared", "(I)I"⟩ ∈ am_G := ⟨am_in 738 (by decide +kernel) (by decide +kernel), am_in 23 (by decide +kernel) (by decide +kernel)⟩
theorem mk_Mo_layOut : am_mk y_Mo_layOut 1 := ⟨am_in 743 (by decide +kernel) (by decide +kernel), ⟨by decide +kernel, by decide +kernel⟩, by decide +kernel, by decide, am_in 44 (by decide +kernel) (by decide +kernel)⟩
theorem is_Mo_layOut : Cond.instanceMethod ⟨"RateChainsModel", "layOut", "(I)V"⟩ ∈ am_G ∧ Cond.selects "RateChainsModel" ⟨"RateChainsModel", "layOut", "(I)V"⟩ ⟨"RateChainsModel", "layOut", "(I)V"⟩ ∈ am_G := ⟨am_in 742 (by decide +kernel) (by decide +kernel), am_in 24 (by decide +kernel) (by decide +kernel)⟩
theorem mk_Mo_put : am_mk y_Mo_put 3 := ⟨am_in 747 (by decide +kernel) (by decide +kernel), ⟨by decide +kernel, by decide +kernel⟩, by decide +kernel, by decide, am_in 44 (by decide +kernel) (by decide +kernel)⟩
theorem is_Mo_put : Cond.instanceMethod ⟨"RateChainsModel", "put", "(IJJ)V"⟩ ∈ am_G ∧ Cond.selects "RateChainsModel" ⟨"RateChainsModel", "put", "(IJJ)V"⟩ ⟨"RateChainsModel", "put", "(IJJ)V"⟩ ∈ am_G := ⟨am_in 746 (by decide +kernel) (by decide +kernel), am_in 25 (by decide +kernel) (by decide +kernel)⟩
theorem mk_Mo_common : am_mk y_Mo_common 2 := ⟨am_in 750 (by decide +kernel) (by decide +kernel), ⟨by decide +kernel, by decide +kernel⟩, by decide +kernel, by decide, am_in 44 (by decide +kernel) (by decide +kernel)⟩
theorem is_Mo_common : Cond.static ⟨"RateChainsModel", "common", "(JJ)J"⟩ ∈ am_G := am_in 749 (by decide +kernel) (by decide +kernel)
theorem mk_Mo_eliminate : am_mk y_Mo_eliminate 0 := ⟨am_in 754 (by decide +kernel) (by decide +kernel), ⟨by decide +kernel, by decide +kernel⟩, by decide +kernel, by decide, am_in 44 (by decide +kernel) (by decide +kernel)⟩
theorem is_Mo_eliminate : Cond.instanceMethod ⟨"RateChainsModel", "eliminate", "()V"⟩ ∈ am_G ∧ Cond.selects "RateChainsModel" ⟨"RateChainsModel", "eliminate", "()V"⟩ ⟨"RateChainsModel", "eliminate", "()V"⟩ ∈ am_G := ⟨am_in 753 (by decide +kernel) (by decide +kernel), am_in 26 (by decide +kernel) (by decide +kernel)⟩
theorem mk_Mo_swap : am_mk y_Mo_swap 2 := ⟨am_in 758 (by decide +kernel) (by decide +kernel), ⟨by decide +kernel, by decide +kernel⟩, by decide +kernel, by decide, am_in 44 (by decide +kernel) (by decide +kernel)⟩
theorem is_Mo_swap : Cond.instanceMethod ⟨"RateChainsModel", "swap", "(II)V"⟩ ∈ am_G ∧ Cond.selects "RateChainsModel" ⟨"RateChainsModel", "swap", "(II)V"⟩ ⟨"RateChainsModel", "swap", "(II)V"⟩ ∈ am_G := ⟨am_in 757 (by decide +kernel) (by decide +kernel), am_in 27 (by decide +kernel) (by decide +kernel)⟩
theorem mk_Mo_lessen : am_mk y_Mo_lessen 4 := ⟨am_in 762 (by decide +kernel) (by decide +kernel), ⟨by decide +kernel, by decide +kernel⟩, by decide +kernel, by decide, am_in 44 (by decide +kernel) (by decide +kernel)⟩
theorem is_Mo_lessen : Cond.instanceMethod ⟨"RateChainsModel", "lessen", "(IJJI)V"⟩ ∈ am_G ∧ Cond.selects "RateChainsModel" ⟨"RateChainsModel", "lessen", "(IJJI)V"⟩ ⟨"RateChainsModel", "lessen", "(IJJI)V"⟩ ∈ am_G := ⟨am_in 761 (by decide +kernel) (by decide +kernel), am_in 28 (by decide +kernel) (by decide +kernel)⟩
theorem mk_Mo_noteBare : am_mk y_Mo_noteBare 0 := ⟨am_in 766 (by decide +kernel) (by decide +kernel), ⟨by decide +kernel, by decide +kernel⟩, by decide +kernel, by decide, am_in 44 (by decide +kernel) (by decide +kernel)⟩
theorem is_Mo_noteBare : Cond.instanceMethod ⟨"RateChainsModel", "noteBare", "()V"⟩ ∈ am_G ∧ Cond.selects "RateChainsModel" ⟨"RateChainsModel", "noteBare", "()V"⟩ ⟨"RateChainsModel", "noteBare", "()V"⟩ ∈ am_G := ⟨am_in 765 (by decide +kernel) (by decide +kernel), am_in 29 (by decide +kernel) (by decide +kernel)⟩
theorem mk_Mo_counted : am_mk y_Mo_counted 3 := ⟨am_in 770 (by decide +kernel) (by decide +kernel), ⟨by decide +kernel, by decide +kernel⟩, by decide +kernel, by decide, am_in 44 (by decide +kernel) (by decide +kernel)⟩
theorem is_Mo_counted : Cond.instanceMethod ⟨"RateChainsModel", "counted", "(III)J"⟩ ∈ am_G ∧ Cond.selects "RateChainsModel" ⟨"RateChainsModel", "counted", "(III)J"⟩ ⟨"RateChainsModel", "counted", "(III)J"⟩ ∈ am_G := ⟨am_in 768 (by decide +kernel) (by decide +kernel), am_in 769 (by decide +kernel) (by decide +kernel)⟩
theorem mk_Mo_count : am_mk y_Mo_count 3 := ⟨am_in 775 (by decide +kernel) (by decide +kernel), ⟨by decide +kernel, by decide +kernel⟩, by decide +kernel, by decide, am_in 44 (by decide +kernel) (by decide +kernel)⟩
theorem is_Mo_count : Cond.instanceMethod ⟨"RateChainsModel", "count", "(III)V"⟩ ∈ am_G ∧ Cond.selects "RateChainsModel" ⟨"RateChainsModel", "count", "(III)V"⟩ ⟨"RateChainsModel", "count", "(III)V"⟩ ∈ am_G := ⟨am_in 774 (by decide +kernel) (by decide +kernel), am_in 30 (by decide +kernel) (by decide +kernel)⟩
theorem mk_Mo_nothing : am_mk y_Mo_nothing 0 := ⟨am_in 779 (by decide +kernel) (by decide +kernel), ⟨by decide +kernel, by decide +kernel⟩, by decide +kernel, by decide, am_in 44 (by decide +kernel) (by decide +kernel)⟩
theorem is_Mo_nothing : Cond.instanceMethod ⟨"RateChainsModel", "nothing", "()V"⟩ ∈ am_G ∧ Cond.selects "RateChainsModel" ⟨"RateChainsModel", "nothing", "()V"⟩ ⟨"RateChainsModel", "nothing", "()V"⟩ ∈ am_G := ⟨am_in 778 (by decide +kernel) (by decide +kernel), am_in 31 (by decide +kernel) (by decide +kernel)⟩
theorem mk_Mo_sum : am_mk y_Mo_sum 4 := ⟨am_in 783 (by decide +kernel) (by decide +kernel), ⟨by decide +kernel, by decide +kernel⟩, by decide +kernel, by decide, am_in 44 (by decide +kernel) (by decide +kernel)⟩
theorem is_Mo_sum : Cond.instanceMethod ⟨"RateChainsModel", "sum", "(IIII)V"⟩ ∈ am_G ∧ Cond.selects "RateChainsModel" ⟨"RateChainsModel", "sum", "(IIII)V"⟩ ⟨"RateChainsModel", "sum", "(IIII)V"⟩ ∈ am_G := ⟨am_in 782 (by decide +kernel) (by decide +kernel), am_in 32 (by decide +kernel) (by decide +kernel)⟩
theorem mk_Mo_add : am_mk y_Mo_add 2 := ⟨am_in 787 (by decide +kernel) (by decide +kernel), ⟨by decide +kernel, by decide +kernel⟩, by decide +kernel, by decide, am_in 44 (by decide +kernel) (by decide +kernel)⟩
theorem is_Mo_add : Cond.instanceMethod ⟨"RateChainsModel", "add", "(JJ)V"⟩ ∈ am_G ∧ Cond.selects "RateChainsModel" ⟨"RateChainsModel", "add", "(JJ)V"⟩ ⟨"RateChainsModel", "add", "(JJ)V"⟩ ∈ am_G := ⟨am_in 786 (by decide +kernel) (by decide +kernel), am_in 33 (by decide +kernel) (by decide +kernel)⟩
theorem mk_Mo_rate : am_mk y_Mo_rate 3 := ⟨am_in 791 (by decide +kernel) (by decide +kernel), ⟨by decide +kernel, by decide +kernel⟩, by decide +kernel, by decide, am_in 44 (by decide +kernel) (by decide +kernel)⟩
theorem is_Mo_rate : Cond.instanceMethod ⟨"RateChainsModel", "rate", "(III)J"⟩ ∈ am_G ∧ Cond.selects "RateChainsModel" ⟨"RateChainsModel", "rate", "(III)J"⟩ ⟨"RateChainsModel", "rate", "(III)J"⟩ ∈ am_G := ⟨am_in 789 (by decide +kernel) (by decide +kernel), am_in 790 (by decide +kernel) (by decide +kernel)⟩
theorem mk_Mo_twice : am_mk y_Mo_twice 1 := ⟨am_in 795 (by decide +kernel) (by decide +kernel), ⟨by decide +kernel, by decide +kernel⟩, by decide +kernel, by decide, am_in 44 (by decide +kernel) (by decide +kernel)⟩
theorem is_Mo_twice : Cond.instanceMethod ⟨"RateChainsModel", "twice", "(I)I"⟩ ∈ am_G ∧ Cond.selects "RateChainsModel" ⟨"RateChainsModel", "twice", "(I)I"⟩ ⟨"RateChainsModel", "twice", "(I)I"⟩ ∈ am_G := ⟨am_in 793 (by decide +kernel) (by decide +kernel), am_in 794 (by decide +kernel) (by decide +kernel)⟩
theorem mk_Mo_told : am_mk y_Mo_told 1 := ⟨am_in 799 (by decide +kernel) (by decide +kernel), ⟨by decide +kernel, by decide +kernel⟩, by decide +kernel, by decide, am_in 44 (by decide +kernel) (by decide +kernel)⟩
theorem is_Mo_told : Cond.instanceMethod ⟨"RateChainsModel", "told", "(I)I"⟩ ∈ am_G ∧ Cond.selects "RateChainsModel" ⟨"RateChainsModel", "told", "(I)I"⟩ ⟨"RateChainsModel", "told", "(I)I"⟩ ∈ am_G := ⟨am_in 797 (by decide +kernel) (by decide +kernel), am_in 798 (by decide +kernel) (by decide +kernel)⟩
theorem mk_Mo_once : am_mk y_Mo_once 0 := ⟨am_in 803 (by decide +kernel) (by decide +kernel), ⟨by decide +kernel, by decide +kernel⟩, by decide +kernel, by decide, am_in 44 (by decide +kernel) (by decide +kernel)⟩
theorem is_Mo_once : Cond.instanceMethod ⟨"RateChainsModel", "once", "()Z"⟩ ∈ am_G ∧ Cond.selects "RateChainsModel" ⟨"RateChainsModel", "once", "()Z"⟩ ⟨"RateChainsModel", "once", "()Z"⟩ ∈ am_G := ⟨am_in 801 (by decide +kernel) (by decide +kernel), am_in 802 (by decide +kernel) (by decide +kernel)⟩
theorem mk_Mo_left : am_mk y_Mo_left 3 := ⟨am_in 807 (by decide +kernel) (by decide +kernel), ⟨by decide +kernel, by decide +kernel⟩, by decide +kernel, by decide, am_in 44 (by decide +kernel) (by decide +kernel)⟩
theorem is_Mo_left : Cond.instanceMethod ⟨"RateChainsModel", "left", "(III)J"⟩ ∈ am_G ∧ Cond.selects "RateChainsModel" ⟨"RateChainsModel", "left", "(III)J"⟩ ⟨"RateChainsModel", "left", "(III)J"⟩ ∈ am_G := ⟨am_in 805 (by decide +kernel) (by decide +kernel), am_in 806 (by decide +kernel) (by decide +kernel)⟩
theorem mk_Mo_stock : am_mk y_Mo_stock 3 := ⟨am_in 811 (by decide +kernel) (by decide +kernel), ⟨by decide +kernel, by decide +kernel⟩, by decide +kernel, by decide, am_in 44 (by decide +kernel) (by decide +kernel)⟩
theorem is_Mo_stock : Cond.instanceMethod ⟨"RateChainsModel", "stock", "(III)J"⟩ ∈ am_G ∧ Cond.selects "RateChainsModel" ⟨"RateChainsModel", "stock", "(III)J"⟩ ⟨"RateChainsModel", "stock", "(III)J"⟩ ∈ am_G := ⟨am_in 810 (by decide +kernel) (by decide +kernel), am_in 34 (by decide +kernel) (by decide +kernel)⟩
theorem mk_Mo_claim : am_mk y_Mo_claim 4 := ⟨am_in 815 (by decide +kernel) (by decide +kernel), ⟨by decide +kernel, by decide +kernel⟩, by decide +kernel, by decide, am_in 44 (by decide +kernel) (by decide +kernel)⟩
theorem is_Mo_claim : Cond.instanceMethod ⟨"RateChainsModel", "claim", "(IIIJ)J"⟩ ∈ am_G ∧ Cond.selects "RateChainsModel" ⟨"RateChainsModel", "claim", "(IIIJ)J"⟩ ⟨"RateChainsModel", "claim", "(IIIJ)J"⟩ ∈ am_G := ⟨am_in 813 (by decide +kernel) (by decide +kernel), am_in 814 (by decide +kernel) (by decide +kernel)⟩
theorem mk_Mo_open : am_mk y_Mo_open 4 := ⟨am_in 820 (by decide +kernel) (by decide +kernel), ⟨by decide +kernel, by decide +kernel⟩, by decide +kernel, by decide, am_in 44 (by decide +kernel) (by decide +kernel)⟩
theorem is_Mo_open : Cond.instanceMethod ⟨"RateChainsModel", "open", "(IIII)J"⟩ ∈ am_G ∧ Cond.selects "RateChainsModel" ⟨"RateChainsModel", "open", "(IIII)J"⟩ ⟨"RateChainsModel", "open", "(IIII)J"⟩ ∈ am_G := ⟨am_in 818 (by decide +kernel) (by decide +kernel), am_in 819 (by decide +kernel) (by decide +kernel)⟩
theorem mk_Mo_audit : am_mk y_Mo_audit 2 := ⟨am_in 824 (by decide +kernel) (by decide +kernel), ⟨by decide +kernel, by decide +kernel⟩, by decide +kernel, by decide, am_in 44 (by decide +kernel) (by decide +kernel)⟩
theorem is_Mo_audit : Cond.instanceMethod ⟨"RateChainsModel", "audit", "(JI)I"⟩ ∈ am_G ∧ Cond.selects "RateChainsModel" ⟨"RateChainsModel", "audit", "(JI)I"⟩ ⟨"RateChainsModel", "audit", "(JI)I"⟩ ∈ am_G := ⟨am_in 822 (by decide +kernel) (by decide +kernel), am_in 823 (by decide +kernel) (by decide +kernel)⟩
theorem mk_Mo_drawn : am_mk y_Mo_drawn 1 := ⟨am_in 830 (by decide +kernel) (by decide +kernel), ⟨by decide +kernel, by decide +kernel⟩, by decide +kernel, by decide, am_in 44 (by decide +kernel) (by decide +kernel)⟩
theorem is_Mo_drawn : Cond.instanceMethod ⟨"RateChainsModel", "drawn", "(I)I"⟩ ∈ am_G ∧ Cond.selects "RateChainsModel" ⟨"RateChainsModel", "drawn", "(I)I"⟩ ⟨"RateChainsModel", "drawn", "(I)I"⟩ ∈ am_G := ⟨am_in 828 (by decide +kernel) (by decide +kernel), am_in 829 (by decide +kernel) (by decide +kernel)⟩
theorem mk_Mo_unit : am_mk y_Mo_unit 1 := ⟨am_in 834 (by decide +kernel) (by decide +kernel), ⟨by decide +kernel, by decide +kernel⟩, by decide +kernel, by decide, am_in 44 (by decide +kernel) (by decide +kernel)⟩
theorem is_Mo_unit : Cond.instanceMethod ⟨"RateChainsModel", "unit", "(I)Z"⟩ ∈ am_G ∧ Cond.selects "RateChainsModel" ⟨"RateChainsModel", "unit", "(I)Z"⟩ ⟨"RateChainsModel", "unit", "(I)Z"⟩ ∈ am_G := ⟨am_in 832 (by decide +kernel) (by decide +kernel), am_in 833 (by decide +kernel) (by decide +kernel)⟩
theorem mk_Mo_form : am_mk y_Mo_form 1 := ⟨am_in 838 (by decide +kernel) (by decide +kernel), ⟨by decide +kernel, by decide +kernel⟩, by decide +kernel, by decide, am_in 44 (by decide +kernel) (by decide +kernel)⟩
theorem is_Mo_form : Cond.instanceMethod ⟨"RateChainsModel", "form", "(I)I"⟩ ∈ am_G ∧ Cond.selects "RateChainsModel" ⟨"RateChainsModel", "form", "(I)I"⟩ ⟨"RateChainsModel", "form", "(I)I"⟩ ∈ am_G := ⟨am_in 836 (by decide +kernel) (by decide +kernel), am_in 837 (by decide +kernel) (by decide +kernel)⟩
theorem mk_Mo_isNumberAt : am_mk y_Mo_isNumberAt 1 := ⟨am_in 842 (by decide +kernel) (by decide +kernel), ⟨by decide +kernel, by decide +kernel⟩, by decide +kernel, by decide, am_in 44 (by decide +kernel) (by decide +kernel)⟩
theorem is_Mo_isNumberAt : Cond.instanceMethod ⟨"RateChainsModel", "isNumberAt", "(I)Z"⟩ ∈ am_G ∧ Cond.selects "RateChainsModel" ⟨"RateChainsModel", "isNumberAt", "(I)Z"⟩ ⟨"RateChainsModel", "isNumberAt", "(I)Z"⟩ ∈ am_G := ⟨am_in 841 (by decide +kernel) (by decide +kernel), am_in 35 (by decide +kernel) (by decide +kernel)⟩
theorem mk_Mo_length : am_mk y_Mo_length 1 := ⟨am_in 845 (by decide +kernel) (by decide +kernel), ⟨by decide +kernel, by decide +kernel⟩, by decide +kernel, by decide, am_in 44 (by decide +kernel) (by decide +kernel)⟩
theorem is_Mo_length : Cond.static ⟨"RateChainsModel", "length", "(J)I"⟩ ∈ am_G := am_in 844 (by decide +kernel) (by decide +kernel)
theorem mk_Mo_digit : am_mk y_Mo_digit 2 := ⟨am_in 848 (by decide +kernel) (by decide +kernel), ⟨by decide +kernel, by decide +kernel⟩, by decide +kernel, by decide, am_in 44 (by decide +kernel) (by decide +kernel)⟩
theorem is_Mo_digit : Cond.static ⟨"RateChainsModel", "digit", "(JI)I"⟩ ∈ am_G := am_in 847 (by decide +kernel) (by decide +kernel)
theorem ln_La_9 : Cond.methodLink "RateChainsLaw" 9 ⟨"RateChains", "<init>", "()V"⟩ ∈ am_G := am_in 48 (by decide +kernel) (by decide +kernel)
theorem ln_RC_1 : Cond.methodLink "RateChains" 1 ⟨"java/lang/Object", "<init>", "()V"⟩ ∈ am_G := am_in 51 (by decide +kernel) (by decide +kernel)
theorem ln_Pl_3 : Cond.methodLink "RateChains$Plants" 3 ⟨"java/lang/Object", "<init>", "()V"⟩ ∈ am_G := am_in 59 (by decide +kernel) (by decide +kernel)
theorem ln_Fe_3 : Cond.methodLink "RateChains$Feeds" 3 ⟨"java/lang/Object", "<init>", "()V"⟩ ∈ am_G := am_in 89 (by decide +kernel) (by decide +kernel)
theorem ln_So_3 : Cond.methodLink "RateChains$Solved" 3 ⟨"java/lang/Object", "<init>", "()V"⟩ ∈ am_G := am_in 115 (by decide +kernel) (by decide +kernel)
theorem ln_Wo_3 : Cond.methodLink "RateChains$Worths" 3 ⟨"java/lang/Object", "<init>", "()V"⟩ ∈ am_G := am_in 121 (by decide +kernel) (by decide +kernel)
theorem ln_Dr_3 : Cond.methodLink "RateChains$Draw" 3 ⟨"java/lang/Object", "<init>", "()V"⟩ ∈ am_G := am_in 164 (by decide +kernel) (by decide +kernel)
theorem ln_Te_3 : Cond.methodLink "RateChains$Text" 3 ⟨"java/lang/Object", "<init>", "()V"⟩ ∈ am_G := am_in 177 (by decide +kernel) (by decide +kernel)
theorem ln_La_13 : Cond.methodLink "RateChainsLaw" 13 ⟨"RateChains", "plant", "()I"⟩ ∈ am_G := am_in 207 (by decide +kernel) (by decide +kernel)
theorem ln_RC_51 : Cond.methodLink "RateChains" 51 ⟨"RateChains$Plants", "add", "()I"⟩ ∈ am_G := am_in 211 (by decide +kernel) (by decide +kernel)
theorem ln_La_20 : Cond.methodLink "RateChainsLaw" 20 ⟨"RateChains", "share", "(IIJJ)Z"⟩ ∈ am_G := am_in 215 (by decide +kernel) (by decide +kernel)
theorem ln_RC_55 : Cond.methodLink "RateChains" 55 ⟨"RateChains", "tenthsOf", "(JJ)I"⟩ ∈ am_G := am_in 219 (by decide +kernel) (by decide +kernel)
theorem ln_RC_59 : Cond.methodLink "RateChains" 59 ⟨"RateChains$Plants", "has", "(I)Z"⟩ ∈ am_G := am_in 225 (by decide +kernel) (by decide +kernel)
theorem ln_RC_63 : Cond.methodLink "RateChains" 63 ⟨"RateChains$Plants", "setShare", "(III)Z"⟩ ∈ am_G := am_in 229 (by decide +kernel) (by decide +kernel)
theorem ln_Pl_35 : Cond.methodLink "RateChains$Plants" 35 ⟨"RateChains$Plants", "shareOf", "(II)I"⟩ ∈ am_G := am_in 233 (by decide +kernel) (by decide +kernel)
theorem ln_La_25 : Cond.methodLink "RateChainsLaw" 25 ⟨"RateChains", "point", "(II)Z"⟩ ∈ am_G := am_in 237 (by decide +kernel) (by decide +kernel)
theorem ln_RC_67 : Cond.methodLink "RateChains" 67 ⟨"RateChains", "isKind", "(I)Z"⟩ ∈ am_G := am_in 241 (by decide +kernel) (by decide +kernel)
theorem ln_RC_70 : Cond.methodLink "RateChains" 70 ⟨"RateChains$Plants", "setPoint", "(II)Z"⟩ ∈ am_G := am_in 244 (by decide +kernel) (by decide +kernel)
theorem ln_Pl_39 : Cond.methodLink "RateChains$Plants" 39 ⟨"RateChains$Plants", "isPoint", "(II)Z"⟩ ∈ am_G := am_in 248 (by decide +kernel) (by decide +kernel)
theorem ln_La_30 : Cond.methodLink "RateChainsLaw" 30 ⟨"RateChains", "average", "(IJJ)Z"⟩ ∈ am_G := am_in 255 (by decide +kernel) (by decide +kernel)
theorem ln_RC_74 : Cond.methodLink "RateChains" 74 ⟨"RateChains$Plants", "setLoss", "(II)V"⟩ ∈ am_G := am_in 259 (by decide +kernel) (by decide +kernel)
theorem ln_La_35 : Cond.methodLink "RateChainsLaw" 35 ⟨"RateChains", "feed", "(IIJII)Z"⟩ ∈ am_G := am_in 263 (by decide +kernel) (by decide +kernel)
theorem ln_RC_78 : Cond.methodLink "RateChains" 78 ⟨"RateChains", "isYear", "(I)Z"⟩ ∈ am_G := am_in 267 (by decide +kernel) (by decide +kernel)
theorem ln_RC_81 : Cond.methodLink "RateChains" 81 ⟨"RateChains", "isCountry", "(I)Z"⟩ ∈ am_G := am_in 270 (by decide +kernel) (by decide +kernel)
theorem ln_RC_86 : Cond.methodLink "RateChains" 86 ⟨"RateChains", "isWithin", "(JJJ)Z"⟩ ∈ am_G := am_in 274 (by decide +kernel) (by decide +kernel)
theorem ln_RC_90 : Cond.methodLink "RateChains" 90 ⟨"RateChains$Feeds", "add", "(IIJII)Z"⟩ ∈ am_G := am_in 277 (by decide +kernel) (by decide +kernel)
theorem ln_La_40 : Cond.methodLink "RateChainsLaw" 40 ⟨"RateChains", "metals", "(IJ)Z"⟩ ∈ am_G := am_in 281 (by decide +kernel) (by decide +kernel)
theorem ln_La_45 : Cond.methodLink "RateChainsLaw" 45 ⟨"RateChains", "placed", "(IIJ)Z"⟩ ∈ am_G := am_in 285 (by decide +kernel) (by decide +kernel)
theorem ln_RC_95 : Cond.methodLink "RateChains" 95 ⟨"RateChains", "cell", "(II)I"⟩ ∈ am_G := am_in 290 (by decide +kernel) (by decide +kernel)
theorem ln_La_50 : Cond.methodLink "RateChainsLaw" 50 ⟨"RateChains", "solve", "()I"⟩ ∈ am_G := am_in 293 (by decide +kernel) (by decide +kernel)
theorem ln_RC_99 : Cond.methodLink "RateChains" 99 ⟨"RateChains$Plants", "leastInRing", "()I"⟩ ∈ am_G := am_in 297 (by decide +kernel) (by decide +kernel)
theorem ln_Pl_46 : Cond.methodLink "RateChains$Plants" 46 ⟨"RateChains$Plants", "leastInRingOf", "(I)I"⟩ ∈ am_G := am_in 301 (by decide +kernel) (by decide +kernel)
theorem ln_Pl_50 : Cond.methodLink "RateChains$Plants" 50 ⟨"RateChains$Plants", "findEnds", "(I)V"⟩ ∈ am_G := am_in 305 (by decide +kernel) (by decide +kernel)
theorem ln_Pl_54 : Cond.methodLink "RateChains$Plants" 54 ⟨"RateChains$Plants", "goesOn", "(II)Z"⟩ ∈ am_G := am_in 309 (by decide +kernel) (by decide +kernel)
theorem ln_Pl_57 : Cond.methodLink "RateChains$Plants" 57 ⟨"RateChains$Plants", "goesToAnEnd", "(I)Z"⟩ ∈ am_G := am_in 313 (by decide +kernel) (by decide +kernel)
theorem ln_RC_102 : Cond.methodLink "RateChains" 102 ⟨"RateChains$Solved", "keep", "(LRateChains$Plants;LRateChains$Feeds;[J)V"⟩ ∈ am_G := am_in 317 (by decide +kernel) (by decide +kernel)
theorem ln_So_85 : Cond.methodLink "RateChains$Solved" 85 ⟨"RateChains$Solved", "keepWorths", "(LRateChains$Plants;I)V"⟩ ∈ am_G := am_in 321 (by decide +kernel) (by decide +kernel)
theorem ln_So_113 : Cond.methodLink "RateChains$Solved" 113 ⟨"RateChains$Worths", "find", "(LRateChains$Plants;I)J"⟩ ∈ am_G := am_in 325 (by decide +kernel) (by decide +kernel)
theorem ln_Wo_16 : Cond.methodLink "RateChains$Worths" 16 ⟨"RateChains$Worths", "fill", "(LRateChains$Plants;I)V"⟩ ∈ am_G := am_in 329 (by decide +kernel) (by decide +kernel)
theorem ln_Wo_24 : Cond.methodLink "RateChains$Worths" 24 ⟨"RateChains$Plants", "goesOn", "(II)Z"⟩ ∈ am_G := am_in 333 (by decide +kernel) (by decide +kernel)
theorem ln_Wo_30 : Cond.methodLink "RateChains$Worths" 30 ⟨"RateChains$Plants", "shareOf", "(II)I"⟩ ∈ am_G := am_in 334 (by decide +kernel) (by decide +kernel)
theorem ln_Wo_36 : Cond.methodLink "RateChains$Worths" 36 ⟨"RateChains$Plants", "tenthsCounted", "(II)I"⟩ ∈ am_G := am_in 336 (by decide +kernel) (by decide +kernel)
theorem ln_Wo_20 : Cond.methodLink "RateChains$Worths" 20 ⟨"RateChains$Worths", "clearColumn", "(IJ)V"⟩ ∈ am_G := am_in 340 (by decide +kernel) (by decide +kernel)
theorem ln_Wo_39 : Cond.methodLink "RateChains$Worths" 39 ⟨"RateChains$Worths", "clearRow", "(IIJ)V"⟩ ∈ am_G := am_in 344 (by decide +kernel) (by decide +kernel)
theorem ln_So_117 : Cond.methodLink "RateChains$Solved" 117 ⟨"RateChains$Worths", "aboveOf", "(I)J"⟩ ∈ am_G := am_in 349 (by decide +kernel) (by decide +kernel)
theorem ln_So_89 : Cond.methodLink "RateChains$Solved" 89 ⟨"RateChains$Solved", "clearSums", "()V"⟩ ∈ am_G := am_in 353 (by decide +kernel) (by decide +kernel)
theorem ln_So_120 : Cond.methodLink "RateChains$Solved" 120 ⟨"RateChains$Solved", "clear", "([J)V"⟩ ∈ am_G := am_in 357 (by decide +kernel) (by decide +kernel)
theorem ln_So_92 : Cond.methodLink "RateChains$Solved" 92 ⟨"RateChains$Solved", "addMetals", "([J)V"⟩ ∈ am_G := am_in 360 (by decide +kernel) (by decide +kernel)
theorem ln_So_48 : Cond.methodLink "RateChains$Solved" 48 ⟨"RateChains$Solved", "place", "(III)I"⟩ ∈ am_G := am_in 365 (by decide +kernel) (by decide +kernel)
theorem ln_So_96 : Cond.methodLink "RateChains$Solved" 96 ⟨"RateChains$Feeds", "size", "()I"⟩ ∈ am_G := am_in 368 (by decide +kernel) (by decide +kernel)
theorem ln_So_102 : Cond.methodLink "RateChains$Solved" 102 ⟨"RateChains$Solved", "addFeed", "(LRateChains$Feeds;I)V"⟩ ∈ am_G := am_in 372 (by decide +kernel) (by decide +kernel)
theorem ln_So_123 : Cond.methodLink "RateChains$Solved" 123 ⟨"RateChains$Feeds", "kindOf", "(I)I"⟩ ∈ am_G := am_in 376 (by decide +kernel) (by decide +kernel)
theorem ln_So_127 : Cond.methodLink "RateChains$Solved" 127 ⟨"RateChains$Feeds", "yearOf", "(I)I"⟩ ∈ am_G := am_in 380 (by decide +kernel) (by decide +kernel)
theorem ln_So_130 : Cond.methodLink "RateChains$Solved" 130 ⟨"RateChains$Feeds", "plantOf", "(I)I"⟩ ∈ am_G := am_in 384 (by decide +kernel) (by decide +kernel)
theorem ln_So_133 : Cond.methodLink "RateChains$Solved" 133 ⟨"RateChains$Feeds", "gramsOf", "(I)J"⟩ ∈ am_G := am_in 388 (by decide +kernel) (by decide +kernel)
theorem ln_So_136 : Cond.methodLink "RateChains$Solved" 136 ⟨"RateChains$Feeds", "countryOf", "(I)I"⟩ ∈ am_G := am_in 392 (by decide +kernel) (by decide +kernel)
theorem ln_So_106 : Cond.methodLink "RateChains$Solved" 106 ⟨"RateChains$Solved", "fillStocks", "()V"⟩ ∈ am_G := am_in 396 (by decide +kernel) (by decide +kernel)
theorem ln_So_60 : Cond.methodLink "RateChains$Solved" 60 ⟨"RateChains$Solved", "down", "(JI)J"⟩ ∈ am_G := am_in 400 (by decide +kernel) (by decide +kernel)
theorem ln_So_109 : Cond.methodLink "RateChains$Solved" 109 ⟨"RateChains$Solved", "markLostBare", "(LRateChains$Plants;LRateChains$Feeds;I)V"⟩ ∈ am_G := am_in 404 (by decide +kernel) (by decide +kernel)
theorem ln_So_139 : Cond.methodLink "RateChains$Solved" 139 ⟨"RateChains$Solved", "findCame", "(LRateChains$Plants;LRateChains$Feeds;I)V"⟩ ∈ am_G := am_in 408 (by decide +kernel) (by decide +kernel)
theorem ln_So_148 : Cond.methodLink "RateChains$Solved" 148 ⟨"RateChains$Plants", "goesOn", "(II)Z"⟩ ∈ am_G := am_in 412 (by decide +kernel) (by decide +kernel)
theorem ln_So_151 : Cond.methodLink "RateChains$Solved" 151 ⟨"RateChains$Solved", "markNext", "(LRateChains$Plants;I)V"⟩ ∈ am_G := am_in 413 (by decide +kernel) (by decide +kernel)
theorem ln_So_154 : Cond.methodLink "RateChains$Solved" 154 ⟨"RateChains$Plants", "shareOf", "(II)I"⟩ ∈ am_G := am_in 417 (by decide +kernel) (by decide +kernel)
theorem ln_So_142 : Cond.methodLink "RateChains$Solved" 142 ⟨"RateChains$Plants", "isBare", "(II)Z"⟩ ∈ am_G := am_in 418 (by decide +kernel) (by decide +kernel)
theorem ln_La_54 : Cond.methodLink "RateChainsLaw" 54 ⟨"RateChains", "counted", "(III)J"⟩ ∈ am_G := am_in 422 (by decide +kernel) (by decide +kernel)
theorem ln_RC_106 : Cond.methodLink "RateChains" 106 ⟨"RateChains$Solved", "isThere", "()Z"⟩ ∈ am_G := am_in 426 (by decide +kernel) (by decide +kernel)
theorem ln_RC_110 : Cond.methodLink "RateChains" 110 ⟨"RateChains", "isPart", "(I)Z"⟩ ∈ am_G := am_in 430 (by decide +kernel) (by decide +kernel)
theorem ln_RC_115 : Cond.methodLink "RateChains" 115 ⟨"RateChains$Solved", "aboveOf", "(II)J"⟩ ∈ am_G := am_in 434 (by decide +kernel) (by decide +kernel)
theorem ln_So_52 : Cond.methodLink "RateChains$Solved" 52 ⟨"RateChains$Solved", "aboveOfCountry", "(III)J"⟩ ∈ am_G := am_in 438 (by decide +kernel) (by decide +kernel)
theorem ln_RC_119 : Cond.methodLink "RateChains" 119 ⟨"RateChains$Solved", "belowOf", "(I)J"⟩ ∈ am_G := am_in 442 (by decide +kernel) (by decide +kernel)
theorem ln_RC_123 : Cond.methodLink "RateChains" 123 ⟨"RateChains", "partOf", "(JJI)J"⟩ ∈ am_G := am_in 446 (by decide +kernel) (by decide +kernel)
theorem ln_RC_178 : Cond.methodLink "RateChains" 178 ⟨"RateChains", "commonOf", "(JJ)J"⟩ ∈ am_G := am_in 449 (by decide +kernel) (by decide +kernel)
theorem ln_La_59 : Cond.methodLink "RateChainsLaw" 59 ⟨"RateChains", "rate", "(III)J"⟩ ∈ am_G := am_in 452 (by decide +kernel) (by decide +kernel)
theorem ln_RC_127 : Cond.methodLink "RateChains" 127 ⟨"RateChains$Solved", "aboveOfCountry", "(III)J"⟩ ∈ am_G := am_in 456 (by decide +kernel) (by decide +kernel)
theorem ln_La_63 : Cond.methodLink "RateChainsLaw" 63 ⟨"RateChains", "twice", "(I)I"⟩ ∈ am_G := am_in 457 (by decide +kernel) (by decide +kernel)
theorem ln_RC_131 : Cond.methodLink "RateChains" 131 ⟨"RateChains$Plants", "isPointWithAverage", "(II)Z"⟩ ∈ am_G := am_in 461 (by decide +kernel) (by decide +kernel)
theorem ln_La_68 : Cond.methodLink "RateChainsLaw" 68 ⟨"RateChains", "told", "(I)I"⟩ ∈ am_G := am_in 465 (by decide +kernel) (by decide +kernel)
theorem ln_RC_134 : Cond.methodLink "RateChains" 134 ⟨"RateChains$Solved", "lostBareAt", "(I)Z"⟩ ∈ am_G := am_in 469 (by decide +kernel) (by decide +kernel)
theorem ln_La_72 : Cond.methodLink "RateChainsLaw" 72 ⟨"RateChains", "once", "()Z"⟩ ∈ am_G := am_in 473 (by decide +kernel) (by decide +kernel)
theorem ln_RC_137 : Cond.methodLink "RateChains" 137 ⟨"RateChains$Solved", "isNeverMoreThanBrought", "()Z"⟩ ∈ am_G := am_in 477 (by decide +kernel) (by decide +kernel)
theorem ln_So_56 : Cond.methodLink "RateChains$Solved" 56 ⟨"RateChains$Solved", "aboveOf", "(II)J"⟩ ∈ am_G := am_in 481 (by decide +kernel) (by decide +kernel)
theorem ln_La_77 : Cond.methodLink "RateChainsLaw" 77 ⟨"RateChains", "claim", "(IIIJ)J"⟩ ∈ am_G := am_in 482 (by decide +kernel) (by decide +kernel)
theorem ln_RC_140 : Cond.methodLink "RateChains" 140 ⟨"RateChains", "hasStock", "(III)Z"⟩ ∈ am_G := am_in 486 (by decide +kernel) (by decide +kernel)
theorem ln_RC_145 : Cond.methodLink "RateChains" 145 ⟨"RateChains$Solved", "take", "(IIIJ)J"⟩ ∈ am_G := am_in 491 (by decide +kernel) (by decide +kernel)
theorem ln_So_71 : Cond.methodLink "RateChains$Solved" 71 ⟨"java/lang/Math", "max", "(II)I"⟩ ∈ am_G := am_in 495 (by decide +kernel) (by decide +kernel)
theorem ln_So_76 : Cond.methodLink "RateChains$Solved" 76 ⟨"RateChains$Solved", "stockOf", "(III)J"⟩ ∈ am_G := am_in 498 (by decide +kernel) (by decide +kernel)
theorem ln_So_81 : Cond.methodLink "RateChains$Solved" 81 ⟨"java/lang/Math", "min", "(JJ)J"⟩ ∈ am_G := am_in 503 (by decide +kernel) (by decide +kernel)
theorem ln_La_82 : Cond.methodLink "RateChainsLaw" 82 ⟨"RateChains", "left", "(III)J"⟩ ∈ am_G := am_in 506 (by decide +kernel) (by decide +kernel)
theorem ln_RC_149 : Cond.methodLink "RateChains" 149 ⟨"RateChains$Solved", "stockOf", "(III)J"⟩ ∈ am_G := am_in 510 (by decide +kernel) (by decide +kernel)
theorem ln_La_86 : Cond.methodLink "RateChainsLaw" 86 ⟨"RateChains", "open", "(IIII)J"⟩ ∈ am_G := am_in 511 (by decide +kernel) (by decide +kernel)
theorem ln_RC_152 : Cond.methodLink "RateChains" 152 ⟨"RateChains$Solved", "difference", "(IIII)J"⟩ ∈ am_G := am_in 515 (by decide +kernel) (by decide +kernel)
theorem ln_La_91 : Cond.methodLink "RateChainsLaw" 91 ⟨"RateChains", "audit", "(JI)I"⟩ ∈ am_G := am_in 519 (by decide +kernel) (by decide +kernel)
theorem ln_RC_156 : Cond.methodLink "RateChains" 156 ⟨"RateChains$Feeds", "size", "()I"⟩ ∈ am_G := am_in 523 (by decide +kernel) (by decide +kernel)
theorem ln_RC_159 : Cond.methodLink "RateChains" 159 ⟨"RateChains$Draw", "take", "(JII)V"⟩ ∈ am_G := am_in 524 (by decide +kernel) (by decide +kernel)
theorem ln_Dr_23 : Cond.methodLink "RateChains$Draw" 23 ⟨"RateChains$Draw", "swap", "(II)V"⟩ ∈ am_G := am_in 530 (by decide +kernel) (by decide +kernel)
theorem ln_La_96 : Cond.methodLink "RateChainsLaw" 96 ⟨"RateChains", "drawn", "(I)I"⟩ ∈ am_G := am_in 534 (by decide +kernel) (by decide +kernel)
theorem ln_RC_162 : Cond.methodLink "RateChains" 162 ⟨"RateChains$Draw", "row", "(I)I"⟩ ∈ am_G := am_in 538 (by decide +kernel) (by decide +kernel)
theorem ln_La_100 : Cond.methodLink "RateChainsLaw" 100 ⟨"RateChains", "unit", "(I)Z"⟩ ∈ am_G := am_in 542 (by decide +kernel) (by decide +kernel)
theorem ln_RC_166 : Cond.methodLink "RateChains" 166 ⟨"RateChains$Text", "add", "(I)Z"⟩ ∈ am_G := am_in 546 (by decide +kernel) (by decide +kernel)
theorem ln_La_105 : Cond.methodLink "RateChainsLaw" 105 ⟨"RateChains", "form", "(I)I"⟩ ∈ am_G := am_in 550 (by decide +kernel) (by decide +kernel)
theorem ln_RC_168 : Cond.methodLink "RateChains" 168 ⟨"RateChains$Text", "filledAt", "(ILRateChains$Solved;)I"⟩ ∈ am_G := am_in 554 (by decide +kernel) (by decide +kernel)
theorem ln_Te_19 : Cond.methodLink "RateChains$Text" 19 ⟨"RateChains$Text", "isMark", "(I)Z"⟩ ∈ am_G := am_in 558 (by decide +kernel) (by decide +kernel)
theorem ln_Te_23 : Cond.methodLink "RateChains$Text" 23 ⟨"RateChains$Text", "widthOf", "(ILRateChains$Solved;)I"⟩ ∈ am_G := am_in 564 (by decide +kernel) (by decide +kernel)
theorem ln_Te_43 : Cond.methodLink "RateChains$Text" 43 ⟨"RateChains$Solved", "isThere", "()Z"⟩ ∈ am_G := am_in 568 (by decide +kernel) (by decide +kernel)
theorem ln_Te_47 : Cond.methodLink "RateChains$Text" 47 ⟨"RateChains$Text", "numberOf", "(ILRateChains$Solved;)J"⟩ ∈ am_G := am_in 569 (by decide +kernel) (by decide +kernel)
theorem ln_Te_37 : Cond.methodLink "RateChains$Text" 37 ⟨"RateChains$Solved", "wholeGrams", "(II)J"⟩ ∈ am_G := am_in 573 (by decide +kernel) (by decide +kernel)
theorem ln_Te_27 : Cond.methodLink "RateChains$Text" 27 ⟨"RateChains$Text", "numberByte", "(IILRateChains$Solved;)I"⟩ ∈ am_G := am_in 578 (by decide +kernel) (by decide +kernel)
theorem ln_La_12 : Cond.methodLink "RateChainsLaw" 12 ⟨"RateChainsModel", "<init>", "()V"⟩ ∈ am_G := am_in 584 (by decide +kernel) (by decide +kernel)
theorem ln_Mo_1 : Cond.methodLink "RateChainsModel" 1 ⟨"java/lang/Object", "<init>", "()V"⟩ ∈ am_G := am_in 587 (by decide +kernel) (by decide +kernel)
theorem ln_La_17 : Cond.methodLink "RateChainsLaw" 17 ⟨"RateChainsModel", "plant", "()I"⟩ ∈ am_G := am_in 676 (by decide +kernel) (by decide +kernel)
theorem ln_La_24 : Cond.methodLink "RateChainsLaw" 24 ⟨"RateChainsModel", "share", "(IIJJ)Z"⟩ ∈ am_G := am_in 680 (by decide +kernel) (by decide +kernel)
theorem ln_Mo_86 : Cond.methodLink "RateChainsModel" 86 ⟨"RateChainsModel", "isPlant", "(I)Z"⟩ ∈ am_G := am_in 684 (by decide +kernel) (by decide +kernel)
theorem ln_Mo_90 : Cond.methodLink "RateChainsModel" 90 ⟨"RateChainsModel", "isFraction", "(JJ)Z"⟩ ∈ am_G := am_in 688 (by decide +kernel) (by decide +kernel)
theorem ln_Mo_82 : Cond.methodLink "RateChainsModel" 82 ⟨"RateChainsModel", "isIn", "(JJJ)Z"⟩ ∈ am_G := am_in 694 (by decide +kernel) (by decide +kernel)
theorem ln_La_29 : Cond.methodLink "RateChainsLaw" 29 ⟨"RateChainsModel", "point", "(II)Z"⟩ ∈ am_G := am_in 697 (by decide +kernel) (by decide +kernel)
theorem ln_Mo_94 : Cond.methodLink "RateChainsModel" 94 ⟨"RateChainsModel", "isKind", "(I)Z"⟩ ∈ am_G := am_in 701 (by decide +kernel) (by decide +kernel)
theorem ln_La_34 : Cond.methodLink "RateChainsLaw" 34 ⟨"RateChainsModel", "average", "(IJJ)Z"⟩ ∈ am_G := am_in 704 (by decide +kernel) (by decide +kernel)
theorem ln_La_39 : Cond.methodLink "RateChainsLaw" 39 ⟨"RateChainsModel", "feed", "(IIJII)Z"⟩ ∈ am_G := am_in 708 (by decide +kernel) (by decide +kernel)
theorem ln_Mo_102 : Cond.methodLink "RateChainsModel" 102 ⟨"RateChainsModel", "isYear", "(I)Z"⟩ ∈ am_G := am_in 713 (by decide +kernel) (by decide +kernel)
theorem ln_Mo_105 : Cond.methodLink "RateChainsModel" 105 ⟨"RateChainsModel", "isCountry", "(I)Z"⟩ ∈ am_G := am_in 716 (by decide +kernel) (by decide +kernel)
theorem ln_La_44 : Cond.methodLink "RateChainsLaw" 44 ⟨"RateChainsModel", "metals", "(IJ)Z"⟩ ∈ am_G := am_in 719 (by decide +kernel) (by decide +kernel)
theorem ln_La_49 : Cond.methodLink "RateChainsLaw" 49 ⟨"RateChainsModel", "placed", "(IIJ)Z"⟩ ∈ am_G := am_in 723 (by decide +kernel) (by decide +kernel)
theorem ln_La_53 : Cond.methodLink "RateChainsLaw" 53 ⟨"RateChainsModel", "solve", "()I"⟩ ∈ am_G := am_in 728 (by decide +kernel) (by decide +kernel)
theorem ln_Mo_130 : Cond.methodLink "RateChainsModel" 130 ⟨"RateChainsModel", "ends", "(II)Z"⟩ ∈ am_G := am_in 732 (by decide +kernel) (by decide +kernel)
theorem ln_Mo_110 : Cond.methodLink "RateChainsModel" 110 ⟨"RateChainsModel", "shared", "(I)I"⟩ ∈ am_G := am_in 736 (by decide +kernel) (by decide +kernel)
theorem ln_Mo_134 : Cond.methodLink "RateChainsModel" 134 ⟨"RateChainsModel", "layOut", "(I)V"⟩ ∈ am_G := am_in 740 (by decide +kernel) (by decide +kernel)
theorem ln_Mo_118 : Cond.methodLink "RateChainsModel" 118 ⟨"RateChainsModel", "put", "(IJJ)V"⟩ ∈ am_G := am_in 744 (by decide +kernel) (by decide +kernel)
theorem ln_Mo_114 : Cond.methodLink "RateChainsModel" 114 ⟨"RateChainsModel", "common", "(JJ)J"⟩ ∈ am_G := am_in 748 (by decide +kernel) (by decide +kernel)
theorem ln_Mo_138 : Cond.methodLink "RateChainsModel" 138 ⟨"RateChainsModel", "eliminate", "()V"⟩ ∈ am_G := am_in 751 (by decide +kernel) (by decide +kernel)
theorem ln_Mo_122 : Cond.methodLink "RateChainsModel" 122 ⟨"RateChainsModel", "swap", "(II)V"⟩ ∈ am_G := am_in 755 (by decide +kernel) (by decide +kernel)
theorem ln_Mo_126 : Cond.methodLink "RateChainsModel" 126 ⟨"RateChainsModel", "lessen", "(IJJI)V"⟩ ∈ am_G := am_in 759 (by decide +kernel) (by decide +kernel)
theorem ln_Mo_151 : Cond.methodLink "RateChainsModel" 151 ⟨"RateChainsModel", "noteBare", "()V"⟩ ∈ am_G := am_in 763 (by decide +kernel) (by decide +kernel)
theorem ln_La_58 : Cond.methodLink "RateChainsLaw" 58 ⟨"RateChainsModel", "counted", "(III)J"⟩ ∈ am_G := am_in 767 (by decide +kernel) (by decide +kernel)
theorem ln_Mo_174 : Cond.methodLink "RateChainsModel" 174 ⟨"RateChainsModel", "count", "(III)V"⟩ ∈ am_G := am_in 772 (by decide +kernel) (by decide +kernel)
theorem ln_Mo_165 : Cond.methodLink "RateChainsModel" 165 ⟨"RateChainsModel", "nothing", "()V"⟩ ∈ am_G := am_in 776 (by decide +kernel) (by decide +kernel)
theorem ln_Mo_168 : Cond.methodLink "RateChainsModel" 168 ⟨"RateChainsModel", "sum", "(IIII)V"⟩ ∈ am_G := am_in 780 (by decide +kernel) (by decide +kernel)
theorem ln_Mo_161 : Cond.methodLink "RateChainsModel" 161 ⟨"RateChainsModel", "add", "(JJ)V"⟩ ∈ am_G := am_in 784 (by decide +kernel) (by decide +kernel)
theorem ln_La_62 : Cond.methodLink "RateChainsLaw" 62 ⟨"RateChainsModel", "rate", "(III)J"⟩ ∈ am_G := am_in 788 (by decide +kernel) (by decide +kernel)
theorem ln_La_67 : Cond.methodLink "RateChainsLaw" 67 ⟨"RateChainsModel", "twice", "(I)I"⟩ ∈ am_G := am_in 792 (by decide +kernel) (by decide +kernel)
theorem ln_La_71 : Cond.methodLink "RateChainsLaw" 71 ⟨"RateChainsModel", "told", "(I)I"⟩ ∈ am_G := am_in 796 (by decide +kernel) (by decide +kernel)
theorem ln_La_76 : Cond.methodLink "RateChainsLaw" 76 ⟨"RateChainsModel", "once", "()Z"⟩ ∈ am_G := am_in 800 (by decide +kernel) (by decide +kernel)
theorem ln_La_85 : Cond.methodLink "RateChainsLaw" 85 ⟨"RateChainsModel", "left", "(III)J"⟩ ∈ am_G := am_in 804 (by decide +kernel) (by decide +kernel)
theorem ln_Mo_178 : Cond.methodLink "RateChainsModel" 178 ⟨"RateChainsModel", "stock", "(III)J"⟩ ∈ am_G := am_in 808 (by decide +kernel) (by decide +kernel)
theorem ln_La_81 : Cond.methodLink "RateChainsLaw" 81 ⟨"RateChainsModel", "claim", "(IIIJ)J"⟩ ∈ am_G := am_in 812 (by decide +kernel) (by decide +kernel)
theorem ln_La_90 : Cond.methodLink "RateChainsLaw" 90 ⟨"RateChainsModel", "open", "(IIII)J"⟩ ∈ am_G := am_in 817 (by decide +kernel) (by decide +kernel)
theorem ln_La_95 : Cond.methodLink "RateChainsLaw" 95 ⟨"RateChainsModel", "audit", "(JI)I"⟩ ∈ am_G := am_in 821 (by decide +kernel) (by decide +kernel)
theorem ln_La_99 : Cond.methodLink "RateChainsLaw" 99 ⟨"RateChainsModel", "drawn", "(I)I"⟩ ∈ am_G := am_in 827 (by decide +kernel) (by decide +kernel)
theorem ln_La_104 : Cond.methodLink "RateChainsLaw" 104 ⟨"RateChainsModel", "unit", "(I)Z"⟩ ∈ am_G := am_in 831 (by decide +kernel) (by decide +kernel)
theorem ln_La_108 : Cond.methodLink "RateChainsLaw" 108 ⟨"RateChainsModel", "form", "(I)I"⟩ ∈ am_G := am_in 835 (by decide +kernel) (by decide +kernel)
theorem ln_Mo_198 : Cond.methodLink "RateChainsModel" 198 ⟨"RateChainsModel", "isNumberAt", "(I)Z"⟩ ∈ am_G := am_in 839 (by decide +kernel) (by decide +kernel)
theorem ln_Mo_194 : Cond.methodLink "RateChainsModel" 194 ⟨"RateChainsModel", "length", "(J)I"⟩ ∈ am_G := am_in 843 (by decide +kernel) (by decide +kernel)
theorem ln_Mo_201 : Cond.methodLink "RateChainsModel" 201 ⟨"RateChainsModel", "digit", "(JI)I"⟩ ∈ am_G := am_in 846 (by decide +kernel) (by decide +kernel)
theorem ln_RC_9 : Cond.methodLinkNest "RateChains" 9 ⟨"RateChains$Plants", "<init>", "()V"⟩ "RateChains" ∈ am_N := by decide +kernel
theorem ln_RC_18 : Cond.methodLinkNest "RateChains" 18 ⟨"RateChains$Feeds", "<init>", "()V"⟩ "RateChains" ∈ am_N := by decide +kernel
theorem ln_RC_32 : Cond.methodLinkNest "RateChains" 32 ⟨"RateChains$Solved", "<init>", "()V"⟩ "RateChains" ∈ am_N := by decide +kernel
theorem ln_So_11 : Cond.methodLinkNest "RateChains$Solved" 11 ⟨"RateChains$Worths", "<init>", "()V"⟩ "RateChains" ∈ am_N := by decide +kernel
theorem ln_RC_39 : Cond.methodLinkNest "RateChains" 39 ⟨"RateChains$Draw", "<init>", "()V"⟩ "RateChains" ∈ am_N := by decide +kernel
theorem ln_RC_46 : Cond.methodLinkNest "RateChains" 46 ⟨"RateChains$Text", "<init>", "()V"⟩ "RateChains" ∈ am_N := by decide +kernel
theorem ln_Pl_43 : Cond.methodLinkNest "RateChains$Plants" 43 ⟨"RateChains", "slotOf", "(II)I"⟩ "RateChains" ∈ am_N := by decide +kernel
theorem ln_So_64 : Cond.methodLinkNest "RateChains$Solved" 64 ⟨"RateChains", "slotOf", "(II)I"⟩ "RateChains" ∈ am_N := by decide +kernel
theorem ln_So_68 : Cond.methodLinkNest "RateChains$Solved" 68 ⟨"RateChains", "cell", "(II)I"⟩ "RateChains" ∈ am_N := by decide +kernel
theorem ln_Te_31 : Cond.methodLinkNest "RateChains$Text" 31 ⟨"RateChains", "isKind", "(I)Z"⟩ "RateChains" ∈ am_N := by decide +kernel
theorem ln_Te_34 : Cond.methodLinkNest "RateChains$Text" 34 ⟨"RateChains", "isYear", "(I)Z"⟩ "RateChains" ∈ am_N := by decide +kernel
theorem fl_Pl_9 : am_fl "RateChains$Plants" 9 2 0 := ⟨R_Pl, T_Pl, 7, rfl, i_Pl, by decide, am_in 60 (by decide +kernel) (by decide +kernel)⟩
theorem fp_Pl_9 : am_fF "RateChains$Plants" 9 2 0 (.array .int) := ⟨R_Pl, T_Pl, 7, t_Pl, rfl, i_Pl, by decide, am_in 60 (by decide +kernel) (by decide +kernel), t_Pl_ok, n_Pl, rfl, rfl, by decide +kernel⟩
theorem fl_Pl_15 : am_fl "RateChains$Plants" 15 2 1 := ⟨R_Pl, T_Pl, 7, rfl, i_Pl, by decide, am_in 61 (by decide +kernel) (by decide +kernel)⟩
theorem fp_Pl_15 : am_fF "RateChains$Plants" 15 2 1 (.array .int) := ⟨R_Pl, T_Pl, 7, t_Pl, rfl, i_Pl, by decide, am_in 61 (by decide +kernel) (by decide +kernel), t_Pl_ok, n_Pl, rfl, rfl, by decide +kernel⟩
theorem fl_Pl_18 : am_fl "RateChains$Plants" 18 2 2 := ⟨R_Pl, T_Pl, 7, rfl, i_Pl, by decide, am_in 62 (by decide +kernel) (by decide +kernel)⟩
theorem fp_Pl_18 : am_fF "RateChains$Plants" 18 2 2 (.array .boolean) := ⟨R_Pl, T_Pl, 7, t_Pl, rfl, i_Pl, by decide, am_in 62 (by decide +kernel) (by decide +kernel), t_Pl_ok, n_Pl, rfl, rfl, by decide +kernel⟩
theorem fl_Pl_22 : am_fl "RateChains$Plants" 22 2 3 := ⟨R_Pl, T_Pl, 7, rfl, i_Pl, by decide, am_in 63 (by decide +kernel) (by decide +kernel)⟩
theorem fp_Pl_22 : am_fF "RateChains$Plants" 22 2 3 (.array .boolean) := ⟨R_Pl, T_Pl, 7, t_Pl, rfl, i_Pl, by decide, am_in 63 (by decide +kernel) (by decide +kernel), t_Pl_ok, n_Pl, rfl, rfl, by decide +kernel⟩
theorem fl_Pl_25 : am_fl "RateChains$Plants" 25 2 4 := ⟨R_Pl, T_Pl, 7, rfl, i_Pl, by decide, am_in 64 (by decide +kernel) (by decide +kernel)⟩
theorem fp_Pl_25 : am_fF "RateChains$Plants" 25 2 4 (.array .int) := ⟨R_Pl, T_Pl, 7, t_Pl, rfl, i_Pl, by decide, am_in 64 (by decide +kernel) (by decide +kernel), t_Pl_ok, n_Pl, rfl, rfl, by decide +kernel⟩
theorem fl_Pl_28 : am_fl "RateChains$Plants" 28 2 5 := ⟨R_Pl, T_Pl, 7, rfl, i_Pl, by decide, am_in 65 (by decide +kernel) (by decide +kernel)⟩
theorem fp_Pl_28 : am_fF "RateChains$Plants" 28 2 5 (.array .boolean) := ⟨R_Pl, T_Pl, 7, t_Pl, rfl, i_Pl, by decide, am_in 65 (by decide +kernel) (by decide +kernel), t_Pl_ok, n_Pl, rfl, rfl, by decide +kernel⟩
theorem fl_Pl_31 : am_fl "RateChains$Plants" 31 2 6 := ⟨R_Pl, T_Pl, 7, rfl, i_Pl, by decide, am_in 66 (by decide +kernel) (by decide +kernel)⟩
theorem fp_Pl_31 : am_fp "RateChains$Plants" 31 2 6 (.int) := ⟨R_Pl, T_Pl, 7, t_Pl, rfl, i_Pl, by decide, am_in 66 (by decide +kernel) (by decide +kernel), t_Pl_ok, n_Pl, rfl, by decide +kernel⟩
theorem fl_Fe_9 : am_fl "RateChains$Feeds" 9 1 0 := ⟨R_Fe, T_Fe, 6, rfl, i_Fe, by decide, am_in 90 (by decide +kernel) (by decide +kernel)⟩
theorem fp_Fe_9 : am_fF "RateChains$Feeds" 9 1 0 (.array .int) := ⟨R_Fe, T_Fe, 6, t_Fe, rfl, i_Fe, by decide, am_in 90 (by decide +kernel) (by decide +kernel), t_Fe_ok, n_Fe, rfl, rfl, by decide +kernel⟩
theorem fl_Fe_15 : am_fl "RateChains$Feeds" 15 1 1 := ⟨R_Fe, T_Fe, 6, rfl, i_Fe, by decide, am_in 91 (by decide +kernel) (by decide +kernel)⟩
theorem fp_Fe_15 : am_fF "RateChains$Feeds" 15 1 1 (.array .int) := ⟨R_Fe, T_Fe, 6, t_Fe, rfl, i_Fe, by decide, am_in 91 (by decide +kernel) (by decide +kernel), t_Fe_ok, n_Fe, rfl, rfl, by decide +kernel⟩
theorem fl_Fe_18 : am_fl "RateChains$Feeds" 18 1 2 := ⟨R_Fe, T_Fe, 6, rfl, i_Fe, by decide, am_in 92 (by decide +kernel) (by decide +kernel)⟩
theorem fp_Fe_18 : am_fF "RateChains$Feeds" 18 1 2 (.array .int) := ⟨R_Fe, T_Fe, 6, t_Fe, rfl, i_Fe, by decide, am_in 92 (by decide +kernel) (by decide +kernel), t_Fe_ok, n_Fe, rfl, rfl, by decide +kernel⟩
theorem fl_Fe_21 : am_fl "RateChains$Feeds" 21 1 3 := ⟨R_Fe, T_Fe, 6, rfl, i_Fe, by decide, am_in 93 (by decide +kernel) (by decide +kernel)⟩
theorem fp_Fe_21 : am_fF "RateChains$Feeds" 21 1 3 (.array .int) := ⟨R_Fe, T_Fe, 6, t_Fe, rfl, i_Fe, by decide, am_in 93 (by decide +kernel) (by decide +kernel), t_Fe_ok, n_Fe, rfl, rfl, by decide +kernel⟩
theorem fl_Fe_24 : am_fl "RateChains$Feeds" 24 1 4 := ⟨R_Fe, T_Fe, 6, rfl, i_Fe, by decide, am_in 94 (by decide +kernel) (by decide +kernel)⟩
theorem fp_Fe_24 : am_fF "RateChains$Feeds" 24 1 4 (.array .long) := ⟨R_Fe, T_Fe, 6, t_Fe, rfl, i_Fe, by decide, am_in 94 (by decide +kernel) (by decide +kernel), t_Fe_ok, n_Fe, rfl, rfl, by decide +kernel⟩
theorem fl_Fe_28 : am_fl "RateChains$Feeds" 28 1 5 := ⟨R_Fe, T_Fe, 6, rfl, i_Fe, by decide, am_in 95 (by decide +kernel) (by decide +kernel)⟩
theorem fp_Fe_28 : am_fp "RateChains$Feeds" 28 1 5 (.int) := ⟨R_Fe, T_Fe, 6, t_Fe, rfl, i_Fe, by decide, am_in 95 (by decide +kernel) (by decide +kernel), t_Fe_ok, n_Fe, rfl, by decide +kernel⟩
theorem fl_Wo_11 : am_fl "RateChains$Worths" 11 5 0 := ⟨R_Wo, T_Wo, 1, rfl, i_Wo, by decide, am_in 124 (by decide +kernel) (by decide +kernel)⟩
theorem fp_Wo_11 : am_fF "RateChains$Worths" 11 5 0 (.array (.array .long)) := ⟨R_Wo, T_Wo, 1, t_Wo, rfl, i_Wo, by decide, am_in 124 (by decide +kernel) (by decide +kernel), t_Wo_ok, n_Wo, rfl, rfl, by decide +kernel⟩
theorem fl_So_12 : am_fl "RateChains$Solved" 12 3 0 := ⟨R_So, T_So, 10, rfl, i_So, by decide, am_in 128 (by decide +kernel) (by decide +kernel)⟩
theorem fp_So_12 : am_fF "RateChains$Solved" 12 3 0 (.object "RateChains$Worths") := ⟨R_So, T_So, 10, t_So, rfl, i_So, by decide, am_in 128 (by decide +kernel) (by decide +kernel), t_So_ok, n_So, rfl, rfl, by decide +kernel⟩
theorem fl_So_18 : am_fl "RateChains$Solved" 18 3 1 := ⟨R_So, T_So, 10, rfl, i_So, by decide, am_in 129 (by decide +kernel) (by decide +kernel)⟩
theorem fp_So_18 : am_fF "RateChains$Solved" 18 3 1 (.array .long) := ⟨R_So, T_So, 10, t_So, rfl, i_So, by decide, am_in 129 (by decide +kernel) (by decide +kernel), t_So_ok, n_So, rfl, rfl, by decide +kernel⟩
theorem fl_So_22 : am_fl "RateChains$Solved" 22 3 2 := ⟨R_So, T_So, 10, rfl, i_So, by decide, am_in 130 (by decide +kernel) (by decide +kernel)⟩
theorem fp_So_22 : am_fF "RateChains$Solved" 22 3 2 (.array .long) := ⟨R_So, T_So, 10, t_So, rfl, i_So, by decide, am_in 130 (by decide +kernel) (by decide +kernel), t_So_ok, n_So, rfl, rfl, by decide +kernel⟩
theorem fl_So_25 : am_fl "RateChains$Solved" 25 3 3 := ⟨R_So, T_So, 10, rfl, i_So, by decide, am_in 131 (by decide +kernel) (by decide +kernel)⟩
theorem fp_So_25 : am_fF "RateChains$Solved" 25 3 3 (.array .long) := ⟨R_So, T_So, 10, t_So, rfl, i_So, by decide, am_in 131 (by decide +kernel) (by decide +kernel), t_So_ok, n_So, rfl, rfl, by decide +kernel⟩
theorem fl_So_28 : am_fl "RateChains$Solved" 28 3 4 := ⟨R_So, T_So, 10, rfl, i_So, by decide, am_in 132 (by decide +kernel) (by decide +kernel)⟩
theorem fp_So_28 : am_fF "RateChains$Solved" 28 3 4 (.array .long) := ⟨R_So, T_So, 10, t_So, rfl, i_So, by decide, am_in 132 (by decide +kernel) (by decide +kernel), t_So_ok, n_So, rfl, rfl, by decide +kernel⟩
theorem fl_So_31 : am_fl "RateChains$Solved" 31 3 5 := ⟨R_So, T_So, 10, rfl, i_So, by decide, am_in 133 (by decide +kernel) (by decide +kernel)⟩
theorem fp_So_31 : am_fF "RateChains$Solved" 31 3 5 (.array .long) := ⟨R_So, T_So, 10, t_So, rfl, i_So, by decide, am_in 133 (by decide +kernel) (by decide +kernel), t_So_ok, n_So, rfl, rfl, by decide +kernel⟩
theorem fl_So_34 : am_fl "RateChains$Solved" 34 3 6 := ⟨R_So, T_So, 10, rfl, i_So, by decide, am_in 134 (by decide +kernel) (by decide +kernel)⟩
theorem fp_So_34 : am_fF "RateChains$Solved" 34 3 6 (.array .long) := ⟨R_So, T_So, 10, t_So, rfl, i_So, by decide, am_in 134 (by decide +kernel) (by decide +kernel), t_So_ok, n_So, rfl, rfl, by decide +kernel⟩
theorem fl_So_37 : am_fl "RateChains$Solved" 37 3 7 := ⟨R_So, T_So, 10, rfl, i_So, by decide, am_in 135 (by decide +kernel) (by decide +kernel)⟩
theorem fp_So_37 : am_fF "RateChains$Solved" 37 3 7 (.array .boolean) := ⟨R_So, T_So, 10, t_So, rfl, i_So, by decide, am_in 135 (by decide +kernel) (by decide +kernel), t_So_ok, n_So, rfl, rfl, by decide +kernel⟩
theorem fl_So_41 : am_fl "RateChains$Solved" 41 3 8 := ⟨R_So, T_So, 10, rfl, i_So, by decide, am_in 136 (by decide +kernel) (by decide +kernel)⟩
theorem fp_So_41 : am_fF "RateChains$Solved" 41 3 8 (.array .boolean) := ⟨R_So, T_So, 10, t_So, rfl, i_So, by decide, am_in 136 (by decide +kernel) (by decide +kernel), t_So_ok, n_So, rfl, rfl, by decide +kernel⟩
theorem fl_So_44 : am_fl "RateChains$Solved" 44 3 9 := ⟨R_So, T_So, 10, rfl, i_So, by decide, am_in 137 (by decide +kernel) (by decide +kernel)⟩
theorem fp_So_44 : am_fp "RateChains$Solved" 44 3 9 (.boolean) := ⟨R_So, T_So, 10, t_So, rfl, i_So, by decide, am_in 137 (by decide +kernel) (by decide +kernel), t_So_ok, n_So, rfl, by decide +kernel⟩
theorem fl_Dr_9 : am_fl "RateChains$Draw" 9 0 0 := ⟨R_Dr, T_Dr, 2, rfl, i_Dr, by decide, am_in 165 (by decide +kernel) (by decide +kernel)⟩
theorem fp_Dr_9 : am_fF "RateChains$Draw" 9 0 0 (.array .int) := ⟨R_Dr, T_Dr, 2, t_Dr, rfl, i_Dr, by decide, am_in 165 (by decide +kernel) (by decide +kernel), t_Dr_ok, n_Dr, rfl, rfl, by decide +kernel⟩
theorem fl_Dr_15 : am_fl "RateChains$Draw" 15 0 1 := ⟨R_Dr, T_Dr, 2, rfl, i_Dr, by decide, am_in 166 (by decide +kernel) (by decide +kernel)⟩
theorem fp_Dr_15 : am_fp "RateChains$Draw" 15 0 1 (.int) := ⟨R_Dr, T_Dr, 2, t_Dr, rfl, i_Dr, by decide, am_in 166 (by decide +kernel) (by decide +kernel), t_Dr_ok, n_Dr, rfl, by decide +kernel⟩
theorem fl_Te_9 : am_fl "RateChains$Text" 9 4 0 := ⟨R_Te, T_Te, 2, rfl, i_Te, by decide, am_in 178 (by decide +kernel) (by decide +kernel)⟩
theorem fp_Te_9 : am_fF "RateChains$Text" 9 4 0 (.array .int) := ⟨R_Te, T_Te, 2, t_Te, rfl, i_Te, by decide, am_in 178 (by decide +kernel) (by decide +kernel), t_Te_ok, n_Te, rfl, rfl, by decide +kernel⟩
theorem fl_Te_15 : am_fl "RateChains$Text" 15 4 1 := ⟨R_Te, T_Te, 2, rfl, i_Te, by decide, am_in 179 (by decide +kernel) (by decide +kernel)⟩
theorem fp_Te_15 : am_fp "RateChains$Text" 15 4 1 (.int) := ⟨R_Te, T_Te, 2, t_Te, rfl, i_Te, by decide, am_in 179 (by decide +kernel) (by decide +kernel), t_Te_ok, n_Te, rfl, by decide +kernel⟩
theorem fl_RC_10 : am_fl "RateChains" 10 6 0 := ⟨R_RC, T_RC, 7, rfl, i_RC, by decide, am_in 185 (by decide +kernel) (by decide +kernel)⟩
theorem fp_RC_10 : am_fF "RateChains" 10 6 0 (.object "RateChains$Plants") := ⟨R_RC, T_RC, 7, t_RC, rfl, i_RC, by decide, am_in 185 (by decide +kernel) (by decide +kernel), t_RC_ok, n_RC, rfl, rfl, by decide +kernel⟩
theorem fl_RC_19 : am_fl "RateChains" 19 6 1 := ⟨R_RC, T_RC, 7, rfl, i_RC, by decide, am_in 186 (by decide +kernel) (by decide +kernel)⟩
theorem fp_RC_19 : am_fF "RateChains" 19 6 1 (.object "RateChains$Feeds") := ⟨R_RC, T_RC, 7, t_RC, rfl, i_RC, by decide, am_in 186 (by decide +kernel) (by decide +kernel), t_RC_ok, n_RC, rfl, rfl, by decide +kernel⟩
theorem fl_RC_23 : am_fl "RateChains" 23 6 2 := ⟨R_RC, T_RC, 7, rfl, i_RC, by decide, am_in 187 (by decide +kernel) (by decide +kernel)⟩
theorem fp_RC_23 : am_fF "RateChains" 23 6 2 (.array .long) := ⟨R_RC, T_RC, 7, t_RC, rfl, i_RC, by decide, am_in 187 (by decide +kernel) (by decide +kernel), t_RC_ok, n_RC, rfl, rfl, by decide +kernel⟩
theorem fl_RC_27 : am_fl "RateChains" 27 6 3 := ⟨R_RC, T_RC, 7, rfl, i_RC, by decide, am_in 188 (by decide +kernel) (by decide +kernel)⟩
theorem fp_RC_27 : am_fF "RateChains" 27 6 3 (.array .long) := ⟨R_RC, T_RC, 7, t_RC, rfl, i_RC, by decide, am_in 188 (by decide +kernel) (by decide +kernel), t_RC_ok, n_RC, rfl, rfl, by decide +kernel⟩
theorem fl_RC_33 : am_fl "RateChains" 33 6 4 := ⟨R_RC, T_RC, 7, rfl, i_RC, by decide, am_in 189 (by decide +kernel) (by decide +kernel)⟩
theorem fp_RC_33 : am_fF "RateChains" 33 6 4 (.object "RateChains$Solved") := ⟨R_RC, T_RC, 7, t_RC, rfl, i_RC, by decide, am_in 189 (by decide +kernel) (by decide +kernel), t_RC_ok, n_RC, rfl, rfl, by decide +kernel⟩
theorem fl_RC_40 : am_fl "RateChains" 40 6 5 := ⟨R_RC, T_RC, 7, rfl, i_RC, by decide, am_in 190 (by decide +kernel) (by decide +kernel)⟩
theorem fp_RC_40 : am_fF "RateChains" 40 6 5 (.object "RateChains$Draw") := ⟨R_RC, T_RC, 7, t_RC, rfl, i_RC, by decide, am_in 190 (by decide +kernel) (by decide +kernel), t_RC_ok, n_RC, rfl, rfl, by decide +kernel⟩
theorem fl_RC_47 : am_fl "RateChains" 47 6 6 := ⟨R_RC, T_RC, 7, rfl, i_RC, by decide, am_in 191 (by decide +kernel) (by decide +kernel)⟩
theorem fp_RC_47 : am_fF "RateChains" 47 6 6 (.object "RateChains$Text") := ⟨R_RC, T_RC, 7, t_RC, rfl, i_RC, by decide, am_in 191 (by decide +kernel) (by decide +kernel), t_RC_ok, n_RC, rfl, rfl, by decide +kernel⟩
theorem fl_Mo_72 : am_fl "RateChainsModel" 72 7 0 := ⟨R_Mo, T_Mo, 29, rfl, i_Mo, by decide, am_in 588 (by decide +kernel) (by decide +kernel)⟩
theorem fp_Mo_72 : am_fp "RateChainsModel" 72 7 0 (.int) := ⟨R_Mo, T_Mo, 29, t_Mo, rfl, i_Mo, by decide, am_in 588 (by decide +kernel) (by decide +kernel), t_Mo_ok, n_Mo, rfl, by decide +kernel⟩
theorem fl_Mo_7 : am_fl "RateChainsModel" 7 7 1 := ⟨R_Mo, T_Mo, 29, rfl, i_Mo, by decide, am_in 589 (by decide +kernel) (by decide +kernel)⟩
theorem fp_Mo_7 : am_fF "RateChainsModel" 7 7 1 (.array .int) := ⟨R_Mo, T_Mo, 29, t_Mo, rfl, i_Mo, by decide, am_in 589 (by decide +kernel) (by decide +kernel), t_Mo_ok, n_Mo, rfl, rfl, by decide +kernel⟩
theorem fl_Mo_13 : am_fl "RateChainsModel" 13 7 2 := ⟨R_Mo, T_Mo, 29, rfl, i_Mo, by decide, am_in 590 (by decide +kernel) (by decide +kernel)⟩
theorem fp_Mo_13 : am_fF "RateChainsModel" 13 7 2 (.array .boolean) := ⟨R_Mo, T_Mo, 29, t_Mo, rfl, i_Mo, by decide, am_in 590 (by decide +kernel) (by decide +kernel), t_Mo_ok, n_Mo, rfl, rfl, by decide +kernel⟩
theorem fl_Mo_17 : am_fl "RateChainsModel" 17 7 3 := ⟨R_Mo, T_Mo, 29, rfl, i_Mo, by decide, am_in 591 (by decide +kernel) (by decide +kernel)⟩
theorem fp_Mo_17 : am_fF "RateChainsModel" 17 7 3 (.array .boolean) := ⟨R_Mo, T_Mo, 29, t_Mo, rfl, i_Mo, by decide, am_in 591 (by decide +kernel) (by decide +kernel), t_Mo_ok, n_Mo, rfl, rfl, by decide +kernel⟩
theorem fl_Mo_20 : am_fl "RateChainsModel" 20 7 4 := ⟨R_Mo, T_Mo, 29, rfl, i_Mo, by decide, am_in 592 (by decide +kernel) (by decide +kernel)⟩
theorem fp_Mo_20 : am_fF "RateChainsModel" 20 7 4 (.array .int) := ⟨R_Mo, T_Mo, 29, t_Mo, rfl, i_Mo, by decide, am_in 592 (by decide +kernel) (by decide +kernel), t_Mo_ok, n_Mo, rfl, rfl, by decide +kernel⟩
theorem fl_Mo_97 : am_fl "RateChainsModel" 97 7 5 := ⟨R_Mo, T_Mo, 29, rfl, i_Mo, by decide, am_in 593 (by decide +kernel) (by decide +kernel)⟩
theorem fp_Mo_97 : am_fp "RateChainsModel" 97 7 5 (.int) := ⟨R_Mo, T_Mo, 29, t_Mo, rfl, i_Mo, by decide, am_in 593 (by decide +kernel) (by decide +kernel), t_Mo_ok, n_Mo, rfl, by decide +kernel⟩
theorem fl_Mo_23 : am_fl "RateChainsModel" 23 7 6 := ⟨R_Mo, T_Mo, 29, rfl, i_Mo, by decide, am_in 594 (by decide +kernel) (by decide +kernel)⟩
theorem fp_Mo_23 : am_fF "RateChainsModel" 23 7 6 (.array .int) := ⟨R_Mo, T_Mo, 29, t_Mo, rfl, i_Mo, by decide, am_in 594 (by decide +kernel) (by decide +kernel), t_Mo_ok, n_Mo, rfl, rfl, by decide +kernel⟩
theorem fl_Mo_26 : am_fl "RateChainsModel" 26 7 7 := ⟨R_Mo, T_Mo, 29, rfl, i_Mo, by decide, am_in 595 (by decide +kernel) (by decide +kernel)⟩
theorem fp_Mo_26 : am_fF "RateChainsModel" 26 7 7 (.array .int) := ⟨R_Mo, T_Mo, 29, t_Mo, rfl, i_Mo, by decide, am_in 595 (by decide +kernel) (by decide +kernel), t_Mo_ok, n_Mo, rfl, rfl, by decide +kernel⟩
theorem fl_Mo_29 : am_fl "RateChainsModel" 29 7 8 := ⟨R_Mo, T_Mo, 29, rfl, i_Mo, by decide, am_in 596 (by decide +kernel) (by decide +kernel)⟩
theorem fp_Mo_29 : am_fF "RateChainsModel" 29 7 8 (.array .int) := ⟨R_Mo, T_Mo, 29, t_Mo, rfl, i_Mo, by decide, am_in 596 (by decide +kernel) (by decide +kernel), t_Mo_ok, n_Mo, rfl, rfl, by decide +kernel⟩
theorem fl_Mo_32 : am_fl "RateChainsModel" 32 7 9 := ⟨R_Mo, T_Mo, 29, rfl, i_Mo, by decide, am_in 597 (by decide +kernel) (by decide +kernel)⟩
theorem fp_Mo_32 : am_fF "RateChainsModel" 32 7 9 (.array .int) := ⟨R_Mo, T_Mo, 29, t_Mo, rfl, i_Mo, by decide, am_in 597 (by decide +kernel) (by decide +kernel), t_Mo_ok, n_Mo, rfl, rfl, by decide +kernel⟩
theorem fl_Mo_35 : am_fl "RateChainsModel" 35 7 10 := ⟨R_Mo, T_Mo, 29, rfl, i_Mo, by decide, am_in 598 (by decide +kernel) (by decide +kernel)⟩
theorem fp_Mo_35 : am_fF "RateChainsModel" 35 7 10 (.array .long) := ⟨R_Mo, T_Mo, 29, t_Mo, rfl, i_Mo, by decide, am_in 598 (by decide +kernel) (by decide +kernel), t_Mo_ok, n_Mo, rfl, rfl, by decide +kernel⟩
theorem fl_Mo_39 : am_fl "RateChainsModel" 39 7 11 := ⟨R_Mo, T_Mo, 29, rfl, i_Mo, by decide, am_in 599 (by decide +kernel) (by decide +kernel)⟩
theorem fp_Mo_39 : am_fF "RateChainsModel" 39 7 11 (.array .long) := ⟨R_Mo, T_Mo, 29, t_Mo, rfl, i_Mo, by decide, am_in 599 (by decide +kernel) (by decide +kernel), t_Mo_ok, n_Mo, rfl, rfl, by decide +kernel⟩
theorem fl_Mo_42 : am_fl "RateChainsModel" 42 7 12 := ⟨R_Mo, T_Mo, 29, rfl, i_Mo, by decide, am_in 600 (by decide +kernel) (by decide +kernel)⟩
theorem fp_Mo_42 : am_fF "RateChainsModel" 42 7 12 (.array .long) := ⟨R_Mo, T_Mo, 29, t_Mo, rfl, i_Mo, by decide, am_in 600 (by decide +kernel) (by decide +kernel), t_Mo_ok, n_Mo, rfl, rfl, by decide +kernel⟩
theorem fl_Mo_141 : am_fl "RateChainsModel" 141 7 13 := ⟨R_Mo, T_Mo, 29, rfl, i_Mo, by decide, am_in 601 (by decide +kernel) (by decide +kernel)⟩
theorem fp_Mo_141 : am_fp "RateChainsModel" 141 7 13 (.boolean) := ⟨R_Mo, T_Mo, 29, t_Mo, rfl, i_Mo, by decide, am_in 601 (by decide +kernel) (by decide +kernel), t_Mo_ok, n_Mo, rfl, by decide +kernel⟩
theorem fl_Mo_45 : am_fl "RateChainsModel" 45 7 14 := ⟨R_Mo, T_Mo, 29, rfl, i_Mo, by decide, am_in 602 (by decide +kernel) (by decide +kernel)⟩
theorem fp_Mo_45 : am_fF "RateChainsModel" 45 7 14 (.array .long) := ⟨R_Mo, T_Mo, 29, t_Mo, rfl, i_Mo, by decide, am_in 602 (by decide +kernel) (by decide +kernel), t_Mo_ok, n_Mo, rfl, rfl, by decide +kernel⟩
theorem fl_Mo_48 : am_fl "RateChainsModel" 48 7 15 := ⟨R_Mo, T_Mo, 29, rfl, i_Mo, by decide, am_in 603 (by decide +kernel) (by decide +kernel)⟩
theorem fp_Mo_48 : am_fF "RateChainsModel" 48 7 15 (.array .long) := ⟨R_Mo, T_Mo, 29, t_Mo, rfl, i_Mo, by decide, am_in 603 (by decide +kernel) (by decide +kernel), t_Mo_ok, n_Mo, rfl, rfl, by decide +kernel⟩
theorem fl_Mo_51 : am_fl "RateChainsModel" 51 7 16 := ⟨R_Mo, T_Mo, 29, rfl, i_Mo, by decide, am_in 604 (by decide +kernel) (by decide +kernel)⟩
theorem fp_Mo_51 : am_fF "RateChainsModel" 51 7 16 (.array .boolean) := ⟨R_Mo, T_Mo, 29, t_Mo, rfl, i_Mo, by decide, am_in 604 (by decide +kernel) (by decide +kernel), t_Mo_ok, n_Mo, rfl, rfl, by decide +kernel⟩
theorem fl_Mo_145 : am_fl "RateChainsModel" 145 7 17 := ⟨R_Mo, T_Mo, 29, rfl, i_Mo, by decide, am_in 605 (by decide +kernel) (by decide +kernel)⟩
theorem fp_Mo_145 : am_fp "RateChainsModel" 145 7 17 (.int) := ⟨R_Mo, T_Mo, 29, t_Mo, rfl, i_Mo, by decide, am_in 605 (by decide +kernel) (by decide +kernel), t_Mo_ok, n_Mo, rfl, by decide +kernel⟩
theorem fl_Mo_148 : am_fl "RateChainsModel" 148 7 18 := ⟨R_Mo, T_Mo, 29, rfl, i_Mo, by decide, am_in 606 (by decide +kernel) (by decide +kernel)⟩
theorem fp_Mo_148 : am_fp "RateChainsModel" 148 7 18 (.int) := ⟨R_Mo, T_Mo, 29, t_Mo, rfl, i_Mo, by decide, am_in 606 (by decide +kernel) (by decide +kernel), t_Mo_ok, n_Mo, rfl, by decide +kernel⟩
theorem fl_Mo_54 : am_fl "RateChainsModel" 54 7 19 := ⟨R_Mo, T_Mo, 29, rfl, i_Mo, by decide, am_in 607 (by decide +kernel) (by decide +kernel)⟩
theorem fp_Mo_54 : am_fF "RateChainsModel" 54 7 19 (.array .long) := ⟨R_Mo, T_Mo, 29, t_Mo, rfl, i_Mo, by decide, am_in 607 (by decide +kernel) (by decide +kernel), t_Mo_ok, n_Mo, rfl, rfl, by decide +kernel⟩
theorem fl_Mo_57 : am_fl "RateChainsModel" 57 7 20 := ⟨R_Mo, T_Mo, 29, rfl, i_Mo, by decide, am_in 608 (by decide +kernel) (by decide +kernel)⟩
theorem fp_Mo_57 : am_fF "RateChainsModel" 57 7 20 (.array .long) := ⟨R_Mo, T_Mo, 29, t_Mo, rfl, i_Mo, by decide, am_in 608 (by decide +kernel) (by decide +kernel), t_Mo_ok, n_Mo, rfl, rfl, by decide +kernel⟩
theorem fl_Mo_188 : am_fl "RateChainsModel" 188 7 21 := ⟨R_Mo, T_Mo, 29, rfl, i_Mo, by decide, am_in 609 (by decide +kernel) (by decide +kernel)⟩
theorem fp_Mo_188 : am_fp "RateChainsModel" 188 7 21 (.int) := ⟨R_Mo, T_Mo, 29, t_Mo, rfl, i_Mo, by decide, am_in 609 (by decide +kernel) (by decide +kernel), t_Mo_ok, n_Mo, rfl, by decide +kernel⟩
theorem fl_Mo_60 : am_fl "RateChainsModel" 60 7 22 := ⟨R_Mo, T_Mo, 29, rfl, i_Mo, by decide, am_in 610 (by decide +kernel) (by decide +kernel)⟩
theorem fp_Mo_60 : am_fF "RateChainsModel" 60 7 22 (.array .int) := ⟨R_Mo, T_Mo, 29, t_Mo, rfl, i_Mo, by decide, am_in 610 (by decide +kernel) (by decide +kernel), t_Mo_ok, n_Mo, rfl, rfl, by decide +kernel⟩
theorem fl_Mo_63 : am_fl "RateChainsModel" 63 7 23 := ⟨R_Mo, T_Mo, 29, rfl, i_Mo, by decide, am_in 611 (by decide +kernel) (by decide +kernel)⟩
theorem fp_Mo_63 : am_fF "RateChainsModel" 63 7 23 (.array .int) := ⟨R_Mo, T_Mo, 29, t_Mo, rfl, i_Mo, by decide, am_in 611 (by decide +kernel) (by decide +kernel), t_Mo_ok, n_Mo, rfl, rfl, by decide +kernel⟩
theorem fl_Mo_191 : am_fl "RateChainsModel" 191 7 24 := ⟨R_Mo, T_Mo, 29, rfl, i_Mo, by decide, am_in 612 (by decide +kernel) (by decide +kernel)⟩
theorem fp_Mo_191 : am_fp "RateChainsModel" 191 7 24 (.int) := ⟨R_Mo, T_Mo, 29, t_Mo, rfl, i_Mo, by decide, am_in 612 (by decide +kernel) (by decide +kernel), t_Mo_ok, n_Mo, rfl, by decide +kernel⟩
theorem fl_Mo_66 : am_fl "RateChainsModel" 66 7 25 := ⟨R_Mo, T_Mo, 29, rfl, i_Mo, by decide, am_in 613 (by decide +kernel) (by decide +kernel)⟩
theorem fp_Mo_66 : am_fF "RateChainsModel" 66 7 25 (.array .long) := ⟨R_Mo, T_Mo, 29, t_Mo, rfl, i_Mo, by decide, am_in 613 (by decide +kernel) (by decide +kernel), t_Mo_ok, n_Mo, rfl, rfl, by decide +kernel⟩
theorem fl_Mo_69 : am_fl "RateChainsModel" 69 7 26 := ⟨R_Mo, T_Mo, 29, rfl, i_Mo, by decide, am_in 614 (by decide +kernel) (by decide +kernel)⟩
theorem fp_Mo_69 : am_fF "RateChainsModel" 69 7 26 (.array .long) := ⟨R_Mo, T_Mo, 29, t_Mo, rfl, i_Mo, by decide, am_in 614 (by decide +kernel) (by decide +kernel), t_Mo_ok, n_Mo, rfl, rfl, by decide +kernel⟩
theorem fl_Mo_154 : am_fl "RateChainsModel" 154 7 27 := ⟨R_Mo, T_Mo, 29, rfl, i_Mo, by decide, am_in 615 (by decide +kernel) (by decide +kernel)⟩
theorem fp_Mo_154 : am_fp "RateChainsModel" 154 7 27 (.long) := ⟨R_Mo, T_Mo, 29, t_Mo, rfl, i_Mo, by decide, am_in 615 (by decide +kernel) (by decide +kernel), t_Mo_ok, n_Mo, rfl, by decide +kernel⟩
theorem fl_Mo_158 : am_fl "RateChainsModel" 158 7 28 := ⟨R_Mo, T_Mo, 29, rfl, i_Mo, by decide, am_in 616 (by decide +kernel) (by decide +kernel)⟩
theorem fp_Mo_158 : am_fp "RateChainsModel" 158 7 28 (.long) := ⟨R_Mo, T_Mo, 29, t_Mo, rfl, i_Mo, by decide, am_in 616 (by decide +kernel) (by decide +kernel), t_Mo_ok, n_Mo, rfl, by decide +kernel⟩
theorem nw_La_7 : am_nw "RateChainsLaw" 7 6 7 [.null, .null, .null, .null, .null, .null, .null] := ⟨R_RC, T_RC, t_RC, rfl, i_RC, t_RC_ok, am_in 46 (by decide +kernel) (by decide +kernel), am_in 47 (by decide +kernel) (by decide +kernel), am_in 37 (by decide +kernel) (by decide +kernel), fun b sc j hj => by rcases (show j = 0 ∨ j = 1 ∨ j = 2 ∨ j = 3 ∨ j = 4 ∨ j = 5 ∨ j = 6 by omega) with rfl | rfl | rfl | rfl | rfl | rfl | rfl <;> rfl⟩
theorem nw_RC_7 : am_nw "RateChains" 7 2 7 [.null, .null, .null, .null, .null, .null, .int 0] := ⟨R_Pl, T_Pl, t_Pl, rfl, i_Pl, t_Pl_ok, am_in 54 (by decide +kernel) (by decide +kernel), am_in 55 (by decide +kernel) (by decide +kernel), am_in 38 (by decide +kernel) (by decide +kernel), fun b sc j hj => by rcases (show j = 0 ∨ j = 1 ∨ j = 2 ∨ j = 3 ∨ j = 4 ∨ j = 5 ∨ j = 6 by omega) with rfl | rfl | rfl | rfl | rfl | rfl | rfl <;> rfl⟩
theorem nw_RC_16 : am_nw "RateChains" 16 1 6 [.null, .null, .null, .null, .null, .int 0] := ⟨R_Fe, T_Fe, t_Fe, rfl, i_Fe, t_Fe_ok, am_in 84 (by decide +kernel) (by decide +kernel), am_in 85 (by decide +kernel) (by decide +kernel), am_in 39 (by decide +kernel) (by decide +kernel), fun b sc j hj => by rcases (show j = 0 ∨ j = 1 ∨ j = 2 ∨ j = 3 ∨ j = 4 ∨ j = 5 by omega) with rfl | rfl | rfl | rfl | rfl | rfl <;> rfl⟩
theorem nw_RC_30 : am_nw "RateChains" 30 3 10 [.null, .null, .null, .null, .null, .null, .null, .null, .null, .int 0] := ⟨R_So, T_So, t_So, rfl, i_So, t_So_ok, am_in 110 (by decide +kernel) (by decide +kernel), am_in 111 (by decide +kernel) (by decide +kernel), am_in 40 (by decide +kernel) (by decide +kernel), fun b sc j hj => by rcases (show j = 0 ∨ j = 1 ∨ j = 2 ∨ j = 3 ∨ j = 4 ∨ j = 5 ∨ j = 6 ∨ j = 7 ∨ j = 8 ∨ j = 9 by omega) with rfl | rfl | rfl | rfl | rfl | rfl | rfl | rfl | rfl | rfl <;> rfl⟩
theorem nw_So_9 : am_nw "RateChains$Solved" 9 5 1 [.null] := ⟨R_Wo, T_Wo, t_Wo, rfl, i_Wo, t_Wo_ok, am_in 116 (by decide +kernel) (by decide +kernel), am_in 117 (by decide +kernel) (by decide +kernel), am_in 41 (by decide +kernel) (by decide +kernel), fun b sc j hj => by rcases (show j = 0 by omega) with rfl <;> rfl⟩
theorem cl_Wo_9 : Cond.classLink "RateChains$Worths" 9 "[[J" ∈ am_G := am_in 122 (by decide +kernel) (by decide +kernel)
theorem nw_RC_37 : am_nw "RateChains" 37 0 2 [.null, .int 0] := ⟨R_Dr, T_Dr, t_Dr, rfl, i_Dr, t_Dr_ok, am_in 159 (by decide +kernel) (by decide +kernel), am_in 160 (by decide +kernel) (by decide +kernel), am_in 42 (by decide +kernel) (by decide +kernel), fun b sc j hj => by rcases (show j = 0 ∨ j = 1 by omega) with rfl | rfl <;> rfl⟩
theorem nw_RC_44 : am_nw "RateChains" 44 4 2 [.null, .int 0] := ⟨R_Te, T_Te, t_Te, rfl, i_Te, t_Te_ok, am_in 172 (by decide +kernel) (by decide +kernel), am_in 173 (by decide +kernel) (by decide +kernel), am_in 43 (by decide +kernel) (by decide +kernel), fun b sc j hj => by rcases (show j = 0 ∨ j = 1 by omega) with rfl | rfl <;> rfl⟩
theorem nw_La_10 : am_nw "RateChainsLaw" 10 7 29 [.int 0, .null, .null, .null, .null, .int 0, .null, .null, .null, .null, .null, .null, .null, .int 0, .null, .null, .null, .int 0, .int 0, .null, .null, .int 0, .null, .null, .int 0, .null, .null, .long 0, .long 0] := ⟨R_Mo, T_Mo, t_Mo, rfl, i_Mo, t_Mo_ok, am_in 582 (by decide +kernel) (by decide +kernel), am_in 583 (by decide +kernel) (by decide +kernel), am_in 44 (by decide +kernel) (by decide +kernel), fun b sc j hj => by rcases (show j = 0 ∨ j = 1 ∨ j = 2 ∨ j = 3 ∨ j = 4 ∨ j = 5 ∨ j = 6 ∨ j = 7 ∨ j = 8 ∨ j = 9 ∨ j = 10 ∨ j = 11 ∨ j = 12 ∨ j = 13 ∨ j = 14 ∨ j = 15 ∨ j = 16 ∨ j = 17 ∨ j = 18 ∨ j = 19 ∨ j = 20 ∨ j = 21 ∨ j = 22 ∨ j = 23 ∨ j = 24 ∨ j = 25 ∨ j = 26 ∨ j = 27 ∨ j = 28 by omega) with rfl | rfl | rfl | rfl | rfl | rfl | rfl | rfl | rfl | rfl | rfl | rfl | rfl | rfl | rfl | rfl | rfl | rfl | rfl | rfl | rfl | rfl | rfl | rfl | rfl | rfl | rfl | rfl | rfl <;> rfl⟩
theorem ac_int : Cond.arrayClass .int ∈ am_G := am_in 82 (by decide +kernel) (by decide +kernel)
theorem ac_boolean : Cond.arrayClass .boolean ∈ am_G := am_in 83 (by decide +kernel) (by decide +kernel)
theorem ac_long : Cond.arrayClass .long ∈ am_G := am_in 109 (by decide +kernel) (by decide +kernel)
theorem kl_RC_172 : Cond.constantLong "RateChains" 172 (2 : Int64) ∈ am_G := am_in 222 (by decide +kernel) (by decide +kernel)
theorem kl_RC_174 : Cond.constantLong "RateChains" 174 (5 : Int64) ∈ am_G := am_in 223 (by decide +kernel) (by decide +kernel)
theorem kl_RC_176 : Cond.constantLong "RateChains" 176 (10 : Int64) ∈ am_G := am_in 224 (by decide +kernel) (by decide +kernel)
theorem kl_RC_84 : Cond.constantLong "RateChains" 84 (1000000000 : Int64) ∈ am_G := am_in 273 (by decide +kernel) (by decide +kernel)
theorem kl_RC_93 : Cond.constantLong "RateChains" 93 (100000000000 : Int64) ∈ am_G := am_in 289 (by decide +kernel) (by decide +kernel)
theorem kl_Wo_34 : Cond.constantLong "RateChains$Worths" 34 (10 : Int64) ∈ am_G := am_in 335 (by decide +kernel) (by decide +kernel)
theorem kl_RC_113 : Cond.constantLong "RateChains" 113 (-1 : Int64) ∈ am_G := am_in 433 (by decide +kernel) (by decide +kernel)
theorem kl_RC_143 : Cond.constantLong "RateChains" 143 (1000000000000 : Int64) ∈ am_G := am_in 490 (by decide +kernel) (by decide +kernel)
theorem kl_So_79 : Cond.constantLong "RateChains$Solved" 79 (-1 : Int64) ∈ am_G := am_in 502 (by decide +kernel) (by decide +kernel)
theorem kl_Dr_19 : Cond.constantLong "RateChains$Draw" 19 (6364136223846793005 : Int64) ∈ am_G := am_in 528 (by decide +kernel) (by decide +kernel)
theorem kl_Dr_21 : Cond.constantLong "RateChains$Draw" 21 (1442695040888963407 : Int64) ∈ am_G := am_in 529 (by decide +kernel) (by decide +kernel)
theorem kl_Te_51 : Cond.constantLong "RateChains$Text" 51 (10 : Int64) ∈ am_G := am_in 577 (by decide +kernel) (by decide +kernel)
theorem kl_Mo_76 : Cond.constantLong "RateChainsModel" 76 (2 : Int64) ∈ am_G := am_in 691 (by decide +kernel) (by decide +kernel)
theorem kl_Mo_78 : Cond.constantLong "RateChainsModel" 78 (5 : Int64) ∈ am_G := am_in 692 (by decide +kernel) (by decide +kernel)
theorem kl_Mo_80 : Cond.constantLong "RateChainsModel" 80 (10 : Int64) ∈ am_G := am_in 693 (by decide +kernel) (by decide +kernel)
theorem kl_Mo_100 : Cond.constantLong "RateChainsModel" 100 (1000000000 : Int64) ∈ am_G := am_in 712 (by decide +kernel) (by decide +kernel)
theorem kl_Mo_108 : Cond.constantLong "RateChainsModel" 108 (100000000000 : Int64) ∈ am_G := am_in 727 (by decide +kernel) (by decide +kernel)
theorem kl_Mo_172 : Cond.constantLong "RateChainsModel" 172 (-1 : Int64) ∈ am_G := am_in 771 (by decide +kernel) (by decide +kernel)
theorem kl_Mo_182 : Cond.constantLong "RateChainsModel" 182 (1000000000000 : Int64) ∈ am_G := am_in 816 (by decide +kernel) (by decide +kernel)
theorem kl_Mo_184 : Cond.constantLong "RateChainsModel" 184 (6364136223846793005 : Int64) ∈ am_G := am_in 825 (by decide +kernel) (by decide +kernel)
theorem kl_Mo_186 : Cond.constantLong "RateChainsModel" 186 (1442695040888963407 : Int64) ∈ am_G := am_in 826 (by decide +kernel) (by decide +kernel)
theorem kl_La_18 : Cond.constantLong "RateChainsLaw" 18 (4294967295 : Int64) ∈ am_G := am_in 849 (by decide +kernel) (by decide +kernel)
theorem oi1_ : Cond.instanceMethod Lib.objectInit ∈ am_G := am_in 52 (by decide +kernel) (by decide +kernel)
theorem oi2_ : Cond.code Lib.objectInit ⟨#[0xb1]⟩ 1 none ∈ am_G := am_in 53 (by decide +kernel) (by decide +kernel)
end
section
def lw_M (X : State → Nat → Nat → Prop) : am_M := (code, 4, ret, "RateChainsLaw", "law", X)
theorem d_law_0 {X : State → Nat → Nat → Prop} : decode (lw_M X).1 0 = .ok (.new 7, 3) := (by decide +kernel : decode code 0 = .ok (.new 7, 3))
theorem d_law_3 {X : State → Nat → Nat → Prop} : decode (lw_M X).1 3 = .ok (.dup, 1) := (by decide +kernel : decode code 3 = .ok (.dup, 1))
theorem d_law_4 {X : State → Nat → Nat → Prop} : decode (lw_M X).1 4 = .ok (.invokespecial 9, 3) := (by decide +kernel : decode code 4 = .ok (.invokespecial 9, 3))
theorem d_law_7 {X : State → Nat → Nat → Prop} : decode (lw_M X).1 7 = .ok (.astore_n 1, 1) := (by decide +kernel : decode code 7 = .ok (.astore_n 1, 1))
theorem d_law_8 {X : State → Nat → Nat → Prop} : decode (lw_M X).1 8 = .ok (.new 10, 3) := (by decide +kernel : decode code 8 = .ok (.new 10, 3))
theorem d_law_11 {X : State → Nat → Nat → Prop} : decode (lw_M X).1 11 = .ok (.dup, 1) := (by decide +kernel : decode code 11 = .ok (.dup, 1))
theorem d_law_12 {X : State → Nat → Nat → Prop} : decode (lw_M X).1 12 = .ok (.invokespecial 12, 3) := (by decide +kernel : decode code 12 = .ok (.invokespecial 12, 3))
theorem d_law_15 {X : State → Nat → Nat → Prop} : decode (lw_M X).1 15 = .ok (.astore_n 2, 1) := (by decide +kernel : decode code 15 = .ok (.astore_n 2, 1))
theorem d_law_16 {X : State → Nat → Nat → Prop} : decode (lw_M X).1 16 = .ok (.iconst 0, 1) := (by decide +kernel : decode code 16 = .ok (.iconst 0, 1))
theorem d_law_17 {X : State → Nat → Nat → Prop} : decode (lw_M X).1 17 = .ok (.istore_n 3, 1) := (by decide +kernel : decode code 17 = .ok (.istore_n 3, 1))
theorem d_law_18 {X : State → Nat → Nat → Prop} : decode (lw_M X).1 18 = .ok (.iload_n 3, 1) := (by decide +kernel : decode code 18 = .ok (.iload_n 3, 1))
theorem d_law_19 {X : State → Nat → Nat → Prop} : decode (lw_M X).1 19 = .ok (.aload_n 0, 1) := (by decide +kernel : decode code 19 = .ok (.aload_n 0, 1))
theorem d_law_20 {X : State → Nat → Nat → Prop} : decode (lw_M X).1 20 = .ok (.arraylength, 1) := (by decide +kernel : decode code 20 = .ok (.arraylength, 1))
theorem d_law_21 {X : State → Nat → Nat → Prop} : decode (lw_M X).1 21 = .ok (.bipush 7, 2) := (by decide +kernel : decode code 21 = .ok (.bipush 7, 2))
theorem d_law_23 {X : State → Nat → Nat → Prop} : decode (lw_M X).1 23 = .ok (.isub, 1) := (by decide +kernel : decode code 23 = .ok (.isub, 1))
theorem d_law_24 {X : State → Nat → Nat → Prop} : decode (lw_M X).1 24 = .ok (.if_icmp .gt 1079, 3) := (by decide +kernel : decode code 24 = .ok (.if_icmp .gt 1079, 3))
theorem d_law_27 {X : State → Nat → Nat → Prop} : decode (lw_M X).1 27 = .ok (.aload_n 0, 1) := (by decide +kernel : decode code 27 = .ok (.aload_n 0, 1))
theorem d_law_28 {X : State → Nat → Nat → Prop} : decode (lw_M X).1 28 = .ok (.iload_n 3, 1) := (by decide +kernel : decode code 28 = .ok (.iload_n 3, 1))
theorem d_law_29 {X : State → Nat → Nat → Prop} : decode (lw_M X).1 29 = .ok (.iaload, 1) := (by decide +kernel : decode code 29 = .ok (.iaload, 1))
theorem d_law_30 {X : State → Nat → Nat → Prop} : decode (lw_M X).1 30 = .ok (.bipush 31, 2) := (by decide +kernel : decode code 30 = .ok (.bipush 31, 2))
theorem d_law_32 {X : State → Nat → Nat → Prop} : decode (lw_M X).1 32 = .ok (.iand, 1) := (by decide +kernel : decode code 32 = .ok (.iand, 1))
theorem d_law_33 {X : State → Nat → Nat → Prop} : decode (lw_M X).1 33 = .ok (.tableswitch 1064 0 19 #[95, 108, 223, 256, 359, 454, 517, 590, 603, 647, 691, 714, 737, 750, 834, 878, 932, 995, 1018, 1041], 95) := (by decide +kernel : decode code 33 = .ok (.tableswitch 1064 0 19 #[95, 108, 223, 256, 359, 454, 517, 590, 603, 647, 691, 714, 737, 750, 834, 878, 932, 995, 1018, 1041], 95))
theorem d_law_128 {X : State → Nat → Nat → Prop} : decode (lw_M X).1 128 = .ok (.aload_n 1, 1) := (by decide +kernel : decode code 128 = .ok (.aload_n 1, 1))
theorem d_law_129 {X : State → Nat → Nat → Prop} : decode (lw_M X).1 129 = .ok (.invokevirtual 13, 3) := (by decide +kernel : decode code 129 = .ok (.invokevirtual 13, 3))
theorem d_law_132 {X : State → Nat → Nat → Prop} : decode (lw_M X).1 132 = .ok (.aload_n 2, 1) := (by decide +kernel : decode code 132 = .ok (.aload_n 2, 1))
theorem d_law_133 {X : State → Nat → Nat → Prop} : decode (lw_M X).1 133 = .ok (.invokevirtual 17, 3) := (by decide +kernel : decode code 133 = .ok (.invokevirtual 17, 3))
theorem d_law_136 {X : State → Nat → Nat → Prop} : decode (lw_M X).1 136 = .ok (.if_icmp .eq 961, 3) := (by decide +kernel : decode code 136 = .ok (.if_icmp .eq 961, 3))
theorem d_law_139 {X : State → Nat → Nat → Prop} : decode (lw_M X).1 139 = .ok (.iconst 0, 1) := (by decide +kernel : decode code 139 = .ok (.iconst 0, 1))
theorem d_law_140 {X : State → Nat → Nat → Prop} : decode (lw_M X).1 140 = .ok (.ireturn, 1) := (by decide +kernel : decode code 140 = .ok (.ireturn, 1))
theorem d_law_141 {X : State → Nat → Nat → Prop} : decode (lw_M X).1 141 = .ok (.aload_n 1, 1) := (by decide +kernel : decode code 141 = .ok (.aload_n 1, 1))
theorem d_law_142 {X : State → Nat → Nat → Prop} : decode (lw_M X).1 142 = .ok (.aload_n 0, 1) := (by decide +kernel : decode code 142 = .ok (.aload_n 0, 1))
theorem d_law_143 {X : State → Nat → Nat → Prop} : decode (lw_M X).1 143 = .ok (.iload_n 3, 1) := (by decide +kernel : decode code 143 = .ok (.iload_n 3, 1))
theorem d_law_144 {X : State → Nat → Nat → Prop} : decode (lw_M X).1 144 = .ok (.iconst 1, 1) := (by decide +kernel : decode code 144 = .ok (.iconst 1, 1))
theorem d_law_145 {X : State → Nat → Nat → Prop} : decode (lw_M X).1 145 = .ok (.iadd, 1) := (by decide +kernel : decode code 145 = .ok (.iadd, 1))
theorem d_law_146 {X : State → Nat → Nat → Prop} : decode (lw_M X).1 146 = .ok (.iaload, 1) := (by decide +kernel : decode code 146 = .ok (.iaload, 1))
theorem d_law_147 {X : State → Nat → Nat → Prop} : decode (lw_M X).1 147 = .ok (.aload_n 0, 1) := (by decide +kernel : decode code 147 = .ok (.aload_n 0, 1))
theorem d_law_148 {X : State → Nat → Nat → Prop} : decode (lw_M X).1 148 = .ok (.iload_n 3, 1) := (by decide +kernel : decode code 148 = .ok (.iload_n 3, 1))
theorem d_law_149 {X : State → Nat → Nat → Prop} : decode (lw_M X).1 149 = .ok (.iconst 2, 1) := (by decide +kernel : decode code 149 = .ok (.iconst 2, 1))
theorem d_law_150 {X : State → Nat → Nat → Prop} : decode (lw_M X).1 150 = .ok (.iadd, 1) := (by decide +kernel : decode code 150 = .ok (.iadd, 1))
theorem d_law_151 {X : State → Nat → Nat → Prop} : decode (lw_M X).1 151 = .ok (.iaload, 1) := (by decide +kernel : decode code 151 = .ok (.iaload, 1))
theorem d_law_152 {X : State → Nat → Nat → Prop} : decode (lw_M X).1 152 = .ok (.aload_n 0, 1) := (by decide +kernel : decode code 152 = .ok (.aload_n 0, 1))
theorem d_law_153 {X : State → Nat → Nat → Prop} : decode (lw_M X).1 153 = .ok (.iload_n 3, 1) := (by decide +kernel : decode code 153 = .ok (.iload_n 3, 1))
theorem d_law_154 {X : State → Nat → Nat → Prop} : decode (lw_M X).1 154 = .ok (.iconst 3, 1) := (by decide +kernel : decode code 154 = .ok (.iconst 3, 1))
theorem d_law_155 {X : State → Nat → Nat → Prop} : decode (lw_M X).1 155 = .ok (.iadd, 1) := (by decide +kernel : decode code 155 = .ok (.iadd, 1))
theorem d_law_156 {X : State → Nat → Nat → Prop} : decode (lw_M X).1 156 = .ok (.iaload, 1) := (by decide +kernel : decode code 156 = .ok (.iaload, 1))
theorem d_law_157 {X : State → Nat → Nat → Prop} : decode (lw_M X).1 157 = .ok (.i2l, 1) := (by decide +kernel : decode code 157 = .ok (.i2l, 1))
theorem d_law_158 {X : State → Nat → Nat → Prop} : decode (lw_M X).1 158 = .ok (.bipush 32, 2) := (by decide +kernel : decode code 158 = .ok (.bipush 32, 2))
theorem d_law_160 {X : State → Nat → Nat → Prop} : decode (lw_M X).1 160 = .ok (.lshl, 1) := (by decide +kernel : decode code 160 = .ok (.lshl, 1))
theorem d_law_161 {X : State → Nat → Nat → Prop} : decode (lw_M X).1 161 = .ok (.aload_n 0, 1) := (by decide +kernel : decode code 161 = .ok (.aload_n 0, 1))
theorem d_law_162 {X : State → Nat → Nat → Prop} : decode (lw_M X).1 162 = .ok (.iload_n 3, 1) := (by decide +kernel : decode code 162 = .ok (.iload_n 3, 1))
theorem d_law_163 {X : State → Nat → Nat → Prop} : decode (lw_M X).1 163 = .ok (.iconst 4, 1) := (by decide +kernel : decode code 163 = .ok (.iconst 4, 1))
theorem d_law_164 {X : State → Nat → Nat → Prop} : decode (lw_M X).1 164 = .ok (.iadd, 1) := (by decide +kernel : decode code 164 = .ok (.iadd, 1))
theorem d_law_165 {X : State → Nat → Nat → Prop} : decode (lw_M X).1 165 = .ok (.iaload, 1) := (by decide +kernel : decode code 165 = .ok (.iaload, 1))
theorem d_law_166 {X : State → Nat → Nat → Prop} : decode (lw_M X).1 166 = .ok (.i2l, 1) := (by decide +kernel : decode code 166 = .ok (.i2l, 1))
theorem d_law_167 {X : State → Nat → Nat → Prop} : decode (lw_M X).1 167 = .ok (.ldc2_w 18, 3) := (by decide +kernel : decode code 167 = .ok (.ldc2_w 18, 3))
theorem d_law_170 {X : State → Nat → Nat → Prop} : decode (lw_M X).1 170 = .ok (.land, 1) := (by decide +kernel : decode code 170 = .ok (.land, 1))
theorem d_law_171 {X : State → Nat → Nat → Prop} : decode (lw_M X).1 171 = .ok (.lor, 1) := (by decide +kernel : decode code 171 = .ok (.lor, 1))
theorem d_law_172 {X : State → Nat → Nat → Prop} : decode (lw_M X).1 172 = .ok (.aload_n 0, 1) := (by decide +kernel : decode code 172 = .ok (.aload_n 0, 1))
theorem d_law_173 {X : State → Nat → Nat → Prop} : decode (lw_M X).1 173 = .ok (.iload_n 3, 1) := (by decide +kernel : decode code 173 = .ok (.iload_n 3, 1))
theorem d_law_174 {X : State → Nat → Nat → Prop} : decode (lw_M X).1 174 = .ok (.iconst 5, 1) := (by decide +kernel : decode code 174 = .ok (.iconst 5, 1))
theorem d_law_175 {X : State → Nat → Nat → Prop} : decode (lw_M X).1 175 = .ok (.iadd, 1) := (by decide +kernel : decode code 175 = .ok (.iadd, 1))
theorem d_law_176 {X : State → Nat → Nat → Prop} : decode (lw_M X).1 176 = .ok (.iaload, 1) := (by decide +kernel : decode code 176 = .ok (.iaload, 1))
theorem d_law_177 {X : State → Nat → Nat → Prop} : decode (lw_M X).1 177 = .ok (.i2l, 1) := (by decide +kernel : decode code 177 = .ok (.i2l, 1))
theorem d_law_178 {X : State → Nat → Nat → Prop} : decode (lw_M X).1 178 = .ok (.bipush 32, 2) := (by decide +kernel : decode code 178 = .ok (.bipush 32, 2))
theorem d_law_180 {X : State → Nat → Nat → Prop} : decode (lw_M X).1 180 = .ok (.lshl, 1) := (by decide +kernel : decode code 180 = .ok (.lshl, 1))
theorem d_law_181 {X : State → Nat → Nat → Prop} : decode (lw_M X).1 181 = .ok (.aload_n 0, 1) := (by decide +kernel : decode code 181 = .ok (.aload_n 0, 1))
theorem d_law_182 {X : State → Nat → Nat → Prop} : decode (lw_M X).1 182 = .ok (.iload_n 3, 1) := (by decide +kernel : decode code 182 = .ok (.iload_n 3, 1))
theorem d_law_183 {X : State → Nat → Nat → Prop} : decode (lw_M X).1 183 = .ok (.bipush 6, 2) := (by decide +kernel : decode code 183 = .ok (.bipush 6, 2))
theorem d_law_185 {X : State → Nat → Nat → Prop} : decode (lw_M X).1 185 = .ok (.iadd, 1) := (by decide +kernel : decode code 185 = .ok (.iadd, 1))
theorem d_law_186 {X : State → Nat → Nat → Prop} : decode (lw_M X).1 186 = .ok (.iaload, 1) := (by decide +kernel : decode code 186 = .ok (.iaload, 1))
theorem d_law_187 {X : State → Nat → Nat → Prop} : decode (lw_M X).1 187 = .ok (.i2l, 1) := (by decide +kernel : decode code 187 = .ok (.i2l, 1))
theorem d_law_188 {X : State → Nat → Nat → Prop} : decode (lw_M X).1 188 = .ok (.ldc2_w 18, 3) := (by decide +kernel : decode code 188 = .ok (.ldc2_w 18, 3))
theorem d_law_191 {X : State → Nat → Nat → Prop} : decode (lw_M X).1 191 = .ok (.land, 1) := (by decide +kernel : decode code 191 = .ok (.land, 1))
theorem d_law_192 {X : State → Nat → Nat → Prop} : decode (lw_M X).1 192 = .ok (.lor, 1) := (by decide +kernel : decode code 192 = .ok (.lor, 1))
theorem d_law_193 {X : State → Nat → Nat → Prop} : decode (lw_M X).1 193 = .ok (.invokevirtual 20, 3) := (by decide +kernel : decode code 193 = .ok (.invokevirtual 20, 3))
theorem d_law_196 {X : State → Nat → Nat → Prop} : decode (lw_M X).1 196 = .ok (.aload_n 2, 1) := (by decide +kernel : decode code 196 = .ok (.aload_n 2, 1))
theorem d_law_197 {X : State → Nat → Nat → Prop} : decode (lw_M X).1 197 = .ok (.aload_n 0, 1) := (by decide +kernel : decode code 197 = .ok (.aload_n 0, 1))
theorem d_law_198 {X : State → Nat → Nat → Prop} : decode (lw_M X).1 198 = .ok (.iload_n 3, 1) := (by decide +kernel : decode code 198 = .ok (.iload_n 3, 1))
theorem d_law_199 {X : State → Nat → Nat → Prop} : decode (lw_M X).1 199 = .ok (.iconst 1, 1) := (by decide +kernel : decode code 199 = .ok (.iconst 1, 1))
theorem d_law_200 {X : State → Nat → Nat → Prop} : decode (lw_M X).1 200 = .ok (.iadd, 1) := (by decide +kernel : decode code 200 = .ok (.iadd, 1))
theorem d_law_201 {X : State → Nat → Nat → Prop} : decode (lw_M X).1 201 = .ok (.iaload, 1) := (by decide +kernel : decode code 201 = .ok (.iaload, 1))
theorem d_law_202 {X : State → Nat → Nat → Prop} : decode (lw_M X).1 202 = .ok (.aload_n 0, 1) := (by decide +kernel : decode code 202 = .ok (.aload_n 0, 1))
theorem d_law_203 {X : State → Nat → Nat → Prop} : decode (lw_M X).1 203 = .ok (.iload_n 3, 1) := (by decide +kernel : decode code 203 = .ok (.iload_n 3, 1))
theorem d_law_204 {X : State → Nat → Nat → Prop} : decode (lw_M X).1 204 = .ok (.iconst 2, 1) := (by decide +kernel : decode code 204 = .ok (.iconst 2, 1))
theorem d_law_205 {X : State → Nat → Nat → Prop} : decode (lw_M X).1 205 = .ok (.iadd, 1) := (by decide +kernel : decode code 205 = .ok (.iadd, 1))
theorem d_law_206 {X : State → Nat → Nat → Prop} : decode (lw_M X).1 206 = .ok (.iaload, 1) := (by decide +kernel : decode code 206 = .ok (.iaload, 1))
theorem d_law_207 {X : State → Nat → Nat → Prop} : decode (lw_M X).1 207 = .ok (.aload_n 0, 1) := (by decide +kernel : decode code 207 = .ok (.aload_n 0, 1))
theorem d_law_208 {X : State → Nat → Nat → Prop} : decode (lw_M X).1 208 = .ok (.iload_n 3, 1) := (by decide +kernel : decode code 208 = .ok (.iload_n 3, 1))
theorem d_law_209 {X : State → Nat → Nat → Prop} : decode (lw_M X).1 209 = .ok (.iconst 3, 1) := (by decide +kernel : decode code 209 = .ok (.iconst 3, 1))
theorem d_law_210 {X : State → Nat → Nat → Prop} : decode (lw_M X).1 210 = .ok (.iadd, 1) := (by decide +kernel : decode code 210 = .ok (.iadd, 1))
theorem d_law_211 {X : State → Nat → Nat → Prop} : decode (lw_M X).1 211 = .ok (.iaload, 1) := (by decide +kernel : decode code 211 = .ok (.iaload, 1))
theorem d_law_212 {X : State → Nat → Nat → Prop} : decode (lw_M X).1 212 = .ok (.i2l, 1) := (by decide +kernel : decode code 212 = .ok (.i2l, 1))
theorem d_law_213 {X : State → Nat → Nat → Prop} : decode (lw_M X).1 213 = .ok (.bipush 32, 2) := (by decide +kernel : decode code 213 = .ok (.bipush 32, 2))
theorem d_law_215 {X : State → Nat → Nat → Prop} : decode (lw_M X).1 215 = .ok (.lshl, 1) := (by decide +kernel : decode code 215 = .ok (.lshl, 1))
theorem d_law_216 {X : State → Nat → Nat → Prop} : decode (lw_M X).1 216 = .ok (.aload_n 0, 1) := (by decide +kernel : decode code 216 = .ok (.aload_n 0, 1))
theorem d_law_217 {X : State → Nat → Nat → Prop} : decode (lw_M X).1 217 = .ok (.iload_n 3, 1) := (by decide +kernel : decode code 217 = .ok (.iload_n 3, 1))
theorem d_law_218 {X : State → Nat → Nat → Prop} : decode (lw_M X).1 218 = .ok (.iconst 4, 1) := (by decide +kernel : decode code 218 = .ok (.iconst 4, 1))
theorem d_law_219 {X : State → Nat → Nat → Prop} : decode (lw_M X).1 219 = .ok (.iadd, 1) := (by decide +kernel : decode code 219 = .ok (.iadd, 1))
theorem d_law_220 {X : State → Nat → Nat → Prop} : decode (lw_M X).1 220 = .ok (.iaload, 1) := (by decide +kernel : decode code 220 = .ok (.iaload, 1))
theorem d_law_221 {X : State → Nat → Nat → Prop} : decode (lw_M X).1 221 = .ok (.i2l, 1) := (by decide +kernel : decode code 221 = .ok (.i2l, 1))
theorem d_law_222 {X : State → Nat → Nat → Prop} : decode (lw_M X).1 222 = .ok (.ldc2_w 18, 3) := (by decide +kernel : decode code 222 = .ok (.ldc2_w 18, 3))
theorem d_law_225 {X : State → Nat → Nat → Prop} : decode (lw_M X).1 225 = .ok (.land, 1) := (by decide +kernel : decode code 225 = .ok (.land, 1))
theorem d_law_226 {X : State → Nat → Nat → Prop} : decode (lw_M X).1 226 = .ok (.lor, 1) := (by decide +kernel : decode code 226 = .ok (.lor, 1))
theorem d_law_227 {X : State → Nat → Nat → Prop} : decode (lw_M X).1 227 = .ok (.aload_n 0, 1) := (by decide +kernel : decode code 227 = .ok (.aload_n 0, 1))
theorem d_law_228 {X : State → Nat → Nat → Prop} : decode (lw_M X).1 228 = .ok (.iload_n 3, 1) := (by decide +kernel : decode code 228 = .ok (.iload_n 3, 1))
theorem d_law_229 {X : State → Nat → Nat → Prop} : decode (lw_M X).1 229 = .ok (.iconst 5, 1) := (by decide +kernel : decode code 229 = .ok (.iconst 5, 1))
theorem d_law_230 {X : State → Nat → Nat → Prop} : decode (lw_M X).1 230 = .ok (.iadd, 1) := (by decide +kernel : decode code 230 = .ok (.iadd, 1))
theorem d_law_231 {X : State → Nat → Nat → Prop} : decode (lw_M X).1 231 = .ok (.iaload, 1) := (by decide +kernel : decode code 231 = .ok (.iaload, 1))
theorem d_law_232 {X : State → Nat → Nat → Prop} : decode (lw_M X).1 232 = .ok (.i2l, 1) := (by decide +kernel : decode code 232 = .ok (.i2l, 1))
theorem d_law_233 {X : State → Nat → Nat → Prop} : decode (lw_M X).1 233 = .ok (.bipush 32, 2) := (by decide +kernel : decode code 233 = .ok (.bipush 32, 2))
theorem d_law_235 {X : State → Nat → Nat → Prop} : decode (lw_M X).1 235 = .ok (.lshl, 1) := (by decide +kernel : decode code 235 = .ok (.lshl, 1))
theorem d_law_236 {X : State → Nat → Nat → Prop} : decode (lw_M X).1 236 = .ok (.aload_n 0, 1) := (by decide +kernel : decode code 236 = .ok (.aload_n 0, 1))
theorem d_law_237 {X : State → Nat → Nat → Prop} : decode (lw_M X).1 237 = .ok (.iload_n 3, 1) := (by decide +kernel : decode code 237 = .ok (.iload_n 3, 1))
theorem d_law_238 {X : State → Nat → Nat → Prop} : decode (lw_M X).1 238 = .ok (.bipush 6, 2) := (by decide +kernel : decode code 238 = .ok (.bipush 6, 2))
theorem d_law_240 {X : State → Nat → Nat → Prop} : decode (lw_M X).1 240 = .ok (.iadd, 1) := (by decide +kernel : decode code 240 = .ok (.iadd, 1))
theorem d_law_241 {X : State → Nat → Nat → Prop} : decode (lw_M X).1 241 = .ok (.iaload, 1) := (by decide +kernel : decode code 241 = .ok (.iaload, 1))
theorem d_law_242 {X : State → Nat → Nat → Prop} : decode (lw_M X).1 242 = .ok (.i2l, 1) := (by decide +kernel : decode code 242 = .ok (.i2l, 1))
theorem d_law_243 {X : State → Nat → Nat → Prop} : decode (lw_M X).1 243 = .ok (.ldc2_w 18, 3) := (by decide +kernel : decode code 243 = .ok (.ldc2_w 18, 3))
theorem d_law_246 {X : State → Nat → Nat → Prop} : decode (lw_M X).1 246 = .ok (.land, 1) := (by decide +kernel : decode code 246 = .ok (.land, 1))
theorem d_law_247 {X : State → Nat → Nat → Prop} : decode (lw_M X).1 247 = .ok (.lor, 1) := (by decide +kernel : decode code 247 = .ok (.lor, 1))
theorem d_law_248 {X : State → Nat → Nat → Prop} : decode (lw_M X).1 248 = .ok (.invokevirtual 24, 3) := (by decide +kernel : decode code 248 = .ok (.invokevirtual 24, 3))
theorem d_law_251 {X : State → Nat → Nat → Prop} : decode (lw_M X).1 251 = .ok (.if_icmp .eq 846, 3) := (by decide +kernel : decode code 251 = .ok (.if_icmp .eq 846, 3))
theorem d_law_254 {X : State → Nat → Nat → Prop} : decode (lw_M X).1 254 = .ok (.iconst 0, 1) := (by decide +kernel : decode code 254 = .ok (.iconst 0, 1))
theorem d_law_255 {X : State → Nat → Nat → Prop} : decode (lw_M X).1 255 = .ok (.ireturn, 1) := (by decide +kernel : decode code 255 = .ok (.ireturn, 1))
theorem d_law_256 {X : State → Nat → Nat → Prop} : decode (lw_M X).1 256 = .ok (.aload_n 1, 1) := (by decide +kernel : decode code 256 = .ok (.aload_n 1, 1))
theorem d_law_257 {X : State → Nat → Nat → Prop} : decode (lw_M X).1 257 = .ok (.aload_n 0, 1) := (by decide +kernel : decode code 257 = .ok (.aload_n 0, 1))
theorem d_law_258 {X : State → Nat → Nat → Prop} : decode (lw_M X).1 258 = .ok (.iload_n 3, 1) := (by decide +kernel : decode code 258 = .ok (.iload_n 3, 1))
theorem d_law_259 {X : State → Nat → Nat → Prop} : decode (lw_M X).1 259 = .ok (.iconst 1, 1) := (by decide +kernel : decode code 259 = .ok (.iconst 1, 1))
theorem d_law_260 {X : State → Nat → Nat → Prop} : decode (lw_M X).1 260 = .ok (.iadd, 1) := (by decide +kernel : decode code 260 = .ok (.iadd, 1))
theorem d_law_261 {X : State → Nat → Nat → Prop} : decode (lw_M X).1 261 = .ok (.iaload, 1) := (by decide +kernel : decode code 261 = .ok (.iaload, 1))
theorem d_law_262 {X : State → Nat → Nat → Prop} : decode (lw_M X).1 262 = .ok (.aload_n 0, 1) := (by decide +kernel : decode code 262 = .ok (.aload_n 0, 1))
theorem d_law_263 {X : State → Nat → Nat → Prop} : decode (lw_M X).1 263 = .ok (.iload_n 3, 1) := (by decide +kernel : decode code 263 = .ok (.iload_n 3, 1))
theorem d_law_264 {X : State → Nat → Nat → Prop} : decode (lw_M X).1 264 = .ok (.iconst 2, 1) := (by decide +kernel : decode code 264 = .ok (.iconst 2, 1))
theorem d_law_265 {X : State → Nat → Nat → Prop} : decode (lw_M X).1 265 = .ok (.iadd, 1) := (by decide +kernel : decode code 265 = .ok (.iadd, 1))
theorem d_law_266 {X : State → Nat → Nat → Prop} : decode (lw_M X).1 266 = .ok (.iaload, 1) := (by decide +kernel : decode code 266 = .ok (.iaload, 1))
theorem d_law_267 {X : State → Nat → Nat → Prop} : decode (lw_M X).1 267 = .ok (.invokevirtual 25, 3) := (by decide +kernel : decode code 267 = .ok (.invokevirtual 25, 3))
theorem d_law_270 {X : State → Nat → Nat → Prop} : decode (lw_M X).1 270 = .ok (.aload_n 2, 1) := (by decide +kernel : decode code 270 = .ok (.aload_n 2, 1))
theorem d_law_271 {X : State → Nat → Nat → Prop} : decode (lw_M X).1 271 = .ok (.aload_n 0, 1) := (by decide +kernel : decode code 271 = .ok (.aload_n 0, 1))
theorem d_law_272 {X : State → Nat → Nat → Prop} : decode (lw_M X).1 272 = .ok (.iload_n 3, 1) := (by decide +kernel : decode code 272 = .ok (.iload_n 3, 1))
theorem d_law_273 {X : State → Nat → Nat → Prop} : decode (lw_M X).1 273 = .ok (.iconst 1, 1) := (by decide +kernel : decode code 273 = .ok (.iconst 1, 1))
theorem d_law_274 {X : State → Nat → Nat → Prop} : decode (lw_M X).1 274 = .ok (.iadd, 1) := (by decide +kernel : decode code 274 = .ok (.iadd, 1))
theorem d_law_275 {X : State → Nat → Nat → Prop} : decode (lw_M X).1 275 = .ok (.iaload, 1) := (by decide +kernel : decode code 275 = .ok (.iaload, 1))
theorem d_law_276 {X : State → Nat → Nat → Prop} : decode (lw_M X).1 276 = .ok (.aload_n 0, 1) := (by decide +kernel : decode code 276 = .ok (.aload_n 0, 1))
theorem d_law_277 {X : State → Nat → Nat → Prop} : decode (lw_M X).1 277 = .ok (.iload_n 3, 1) := (by decide +kernel : decode code 277 = .ok (.iload_n 3, 1))
theorem d_law_278 {X : State → Nat → Nat → Prop} : decode (lw_M X).1 278 = .ok (.iconst 2, 1) := (by decide +kernel : decode code 278 = .ok (.iconst 2, 1))
theorem d_law_279 {X : State → Nat → Nat → Prop} : decode (lw_M X).1 279 = .ok (.iadd, 1) := (by decide +kernel : decode code 279 = .ok (.iadd, 1))
theorem d_law_280 {X : State → Nat → Nat → Prop} : decode (lw_M X).1 280 = .ok (.iaload, 1) := (by decide +kernel : decode code 280 = .ok (.iaload, 1))
theorem d_law_281 {X : State → Nat → Nat → Prop} : decode (lw_M X).1 281 = .ok (.invokevirtual 29, 3) := (by decide +kernel : decode code 281 = .ok (.invokevirtual 29, 3))
theorem d_law_284 {X : State → Nat → Nat → Prop} : decode (lw_M X).1 284 = .ok (.if_icmp .eq 813, 3) := (by decide +kernel : decode code 284 = .ok (.if_icmp .eq 813, 3))
theorem d_law_287 {X : State → Nat → Nat → Prop} : decode (lw_M X).1 287 = .ok (.iconst 0, 1) := (by decide +kernel : decode code 287 = .ok (.iconst 0, 1))
theorem d_law_288 {X : State → Nat → Nat → Prop} : decode (lw_M X).1 288 = .ok (.ireturn, 1) := (by decide +kernel : decode code 288 = .ok (.ireturn, 1))
theorem d_law_289 {X : State → Nat → Nat → Prop} : decode (lw_M X).1 289 = .ok (.aload_n 1, 1) := (by decide +kernel : decode code 289 = .ok (.aload_n 1, 1))
theorem d_law_290 {X : State → Nat → Nat → Prop} : decode (lw_M X).1 290 = .ok (.aload_n 0, 1) := (by decide +kernel : decode code 290 = .ok (.aload_n 0, 1))
theorem d_law_291 {X : State → Nat → Nat → Prop} : decode (lw_M X).1 291 = .ok (.iload_n 3, 1) := (by decide +kernel : decode code 291 = .ok (.iload_n 3, 1))
theorem d_law_292 {X : State → Nat → Nat → Prop} : decode (lw_M X).1 292 = .ok (.iconst 1, 1) := (by decide +kernel : decode code 292 = .ok (.iconst 1, 1))
theorem d_law_293 {X : State → Nat → Nat → Prop} : decode (lw_M X).1 293 = .ok (.iadd, 1) := (by decide +kernel : decode code 293 = .ok (.iadd, 1))
theorem d_law_294 {X : State → Nat → Nat → Prop} : decode (lw_M X).1 294 = .ok (.iaload, 1) := (by decide +kernel : decode code 294 = .ok (.iaload, 1))
theorem d_law_295 {X : State → Nat → Nat → Prop} : decode (lw_M X).1 295 = .ok (.aload_n 0, 1) := (by decide +kernel : decode code 295 = .ok (.aload_n 0, 1))
theorem d_law_296 {X : State → Nat → Nat → Prop} : decode (lw_M X).1 296 = .ok (.iload_n 3, 1) := (by decide +kernel : decode code 296 = .ok (.iload_n 3, 1))
theorem d_law_297 {X : State → Nat → Nat → Prop} : decode (lw_M X).1 297 = .ok (.iconst 2, 1) := (by decide +kernel : decode code 297 = .ok (.iconst 2, 1))
theorem d_law_298 {X : State → Nat → Nat → Prop} : decode (lw_M X).1 298 = .ok (.iadd, 1) := (by decide +kernel : decode code 298 = .ok (.iadd, 1))
theorem d_law_299 {X : State → Nat → Nat → Prop} : decode (lw_M X).1 299 = .ok (.iaload, 1) := (by decide +kernel : decode code 299 = .ok (.iaload, 1))
theorem d_law_300 {X : State → Nat → Nat → Prop} : decode (lw_M X).1 300 = .ok (.i2l, 1) := (by decide +kernel : decode code 300 = .ok (.i2l, 1))
theorem d_law_301 {X : State → Nat → Nat → Prop} : decode (lw_M X).1 301 = .ok (.bipush 32, 2) := (by decide +kernel : decode code 301 = .ok (.bipush 32, 2))
theorem d_law_303 {X : State → Nat → Nat → Prop} : decode (lw_M X).1 303 = .ok (.lshl, 1) := (by decide +kernel : decode code 303 = .ok (.lshl, 1))
theorem d_law_304 {X : State → Nat → Nat → Prop} : decode (lw_M X).1 304 = .ok (.aload_n 0, 1) := (by decide +kernel : decode code 304 = .ok (.aload_n 0, 1))
theorem d_law_305 {X : State → Nat → Nat → Prop} : decode (lw_M X).1 305 = .ok (.iload_n 3, 1) := (by decide +kernel : decode code 305 = .ok (.iload_n 3, 1))
theorem d_law_306 {X : State → Nat → Nat → Prop} : decode (lw_M X).1 306 = .ok (.iconst 3, 1) := (by decide +kernel : decode code 306 = .ok (.iconst 3, 1))
theorem d_law_307 {X : State → Nat → Nat → Prop} : decode (lw_M X).1 307 = .ok (.iadd, 1) := (by decide +kernel : decode code 307 = .ok (.iadd, 1))
theorem d_law_308 {X : State → Nat → Nat → Prop} : decode (lw_M X).1 308 = .ok (.iaload, 1) := (by decide +kernel : decode code 308 = .ok (.iaload, 1))
theorem d_law_309 {X : State → Nat → Nat → Prop} : decode (lw_M X).1 309 = .ok (.i2l, 1) := (by decide +kernel : decode code 309 = .ok (.i2l, 1))
theorem d_law_310 {X : State → Nat → Nat → Prop} : decode (lw_M X).1 310 = .ok (.ldc2_w 18, 3) := (by decide +kernel : decode code 310 = .ok (.ldc2_w 18, 3))
theorem d_law_313 {X : State → Nat → Nat → Prop} : decode (lw_M X).1 313 = .ok (.land, 1) := (by decide +kernel : decode code 313 = .ok (.land, 1))
theorem d_law_314 {X : State → Nat → Nat → Prop} : decode (lw_M X).1 314 = .ok (.lor, 1) := (by decide +kernel : decode code 314 = .ok (.lor, 1))
theorem d_law_315 {X : State → Nat → Nat → Prop} : decode (lw_M X).1 315 = .ok (.aload_n 0, 1) := (by decide +kernel : decode code 315 = .ok (.aload_n 0, 1))
theorem d_law_316 {X : State → Nat → Nat → Prop} : decode (lw_M X).1 316 = .ok (.iload_n 3, 1) := (by decide +kernel : decode code 316 = .ok (.iload_n 3, 1))
theorem d_law_317 {X : State → Nat → Nat → Prop} : decode (lw_M X).1 317 = .ok (.iconst 4, 1) := (by decide +kernel : decode code 317 = .ok (.iconst 4, 1))
theorem d_law_318 {X : State → Nat → Nat → Prop} : decode (lw_M X).1 318 = .ok (.iadd, 1) := (by decide +kernel : decode code 318 = .ok (.iadd, 1))
theorem d_law_319 {X : State → Nat → Nat → Prop} : decode (lw_M X).1 319 = .ok (.iaload, 1) := (by decide +kernel : decode code 319 = .ok (.iaload, 1))
theorem d_law_320 {X : State → Nat → Nat → Prop} : decode (lw_M X).1 320 = .ok (.i2l, 1) := (by decide +kernel : decode code 320 = .ok (.i2l, 1))
theorem d_law_321 {X : State → Nat → Nat → Prop} : decode (lw_M X).1 321 = .ok (.bipush 32, 2) := (by decide +kernel : decode code 321 = .ok (.bipush 32, 2))
theorem d_law_323 {X : State → Nat → Nat → Prop} : decode (lw_M X).1 323 = .ok (.lshl, 1) := (by decide +kernel : decode code 323 = .ok (.lshl, 1))
theorem d_law_324 {X : State → Nat → Nat → Prop} : decode (lw_M X).1 324 = .ok (.aload_n 0, 1) := (by decide +kernel : decode code 324 = .ok (.aload_n 0, 1))
theorem d_law_325 {X : State → Nat → Nat → Prop} : decode (lw_M X).1 325 = .ok (.iload_n 3, 1) := (by decide +kernel : decode code 325 = .ok (.iload_n 3, 1))
theorem d_law_326 {X : State → Nat → Nat → Prop} : decode (lw_M X).1 326 = .ok (.iconst 5, 1) := (by decide +kernel : decode code 326 = .ok (.iconst 5, 1))
theorem d_law_327 {X : State → Nat → Nat → Prop} : decode (lw_M X).1 327 = .ok (.iadd, 1) := (by decide +kernel : decode code 327 = .ok (.iadd, 1))
theorem d_law_328 {X : State → Nat → Nat → Prop} : decode (lw_M X).1 328 = .ok (.iaload, 1) := (by decide +kernel : decode code 328 = .ok (.iaload, 1))
theorem d_law_329 {X : State → Nat → Nat → Prop} : decode (lw_M X).1 329 = .ok (.i2l, 1) := (by decide +kernel : decode code 329 = .ok (.i2l, 1))
theorem d_law_330 {X : State → Nat → Nat → Prop} : decode (lw_M X).1 330 = .ok (.ldc2_w 18, 3) := (by decide +kernel : decode code 330 = .ok (.ldc2_w 18, 3))
theorem d_law_333 {X : State → Nat → Nat → Prop} : decode (lw_M X).1 333 = .ok (.land, 1) := (by decide +kernel : decode code 333 = .ok (.land, 1))
theorem d_law_334 {X : State → Nat → Nat → Prop} : decode (lw_M X).1 334 = .ok (.lor, 1) := (by decide +kernel : decode code 334 = .ok (.lor, 1))
theorem d_law_335 {X : State → Nat → Nat → Prop} : decode (lw_M X).1 335 = .ok (.invokevirtual 30, 3) := (by decide +kernel : decode code 335 = .ok (.invokevirtual 30, 3))
theorem d_law_338 {X : State → Nat → Nat → Prop} : decode (lw_M X).1 338 = .ok (.aload_n 2, 1) := (by decide +kernel : decode code 338 = .ok (.aload_n 2, 1))
theorem d_law_339 {X : State → Nat → Nat → Prop} : decode (lw_M X).1 339 = .ok (.aload_n 0, 1) := (by decide +kernel : decode code 339 = .ok (.aload_n 0, 1))
theorem d_law_340 {X : State → Nat → Nat → Prop} : decode (lw_M X).1 340 = .ok (.iload_n 3, 1) := (by decide +kernel : decode code 340 = .ok (.iload_n 3, 1))
theorem d_law_341 {X : State → Nat → Nat → Prop} : decode (lw_M X).1 341 = .ok (.iconst 1, 1) := (by decide +kernel : decode code 341 = .ok (.iconst 1, 1))
theorem d_law_342 {X : State → Nat → Nat → Prop} : decode (lw_M X).1 342 = .ok (.iadd, 1) := (by decide +kernel : decode code 342 = .ok (.iadd, 1))
theorem d_law_343 {X : State → Nat → Nat → Prop} : decode (lw_M X).1 343 = .ok (.iaload, 1) := (by decide +kernel : decode code 343 = .ok (.iaload, 1))
theorem d_law_344 {X : State → Nat → Nat → Prop} : decode (lw_M X).1 344 = .ok (.aload_n 0, 1) := (by decide +kernel : decode code 344 = .ok (.aload_n 0, 1))
theorem d_law_345 {X : State → Nat → Nat → Prop} : decode (lw_M X).1 345 = .ok (.iload_n 3, 1) := (by decide +kernel : decode code 345 = .ok (.iload_n 3, 1))
theorem d_law_346 {X : State → Nat → Nat → Prop} : decode (lw_M X).1 346 = .ok (.iconst 2, 1) := (by decide +kernel : decode code 346 = .ok (.iconst 2, 1))
theorem d_law_347 {X : State → Nat → Nat → Prop} : decode (lw_M X).1 347 = .ok (.iadd, 1) := (by decide +kernel : decode code 347 = .ok (.iadd, 1))
theorem d_law_348 {X : State → Nat → Nat → Prop} : decode (lw_M X).1 348 = .ok (.iaload, 1) := (by decide +kernel : decode code 348 = .ok (.iaload, 1))
theorem d_law_349 {X : State → Nat → Nat → Prop} : decode (lw_M X).1 349 = .ok (.i2l, 1) := (by decide +kernel : decode code 349 = .ok (.i2l, 1))
theorem d_law_350 {X : State → Nat → Nat → Prop} : decode (lw_M X).1 350 = .ok (.bipush 32, 2) := (by decide +kernel : decode code 350 = .ok (.bipush 32, 2))
theorem d_law_352 {X : State → Nat → Nat → Prop} : decode (lw_M X).1 352 = .ok (.lshl, 1) := (by decide +kernel : decode code 352 = .ok (.lshl, 1))
theorem d_law_353 {X : State → Nat → Nat → Prop} : decode (lw_M X).1 353 = .ok (.aload_n 0, 1) := (by decide +kernel : decode code 353 = .ok (.aload_n 0, 1))
theorem d_law_354 {X : State → Nat → Nat → Prop} : decode (lw_M X).1 354 = .ok (.iload_n 3, 1) := (by decide +kernel : decode code 354 = .ok (.iload_n 3, 1))
theorem d_law_355 {X : State → Nat → Nat → Prop} : decode (lw_M X).1 355 = .ok (.iconst 3, 1) := (by decide +kernel : decode code 355 = .ok (.iconst 3, 1))
theorem d_law_356 {X : State → Nat → Nat → Prop} : decode (lw_M X).1 356 = .ok (.iadd, 1) := (by decide +kernel : decode code 356 = .ok (.iadd, 1))
theorem d_law_357 {X : State → Nat → Nat → Prop} : decode (lw_M X).1 357 = .ok (.iaload, 1) := (by decide +kernel : decode code 357 = .ok (.iaload, 1))
theorem d_law_358 {X : State → Nat → Nat → Prop} : decode (lw_M X).1 358 = .ok (.i2l, 1) := (by decide +kernel : decode code 358 = .ok (.i2l, 1))
theorem d_law_359 {X : State → Nat → Nat → Prop} : decode (lw_M X).1 359 = .ok (.ldc2_w 18, 3) := (by decide +kernel : decode code 359 = .ok (.ldc2_w 18, 3))
theorem d_law_362 {X : State → Nat → Nat → Prop} : decode (lw_M X).1 362 = .ok (.land, 1) := (by decide +kernel : decode code 362 = .ok (.land, 1))
theorem d_law_363 {X : State → Nat → Nat → Prop} : decode (lw_M X).1 363 = .ok (.lor, 1) := (by decide +kernel : decode code 363 = .ok (.lor, 1))
theorem d_law_364 {X : State → Nat → Nat → Prop} : decode (lw_M X).1 364 = .ok (.aload_n 0, 1) := (by decide +kernel : decode code 364 = .ok (.aload_n 0, 1))
theorem d_law_365 {X : State → Nat → Nat → Prop} : decode (lw_M X).1 365 = .ok (.iload_n 3, 1) := (by decide +kernel : decode code 365 = .ok (.iload_n 3, 1))
theorem d_law_366 {X : State → Nat → Nat → Prop} : decode (lw_M X).1 366 = .ok (.iconst 4, 1) := (by decide +kernel : decode code 366 = .ok (.iconst 4, 1))
theorem d_law_367 {X : State → Nat → Nat → Prop} : decode (lw_M X).1 367 = .ok (.iadd, 1) := (by decide +kernel : decode code 367 = .ok (.iadd, 1))
theorem d_law_368 {X : State → Nat → Nat → Prop} : decode (lw_M X).1 368 = .ok (.iaload, 1) := (by decide +kernel : decode code 368 = .ok (.iaload, 1))
theorem d_law_369 {X : State → Nat → Nat → Prop} : decode (lw_M X).1 369 = .ok (.i2l, 1) := (by decide +kernel : decode code 369 = .ok (.i2l, 1))
theorem d_law_370 {X : State → Nat → Nat → Prop} : decode (lw_M X).1 370 = .ok (.bipush 32, 2) := (by decide +kernel : decode code 370 = .ok (.bipush 32, 2))
theorem d_law_372 {X : State → Nat → Nat → Prop} : decode (lw_M X).1 372 = .ok (.lshl, 1) := (by decide +kernel : decode code 372 = .ok (.lshl, 1))
theorem d_law_373 {X : State → Nat → Nat → Prop} : decode (lw_M X).1 373 = .ok (.aload_n 0, 1) := (by decide +kernel : decode code 373 = .ok (.aload_n 0, 1))
theorem d_law_374 {X : State → Nat → Nat → Prop} : decode (lw_M X).1 374 = .ok (.iload_n 3, 1) := (by decide +kernel : decode code 374 = .ok (.iload_n 3, 1))
theorem d_law_375 {X : State → Nat → Nat → Prop} : decode (lw_M X).1 375 = .ok (.iconst 5, 1) := (by decide +kernel : decode code 375 = .ok (.iconst 5, 1))
theorem d_law_376 {X : State → Nat → Nat → Prop} : decode (lw_M X).1 376 = .ok (.iadd, 1) := (by decide +kernel : decode code 376 = .ok (.iadd, 1))
theorem d_law_377 {X : State → Nat → Nat → Prop} : decode (lw_M X).1 377 = .ok (.iaload, 1) := (by decide +kernel : decode code 377 = .ok (.iaload, 1))
theorem d_law_378 {X : State → Nat → Nat → Prop} : decode (lw_M X).1 378 = .ok (.i2l, 1) := (by decide +kernel : decode code 378 = .ok (.i2l, 1))
theorem d_law_379 {X : State → Nat → Nat → Prop} : decode (lw_M X).1 379 = .ok (.ldc2_w 18, 3) := (by decide +kernel : decode code 379 = .ok (.ldc2_w 18, 3))
theorem d_law_382 {X : State → Nat → Nat → Prop} : decode (lw_M X).1 382 = .ok (.land, 1) := (by decide +kernel : decode code 382 = .ok (.land, 1))
theorem d_law_383 {X : State → Nat → Nat → Prop} : decode (lw_M X).1 383 = .ok (.lor, 1) := (by decide +kernel : decode code 383 = .ok (.lor, 1))
theorem d_law_384 {X : State → Nat → Nat → Prop} : decode (lw_M X).1 384 = .ok (.invokevirtual 34, 3) := (by decide +kernel : decode code 384 = .ok (.invokevirtual 34, 3))
theorem d_law_387 {X : State → Nat → Nat → Prop} : decode (lw_M X).1 387 = .ok (.if_icmp .eq 710, 3) := (by decide +kernel : decode code 387 = .ok (.if_icmp .eq 710, 3))
theorem d_law_390 {X : State → Nat → Nat → Prop} : decode (lw_M X).1 390 = .ok (.iconst 0, 1) := (by decide +kernel : decode code 390 = .ok (.iconst 0, 1))
theorem d_law_391 {X : State → Nat → Nat → Prop} : decode (lw_M X).1 391 = .ok (.ireturn, 1) := (by decide +kernel : decode code 391 = .ok (.ireturn, 1))
theorem d_law_392 {X : State → Nat → Nat → Prop} : decode (lw_M X).1 392 = .ok (.aload_n 1, 1) := (by decide +kernel : decode code 392 = .ok (.aload_n 1, 1))
theorem d_law_393 {X : State → Nat → Nat → Prop} : decode (lw_M X).1 393 = .ok (.aload_n 0, 1) := (by decide +kernel : decode code 393 = .ok (.aload_n 0, 1))
theorem d_law_394 {X : State → Nat → Nat → Prop} : decode (lw_M X).1 394 = .ok (.iload_n 3, 1) := (by decide +kernel : decode code 394 = .ok (.iload_n 3, 1))
theorem d_law_395 {X : State → Nat → Nat → Prop} : decode (lw_M X).1 395 = .ok (.iconst 1, 1) := (by decide +kernel : decode code 395 = .ok (.iconst 1, 1))
theorem d_law_396 {X : State → Nat → Nat → Prop} : decode (lw_M X).1 396 = .ok (.iadd, 1) := (by decide +kernel : decode code 396 = .ok (.iadd, 1))
theorem d_law_397 {X : State → Nat → Nat → Prop} : decode (lw_M X).1 397 = .ok (.iaload, 1) := (by decide +kernel : decode code 397 = .ok (.iaload, 1))
theorem d_law_398 {X : State → Nat → Nat → Prop} : decode (lw_M X).1 398 = .ok (.aload_n 0, 1) := (by decide +kernel : decode code 398 = .ok (.aload_n 0, 1))
theorem d_law_399 {X : State → Nat → Nat → Prop} : decode (lw_M X).1 399 = .ok (.iload_n 3, 1) := (by decide +kernel : decode code 399 = .ok (.iload_n 3, 1))
theorem d_law_400 {X : State → Nat → Nat → Prop} : decode (lw_M X).1 400 = .ok (.iconst 2, 1) := (by decide +kernel : decode code 400 = .ok (.iconst 2, 1))
theorem d_law_401 {X : State → Nat → Nat → Prop} : decode (lw_M X).1 401 = .ok (.iadd, 1) := (by decide +kernel : decode code 401 = .ok (.iadd, 1))
theorem d_law_402 {X : State → Nat → Nat → Prop} : decode (lw_M X).1 402 = .ok (.iaload, 1) := (by decide +kernel : decode code 402 = .ok (.iaload, 1))
theorem d_law_403 {X : State → Nat → Nat → Prop} : decode (lw_M X).1 403 = .ok (.aload_n 0, 1) := (by decide +kernel : decode code 403 = .ok (.aload_n 0, 1))
theorem d_law_404 {X : State → Nat → Nat → Prop} : decode (lw_M X).1 404 = .ok (.iload_n 3, 1) := (by decide +kernel : decode code 404 = .ok (.iload_n 3, 1))
theorem d_law_405 {X : State → Nat → Nat → Prop} : decode (lw_M X).1 405 = .ok (.iconst 3, 1) := (by decide +kernel : decode code 405 = .ok (.iconst 3, 1))
theorem d_law_406 {X : State → Nat → Nat → Prop} : decode (lw_M X).1 406 = .ok (.iadd, 1) := (by decide +kernel : decode code 406 = .ok (.iadd, 1))
theorem d_law_407 {X : State → Nat → Nat → Prop} : decode (lw_M X).1 407 = .ok (.iaload, 1) := (by decide +kernel : decode code 407 = .ok (.iaload, 1))
theorem d_law_408 {X : State → Nat → Nat → Prop} : decode (lw_M X).1 408 = .ok (.i2l, 1) := (by decide +kernel : decode code 408 = .ok (.i2l, 1))
theorem d_law_409 {X : State → Nat → Nat → Prop} : decode (lw_M X).1 409 = .ok (.bipush 32, 2) := (by decide +kernel : decode code 409 = .ok (.bipush 32, 2))
theorem d_law_411 {X : State → Nat → Nat → Prop} : decode (lw_M X).1 411 = .ok (.lshl, 1) := (by decide +kernel : decode code 411 = .ok (.lshl, 1))
theorem d_law_412 {X : State → Nat → Nat → Prop} : decode (lw_M X).1 412 = .ok (.aload_n 0, 1) := (by decide +kernel : decode code 412 = .ok (.aload_n 0, 1))
theorem d_law_413 {X : State → Nat → Nat → Prop} : decode (lw_M X).1 413 = .ok (.iload_n 3, 1) := (by decide +kernel : decode code 413 = .ok (.iload_n 3, 1))
theorem d_law_414 {X : State → Nat → Nat → Prop} : decode (lw_M X).1 414 = .ok (.iconst 4, 1) := (by decide +kernel : decode code 414 = .ok (.iconst 4, 1))
theorem d_law_415 {X : State → Nat → Nat → Prop} : decode (lw_M X).1 415 = .ok (.iadd, 1) := (by decide +kernel : decode code 415 = .ok (.iadd, 1))
theorem d_law_416 {X : State → Nat → Nat → Prop} : decode (lw_M X).1 416 = .ok (.iaload, 1) := (by decide +kernel : decode code 416 = .ok (.iaload, 1))
theorem d_law_417 {X : State → Nat → Nat → Prop} : decode (lw_M X).1 417 = .ok (.i2l, 1) := (by decide +kernel : decode code 417 = .ok (.i2l, 1))
theorem d_law_418 {X : State → Nat → Nat → Prop} : decode (lw_M X).1 418 = .ok (.ldc2_w 18, 3) := (by decide +kernel : decode code 418 = .ok (.ldc2_w 18, 3))
theorem d_law_421 {X : State → Nat → Nat → Prop} : decode (lw_M X).1 421 = .ok (.land, 1) := (by decide +kernel : decode code 421 = .ok (.land, 1))
theorem d_law_422 {X : State → Nat → Nat → Prop} : decode (lw_M X).1 422 = .ok (.lor, 1) := (by decide +kernel : decode code 422 = .ok (.lor, 1))
theorem d_law_423 {X : State → Nat → Nat → Prop} : decode (lw_M X).1 423 = .ok (.aload_n 0, 1) := (by decide +kernel : decode code 423 = .ok (.aload_n 0, 1))
theorem d_law_424 {X : State → Nat → Nat → Prop} : decode (lw_M X).1 424 = .ok (.iload_n 3, 1) := (by decide +kernel : decode code 424 = .ok (.iload_n 3, 1))
theorem d_law_425 {X : State → Nat → Nat → Prop} : decode (lw_M X).1 425 = .ok (.iconst 5, 1) := (by decide +kernel : decode code 425 = .ok (.iconst 5, 1))
theorem d_law_426 {X : State → Nat → Nat → Prop} : decode (lw_M X).1 426 = .ok (.iadd, 1) := (by decide +kernel : decode code 426 = .ok (.iadd, 1))
theorem d_law_427 {X : State → Nat → Nat → Prop} : decode (lw_M X).1 427 = .ok (.iaload, 1) := (by decide +kernel : decode code 427 = .ok (.iaload, 1))
theorem d_law_428 {X : State → Nat → Nat → Prop} : decode (lw_M X).1 428 = .ok (.aload_n 0, 1) := (by decide +kernel : decode code 428 = .ok (.aload_n 0, 1))
theorem d_law_429 {X : State → Nat → Nat → Prop} : decode (lw_M X).1 429 = .ok (.iload_n 3, 1) := (by decide +kernel : decode code 429 = .ok (.iload_n 3, 1))
theorem d_law_430 {X : State → Nat → Nat → Prop} : decode (lw_M X).1 430 = .ok (.bipush 6, 2) := (by decide +kernel : decode code 430 = .ok (.bipush 6, 2))
theorem d_law_432 {X : State → Nat → Nat → Prop} : decode (lw_M X).1 432 = .ok (.iadd, 1) := (by decide +kernel : decode code 432 = .ok (.iadd, 1))
theorem d_law_433 {X : State → Nat → Nat → Prop} : decode (lw_M X).1 433 = .ok (.iaload, 1) := (by decide +kernel : decode code 433 = .ok (.iaload, 1))
theorem d_law_434 {X : State → Nat → Nat → Prop} : decode (lw_M X).1 434 = .ok (.invokevirtual 35, 3) := (by decide +kernel : decode code 434 = .ok (.invokevirtual 35, 3))
theorem d_law_437 {X : State → Nat → Nat → Prop} : decode (lw_M X).1 437 = .ok (.aload_n 2, 1) := (by decide +kernel : decode code 437 = .ok (.aload_n 2, 1))
theorem d_law_438 {X : State → Nat → Nat → Prop} : decode (lw_M X).1 438 = .ok (.aload_n 0, 1) := (by decide +kernel : decode code 438 = .ok (.aload_n 0, 1))
theorem d_law_439 {X : State → Nat → Nat → Prop} : decode (lw_M X).1 439 = .ok (.iload_n 3, 1) := (by decide +kernel : decode code 439 = .ok (.iload_n 3, 1))
theorem d_law_440 {X : State → Nat → Nat → Prop} : decode (lw_M X).1 440 = .ok (.iconst 1, 1) := (by decide +kernel : decode code 440 = .ok (.iconst 1, 1))
theorem d_law_441 {X : State → Nat → Nat → Prop} : decode (lw_M X).1 441 = .ok (.iadd, 1) := (by decide +kernel : decode code 441 = .ok (.iadd, 1))
theorem d_law_442 {X : State → Nat → Nat → Prop} : decode (lw_M X).1 442 = .ok (.iaload, 1) := (by decide +kernel : decode code 442 = .ok (.iaload, 1))
theorem d_law_443 {X : State → Nat → Nat → Prop} : decode (lw_M X).1 443 = .ok (.aload_n 0, 1) := (by decide +kernel : decode code 443 = .ok (.aload_n 0, 1))
theorem d_law_444 {X : State → Nat → Nat → Prop} : decode (lw_M X).1 444 = .ok (.iload_n 3, 1) := (by decide +kernel : decode code 444 = .ok (.iload_n 3, 1))
theorem d_law_445 {X : State → Nat → Nat → Prop} : decode (lw_M X).1 445 = .ok (.iconst 2, 1) := (by decide +kernel : decode code 445 = .ok (.iconst 2, 1))
theorem d_law_446 {X : State → Nat → Nat → Prop} : decode (lw_M X).1 446 = .ok (.iadd, 1) := (by decide +kernel : decode code 446 = .ok (.iadd, 1))
theorem d_law_447 {X : State → Nat → Nat → Prop} : decode (lw_M X).1 447 = .ok (.iaload, 1) := (by decide +kernel : decode code 447 = .ok (.iaload, 1))
theorem d_law_448 {X : State → Nat → Nat → Prop} : decode (lw_M X).1 448 = .ok (.aload_n 0, 1) := (by decide +kernel : decode code 448 = .ok (.aload_n 0, 1))
theorem d_law_449 {X : State → Nat → Nat → Prop} : decode (lw_M X).1 449 = .ok (.iload_n 3, 1) := (by decide +kernel : decode code 449 = .ok (.iload_n 3, 1))
theorem d_law_450 {X : State → Nat → Nat → Prop} : decode (lw_M X).1 450 = .ok (.iconst 3, 1) := (by decide +kernel : decode code 450 = .ok (.iconst 3, 1))
theorem d_law_451 {X : State → Nat → Nat → Prop} : decode (lw_M X).1 451 = .ok (.iadd, 1) := (by decide +kernel : decode code 451 = .ok (.iadd, 1))
theorem d_law_452 {X : State → Nat → Nat → Prop} : decode (lw_M X).1 452 = .ok (.iaload, 1) := (by decide +kernel : decode code 452 = .ok (.iaload, 1))
theorem d_law_453 {X : State → Nat → Nat → Prop} : decode (lw_M X).1 453 = .ok (.i2l, 1) := (by decide +kernel : decode code 453 = .ok (.i2l, 1))
theorem d_law_454 {X : State → Nat → Nat → Prop} : decode (lw_M X).1 454 = .ok (.bipush 32, 2) := (by decide +kernel : decode code 454 = .ok (.bipush 32, 2))
theorem d_law_456 {X : State → Nat → Nat → Prop} : decode (lw_M X).1 456 = .ok (.lshl, 1) := (by decide +kernel : decode code 456 = .ok (.lshl, 1))
theorem d_law_457 {X : State → Nat → Nat → Prop} : decode (lw_M X).1 457 = .ok (.aload_n 0, 1) := (by decide +kernel : decode code 457 = .ok (.aload_n 0, 1))
theorem d_law_458 {X : State → Nat → Nat → Prop} : decode (lw_M X).1 458 = .ok (.iload_n 3, 1) := (by decide +kernel : decode code 458 = .ok (.iload_n 3, 1))
theorem d_law_459 {X : State → Nat → Nat → Prop} : decode (lw_M X).1 459 = .ok (.iconst 4, 1) := (by decide +kernel : decode code 459 = .ok (.iconst 4, 1))
theorem d_law_460 {X : State → Nat → Nat → Prop} : decode (lw_M X).1 460 = .ok (.iadd, 1) := (by decide +kernel : decode code 460 = .ok (.iadd, 1))
theorem d_law_461 {X : State → Nat → Nat → Prop} : decode (lw_M X).1 461 = .ok (.iaload, 1) := (by decide +kernel : decode code 461 = .ok (.iaload, 1))
theorem d_law_462 {X : State → Nat → Nat → Prop} : decode (lw_M X).1 462 = .ok (.i2l, 1) := (by decide +kernel : decode code 462 = .ok (.i2l, 1))
theorem d_law_463 {X : State → Nat → Nat → Prop} : decode (lw_M X).1 463 = .ok (.ldc2_w 18, 3) := (by decide +kernel : decode code 463 = .ok (.ldc2_w 18, 3))
theorem d_law_466 {X : State → Nat → Nat → Prop} : decode (lw_M X).1 466 = .ok (.land, 1) := (by decide +kernel : decode code 466 = .ok (.land, 1))
theorem d_law_467 {X : State → Nat → Nat → Prop} : decode (lw_M X).1 467 = .ok (.lor, 1) := (by decide +kernel : decode code 467 = .ok (.lor, 1))
theorem d_law_468 {X : State → Nat → Nat → Prop} : decode (lw_M X).1 468 = .ok (.aload_n 0, 1) := (by decide +kernel : decode code 468 = .ok (.aload_n 0, 1))
theorem d_law_469 {X : State → Nat → Nat → Prop} : decode (lw_M X).1 469 = .ok (.iload_n 3, 1) := (by decide +kernel : decode code 469 = .ok (.iload_n 3, 1))
theorem d_law_470 {X : State → Nat → Nat → Prop} : decode (lw_M X).1 470 = .ok (.iconst 5, 1) := (by decide +kernel : decode code 470 = .ok (.iconst 5, 1))
theorem d_law_471 {X : State → Nat → Nat → Prop} : decode (lw_M X).1 471 = .ok (.iadd, 1) := (by decide +kernel : decode code 471 = .ok (.iadd, 1))
theorem d_law_472 {X : State → Nat → Nat → Prop} : decode (lw_M X).1 472 = .ok (.iaload, 1) := (by decide +kernel : decode code 472 = .ok (.iaload, 1))
theorem d_law_473 {X : State → Nat → Nat → Prop} : decode (lw_M X).1 473 = .ok (.aload_n 0, 1) := (by decide +kernel : decode code 473 = .ok (.aload_n 0, 1))
theorem d_law_474 {X : State → Nat → Nat → Prop} : decode (lw_M X).1 474 = .ok (.iload_n 3, 1) := (by decide +kernel : decode code 474 = .ok (.iload_n 3, 1))
theorem d_law_475 {X : State → Nat → Nat → Prop} : decode (lw_M X).1 475 = .ok (.bipush 6, 2) := (by decide +kernel : decode code 475 = .ok (.bipush 6, 2))
theorem d_law_477 {X : State → Nat → Nat → Prop} : decode (lw_M X).1 477 = .ok (.iadd, 1) := (by decide +kernel : decode code 477 = .ok (.iadd, 1))
theorem d_law_478 {X : State → Nat → Nat → Prop} : decode (lw_M X).1 478 = .ok (.iaload, 1) := (by decide +kernel : decode code 478 = .ok (.iaload, 1))
theorem d_law_479 {X : State → Nat → Nat → Prop} : decode (lw_M X).1 479 = .ok (.invokevirtual 39, 3) := (by decide +kernel : decode code 479 = .ok (.invokevirtual 39, 3))
theorem d_law_482 {X : State → Nat → Nat → Prop} : decode (lw_M X).1 482 = .ok (.if_icmp .eq 615, 3) := (by decide +kernel : decode code 482 = .ok (.if_icmp .eq 615, 3))
theorem d_law_485 {X : State → Nat → Nat → Prop} : decode (lw_M X).1 485 = .ok (.iconst 0, 1) := (by decide +kernel : decode code 485 = .ok (.iconst 0, 1))
theorem d_law_486 {X : State → Nat → Nat → Prop} : decode (lw_M X).1 486 = .ok (.ireturn, 1) := (by decide +kernel : decode code 486 = .ok (.ireturn, 1))
theorem d_law_487 {X : State → Nat → Nat → Prop} : decode (lw_M X).1 487 = .ok (.aload_n 1, 1) := (by decide +kernel : decode code 487 = .ok (.aload_n 1, 1))
theorem d_law_488 {X : State → Nat → Nat → Prop} : decode (lw_M X).1 488 = .ok (.aload_n 0, 1) := (by decide +kernel : decode code 488 = .ok (.aload_n 0, 1))
theorem d_law_489 {X : State → Nat → Nat → Prop} : decode (lw_M X).1 489 = .ok (.iload_n 3, 1) := (by decide +kernel : decode code 489 = .ok (.iload_n 3, 1))
theorem d_law_490 {X : State → Nat → Nat → Prop} : decode (lw_M X).1 490 = .ok (.iconst 1, 1) := (by decide +kernel : decode code 490 = .ok (.iconst 1, 1))
theorem d_law_491 {X : State → Nat → Nat → Prop} : decode (lw_M X).1 491 = .ok (.iadd, 1) := (by decide +kernel : decode code 491 = .ok (.iadd, 1))
theorem d_law_492 {X : State → Nat → Nat → Prop} : decode (lw_M X).1 492 = .ok (.iaload, 1) := (by decide +kernel : decode code 492 = .ok (.iaload, 1))
theorem d_law_493 {X : State → Nat → Nat → Prop} : decode (lw_M X).1 493 = .ok (.aload_n 0, 1) := (by decide +kernel : decode code 493 = .ok (.aload_n 0, 1))
theorem d_law_494 {X : State → Nat → Nat → Prop} : decode (lw_M X).1 494 = .ok (.iload_n 3, 1) := (by decide +kernel : decode code 494 = .ok (.iload_n 3, 1))
theorem d_law_495 {X : State → Nat → Nat → Prop} : decode (lw_M X).1 495 = .ok (.iconst 2, 1) := (by decide +kernel : decode code 495 = .ok (.iconst 2, 1))
theorem d_law_496 {X : State → Nat → Nat → Prop} : decode (lw_M X).1 496 = .ok (.iadd, 1) := (by decide +kernel : decode code 496 = .ok (.iadd, 1))
theorem d_law_497 {X : State → Nat → Nat → Prop} : decode (lw_M X).1 497 = .ok (.iaload, 1) := (by decide +kernel : decode code 497 = .ok (.iaload, 1))
theorem d_law_498 {X : State → Nat → Nat → Prop} : decode (lw_M X).1 498 = .ok (.i2l, 1) := (by decide +kernel : decode code 498 = .ok (.i2l, 1))
theorem d_law_499 {X : State → Nat → Nat → Prop} : decode (lw_M X).1 499 = .ok (.bipush 32, 2) := (by decide +kernel : decode code 499 = .ok (.bipush 32, 2))
theorem d_law_501 {X : State → Nat → Nat → Prop} : decode (lw_M X).1 501 = .ok (.lshl, 1) := (by decide +kernel : decode code 501 = .ok (.lshl, 1))
theorem d_law_502 {X : State → Nat → Nat → Prop} : decode (lw_M X).1 502 = .ok (.aload_n 0, 1) := (by decide +kernel : decode code 502 = .ok (.aload_n 0, 1))
theorem d_law_503 {X : State → Nat → Nat → Prop} : decode (lw_M X).1 503 = .ok (.iload_n 3, 1) := (by decide +kernel : decode code 503 = .ok (.iload_n 3, 1))
theorem d_law_504 {X : State → Nat → Nat → Prop} : decode (lw_M X).1 504 = .ok (.iconst 3, 1) := (by decide +kernel : decode code 504 = .ok (.iconst 3, 1))
theorem d_law_505 {X : State → Nat → Nat → Prop} : decode (lw_M X).1 505 = .ok (.iadd, 1) := (by decide +kernel : decode code 505 = .ok (.iadd, 1))
theorem d_law_506 {X : State → Nat → Nat → Prop} : decode (lw_M X).1 506 = .ok (.iaload, 1) := (by decide +kernel : decode code 506 = .ok (.iaload, 1))
theorem d_law_507 {X : State → Nat → Nat → Prop} : decode (lw_M X).1 507 = .ok (.i2l, 1) := (by decide +kernel : decode code 507 = .ok (.i2l, 1))
theorem d_law_508 {X : State → Nat → Nat → Prop} : decode (lw_M X).1 508 = .ok (.ldc2_w 18, 3) := (by decide +kernel : decode code 508 = .ok (.ldc2_w 18, 3))
theorem d_law_511 {X : State → Nat → Nat → Prop} : decode (lw_M X).1 511 = .ok (.land, 1) := (by decide +kernel : decode code 511 = .ok (.land, 1))
theorem d_law_512 {X : State → Nat → Nat → Prop} : decode (lw_M X).1 512 = .ok (.lor, 1) := (by decide +kernel : decode code 512 = .ok (.lor, 1))
theorem d_law_513 {X : State → Nat → Nat → Prop} : decode (lw_M X).1 513 = .ok (.invokevirtual 40, 3) := (by decide +kernel : decode code 513 = .ok (.invokevirtual 40, 3))
theorem d_law_516 {X : State → Nat → Nat → Prop} : decode (lw_M X).1 516 = .ok (.aload_n 2, 1) := (by decide +kernel : decode code 516 = .ok (.aload_n 2, 1))
theorem d_law_517 {X : State → Nat → Nat → Prop} : decode (lw_M X).1 517 = .ok (.aload_n 0, 1) := (by decide +kernel : decode code 517 = .ok (.aload_n 0, 1))
theorem d_law_518 {X : State → Nat → Nat → Prop} : decode (lw_M X).1 518 = .ok (.iload_n 3, 1) := (by decide +kernel : decode code 518 = .ok (.iload_n 3, 1))
theorem d_law_519 {X : State → Nat → Nat → Prop} : decode (lw_M X).1 519 = .ok (.iconst 1, 1) := (by decide +kernel : decode code 519 = .ok (.iconst 1, 1))
theorem d_law_520 {X : State → Nat → Nat → Prop} : decode (lw_M X).1 520 = .ok (.iadd, 1) := (by decide +kernel : decode code 520 = .ok (.iadd, 1))
theorem d_law_521 {X : State → Nat → Nat → Prop} : decode (lw_M X).1 521 = .ok (.iaload, 1) := (by decide +kernel : decode code 521 = .ok (.iaload, 1))
theorem d_law_522 {X : State → Nat → Nat → Prop} : decode (lw_M X).1 522 = .ok (.aload_n 0, 1) := (by decide +kernel : decode code 522 = .ok (.aload_n 0, 1))
theorem d_law_523 {X : State → Nat → Nat → Prop} : decode (lw_M X).1 523 = .ok (.iload_n 3, 1) := (by decide +kernel : decode code 523 = .ok (.iload_n 3, 1))
theorem d_law_524 {X : State → Nat → Nat → Prop} : decode (lw_M X).1 524 = .ok (.iconst 2, 1) := (by decide +kernel : decode code 524 = .ok (.iconst 2, 1))
theorem d_law_525 {X : State → Nat → Nat → Prop} : decode (lw_M X).1 525 = .ok (.iadd, 1) := (by decide +kernel : decode code 525 = .ok (.iadd, 1))
theorem d_law_526 {X : State → Nat → Nat → Prop} : decode (lw_M X).1 526 = .ok (.iaload, 1) := (by decide +kernel : decode code 526 = .ok (.iaload, 1))
theorem d_law_527 {X : State → Nat → Nat → Prop} : decode (lw_M X).1 527 = .ok (.i2l, 1) := (by decide +kernel : decode code 527 = .ok (.i2l, 1))
theorem d_law_528 {X : State → Nat → Nat → Prop} : decode (lw_M X).1 528 = .ok (.bipush 32, 2) := (by decide +kernel : decode code 528 = .ok (.bipush 32, 2))
theorem d_law_530 {X : State → Nat → Nat → Prop} : decode (lw_M X).1 530 = .ok (.lshl, 1) := (by decide +kernel : decode code 530 = .ok (.lshl, 1))
theorem d_law_531 {X : State → Nat → Nat → Prop} : decode (lw_M X).1 531 = .ok (.aload_n 0, 1) := (by decide +kernel : decode code 531 = .ok (.aload_n 0, 1))
theorem d_law_532 {X : State → Nat → Nat → Prop} : decode (lw_M X).1 532 = .ok (.iload_n 3, 1) := (by decide +kernel : decode code 532 = .ok (.iload_n 3, 1))
theorem d_law_533 {X : State → Nat → Nat → Prop} : decode (lw_M X).1 533 = .ok (.iconst 3, 1) := (by decide +kernel : decode code 533 = .ok (.iconst 3, 1))
theorem d_law_534 {X : State → Nat → Nat → Prop} : decode (lw_M X).1 534 = .ok (.iadd, 1) := (by decide +kernel : decode code 534 = .ok (.iadd, 1))
theorem d_law_535 {X : State → Nat → Nat → Prop} : decode (lw_M X).1 535 = .ok (.iaload, 1) := (by decide +kernel : decode code 535 = .ok (.iaload, 1))
theorem d_law_536 {X : State → Nat → Nat → Prop} : decode (lw_M X).1 536 = .ok (.i2l, 1) := (by decide +kernel : decode code 536 = .ok (.i2l, 1))
theorem d_law_537 {X : State → Nat → Nat → Prop} : decode (lw_M X).1 537 = .ok (.ldc2_w 18, 3) := (by decide +kernel : decode code 537 = .ok (.ldc2_w 18, 3))
theorem d_law_540 {X : State → Nat → Nat → Prop} : decode (lw_M X).1 540 = .ok (.land, 1) := (by decide +kernel : decode code 540 = .ok (.land, 1))
theorem d_law_541 {X : State → Nat → Nat → Prop} : decode (lw_M X).1 541 = .ok (.lor, 1) := (by decide +kernel : decode code 541 = .ok (.lor, 1))
theorem d_law_542 {X : State → Nat → Nat → Prop} : decode (lw_M X).1 542 = .ok (.invokevirtual 44, 3) := (by decide +kernel : decode code 542 = .ok (.invokevirtual 44, 3))
theorem d_law_545 {X : State → Nat → Nat → Prop} : decode (lw_M X).1 545 = .ok (.if_icmp .eq 552, 3) := (by decide +kernel : decode code 545 = .ok (.if_icmp .eq 552, 3))
theorem d_law_548 {X : State → Nat → Nat → Prop} : decode (lw_M X).1 548 = .ok (.iconst 0, 1) := (by decide +kernel : decode code 548 = .ok (.iconst 0, 1))
theorem d_law_549 {X : State → Nat → Nat → Prop} : decode (lw_M X).1 549 = .ok (.ireturn, 1) := (by decide +kernel : decode code 549 = .ok (.ireturn, 1))
theorem d_law_550 {X : State → Nat → Nat → Prop} : decode (lw_M X).1 550 = .ok (.aload_n 1, 1) := (by decide +kernel : decode code 550 = .ok (.aload_n 1, 1))
theorem d_law_551 {X : State → Nat → Nat → Prop} : decode (lw_M X).1 551 = .ok (.aload_n 0, 1) := (by decide +kernel : decode code 551 = .ok (.aload_n 0, 1))
theorem d_law_552 {X : State → Nat → Nat → Prop} : decode (lw_M X).1 552 = .ok (.iload_n 3, 1) := (by decide +kernel : decode code 552 = .ok (.iload_n 3, 1))
theorem d_law_553 {X : State → Nat → Nat → Prop} : decode (lw_M X).1 553 = .ok (.iconst 1, 1) := (by decide +kernel : decode code 553 = .ok (.iconst 1, 1))
theorem d_law_554 {X : State → Nat → Nat → Prop} : decode (lw_M X).1 554 = .ok (.iadd, 1) := (by decide +kernel : decode code 554 = .ok (.iadd, 1))
theorem d_law_555 {X : State → Nat → Nat → Prop} : decode (lw_M X).1 555 = .ok (.iaload, 1) := (by decide +kernel : decode code 555 = .ok (.iaload, 1))
theorem d_law_556 {X : State → Nat → Nat → Prop} : decode (lw_M X).1 556 = .ok (.aload_n 0, 1) := (by decide +kernel : decode code 556 = .ok (.aload_n 0, 1))
theorem d_law_557 {X : State → Nat → Nat → Prop} : decode (lw_M X).1 557 = .ok (.iload_n 3, 1) := (by decide +kernel : decode code 557 = .ok (.iload_n 3, 1))
theorem d_law_558 {X : State → Nat → Nat → Prop} : decode (lw_M X).1 558 = .ok (.iconst 2, 1) := (by decide +kernel : decode code 558 = .ok (.iconst 2, 1))
theorem d_law_559 {X : State → Nat → Nat → Prop} : decode (lw_M X).1 559 = .ok (.iadd, 1) := (by decide +kernel : decode code 559 = .ok (.iadd, 1))
theorem d_law_560 {X : State → Nat → Nat → Prop} : decode (lw_M X).1 560 = .ok (.iaload, 1) := (by decide +kernel : decode code 560 = .ok (.iaload, 1))
theorem d_law_561 {X : State → Nat → Nat → Prop} : decode (lw_M X).1 561 = .ok (.aload_n 0, 1) := (by decide +kernel : decode code 561 = .ok (.aload_n 0, 1))
theorem d_law_562 {X : State → Nat → Nat → Prop} : decode (lw_M X).1 562 = .ok (.iload_n 3, 1) := (by decide +kernel : decode code 562 = .ok (.iload_n 3, 1))
theorem d_law_563 {X : State → Nat → Nat → Prop} : decode (lw_M X).1 563 = .ok (.iconst 3, 1) := (by decide +kernel : decode code 563 = .ok (.iconst 3, 1))
theorem d_law_564 {X : State → Nat → Nat → Prop} : decode (lw_M X).1 564 = .ok (.iadd, 1) := (by decide +kernel : decode code 564 = .ok (.iadd, 1))
theorem d_law_565 {X : State → Nat → Nat → Prop} : decode (lw_M X).1 565 = .ok (.iaload, 1) := (by decide +kernel : decode code 565 = .ok (.iaload, 1))
theorem d_law_566 {X : State → Nat → Nat → Prop} : decode (lw_M X).1 566 = .ok (.i2l, 1) := (by decide +kernel : decode code 566 = .ok (.i2l, 1))
theorem d_law_567 {X : State → Nat → Nat → Prop} : decode (lw_M X).1 567 = .ok (.bipush 32, 2) := (by decide +kernel : decode code 567 = .ok (.bipush 32, 2))
theorem d_law_569 {X : State → Nat → Nat → Prop} : decode (lw_M X).1 569 = .ok (.lshl, 1) := (by decide +kernel : decode code 569 = .ok (.lshl, 1))
theorem d_law_570 {X : State → Nat → Nat → Prop} : decode (lw_M X).1 570 = .ok (.aload_n 0, 1) := (by decide +kernel : decode code 570 = .ok (.aload_n 0, 1))
theorem d_law_571 {X : State → Nat → Nat → Prop} : decode (lw_M X).1 571 = .ok (.iload_n 3, 1) := (by decide +kernel : decode code 571 = .ok (.iload_n 3, 1))
theorem d_law_572 {X : State → Nat → Nat → Prop} : decode (lw_M X).1 572 = .ok (.iconst 4, 1) := (by decide +kernel : decode code 572 = .ok (.iconst 4, 1))
theorem d_law_573 {X : State → Nat → Nat → Prop} : decode (lw_M X).1 573 = .ok (.iadd, 1) := (by decide +kernel : decode code 573 = .ok (.iadd, 1))
theorem d_law_574 {X : State → Nat → Nat → Prop} : decode (lw_M X).1 574 = .ok (.iaload, 1) := (by decide +kernel : decode code 574 = .ok (.iaload, 1))
theorem d_law_575 {X : State → Nat → Nat → Prop} : decode (lw_M X).1 575 = .ok (.i2l, 1) := (by decide +kernel : decode code 575 = .ok (.i2l, 1))
theorem d_law_576 {X : State → Nat → Nat → Prop} : decode (lw_M X).1 576 = .ok (.ldc2_w 18, 3) := (by decide +kernel : decode code 576 = .ok (.ldc2_w 18, 3))
theorem d_law_579 {X : State → Nat → Nat → Prop} : decode (lw_M X).1 579 = .ok (.land, 1) := (by decide +kernel : decode code 579 = .ok (.land, 1))
theorem d_law_580 {X : State → Nat → Nat → Prop} : decode (lw_M X).1 580 = .ok (.lor, 1) := (by decide +kernel : decode code 580 = .ok (.lor, 1))
theorem d_law_581 {X : State → Nat → Nat → Prop} : decode (lw_M X).1 581 = .ok (.invokevirtual 45, 3) := (by decide +kernel : decode code 581 = .ok (.invokevirtual 45, 3))
theorem d_law_584 {X : State → Nat → Nat → Prop} : decode (lw_M X).1 584 = .ok (.aload_n 2, 1) := (by decide +kernel : decode code 584 = .ok (.aload_n 2, 1))
theorem d_law_585 {X : State → Nat → Nat → Prop} : decode (lw_M X).1 585 = .ok (.aload_n 0, 1) := (by decide +kernel : decode code 585 = .ok (.aload_n 0, 1))
theorem d_law_586 {X : State → Nat → Nat → Prop} : decode (lw_M X).1 586 = .ok (.iload_n 3, 1) := (by decide +kernel : decode code 586 = .ok (.iload_n 3, 1))
theorem d_law_587 {X : State → Nat → Nat → Prop} : decode (lw_M X).1 587 = .ok (.iconst 1, 1) := (by decide +kernel : decode code 587 = .ok (.iconst 1, 1))
theorem d_law_588 {X : State → Nat → Nat → Prop} : decode (lw_M X).1 588 = .ok (.iadd, 1) := (by decide +kernel : decode code 588 = .ok (.iadd, 1))
theorem d_law_589 {X : State → Nat → Nat → Prop} : decode (lw_M X).1 589 = .ok (.iaload, 1) := (by decide +kernel : decode code 589 = .ok (.iaload, 1))
theorem d_law_590 {X : State → Nat → Nat → Prop} : decode (lw_M X).1 590 = .ok (.aload_n 0, 1) := (by decide +kernel : decode code 590 = .ok (.aload_n 0, 1))
theorem d_law_591 {X : State → Nat → Nat → Prop} : decode (lw_M X).1 591 = .ok (.iload_n 3, 1) := (by decide +kernel : decode code 591 = .ok (.iload_n 3, 1))
theorem d_law_592 {X : State → Nat → Nat → Prop} : decode (lw_M X).1 592 = .ok (.iconst 2, 1) := (by decide +kernel : decode code 592 = .ok (.iconst 2, 1))
theorem d_law_593 {X : State → Nat → Nat → Prop} : decode (lw_M X).1 593 = .ok (.iadd, 1) := (by decide +kernel : decode code 593 = .ok (.iadd, 1))
theorem d_law_594 {X : State → Nat → Nat → Prop} : decode (lw_M X).1 594 = .ok (.iaload, 1) := (by decide +kernel : decode code 594 = .ok (.iaload, 1))
theorem d_law_595 {X : State → Nat → Nat → Prop} : decode (lw_M X).1 595 = .ok (.aload_n 0, 1) := (by decide +kernel : decode code 595 = .ok (.aload_n 0, 1))
theorem d_law_596 {X : State → Nat → Nat → Prop} : decode (lw_M X).1 596 = .ok (.iload_n 3, 1) := (by decide +kernel : decode code 596 = .ok (.iload_n 3, 1))
theorem d_law_597 {X : State → Nat → Nat → Prop} : decode (lw_M X).1 597 = .ok (.iconst 3, 1) := (by decide +kernel : decode code 597 = .ok (.iconst 3, 1))
theorem d_law_598 {X : State → Nat → Nat → Prop} : decode (lw_M X).1 598 = .ok (.iadd, 1) := (by decide +kernel : decode code 598 = .ok (.iadd, 1))
theorem d_law_599 {X : State → Nat → Nat → Prop} : decode (lw_M X).1 599 = .ok (.iaload, 1) := (by decide +kernel : decode code 599 = .ok (.iaload, 1))
theorem d_law_600 {X : State → Nat → Nat → Prop} : decode (lw_M X).1 600 = .ok (.i2l, 1) := (by decide +kernel : decode code 600 = .ok (.i2l, 1))
theorem d_law_601 {X : State → Nat → Nat → Prop} : decode (lw_M X).1 601 = .ok (.bipush 32, 2) := (by decide +kernel : decode code 601 = .ok (.bipush 32, 2))
theorem d_law_603 {X : State → Nat → Nat → Prop} : decode (lw_M X).1 603 = .ok (.lshl, 1) := (by decide +kernel : decode code 603 = .ok (.lshl, 1))
theorem d_law_604 {X : State → Nat → Nat → Prop} : decode (lw_M X).1 604 = .ok (.aload_n 0, 1) := (by decide +kernel : decode code 604 = .ok (.aload_n 0, 1))
theorem d_law_605 {X : State → Nat → Nat → Prop} : decode (lw_M X).1 605 = .ok (.iload_n 3, 1) := (by decide +kernel : decode code 605 = .ok (.iload_n 3, 1))
theorem d_law_606 {X : State → Nat → Nat → Prop} : decode (lw_M X).1 606 = .ok (.iconst 4, 1) := (by decide +kernel : decode code 606 = .ok (.iconst 4, 1))
theorem d_law_607 {X : State → Nat → Nat → Prop} : decode (lw_M X).1 607 = .ok (.iadd, 1) := (by decide +kernel : decode code 607 = .ok (.iadd, 1))
theorem d_law_608 {X : State → Nat → Nat → Prop} : decode (lw_M X).1 608 = .ok (.iaload, 1) := (by decide +kernel : decode code 608 = .ok (.iaload, 1))
theorem d_law_609 {X : State → Nat → Nat → Prop} : decode (lw_M X).1 609 = .ok (.i2l, 1) := (by decide +kernel : decode code 609 = .ok (.i2l, 1))
theorem d_law_610 {X : State → Nat → Nat → Prop} : decode (lw_M X).1 610 = .ok (.ldc2_w 18, 3) := (by decide +kernel : decode code 610 = .ok (.ldc2_w 18, 3))
theorem d_law_613 {X : State → Nat → Nat → Prop} : decode (lw_M X).1 613 = .ok (.land, 1) := (by decide +kernel : decode code 613 = .ok (.land, 1))
theorem d_law_614 {X : State → Nat → Nat → Prop} : decode (lw_M X).1 614 = .ok (.lor, 1) := (by decide +kernel : decode code 614 = .ok (.lor, 1))
theorem d_law_615 {X : State → Nat → Nat → Prop} : decode (lw_M X).1 615 = .ok (.invokevirtual 49, 3) := (by decide +kernel : decode code 615 = .ok (.invokevirtual 49, 3))
theorem d_law_618 {X : State → Nat → Nat → Prop} : decode (lw_M X).1 618 = .ok (.if_icmp .eq 479, 3) := (by decide +kernel : decode code 618 = .ok (.if_icmp .eq 479, 3))
theorem d_law_621 {X : State → Nat → Nat → Prop} : decode (lw_M X).1 621 = .ok (.iconst 0, 1) := (by decide +kernel : decode code 621 = .ok (.iconst 0, 1))
theorem d_law_622 {X : State → Nat → Nat → Prop} : decode (lw_M X).1 622 = .ok (.ireturn, 1) := (by decide +kernel : decode code 622 = .ok (.ireturn, 1))
theorem d_law_623 {X : State → Nat → Nat → Prop} : decode (lw_M X).1 623 = .ok (.aload_n 1, 1) := (by decide +kernel : decode code 623 = .ok (.aload_n 1, 1))
theorem d_law_624 {X : State → Nat → Nat → Prop} : decode (lw_M X).1 624 = .ok (.invokevirtual 50, 3) := (by decide +kernel : decode code 624 = .ok (.invokevirtual 50, 3))
theorem d_law_627 {X : State → Nat → Nat → Prop} : decode (lw_M X).1 627 = .ok (.aload_n 2, 1) := (by decide +kernel : decode code 627 = .ok (.aload_n 2, 1))
theorem d_law_628 {X : State → Nat → Nat → Prop} : decode (lw_M X).1 628 = .ok (.invokevirtual 53, 3) := (by decide +kernel : decode code 628 = .ok (.invokevirtual 53, 3))
theorem d_law_631 {X : State → Nat → Nat → Prop} : decode (lw_M X).1 631 = .ok (.if_icmp .eq 466, 3) := (by decide +kernel : decode code 631 = .ok (.if_icmp .eq 466, 3))
theorem d_law_634 {X : State → Nat → Nat → Prop} : decode (lw_M X).1 634 = .ok (.iconst 0, 1) := (by decide +kernel : decode code 634 = .ok (.iconst 0, 1))
theorem d_law_635 {X : State → Nat → Nat → Prop} : decode (lw_M X).1 635 = .ok (.ireturn, 1) := (by decide +kernel : decode code 635 = .ok (.ireturn, 1))
theorem d_law_636 {X : State → Nat → Nat → Prop} : decode (lw_M X).1 636 = .ok (.aload_n 1, 1) := (by decide +kernel : decode code 636 = .ok (.aload_n 1, 1))
theorem d_law_637 {X : State → Nat → Nat → Prop} : decode (lw_M X).1 637 = .ok (.aload_n 0, 1) := (by decide +kernel : decode code 637 = .ok (.aload_n 0, 1))
theorem d_law_638 {X : State → Nat → Nat → Prop} : decode (lw_M X).1 638 = .ok (.iload_n 3, 1) := (by decide +kernel : decode code 638 = .ok (.iload_n 3, 1))
theorem d_law_639 {X : State → Nat → Nat → Prop} : decode (lw_M X).1 639 = .ok (.iconst 1, 1) := (by decide +kernel : decode code 639 = .ok (.iconst 1, 1))
theorem d_law_640 {X : State → Nat → Nat → Prop} : decode (lw_M X).1 640 = .ok (.iadd, 1) := (by decide +kernel : decode code 640 = .ok (.iadd, 1))
theorem d_law_641 {X : State → Nat → Nat → Prop} : decode (lw_M X).1 641 = .ok (.iaload, 1) := (by decide +kernel : decode code 641 = .ok (.iaload, 1))
theorem d_law_642 {X : State → Nat → Nat → Prop} : decode (lw_M X).1 642 = .ok (.aload_n 0, 1) := (by decide +kernel : decode code 642 = .ok (.aload_n 0, 1))
theorem d_law_643 {X : State → Nat → Nat → Prop} : decode (lw_M X).1 643 = .ok (.iload_n 3, 1) := (by decide +kernel : decode code 643 = .ok (.iload_n 3, 1))
theorem d_law_644 {X : State → Nat → Nat → Prop} : decode (lw_M X).1 644 = .ok (.iconst 2, 1) := (by decide +kernel : decode code 644 = .ok (.iconst 2, 1))
theorem d_law_645 {X : State → Nat → Nat → Prop} : decode (lw_M X).1 645 = .ok (.iadd, 1) := (by decide +kernel : decode code 645 = .ok (.iadd, 1))
theorem d_law_646 {X : State → Nat → Nat → Prop} : decode (lw_M X).1 646 = .ok (.iaload, 1) := (by decide +kernel : decode code 646 = .ok (.iaload, 1))
theorem d_law_647 {X : State → Nat → Nat → Prop} : decode (lw_M X).1 647 = .ok (.aload_n 0, 1) := (by decide +kernel : decode code 647 = .ok (.aload_n 0, 1))
theorem d_law_648 {X : State → Nat → Nat → Prop} : decode (lw_M X).1 648 = .ok (.iload_n 3, 1) := (by decide +kernel : decode code 648 = .ok (.iload_n 3, 1))
theorem d_law_649 {X : State → Nat → Nat → Prop} : decode (lw_M X).1 649 = .ok (.iconst 3, 1) := (by decide +kernel : decode code 649 = .ok (.iconst 3, 1))
theorem d_law_650 {X : State → Nat → Nat → Prop} : decode (lw_M X).1 650 = .ok (.iadd, 1) := (by decide +kernel : decode code 650 = .ok (.iadd, 1))
theorem d_law_651 {X : State → Nat → Nat → Prop} : decode (lw_M X).1 651 = .ok (.iaload, 1) := (by decide +kernel : decode code 651 = .ok (.iaload, 1))
theorem d_law_652 {X : State → Nat → Nat → Prop} : decode (lw_M X).1 652 = .ok (.invokevirtual 54, 3) := (by decide +kernel : decode code 652 = .ok (.invokevirtual 54, 3))
theorem d_law_655 {X : State → Nat → Nat → Prop} : decode (lw_M X).1 655 = .ok (.aload_n 2, 1) := (by decide +kernel : decode code 655 = .ok (.aload_n 2, 1))
theorem d_law_656 {X : State → Nat → Nat → Prop} : decode (lw_M X).1 656 = .ok (.aload_n 0, 1) := (by decide +kernel : decode code 656 = .ok (.aload_n 0, 1))
theorem d_law_657 {X : State → Nat → Nat → Prop} : decode (lw_M X).1 657 = .ok (.iload_n 3, 1) := (by decide +kernel : decode code 657 = .ok (.iload_n 3, 1))
theorem d_law_658 {X : State → Nat → Nat → Prop} : decode (lw_M X).1 658 = .ok (.iconst 1, 1) := (by decide +kernel : decode code 658 = .ok (.iconst 1, 1))
theorem d_law_659 {X : State → Nat → Nat → Prop} : decode (lw_M X).1 659 = .ok (.iadd, 1) := (by decide +kernel : decode code 659 = .ok (.iadd, 1))
theorem d_law_660 {X : State → Nat → Nat → Prop} : decode (lw_M X).1 660 = .ok (.iaload, 1) := (by decide +kernel : decode code 660 = .ok (.iaload, 1))
theorem d_law_661 {X : State → Nat → Nat → Prop} : decode (lw_M X).1 661 = .ok (.aload_n 0, 1) := (by decide +kernel : decode code 661 = .ok (.aload_n 0, 1))
theorem d_law_662 {X : State → Nat → Nat → Prop} : decode (lw_M X).1 662 = .ok (.iload_n 3, 1) := (by decide +kernel : decode code 662 = .ok (.iload_n 3, 1))
theorem d_law_663 {X : State → Nat → Nat → Prop} : decode (lw_M X).1 663 = .ok (.iconst 2, 1) := (by decide +kernel : decode code 663 = .ok (.iconst 2, 1))
theorem d_law_664 {X : State → Nat → Nat → Prop} : decode (lw_M X).1 664 = .ok (.iadd, 1) := (by decide +kernel : decode code 664 = .ok (.iadd, 1))
theorem d_law_665 {X : State → Nat → Nat → Prop} : decode (lw_M X).1 665 = .ok (.iaload, 1) := (by decide +kernel : decode code 665 = .ok (.iaload, 1))
theorem d_law_666 {X : State → Nat → Nat → Prop} : decode (lw_M X).1 666 = .ok (.aload_n 0, 1) := (by decide +kernel : decode code 666 = .ok (.aload_n 0, 1))
theorem d_law_667 {X : State → Nat → Nat → Prop} : decode (lw_M X).1 667 = .ok (.iload_n 3, 1) := (by decide +kernel : decode code 667 = .ok (.iload_n 3, 1))
theorem d_law_668 {X : State → Nat → Nat → Prop} : decode (lw_M X).1 668 = .ok (.iconst 3, 1) := (by decide +kernel : decode code 668 = .ok (.iconst 3, 1))
theorem d_law_669 {X : State → Nat → Nat → Prop} : decode (lw_M X).1 669 = .ok (.iadd, 1) := (by decide +kernel : decode code 669 = .ok (.iadd, 1))
theorem d_law_670 {X : State → Nat → Nat → Prop} : decode (lw_M X).1 670 = .ok (.iaload, 1) := (by decide +kernel : decode code 670 = .ok (.iaload, 1))
theorem d_law_671 {X : State → Nat → Nat → Prop} : decode (lw_M X).1 671 = .ok (.invokevirtual 58, 3) := (by decide +kernel : decode code 671 = .ok (.invokevirtual 58, 3))
theorem d_law_674 {X : State → Nat → Nat → Prop} : decode (lw_M X).1 674 = .ok (.lcmp, 1) := (by decide +kernel : decode code 674 = .ok (.lcmp, 1))
theorem d_law_675 {X : State → Nat → Nat → Prop} : decode (lw_M X).1 675 = .ok (.ifCond .eq 422, 3) := (by decide +kernel : decode code 675 = .ok (.ifCond .eq 422, 3))
theorem d_law_678 {X : State → Nat → Nat → Prop} : decode (lw_M X).1 678 = .ok (.iconst 0, 1) := (by decide +kernel : decode code 678 = .ok (.iconst 0, 1))
theorem d_law_679 {X : State → Nat → Nat → Prop} : decode (lw_M X).1 679 = .ok (.ireturn, 1) := (by decide +kernel : decode code 679 = .ok (.ireturn, 1))
theorem d_law_680 {X : State → Nat → Nat → Prop} : decode (lw_M X).1 680 = .ok (.aload_n 1, 1) := (by decide +kernel : decode code 680 = .ok (.aload_n 1, 1))
theorem d_law_681 {X : State → Nat → Nat → Prop} : decode (lw_M X).1 681 = .ok (.aload_n 0, 1) := (by decide +kernel : decode code 681 = .ok (.aload_n 0, 1))
theorem d_law_682 {X : State → Nat → Nat → Prop} : decode (lw_M X).1 682 = .ok (.iload_n 3, 1) := (by decide +kernel : decode code 682 = .ok (.iload_n 3, 1))
theorem d_law_683 {X : State → Nat → Nat → Prop} : decode (lw_M X).1 683 = .ok (.iconst 1, 1) := (by decide +kernel : decode code 683 = .ok (.iconst 1, 1))
theorem d_law_684 {X : State → Nat → Nat → Prop} : decode (lw_M X).1 684 = .ok (.iadd, 1) := (by decide +kernel : decode code 684 = .ok (.iadd, 1))
theorem d_law_685 {X : State → Nat → Nat → Prop} : decode (lw_M X).1 685 = .ok (.iaload, 1) := (by decide +kernel : decode code 685 = .ok (.iaload, 1))
theorem d_law_686 {X : State → Nat → Nat → Prop} : decode (lw_M X).1 686 = .ok (.aload_n 0, 1) := (by decide +kernel : decode code 686 = .ok (.aload_n 0, 1))
theorem d_law_687 {X : State → Nat → Nat → Prop} : decode (lw_M X).1 687 = .ok (.iload_n 3, 1) := (by decide +kernel : decode code 687 = .ok (.iload_n 3, 1))
theorem d_law_688 {X : State → Nat → Nat → Prop} : decode (lw_M X).1 688 = .ok (.iconst 2, 1) := (by decide +kernel : decode code 688 = .ok (.iconst 2, 1))
theorem d_law_689 {X : State → Nat → Nat → Prop} : decode (lw_M X).1 689 = .ok (.iadd, 1) := (by decide +kernel : decode code 689 = .ok (.iadd, 1))
theorem d_law_690 {X : State → Nat → Nat → Prop} : decode (lw_M X).1 690 = .ok (.iaload, 1) := (by decide +kernel : decode code 690 = .ok (.iaload, 1))
theorem d_law_691 {X : State → Nat → Nat → Prop} : decode (lw_M X).1 691 = .ok (.aload_n 0, 1) := (by decide +kernel : decode code 691 = .ok (.aload_n 0, 1))
theorem d_law_692 {X : State → Nat → Nat → Prop} : decode (lw_M X).1 692 = .ok (.iload_n 3, 1) := (by decide +kernel : decode code 692 = .ok (.iload_n 3, 1))
theorem d_law_693 {X : State → Nat → Nat → Prop} : decode (lw_M X).1 693 = .ok (.iconst 3, 1) := (by decide +kernel : decode code 693 = .ok (.iconst 3, 1))
theorem d_law_694 {X : State → Nat → Nat → Prop} : decode (lw_M X).1 694 = .ok (.iadd, 1) := (by decide +kernel : decode code 694 = .ok (.iadd, 1))
theorem d_law_695 {X : State → Nat → Nat → Prop} : decode (lw_M X).1 695 = .ok (.iaload, 1) := (by decide +kernel : decode code 695 = .ok (.iaload, 1))
theorem d_law_696 {X : State → Nat → Nat → Prop} : decode (lw_M X).1 696 = .ok (.invokevirtual 59, 3) := (by decide +kernel : decode code 696 = .ok (.invokevirtual 59, 3))
theorem d_law_699 {X : State → Nat → Nat → Prop} : decode (lw_M X).1 699 = .ok (.aload_n 2, 1) := (by decide +kernel : decode code 699 = .ok (.aload_n 2, 1))
theorem d_law_700 {X : State → Nat → Nat → Prop} : decode (lw_M X).1 700 = .ok (.aload_n 0, 1) := (by decide +kernel : decode code 700 = .ok (.aload_n 0, 1))
theorem d_law_701 {X : State → Nat → Nat → Prop} : decode (lw_M X).1 701 = .ok (.iload_n 3, 1) := (by decide +kernel : decode code 701 = .ok (.iload_n 3, 1))
theorem d_law_702 {X : State → Nat → Nat → Prop} : decode (lw_M X).1 702 = .ok (.iconst 1, 1) := (by decide +kernel : decode code 702 = .ok (.iconst 1, 1))
theorem d_law_703 {X : State → Nat → Nat → Prop} : decode (lw_M X).1 703 = .ok (.iadd, 1) := (by decide +kernel : decode code 703 = .ok (.iadd, 1))
theorem d_law_704 {X : State → Nat → Nat → Prop} : decode (lw_M X).1 704 = .ok (.iaload, 1) := (by decide +kernel : decode code 704 = .ok (.iaload, 1))
theorem d_law_705 {X : State → Nat → Nat → Prop} : decode (lw_M X).1 705 = .ok (.aload_n 0, 1) := (by decide +kernel : decode code 705 = .ok (.aload_n 0, 1))
theorem d_law_706 {X : State → Nat → Nat → Prop} : decode (lw_M X).1 706 = .ok (.iload_n 3, 1) := (by decide +kernel : decode code 706 = .ok (.iload_n 3, 1))
theorem d_law_707 {X : State → Nat → Nat → Prop} : decode (lw_M X).1 707 = .ok (.iconst 2, 1) := (by decide +kernel : decode code 707 = .ok (.iconst 2, 1))
theorem d_law_708 {X : State → Nat → Nat → Prop} : decode (lw_M X).1 708 = .ok (.iadd, 1) := (by decide +kernel : decode code 708 = .ok (.iadd, 1))
theorem d_law_709 {X : State → Nat → Nat → Prop} : decode (lw_M X).1 709 = .ok (.iaload, 1) := (by decide +kernel : decode code 709 = .ok (.iaload, 1))
theorem d_law_710 {X : State → Nat → Nat → Prop} : decode (lw_M X).1 710 = .ok (.aload_n 0, 1) := (by decide +kernel : decode code 710 = .ok (.aload_n 0, 1))
theorem d_law_711 {X : State → Nat → Nat → Prop} : decode (lw_M X).1 711 = .ok (.iload_n 3, 1) := (by decide +kernel : decode code 711 = .ok (.iload_n 3, 1))
theorem d_law_712 {X : State → Nat → Nat → Prop} : decode (lw_M X).1 712 = .ok (.iconst 3, 1) := (by decide +kernel : decode code 712 = .ok (.iconst 3, 1))
theorem d_law_713 {X : State → Nat → Nat → Prop} : decode (lw_M X).1 713 = .ok (.iadd, 1) := (by decide +kernel : decode code 713 = .ok (.iadd, 1))
theorem d_law_714 {X : State → Nat → Nat → Prop} : decode (lw_M X).1 714 = .ok (.iaload, 1) := (by decide +kernel : decode code 714 = .ok (.iaload, 1))
theorem d_law_715 {X : State → Nat → Nat → Prop} : decode (lw_M X).1 715 = .ok (.invokevirtual 62, 3) := (by decide +kernel : decode code 715 = .ok (.invokevirtual 62, 3))
theorem d_law_718 {X : State → Nat → Nat → Prop} : decode (lw_M X).1 718 = .ok (.lcmp, 1) := (by decide +kernel : decode code 718 = .ok (.lcmp, 1))
theorem d_law_719 {X : State → Nat → Nat → Prop} : decode (lw_M X).1 719 = .ok (.ifCond .eq 378, 3) := (by decide +kernel : decode code 719 = .ok (.ifCond .eq 378, 3))
theorem d_law_722 {X : State → Nat → Nat → Prop} : decode (lw_M X).1 722 = .ok (.iconst 0, 1) := (by decide +kernel : decode code 722 = .ok (.iconst 0, 1))
theorem d_law_723 {X : State → Nat → Nat → Prop} : decode (lw_M X).1 723 = .ok (.ireturn, 1) := (by decide +kernel : decode code 723 = .ok (.ireturn, 1))
theorem d_law_724 {X : State → Nat → Nat → Prop} : decode (lw_M X).1 724 = .ok (.aload_n 1, 1) := (by decide +kernel : decode code 724 = .ok (.aload_n 1, 1))
theorem d_law_725 {X : State → Nat → Nat → Prop} : decode (lw_M X).1 725 = .ok (.aload_n 0, 1) := (by decide +kernel : decode code 725 = .ok (.aload_n 0, 1))
theorem d_law_726 {X : State → Nat → Nat → Prop} : decode (lw_M X).1 726 = .ok (.iload_n 3, 1) := (by decide +kernel : decode code 726 = .ok (.iload_n 3, 1))
theorem d_law_727 {X : State → Nat → Nat → Prop} : decode (lw_M X).1 727 = .ok (.iconst 1, 1) := (by decide +kernel : decode code 727 = .ok (.iconst 1, 1))
theorem d_law_728 {X : State → Nat → Nat → Prop} : decode (lw_M X).1 728 = .ok (.iadd, 1) := (by decide +kernel : decode code 728 = .ok (.iadd, 1))
theorem d_law_729 {X : State → Nat → Nat → Prop} : decode (lw_M X).1 729 = .ok (.iaload, 1) := (by decide +kernel : decode code 729 = .ok (.iaload, 1))
theorem d_law_730 {X : State → Nat → Nat → Prop} : decode (lw_M X).1 730 = .ok (.invokevirtual 63, 3) := (by decide +kernel : decode code 730 = .ok (.invokevirtual 63, 3))
theorem d_law_733 {X : State → Nat → Nat → Prop} : decode (lw_M X).1 733 = .ok (.aload_n 2, 1) := (by decide +kernel : decode code 733 = .ok (.aload_n 2, 1))
theorem d_law_734 {X : State → Nat → Nat → Prop} : decode (lw_M X).1 734 = .ok (.aload_n 0, 1) := (by decide +kernel : decode code 734 = .ok (.aload_n 0, 1))
theorem d_law_735 {X : State → Nat → Nat → Prop} : decode (lw_M X).1 735 = .ok (.iload_n 3, 1) := (by decide +kernel : decode code 735 = .ok (.iload_n 3, 1))
theorem d_law_736 {X : State → Nat → Nat → Prop} : decode (lw_M X).1 736 = .ok (.iconst 1, 1) := (by decide +kernel : decode code 736 = .ok (.iconst 1, 1))
theorem d_law_737 {X : State → Nat → Nat → Prop} : decode (lw_M X).1 737 = .ok (.iadd, 1) := (by decide +kernel : decode code 737 = .ok (.iadd, 1))
theorem d_law_738 {X : State → Nat → Nat → Prop} : decode (lw_M X).1 738 = .ok (.iaload, 1) := (by decide +kernel : decode code 738 = .ok (.iaload, 1))
theorem d_law_739 {X : State → Nat → Nat → Prop} : decode (lw_M X).1 739 = .ok (.invokevirtual 67, 3) := (by decide +kernel : decode code 739 = .ok (.invokevirtual 67, 3))
theorem d_law_742 {X : State → Nat → Nat → Prop} : decode (lw_M X).1 742 = .ok (.if_icmp .eq 355, 3) := (by decide +kernel : decode code 742 = .ok (.if_icmp .eq 355, 3))
theorem d_law_745 {X : State → Nat → Nat → Prop} : decode (lw_M X).1 745 = .ok (.iconst 0, 1) := (by decide +kernel : decode code 745 = .ok (.iconst 0, 1))
theorem d_law_746 {X : State → Nat → Nat → Prop} : decode (lw_M X).1 746 = .ok (.ireturn, 1) := (by decide +kernel : decode code 746 = .ok (.ireturn, 1))
theorem d_law_747 {X : State → Nat → Nat → Prop} : decode (lw_M X).1 747 = .ok (.aload_n 1, 1) := (by decide +kernel : decode code 747 = .ok (.aload_n 1, 1))
theorem d_law_748 {X : State → Nat → Nat → Prop} : decode (lw_M X).1 748 = .ok (.aload_n 0, 1) := (by decide +kernel : decode code 748 = .ok (.aload_n 0, 1))
theorem d_law_749 {X : State → Nat → Nat → Prop} : decode (lw_M X).1 749 = .ok (.iload_n 3, 1) := (by decide +kernel : decode code 749 = .ok (.iload_n 3, 1))
theorem d_law_750 {X : State → Nat → Nat → Prop} : decode (lw_M X).1 750 = .ok (.iconst 1, 1) := (by decide +kernel : decode code 750 = .ok (.iconst 1, 1))
theorem d_law_751 {X : State → Nat → Nat → Prop} : decode (lw_M X).1 751 = .ok (.iadd, 1) := (by decide +kernel : decode code 751 = .ok (.iadd, 1))
theorem d_law_752 {X : State → Nat → Nat → Prop} : decode (lw_M X).1 752 = .ok (.iaload, 1) := (by decide +kernel : decode code 752 = .ok (.iaload, 1))
theorem d_law_753 {X : State → Nat → Nat → Prop} : decode (lw_M X).1 753 = .ok (.invokevirtual 68, 3) := (by decide +kernel : decode code 753 = .ok (.invokevirtual 68, 3))
theorem d_law_756 {X : State → Nat → Nat → Prop} : decode (lw_M X).1 756 = .ok (.aload_n 2, 1) := (by decide +kernel : decode code 756 = .ok (.aload_n 2, 1))
theorem d_law_757 {X : State → Nat → Nat → Prop} : decode (lw_M X).1 757 = .ok (.aload_n 0, 1) := (by decide +kernel : decode code 757 = .ok (.aload_n 0, 1))
theorem d_law_758 {X : State → Nat → Nat → Prop} : decode (lw_M X).1 758 = .ok (.iload_n 3, 1) := (by decide +kernel : decode code 758 = .ok (.iload_n 3, 1))
theorem d_law_759 {X : State → Nat → Nat → Prop} : decode (lw_M X).1 759 = .ok (.iconst 1, 1) := (by decide +kernel : decode code 759 = .ok (.iconst 1, 1))
theorem d_law_760 {X : State → Nat → Nat → Prop} : decode (lw_M X).1 760 = .ok (.iadd, 1) := (by decide +kernel : decode code 760 = .ok (.iadd, 1))
theorem d_law_761 {X : State → Nat → Nat → Prop} : decode (lw_M X).1 761 = .ok (.iaload, 1) := (by decide +kernel : decode code 761 = .ok (.iaload, 1))
theorem d_law_762 {X : State → Nat → Nat → Prop} : decode (lw_M X).1 762 = .ok (.invokevirtual 71, 3) := (by decide +kernel : decode code 762 = .ok (.invokevirtual 71, 3))
theorem d_law_765 {X : State → Nat → Nat → Prop} : decode (lw_M X).1 765 = .ok (.if_icmp .eq 332, 3) := (by decide +kernel : decode code 765 = .ok (.if_icmp .eq 332, 3))
theorem d_law_768 {X : State → Nat → Nat → Prop} : decode (lw_M X).1 768 = .ok (.iconst 0, 1) := (by decide +kernel : decode code 768 = .ok (.iconst 0, 1))
theorem d_law_769 {X : State → Nat → Nat → Prop} : decode (lw_M X).1 769 = .ok (.ireturn, 1) := (by decide +kernel : decode code 769 = .ok (.ireturn, 1))
theorem d_law_770 {X : State → Nat → Nat → Prop} : decode (lw_M X).1 770 = .ok (.aload_n 1, 1) := (by decide +kernel : decode code 770 = .ok (.aload_n 1, 1))
theorem d_law_771 {X : State → Nat → Nat → Prop} : decode (lw_M X).1 771 = .ok (.invokevirtual 72, 3) := (by decide +kernel : decode code 771 = .ok (.invokevirtual 72, 3))
theorem d_law_774 {X : State → Nat → Nat → Prop} : decode (lw_M X).1 774 = .ok (.aload_n 2, 1) := (by decide +kernel : decode code 774 = .ok (.aload_n 2, 1))
theorem d_law_775 {X : State → Nat → Nat → Prop} : decode (lw_M X).1 775 = .ok (.invokevirtual 76, 3) := (by decide +kernel : decode code 775 = .ok (.invokevirtual 76, 3))
theorem d_law_778 {X : State → Nat → Nat → Prop} : decode (lw_M X).1 778 = .ok (.if_icmp .eq 319, 3) := (by decide +kernel : decode code 778 = .ok (.if_icmp .eq 319, 3))
theorem d_law_781 {X : State → Nat → Nat → Prop} : decode (lw_M X).1 781 = .ok (.iconst 0, 1) := (by decide +kernel : decode code 781 = .ok (.iconst 0, 1))
theorem d_law_782 {X : State → Nat → Nat → Prop} : decode (lw_M X).1 782 = .ok (.ireturn, 1) := (by decide +kernel : decode code 782 = .ok (.ireturn, 1))
theorem d_law_783 {X : State → Nat → Nat → Prop} : decode (lw_M X).1 783 = .ok (.aload_n 1, 1) := (by decide +kernel : decode code 783 = .ok (.aload_n 1, 1))
theorem d_law_784 {X : State → Nat → Nat → Prop} : decode (lw_M X).1 784 = .ok (.aload_n 0, 1) := (by decide +kernel : decode code 784 = .ok (.aload_n 0, 1))
theorem d_law_785 {X : State → Nat → Nat → Prop} : decode (lw_M X).1 785 = .ok (.iload_n 3, 1) := (by decide +kernel : decode code 785 = .ok (.iload_n 3, 1))
theorem d_law_786 {X : State → Nat → Nat → Prop} : decode (lw_M X).1 786 = .ok (.iconst 1, 1) := (by decide +kernel : decode code 786 = .ok (.iconst 1, 1))
theorem d_law_787 {X : State → Nat → Nat → Prop} : decode (lw_M X).1 787 = .ok (.iadd, 1) := (by decide +kernel : decode code 787 = .ok (.iadd, 1))
theorem d_law_788 {X : State → Nat → Nat → Prop} : decode (lw_M X).1 788 = .ok (.iaload, 1) := (by decide +kernel : decode code 788 = .ok (.iaload, 1))
theorem d_law_789 {X : State → Nat → Nat → Prop} : decode (lw_M X).1 789 = .ok (.aload_n 0, 1) := (by decide +kernel : decode code 789 = .ok (.aload_n 0, 1))
theorem d_law_790 {X : State → Nat → Nat → Prop} : decode (lw_M X).1 790 = .ok (.iload_n 3, 1) := (by decide +kernel : decode code 790 = .ok (.iload_n 3, 1))
theorem d_law_791 {X : State → Nat → Nat → Prop} : decode (lw_M X).1 791 = .ok (.iconst 2, 1) := (by decide +kernel : decode code 791 = .ok (.iconst 2, 1))
theorem d_law_792 {X : State → Nat → Nat → Prop} : decode (lw_M X).1 792 = .ok (.iadd, 1) := (by decide +kernel : decode code 792 = .ok (.iadd, 1))
theorem d_law_793 {X : State → Nat → Nat → Prop} : decode (lw_M X).1 793 = .ok (.iaload, 1) := (by decide +kernel : decode code 793 = .ok (.iaload, 1))
theorem d_law_794 {X : State → Nat → Nat → Prop} : decode (lw_M X).1 794 = .ok (.aload_n 0, 1) := (by decide +kernel : decode code 794 = .ok (.aload_n 0, 1))
theorem d_law_795 {X : State → Nat → Nat → Prop} : decode (lw_M X).1 795 = .ok (.iload_n 3, 1) := (by decide +kernel : decode code 795 = .ok (.iload_n 3, 1))
theorem d_law_796 {X : State → Nat → Nat → Prop} : decode (lw_M X).1 796 = .ok (.iconst 3, 1) := (by decide +kernel : decode code 796 = .ok (.iconst 3, 1))
theorem d_law_797 {X : State → Nat → Nat → Prop} : decode (lw_M X).1 797 = .ok (.iadd, 1) := (by decide +kernel : decode code 797 = .ok (.iadd, 1))
theorem d_law_798 {X : State → Nat → Nat → Prop} : decode (lw_M X).1 798 = .ok (.iaload, 1) := (by decide +kernel : decode code 798 = .ok (.iaload, 1))
theorem d_law_799 {X : State → Nat → Nat → Prop} : decode (lw_M X).1 799 = .ok (.aload_n 0, 1) := (by decide +kernel : decode code 799 = .ok (.aload_n 0, 1))
theorem d_law_800 {X : State → Nat → Nat → Prop} : decode (lw_M X).1 800 = .ok (.iload_n 3, 1) := (by decide +kernel : decode code 800 = .ok (.iload_n 3, 1))
theorem d_law_801 {X : State → Nat → Nat → Prop} : decode (lw_M X).1 801 = .ok (.iconst 4, 1) := (by decide +kernel : decode code 801 = .ok (.iconst 4, 1))
theorem d_law_802 {X : State → Nat → Nat → Prop} : decode (lw_M X).1 802 = .ok (.iadd, 1) := (by decide +kernel : decode code 802 = .ok (.iadd, 1))
theorem d_law_803 {X : State → Nat → Nat → Prop} : decode (lw_M X).1 803 = .ok (.iaload, 1) := (by decide +kernel : decode code 803 = .ok (.iaload, 1))
theorem d_law_804 {X : State → Nat → Nat → Prop} : decode (lw_M X).1 804 = .ok (.i2l, 1) := (by decide +kernel : decode code 804 = .ok (.i2l, 1))
theorem d_law_805 {X : State → Nat → Nat → Prop} : decode (lw_M X).1 805 = .ok (.bipush 32, 2) := (by decide +kernel : decode code 805 = .ok (.bipush 32, 2))
theorem d_law_807 {X : State → Nat → Nat → Prop} : decode (lw_M X).1 807 = .ok (.lshl, 1) := (by decide +kernel : decode code 807 = .ok (.lshl, 1))
theorem d_law_808 {X : State → Nat → Nat → Prop} : decode (lw_M X).1 808 = .ok (.aload_n 0, 1) := (by decide +kernel : decode code 808 = .ok (.aload_n 0, 1))
theorem d_law_809 {X : State → Nat → Nat → Prop} : decode (lw_M X).1 809 = .ok (.iload_n 3, 1) := (by decide +kernel : decode code 809 = .ok (.iload_n 3, 1))
theorem d_law_810 {X : State → Nat → Nat → Prop} : decode (lw_M X).1 810 = .ok (.iconst 5, 1) := (by decide +kernel : decode code 810 = .ok (.iconst 5, 1))
theorem d_law_811 {X : State → Nat → Nat → Prop} : decode (lw_M X).1 811 = .ok (.iadd, 1) := (by decide +kernel : decode code 811 = .ok (.iadd, 1))
theorem d_law_812 {X : State → Nat → Nat → Prop} : decode (lw_M X).1 812 = .ok (.iaload, 1) := (by decide +kernel : decode code 812 = .ok (.iaload, 1))
theorem d_law_813 {X : State → Nat → Nat → Prop} : decode (lw_M X).1 813 = .ok (.i2l, 1) := (by decide +kernel : decode code 813 = .ok (.i2l, 1))
theorem d_law_814 {X : State → Nat → Nat → Prop} : decode (lw_M X).1 814 = .ok (.ldc2_w 18, 3) := (by decide +kernel : decode code 814 = .ok (.ldc2_w 18, 3))
theorem d_law_817 {X : State → Nat → Nat → Prop} : decode (lw_M X).1 817 = .ok (.land, 1) := (by decide +kernel : decode code 817 = .ok (.land, 1))
theorem d_law_818 {X : State → Nat → Nat → Prop} : decode (lw_M X).1 818 = .ok (.lor, 1) := (by decide +kernel : decode code 818 = .ok (.lor, 1))
theorem d_law_819 {X : State → Nat → Nat → Prop} : decode (lw_M X).1 819 = .ok (.invokevirtual 77, 3) := (by decide +kernel : decode code 819 = .ok (.invokevirtual 77, 3))
theorem d_law_822 {X : State → Nat → Nat → Prop} : decode (lw_M X).1 822 = .ok (.aload_n 2, 1) := (by decide +kernel : decode code 822 = .ok (.aload_n 2, 1))
theorem d_law_823 {X : State → Nat → Nat → Prop} : decode (lw_M X).1 823 = .ok (.aload_n 0, 1) := (by decide +kernel : decode code 823 = .ok (.aload_n 0, 1))
theorem d_law_824 {X : State → Nat → Nat → Prop} : decode (lw_M X).1 824 = .ok (.iload_n 3, 1) := (by decide +kernel : decode code 824 = .ok (.iload_n 3, 1))
theorem d_law_825 {X : State → Nat → Nat → Prop} : decode (lw_M X).1 825 = .ok (.iconst 1, 1) := (by decide +kernel : decode code 825 = .ok (.iconst 1, 1))
theorem d_law_826 {X : State → Nat → Nat → Prop} : decode (lw_M X).1 826 = .ok (.iadd, 1) := (by decide +kernel : decode code 826 = .ok (.iadd, 1))
theorem d_law_827 {X : State → Nat → Nat → Prop} : decode (lw_M X).1 827 = .ok (.iaload, 1) := (by decide +kernel : decode code 827 = .ok (.iaload, 1))
theorem d_law_828 {X : State → Nat → Nat → Prop} : decode (lw_M X).1 828 = .ok (.aload_n 0, 1) := (by decide +kernel : decode code 828 = .ok (.aload_n 0, 1))
theorem d_law_829 {X : State → Nat → Nat → Prop} : decode (lw_M X).1 829 = .ok (.iload_n 3, 1) := (by decide +kernel : decode code 829 = .ok (.iload_n 3, 1))
theorem d_law_830 {X : State → Nat → Nat → Prop} : decode (lw_M X).1 830 = .ok (.iconst 2, 1) := (by decide +kernel : decode code 830 = .ok (.iconst 2, 1))
theorem d_law_831 {X : State → Nat → Nat → Prop} : decode (lw_M X).1 831 = .ok (.iadd, 1) := (by decide +kernel : decode code 831 = .ok (.iadd, 1))
theorem d_law_832 {X : State → Nat → Nat → Prop} : decode (lw_M X).1 832 = .ok (.iaload, 1) := (by decide +kernel : decode code 832 = .ok (.iaload, 1))
theorem d_law_833 {X : State → Nat → Nat → Prop} : decode (lw_M X).1 833 = .ok (.aload_n 0, 1) := (by decide +kernel : decode code 833 = .ok (.aload_n 0, 1))
theorem d_law_834 {X : State → Nat → Nat → Prop} : decode (lw_M X).1 834 = .ok (.iload_n 3, 1) := (by decide +kernel : decode code 834 = .ok (.iload_n 3, 1))
theorem d_law_835 {X : State → Nat → Nat → Prop} : decode (lw_M X).1 835 = .ok (.iconst 3, 1) := (by decide +kernel : decode code 835 = .ok (.iconst 3, 1))
theorem d_law_836 {X : State → Nat → Nat → Prop} : decode (lw_M X).1 836 = .ok (.iadd, 1) := (by decide +kernel : decode code 836 = .ok (.iadd, 1))
theorem d_law_837 {X : State → Nat → Nat → Prop} : decode (lw_M X).1 837 = .ok (.iaload, 1) := (by decide +kernel : decode code 837 = .ok (.iaload, 1))
theorem d_law_838 {X : State → Nat → Nat → Prop} : decode (lw_M X).1 838 = .ok (.aload_n 0, 1) := (by decide +kernel : decode code 838 = .ok (.aload_n 0, 1))
theorem d_law_839 {X : State → Nat → Nat → Prop} : decode (lw_M X).1 839 = .ok (.iload_n 3, 1) := (by decide +kernel : decode code 839 = .ok (.iload_n 3, 1))
theorem d_law_840 {X : State → Nat → Nat → Prop} : decode (lw_M X).1 840 = .ok (.iconst 4, 1) := (by decide +kernel : decode code 840 = .ok (.iconst 4, 1))
theorem d_law_841 {X : State → Nat → Nat → Prop} : decode (lw_M X).1 841 = .ok (.iadd, 1) := (by decide +kernel : decode code 841 = .ok (.iadd, 1))
theorem d_law_842 {X : State → Nat → Nat → Prop} : decode (lw_M X).1 842 = .ok (.iaload, 1) := (by decide +kernel : decode code 842 = .ok (.iaload, 1))
theorem d_law_843 {X : State → Nat → Nat → Prop} : decode (lw_M X).1 843 = .ok (.i2l, 1) := (by decide +kernel : decode code 843 = .ok (.i2l, 1))
theorem d_law_844 {X : State → Nat → Nat → Prop} : decode (lw_M X).1 844 = .ok (.bipush 32, 2) := (by decide +kernel : decode code 844 = .ok (.bipush 32, 2))
theorem d_law_846 {X : State → Nat → Nat → Prop} : decode (lw_M X).1 846 = .ok (.lshl, 1) := (by decide +kernel : decode code 846 = .ok (.lshl, 1))
theorem d_law_847 {X : State → Nat → Nat → Prop} : decode (lw_M X).1 847 = .ok (.aload_n 0, 1) := (by decide +kernel : decode code 847 = .ok (.aload_n 0, 1))
theorem d_law_848 {X : State → Nat → Nat → Prop} : decode (lw_M X).1 848 = .ok (.iload_n 3, 1) := (by decide +kernel : decode code 848 = .ok (.iload_n 3, 1))
theorem d_law_849 {X : State → Nat → Nat → Prop} : decode (lw_M X).1 849 = .ok (.iconst 5, 1) := (by decide +kernel : decode code 849 = .ok (.iconst 5, 1))
theorem d_law_850 {X : State → Nat → Nat → Prop} : decode (lw_M X).1 850 = .ok (.iadd, 1) := (by decide +kernel : decode code 850 = .ok (.iadd, 1))
theorem d_law_851 {X : State → Nat → Nat → Prop} : decode (lw_M X).1 851 = .ok (.iaload, 1) := (by decide +kernel : decode code 851 = .ok (.iaload, 1))
theorem d_law_852 {X : State → Nat → Nat → Prop} : decode (lw_M X).1 852 = .ok (.i2l, 1) := (by decide +kernel : decode code 852 = .ok (.i2l, 1))
theorem d_law_853 {X : State → Nat → Nat → Prop} : decode (lw_M X).1 853 = .ok (.ldc2_w 18, 3) := (by decide +kernel : decode code 853 = .ok (.ldc2_w 18, 3))
theorem d_law_856 {X : State → Nat → Nat → Prop} : decode (lw_M X).1 856 = .ok (.land, 1) := (by decide +kernel : decode code 856 = .ok (.land, 1))
theorem d_law_857 {X : State → Nat → Nat → Prop} : decode (lw_M X).1 857 = .ok (.lor, 1) := (by decide +kernel : decode code 857 = .ok (.lor, 1))
theorem d_law_858 {X : State → Nat → Nat → Prop} : decode (lw_M X).1 858 = .ok (.invokevirtual 81, 3) := (by decide +kernel : decode code 858 = .ok (.invokevirtual 81, 3))
theorem d_law_861 {X : State → Nat → Nat → Prop} : decode (lw_M X).1 861 = .ok (.lcmp, 1) := (by decide +kernel : decode code 861 = .ok (.lcmp, 1))
theorem d_law_862 {X : State → Nat → Nat → Prop} : decode (lw_M X).1 862 = .ok (.ifCond .eq 235, 3) := (by decide +kernel : decode code 862 = .ok (.ifCond .eq 235, 3))
theorem d_law_865 {X : State → Nat → Nat → Prop} : decode (lw_M X).1 865 = .ok (.iconst 0, 1) := (by decide +kernel : decode code 865 = .ok (.iconst 0, 1))
theorem d_law_866 {X : State → Nat → Nat → Prop} : decode (lw_M X).1 866 = .ok (.ireturn, 1) := (by decide +kernel : decode code 866 = .ok (.ireturn, 1))
theorem d_law_867 {X : State → Nat → Nat → Prop} : decode (lw_M X).1 867 = .ok (.aload_n 1, 1) := (by decide +kernel : decode code 867 = .ok (.aload_n 1, 1))
theorem d_law_868 {X : State → Nat → Nat → Prop} : decode (lw_M X).1 868 = .ok (.aload_n 0, 1) := (by decide +kernel : decode code 868 = .ok (.aload_n 0, 1))
theorem d_law_869 {X : State → Nat → Nat → Prop} : decode (lw_M X).1 869 = .ok (.iload_n 3, 1) := (by decide +kernel : decode code 869 = .ok (.iload_n 3, 1))
theorem d_law_870 {X : State → Nat → Nat → Prop} : decode (lw_M X).1 870 = .ok (.iconst 1, 1) := (by decide +kernel : decode code 870 = .ok (.iconst 1, 1))
theorem d_law_871 {X : State → Nat → Nat → Prop} : decode (lw_M X).1 871 = .ok (.iadd, 1) := (by decide +kernel : decode code 871 = .ok (.iadd, 1))
theorem d_law_872 {X : State → Nat → Nat → Prop} : decode (lw_M X).1 872 = .ok (.iaload, 1) := (by decide +kernel : decode code 872 = .ok (.iaload, 1))
theorem d_law_873 {X : State → Nat → Nat → Prop} : decode (lw_M X).1 873 = .ok (.aload_n 0, 1) := (by decide +kernel : decode code 873 = .ok (.aload_n 0, 1))
theorem d_law_874 {X : State → Nat → Nat → Prop} : decode (lw_M X).1 874 = .ok (.iload_n 3, 1) := (by decide +kernel : decode code 874 = .ok (.iload_n 3, 1))
theorem d_law_875 {X : State → Nat → Nat → Prop} : decode (lw_M X).1 875 = .ok (.iconst 2, 1) := (by decide +kernel : decode code 875 = .ok (.iconst 2, 1))
theorem d_law_876 {X : State → Nat → Nat → Prop} : decode (lw_M X).1 876 = .ok (.iadd, 1) := (by decide +kernel : decode code 876 = .ok (.iadd, 1))
theorem d_law_877 {X : State → Nat → Nat → Prop} : decode (lw_M X).1 877 = .ok (.iaload, 1) := (by decide +kernel : decode code 877 = .ok (.iaload, 1))
theorem d_law_878 {X : State → Nat → Nat → Prop} : decode (lw_M X).1 878 = .ok (.aload_n 0, 1) := (by decide +kernel : decode code 878 = .ok (.aload_n 0, 1))
theorem d_law_879 {X : State → Nat → Nat → Prop} : decode (lw_M X).1 879 = .ok (.iload_n 3, 1) := (by decide +kernel : decode code 879 = .ok (.iload_n 3, 1))
theorem d_law_880 {X : State → Nat → Nat → Prop} : decode (lw_M X).1 880 = .ok (.iconst 3, 1) := (by decide +kernel : decode code 880 = .ok (.iconst 3, 1))
theorem d_law_881 {X : State → Nat → Nat → Prop} : decode (lw_M X).1 881 = .ok (.iadd, 1) := (by decide +kernel : decode code 881 = .ok (.iadd, 1))
theorem d_law_882 {X : State → Nat → Nat → Prop} : decode (lw_M X).1 882 = .ok (.iaload, 1) := (by decide +kernel : decode code 882 = .ok (.iaload, 1))
theorem d_law_883 {X : State → Nat → Nat → Prop} : decode (lw_M X).1 883 = .ok (.invokevirtual 82, 3) := (by decide +kernel : decode code 883 = .ok (.invokevirtual 82, 3))
theorem d_law_886 {X : State → Nat → Nat → Prop} : decode (lw_M X).1 886 = .ok (.aload_n 2, 1) := (by decide +kernel : decode code 886 = .ok (.aload_n 2, 1))
theorem d_law_887 {X : State → Nat → Nat → Prop} : decode (lw_M X).1 887 = .ok (.aload_n 0, 1) := (by decide +kernel : decode code 887 = .ok (.aload_n 0, 1))
theorem d_law_888 {X : State → Nat → Nat → Prop} : decode (lw_M X).1 888 = .ok (.iload_n 3, 1) := (by decide +kernel : decode code 888 = .ok (.iload_n 3, 1))
theorem d_law_889 {X : State → Nat → Nat → Prop} : decode (lw_M X).1 889 = .ok (.iconst 1, 1) := (by decide +kernel : decode code 889 = .ok (.iconst 1, 1))
theorem d_law_890 {X : State → Nat → Nat → Prop} : decode (lw_M X).1 890 = .ok (.iadd, 1) := (by decide +kernel : decode code 890 = .ok (.iadd, 1))
theorem d_law_891 {X : State → Nat → Nat → Prop} : decode (lw_M X).1 891 = .ok (.iaload, 1) := (by decide +kernel : decode code 891 = .ok (.iaload, 1))
theorem d_law_892 {X : State → Nat → Nat → Prop} : decode (lw_M X).1 892 = .ok (.aload_n 0, 1) := (by decide +kernel : decode code 892 = .ok (.aload_n 0, 1))
theorem d_law_893 {X : State → Nat → Nat → Prop} : decode (lw_M X).1 893 = .ok (.iload_n 3, 1) := (by decide +kernel : decode code 893 = .ok (.iload_n 3, 1))
theorem d_law_894 {X : State → Nat → Nat → Prop} : decode (lw_M X).1 894 = .ok (.iconst 2, 1) := (by decide +kernel : decode code 894 = .ok (.iconst 2, 1))
theorem d_law_895 {X : State → Nat → Nat → Prop} : decode (lw_M X).1 895 = .ok (.iadd, 1) := (by decide +kernel : decode code 895 = .ok (.iadd, 1))
theorem d_law_896 {X : State → Nat → Nat → Prop} : decode (lw_M X).1 896 = .ok (.iaload, 1) := (by decide +kernel : decode code 896 = .ok (.iaload, 1))
theorem d_law_897 {X : State → Nat → Nat → Prop} : decode (lw_M X).1 897 = .ok (.aload_n 0, 1) := (by decide +kernel : decode code 897 = .ok (.aload_n 0, 1))
theorem d_law_898 {X : State → Nat → Nat → Prop} : decode (lw_M X).1 898 = .ok (.iload_n 3, 1) := (by decide +kernel : decode code 898 = .ok (.iload_n 3, 1))
theorem d_law_899 {X : State → Nat → Nat → Prop} : decode (lw_M X).1 899 = .ok (.iconst 3, 1) := (by decide +kernel : decode code 899 = .ok (.iconst 3, 1))
theorem d_law_900 {X : State → Nat → Nat → Prop} : decode (lw_M X).1 900 = .ok (.iadd, 1) := (by decide +kernel : decode code 900 = .ok (.iadd, 1))
theorem d_law_901 {X : State → Nat → Nat → Prop} : decode (lw_M X).1 901 = .ok (.iaload, 1) := (by decide +kernel : decode code 901 = .ok (.iaload, 1))
theorem d_law_902 {X : State → Nat → Nat → Prop} : decode (lw_M X).1 902 = .ok (.invokevirtual 85, 3) := (by decide +kernel : decode code 902 = .ok (.invokevirtual 85, 3))
theorem d_law_905 {X : State → Nat → Nat → Prop} : decode (lw_M X).1 905 = .ok (.lcmp, 1) := (by decide +kernel : decode code 905 = .ok (.lcmp, 1))
theorem d_law_906 {X : State → Nat → Nat → Prop} : decode (lw_M X).1 906 = .ok (.ifCond .eq 191, 3) := (by decide +kernel : decode code 906 = .ok (.ifCond .eq 191, 3))
theorem d_law_909 {X : State → Nat → Nat → Prop} : decode (lw_M X).1 909 = .ok (.iconst 0, 1) := (by decide +kernel : decode code 909 = .ok (.iconst 0, 1))
theorem d_law_910 {X : State → Nat → Nat → Prop} : decode (lw_M X).1 910 = .ok (.ireturn, 1) := (by decide +kernel : decode code 910 = .ok (.ireturn, 1))
theorem d_law_911 {X : State → Nat → Nat → Prop} : decode (lw_M X).1 911 = .ok (.aload_n 1, 1) := (by decide +kernel : decode code 911 = .ok (.aload_n 1, 1))
theorem d_law_912 {X : State → Nat → Nat → Prop} : decode (lw_M X).1 912 = .ok (.aload_n 0, 1) := (by decide +kernel : decode code 912 = .ok (.aload_n 0, 1))
theorem d_law_913 {X : State → Nat → Nat → Prop} : decode (lw_M X).1 913 = .ok (.iload_n 3, 1) := (by decide +kernel : decode code 913 = .ok (.iload_n 3, 1))
theorem d_law_914 {X : State → Nat → Nat → Prop} : decode (lw_M X).1 914 = .ok (.iconst 1, 1) := (by decide +kernel : decode code 914 = .ok (.iconst 1, 1))
theorem d_law_915 {X : State → Nat → Nat → Prop} : decode (lw_M X).1 915 = .ok (.iadd, 1) := (by decide +kernel : decode code 915 = .ok (.iadd, 1))
theorem d_law_916 {X : State → Nat → Nat → Prop} : decode (lw_M X).1 916 = .ok (.iaload, 1) := (by decide +kernel : decode code 916 = .ok (.iaload, 1))
theorem d_law_917 {X : State → Nat → Nat → Prop} : decode (lw_M X).1 917 = .ok (.aload_n 0, 1) := (by decide +kernel : decode code 917 = .ok (.aload_n 0, 1))
theorem d_law_918 {X : State → Nat → Nat → Prop} : decode (lw_M X).1 918 = .ok (.iload_n 3, 1) := (by decide +kernel : decode code 918 = .ok (.iload_n 3, 1))
theorem d_law_919 {X : State → Nat → Nat → Prop} : decode (lw_M X).1 919 = .ok (.iconst 2, 1) := (by decide +kernel : decode code 919 = .ok (.iconst 2, 1))
theorem d_law_920 {X : State → Nat → Nat → Prop} : decode (lw_M X).1 920 = .ok (.iadd, 1) := (by decide +kernel : decode code 920 = .ok (.iadd, 1))
theorem d_law_921 {X : State → Nat → Nat → Prop} : decode (lw_M X).1 921 = .ok (.iaload, 1) := (by decide +kernel : decode code 921 = .ok (.iaload, 1))
theorem d_law_922 {X : State → Nat → Nat → Prop} : decode (lw_M X).1 922 = .ok (.aload_n 0, 1) := (by decide +kernel : decode code 922 = .ok (.aload_n 0, 1))
theorem d_law_923 {X : State → Nat → Nat → Prop} : decode (lw_M X).1 923 = .ok (.iload_n 3, 1) := (by decide +kernel : decode code 923 = .ok (.iload_n 3, 1))
theorem d_law_924 {X : State → Nat → Nat → Prop} : decode (lw_M X).1 924 = .ok (.iconst 3, 1) := (by decide +kernel : decode code 924 = .ok (.iconst 3, 1))
theorem d_law_925 {X : State → Nat → Nat → Prop} : decode (lw_M X).1 925 = .ok (.iadd, 1) := (by decide +kernel : decode code 925 = .ok (.iadd, 1))
theorem d_law_926 {X : State → Nat → Nat → Prop} : decode (lw_M X).1 926 = .ok (.iaload, 1) := (by decide +kernel : decode code 926 = .ok (.iaload, 1))
theorem d_law_927 {X : State → Nat → Nat → Prop} : decode (lw_M X).1 927 = .ok (.aload_n 0, 1) := (by decide +kernel : decode code 927 = .ok (.aload_n 0, 1))
theorem d_law_928 {X : State → Nat → Nat → Prop} : decode (lw_M X).1 928 = .ok (.iload_n 3, 1) := (by decide +kernel : decode code 928 = .ok (.iload_n 3, 1))
theorem d_law_929 {X : State → Nat → Nat → Prop} : decode (lw_M X).1 929 = .ok (.iconst 4, 1) := (by decide +kernel : decode code 929 = .ok (.iconst 4, 1))
theorem d_law_930 {X : State → Nat → Nat → Prop} : decode (lw_M X).1 930 = .ok (.iadd, 1) := (by decide +kernel : decode code 930 = .ok (.iadd, 1))
theorem d_law_931 {X : State → Nat → Nat → Prop} : decode (lw_M X).1 931 = .ok (.iaload, 1) := (by decide +kernel : decode code 931 = .ok (.iaload, 1))
theorem d_law_932 {X : State → Nat → Nat → Prop} : decode (lw_M X).1 932 = .ok (.invokevirtual 86, 3) := (by decide +kernel : decode code 932 = .ok (.invokevirtual 86, 3))
theorem d_law_935 {X : State → Nat → Nat → Prop} : decode (lw_M X).1 935 = .ok (.aload_n 2, 1) := (by decide +kernel : decode code 935 = .ok (.aload_n 2, 1))
theorem d_law_936 {X : State → Nat → Nat → Prop} : decode (lw_M X).1 936 = .ok (.aload_n 0, 1) := (by decide +kernel : decode code 936 = .ok (.aload_n 0, 1))
theorem d_law_937 {X : State → Nat → Nat → Prop} : decode (lw_M X).1 937 = .ok (.iload_n 3, 1) := (by decide +kernel : decode code 937 = .ok (.iload_n 3, 1))
theorem d_law_938 {X : State → Nat → Nat → Prop} : decode (lw_M X).1 938 = .ok (.iconst 1, 1) := (by decide +kernel : decode code 938 = .ok (.iconst 1, 1))
theorem d_law_939 {X : State → Nat → Nat → Prop} : decode (lw_M X).1 939 = .ok (.iadd, 1) := (by decide +kernel : decode code 939 = .ok (.iadd, 1))
theorem d_law_940 {X : State → Nat → Nat → Prop} : decode (lw_M X).1 940 = .ok (.iaload, 1) := (by decide +kernel : decode code 940 = .ok (.iaload, 1))
theorem d_law_941 {X : State → Nat → Nat → Prop} : decode (lw_M X).1 941 = .ok (.aload_n 0, 1) := (by decide +kernel : decode code 941 = .ok (.aload_n 0, 1))
theorem d_law_942 {X : State → Nat → Nat → Prop} : decode (lw_M X).1 942 = .ok (.iload_n 3, 1) := (by decide +kernel : decode code 942 = .ok (.iload_n 3, 1))
theorem d_law_943 {X : State → Nat → Nat → Prop} : decode (lw_M X).1 943 = .ok (.iconst 2, 1) := (by decide +kernel : decode code 943 = .ok (.iconst 2, 1))
theorem d_law_944 {X : State → Nat → Nat → Prop} : decode (lw_M X).1 944 = .ok (.iadd, 1) := (by decide +kernel : decode code 944 = .ok (.iadd, 1))
theorem d_law_945 {X : State → Nat → Nat → Prop} : decode (lw_M X).1 945 = .ok (.iaload, 1) := (by decide +kernel : decode code 945 = .ok (.iaload, 1))
theorem d_law_946 {X : State → Nat → Nat → Prop} : decode (lw_M X).1 946 = .ok (.aload_n 0, 1) := (by decide +kernel : decode code 946 = .ok (.aload_n 0, 1))
theorem d_law_947 {X : State → Nat → Nat → Prop} : decode (lw_M X).1 947 = .ok (.iload_n 3, 1) := (by decide +kernel : decode code 947 = .ok (.iload_n 3, 1))
theorem d_law_948 {X : State → Nat → Nat → Prop} : decode (lw_M X).1 948 = .ok (.iconst 3, 1) := (by decide +kernel : decode code 948 = .ok (.iconst 3, 1))
theorem d_law_949 {X : State → Nat → Nat → Prop} : decode (lw_M X).1 949 = .ok (.iadd, 1) := (by decide +kernel : decode code 949 = .ok (.iadd, 1))
theorem d_law_950 {X : State → Nat → Nat → Prop} : decode (lw_M X).1 950 = .ok (.iaload, 1) := (by decide +kernel : decode code 950 = .ok (.iaload, 1))
theorem d_law_951 {X : State → Nat → Nat → Prop} : decode (lw_M X).1 951 = .ok (.aload_n 0, 1) := (by decide +kernel : decode code 951 = .ok (.aload_n 0, 1))
theorem d_law_952 {X : State → Nat → Nat → Prop} : decode (lw_M X).1 952 = .ok (.iload_n 3, 1) := (by decide +kernel : decode code 952 = .ok (.iload_n 3, 1))
theorem d_law_953 {X : State → Nat → Nat → Prop} : decode (lw_M X).1 953 = .ok (.iconst 4, 1) := (by decide +kernel : decode code 953 = .ok (.iconst 4, 1))
theorem d_law_954 {X : State → Nat → Nat → Prop} : decode (lw_M X).1 954 = .ok (.iadd, 1) := (by decide +kernel : decode code 954 = .ok (.iadd, 1))
theorem d_law_955 {X : State → Nat → Nat → Prop} : decode (lw_M X).1 955 = .ok (.iaload, 1) := (by decide +kernel : decode code 955 = .ok (.iaload, 1))
theorem d_law_956 {X : State → Nat → Nat → Prop} : decode (lw_M X).1 956 = .ok (.invokevirtual 90, 3) := (by decide +kernel : decode code 956 = .ok (.invokevirtual 90, 3))
theorem d_law_959 {X : State → Nat → Nat → Prop} : decode (lw_M X).1 959 = .ok (.lcmp, 1) := (by decide +kernel : decode code 959 = .ok (.lcmp, 1))
theorem d_law_960 {X : State → Nat → Nat → Prop} : decode (lw_M X).1 960 = .ok (.ifCond .eq 137, 3) := (by decide +kernel : decode code 960 = .ok (.ifCond .eq 137, 3))
theorem d_law_963 {X : State → Nat → Nat → Prop} : decode (lw_M X).1 963 = .ok (.iconst 0, 1) := (by decide +kernel : decode code 963 = .ok (.iconst 0, 1))
theorem d_law_964 {X : State → Nat → Nat → Prop} : decode (lw_M X).1 964 = .ok (.ireturn, 1) := (by decide +kernel : decode code 964 = .ok (.ireturn, 1))
theorem d_law_965 {X : State → Nat → Nat → Prop} : decode (lw_M X).1 965 = .ok (.aload_n 1, 1) := (by decide +kernel : decode code 965 = .ok (.aload_n 1, 1))
theorem d_law_966 {X : State → Nat → Nat → Prop} : decode (lw_M X).1 966 = .ok (.aload_n 0, 1) := (by decide +kernel : decode code 966 = .ok (.aload_n 0, 1))
theorem d_law_967 {X : State → Nat → Nat → Prop} : decode (lw_M X).1 967 = .ok (.iload_n 3, 1) := (by decide +kernel : decode code 967 = .ok (.iload_n 3, 1))
theorem d_law_968 {X : State → Nat → Nat → Prop} : decode (lw_M X).1 968 = .ok (.iconst 1, 1) := (by decide +kernel : decode code 968 = .ok (.iconst 1, 1))
theorem d_law_969 {X : State → Nat → Nat → Prop} : decode (lw_M X).1 969 = .ok (.iadd, 1) := (by decide +kernel : decode code 969 = .ok (.iadd, 1))
theorem d_law_970 {X : State → Nat → Nat → Prop} : decode (lw_M X).1 970 = .ok (.iaload, 1) := (by decide +kernel : decode code 970 = .ok (.iaload, 1))
theorem d_law_971 {X : State → Nat → Nat → Prop} : decode (lw_M X).1 971 = .ok (.i2l, 1) := (by decide +kernel : decode code 971 = .ok (.i2l, 1))
theorem d_law_972 {X : State → Nat → Nat → Prop} : decode (lw_M X).1 972 = .ok (.bipush 32, 2) := (by decide +kernel : decode code 972 = .ok (.bipush 32, 2))
theorem d_law_974 {X : State → Nat → Nat → Prop} : decode (lw_M X).1 974 = .ok (.lshl, 1) := (by decide +kernel : decode code 974 = .ok (.lshl, 1))
theorem d_law_975 {X : State → Nat → Nat → Prop} : decode (lw_M X).1 975 = .ok (.aload_n 0, 1) := (by decide +kernel : decode code 975 = .ok (.aload_n 0, 1))
theorem d_law_976 {X : State → Nat → Nat → Prop} : decode (lw_M X).1 976 = .ok (.iload_n 3, 1) := (by decide +kernel : decode code 976 = .ok (.iload_n 3, 1))
theorem d_law_977 {X : State → Nat → Nat → Prop} : decode (lw_M X).1 977 = .ok (.iconst 2, 1) := (by decide +kernel : decode code 977 = .ok (.iconst 2, 1))
theorem d_law_978 {X : State → Nat → Nat → Prop} : decode (lw_M X).1 978 = .ok (.iadd, 1) := (by decide +kernel : decode code 978 = .ok (.iadd, 1))
theorem d_law_979 {X : State → Nat → Nat → Prop} : decode (lw_M X).1 979 = .ok (.iaload, 1) := (by decide +kernel : decode code 979 = .ok (.iaload, 1))
theorem d_law_980 {X : State → Nat → Nat → Prop} : decode (lw_M X).1 980 = .ok (.i2l, 1) := (by decide +kernel : decode code 980 = .ok (.i2l, 1))
theorem d_law_981 {X : State → Nat → Nat → Prop} : decode (lw_M X).1 981 = .ok (.ldc2_w 18, 3) := (by decide +kernel : decode code 981 = .ok (.ldc2_w 18, 3))
theorem d_law_984 {X : State → Nat → Nat → Prop} : decode (lw_M X).1 984 = .ok (.land, 1) := (by decide +kernel : decode code 984 = .ok (.land, 1))
theorem d_law_985 {X : State → Nat → Nat → Prop} : decode (lw_M X).1 985 = .ok (.lor, 1) := (by decide +kernel : decode code 985 = .ok (.lor, 1))
theorem d_law_986 {X : State → Nat → Nat → Prop} : decode (lw_M X).1 986 = .ok (.aload_n 0, 1) := (by decide +kernel : decode code 986 = .ok (.aload_n 0, 1))
theorem d_law_987 {X : State → Nat → Nat → Prop} : decode (lw_M X).1 987 = .ok (.iload_n 3, 1) := (by decide +kernel : decode code 987 = .ok (.iload_n 3, 1))
theorem d_law_988 {X : State → Nat → Nat → Prop} : decode (lw_M X).1 988 = .ok (.iconst 3, 1) := (by decide +kernel : decode code 988 = .ok (.iconst 3, 1))
theorem d_law_989 {X : State → Nat → Nat → Prop} : decode (lw_M X).1 989 = .ok (.iadd, 1) := (by decide +kernel : decode code 989 = .ok (.iadd, 1))
theorem d_law_990 {X : State → Nat → Nat → Prop} : decode (lw_M X).1 990 = .ok (.iaload, 1) := (by decide +kernel : decode code 990 = .ok (.iaload, 1))
theorem d_law_991 {X : State → Nat → Nat → Prop} : decode (lw_M X).1 991 = .ok (.invokevirtual 91, 3) := (by decide +kernel : decode code 991 = .ok (.invokevirtual 91, 3))
theorem d_law_994 {X : State → Nat → Nat → Prop} : decode (lw_M X).1 994 = .ok (.aload_n 2, 1) := (by decide +kernel : decode code 994 = .ok (.aload_n 2, 1))
theorem d_law_995 {X : State → Nat → Nat → Prop} : decode (lw_M X).1 995 = .ok (.aload_n 0, 1) := (by decide +kernel : decode code 995 = .ok (.aload_n 0, 1))
theorem d_law_996 {X : State → Nat → Nat → Prop} : decode (lw_M X).1 996 = .ok (.iload_n 3, 1) := (by decide +kernel : decode code 996 = .ok (.iload_n 3, 1))
theorem d_law_997 {X : State → Nat → Nat → Prop} : decode (lw_M X).1 997 = .ok (.iconst 1, 1) := (by decide +kernel : decode code 997 = .ok (.iconst 1, 1))
theorem d_law_998 {X : State → Nat → Nat → Prop} : decode (lw_M X).1 998 = .ok (.iadd, 1) := (by decide +kernel : decode code 998 = .ok (.iadd, 1))
theorem d_law_999 {X : State → Nat → Nat → Prop} : decode (lw_M X).1 999 = .ok (.iaload, 1) := (by decide +kernel : decode code 999 = .ok (.iaload, 1))
theorem d_law_1000 {X : State → Nat → Nat → Prop} : decode (lw_M X).1 1000 = .ok (.i2l, 1) := (by decide +kernel : decode code 1000 = .ok (.i2l, 1))
theorem d_law_1001 {X : State → Nat → Nat → Prop} : decode (lw_M X).1 1001 = .ok (.bipush 32, 2) := (by decide +kernel : decode code 1001 = .ok (.bipush 32, 2))
theorem d_law_1003 {X : State → Nat → Nat → Prop} : decode (lw_M X).1 1003 = .ok (.lshl, 1) := (by decide +kernel : decode code 1003 = .ok (.lshl, 1))
theorem d_law_1004 {X : State → Nat → Nat → Prop} : decode (lw_M X).1 1004 = .ok (.aload_n 0, 1) := (by decide +kernel : decode code 1004 = .ok (.aload_n 0, 1))
theorem d_law_1005 {X : State → Nat → Nat → Prop} : decode (lw_M X).1 1005 = .ok (.iload_n 3, 1) := (by decide +kernel : decode code 1005 = .ok (.iload_n 3, 1))
theorem d_law_1006 {X : State → Nat → Nat → Prop} : decode (lw_M X).1 1006 = .ok (.iconst 2, 1) := (by decide +kernel : decode code 1006 = .ok (.iconst 2, 1))
theorem d_law_1007 {X : State → Nat → Nat → Prop} : decode (lw_M X).1 1007 = .ok (.iadd, 1) := (by decide +kernel : decode code 1007 = .ok (.iadd, 1))
theorem d_law_1008 {X : State → Nat → Nat → Prop} : decode (lw_M X).1 1008 = .ok (.iaload, 1) := (by decide +kernel : decode code 1008 = .ok (.iaload, 1))
theorem d_law_1009 {X : State → Nat → Nat → Prop} : decode (lw_M X).1 1009 = .ok (.i2l, 1) := (by decide +kernel : decode code 1009 = .ok (.i2l, 1))
theorem d_law_1010 {X : State → Nat → Nat → Prop} : decode (lw_M X).1 1010 = .ok (.ldc2_w 18, 3) := (by decide +kernel : decode code 1010 = .ok (.ldc2_w 18, 3))
theorem d_law_1013 {X : State → Nat → Nat → Prop} : decode (lw_M X).1 1013 = .ok (.land, 1) := (by decide +kernel : decode code 1013 = .ok (.land, 1))
theorem d_law_1014 {X : State → Nat → Nat → Prop} : decode (lw_M X).1 1014 = .ok (.lor, 1) := (by decide +kernel : decode code 1014 = .ok (.lor, 1))
theorem d_law_1015 {X : State → Nat → Nat → Prop} : decode (lw_M X).1 1015 = .ok (.aload_n 0, 1) := (by decide +kernel : decode code 1015 = .ok (.aload_n 0, 1))
theorem d_law_1016 {X : State → Nat → Nat → Prop} : decode (lw_M X).1 1016 = .ok (.iload_n 3, 1) := (by decide +kernel : decode code 1016 = .ok (.iload_n 3, 1))
theorem d_law_1017 {X : State → Nat → Nat → Prop} : decode (lw_M X).1 1017 = .ok (.iconst 3, 1) := (by decide +kernel : decode code 1017 = .ok (.iconst 3, 1))
theorem d_law_1018 {X : State → Nat → Nat → Prop} : decode (lw_M X).1 1018 = .ok (.iadd, 1) := (by decide +kernel : decode code 1018 = .ok (.iadd, 1))
theorem d_law_1019 {X : State → Nat → Nat → Prop} : decode (lw_M X).1 1019 = .ok (.iaload, 1) := (by decide +kernel : decode code 1019 = .ok (.iaload, 1))
theorem d_law_1020 {X : State → Nat → Nat → Prop} : decode (lw_M X).1 1020 = .ok (.invokevirtual 95, 3) := (by decide +kernel : decode code 1020 = .ok (.invokevirtual 95, 3))
theorem d_law_1023 {X : State → Nat → Nat → Prop} : decode (lw_M X).1 1023 = .ok (.if_icmp .eq 74, 3) := (by decide +kernel : decode code 1023 = .ok (.if_icmp .eq 74, 3))
theorem d_law_1026 {X : State → Nat → Nat → Prop} : decode (lw_M X).1 1026 = .ok (.iconst 0, 1) := (by decide +kernel : decode code 1026 = .ok (.iconst 0, 1))
theorem d_law_1027 {X : State → Nat → Nat → Prop} : decode (lw_M X).1 1027 = .ok (.ireturn, 1) := (by decide +kernel : decode code 1027 = .ok (.ireturn, 1))
theorem d_law_1028 {X : State → Nat → Nat → Prop} : decode (lw_M X).1 1028 = .ok (.aload_n 1, 1) := (by decide +kernel : decode code 1028 = .ok (.aload_n 1, 1))
theorem d_law_1029 {X : State → Nat → Nat → Prop} : decode (lw_M X).1 1029 = .ok (.aload_n 0, 1) := (by decide +kernel : decode code 1029 = .ok (.aload_n 0, 1))
theorem d_law_1030 {X : State → Nat → Nat → Prop} : decode (lw_M X).1 1030 = .ok (.iload_n 3, 1) := (by decide +kernel : decode code 1030 = .ok (.iload_n 3, 1))
theorem d_law_1031 {X : State → Nat → Nat → Prop} : decode (lw_M X).1 1031 = .ok (.iconst 1, 1) := (by decide +kernel : decode code 1031 = .ok (.iconst 1, 1))
theorem d_law_1032 {X : State → Nat → Nat → Prop} : decode (lw_M X).1 1032 = .ok (.iadd, 1) := (by decide +kernel : decode code 1032 = .ok (.iadd, 1))
theorem d_law_1033 {X : State → Nat → Nat → Prop} : decode (lw_M X).1 1033 = .ok (.iaload, 1) := (by decide +kernel : decode code 1033 = .ok (.iaload, 1))
theorem d_law_1034 {X : State → Nat → Nat → Prop} : decode (lw_M X).1 1034 = .ok (.invokevirtual 96, 3) := (by decide +kernel : decode code 1034 = .ok (.invokevirtual 96, 3))
theorem d_law_1037 {X : State → Nat → Nat → Prop} : decode (lw_M X).1 1037 = .ok (.aload_n 2, 1) := (by decide +kernel : decode code 1037 = .ok (.aload_n 2, 1))
theorem d_law_1038 {X : State → Nat → Nat → Prop} : decode (lw_M X).1 1038 = .ok (.aload_n 0, 1) := (by decide +kernel : decode code 1038 = .ok (.aload_n 0, 1))
theorem d_law_1039 {X : State → Nat → Nat → Prop} : decode (lw_M X).1 1039 = .ok (.iload_n 3, 1) := (by decide +kernel : decode code 1039 = .ok (.iload_n 3, 1))
theorem d_law_1040 {X : State → Nat → Nat → Prop} : decode (lw_M X).1 1040 = .ok (.iconst 1, 1) := (by decide +kernel : decode code 1040 = .ok (.iconst 1, 1))
theorem d_law_1041 {X : State → Nat → Nat → Prop} : decode (lw_M X).1 1041 = .ok (.iadd, 1) := (by decide +kernel : decode code 1041 = .ok (.iadd, 1))
theorem d_law_1042 {X : State → Nat → Nat → Prop} : decode (lw_M X).1 1042 = .ok (.iaload, 1) := (by decide +kernel : decode code 1042 = .ok (.iaload, 1))
theorem d_law_1043 {X : State → Nat → Nat → Prop} : decode (lw_M X).1 1043 = .ok (.invokevirtual 99, 3) := (by decide +kernel : decode code 1043 = .ok (.invokevirtual 99, 3))
theorem d_law_1046 {X : State → Nat → Nat → Prop} : decode (lw_M X).1 1046 = .ok (.if_icmp .eq 51, 3) := (by decide +kernel : decode code 1046 = .ok (.if_icmp .eq 51, 3))
theorem d_law_1049 {X : State → Nat → Nat → Prop} : decode (lw_M X).1 1049 = .ok (.iconst 0, 1) := (by decide +kernel : decode code 1049 = .ok (.iconst 0, 1))
theorem d_law_1050 {X : State → Nat → Nat → Prop} : decode (lw_M X).1 1050 = .ok (.ireturn, 1) := (by decide +kernel : decode code 1050 = .ok (.ireturn, 1))
theorem d_law_1051 {X : State → Nat → Nat → Prop} : decode (lw_M X).1 1051 = .ok (.aload_n 1, 1) := (by decide +kernel : decode code 1051 = .ok (.aload_n 1, 1))
theorem d_law_1052 {X : State → Nat → Nat → Prop} : decode (lw_M X).1 1052 = .ok (.aload_n 0, 1) := (by decide +kernel : decode code 1052 = .ok (.aload_n 0, 1))
theorem d_law_1053 {X : State → Nat → Nat → Prop} : decode (lw_M X).1 1053 = .ok (.iload_n 3, 1) := (by decide +kernel : decode code 1053 = .ok (.iload_n 3, 1))
theorem d_law_1054 {X : State → Nat → Nat → Prop} : decode (lw_M X).1 1054 = .ok (.iconst 1, 1) := (by decide +kernel : decode code 1054 = .ok (.iconst 1, 1))
theorem d_law_1055 {X : State → Nat → Nat → Prop} : decode (lw_M X).1 1055 = .ok (.iadd, 1) := (by decide +kernel : decode code 1055 = .ok (.iadd, 1))
theorem d_law_1056 {X : State → Nat → Nat → Prop} : decode (lw_M X).1 1056 = .ok (.iaload, 1) := (by decide +kernel : decode code 1056 = .ok (.iaload, 1))
theorem d_law_1057 {X : State → Nat → Nat → Prop} : decode (lw_M X).1 1057 = .ok (.invokevirtual 100, 3) := (by decide +kernel : decode code 1057 = .ok (.invokevirtual 100, 3))
theorem d_law_1060 {X : State → Nat → Nat → Prop} : decode (lw_M X).1 1060 = .ok (.aload_n 2, 1) := (by decide +kernel : decode code 1060 = .ok (.aload_n 2, 1))
theorem d_law_1061 {X : State → Nat → Nat → Prop} : decode (lw_M X).1 1061 = .ok (.aload_n 0, 1) := (by decide +kernel : decode code 1061 = .ok (.aload_n 0, 1))
theorem d_law_1062 {X : State → Nat → Nat → Prop} : decode (lw_M X).1 1062 = .ok (.iload_n 3, 1) := (by decide +kernel : decode code 1062 = .ok (.iload_n 3, 1))
theorem d_law_1063 {X : State → Nat → Nat → Prop} : decode (lw_M X).1 1063 = .ok (.iconst 1, 1) := (by decide +kernel : decode code 1063 = .ok (.iconst 1, 1))
theorem d_law_1064 {X : State → Nat → Nat → Prop} : decode (lw_M X).1 1064 = .ok (.iadd, 1) := (by decide +kernel : decode code 1064 = .ok (.iadd, 1))
theorem d_law_1065 {X : State → Nat → Nat → Prop} : decode (lw_M X).1 1065 = .ok (.iaload, 1) := (by decide +kernel : decode code 1065 = .ok (.iaload, 1))
theorem d_law_1066 {X : State → Nat → Nat → Prop} : decode (lw_M X).1 1066 = .ok (.invokevirtual 104, 3) := (by decide +kernel : decode code 1066 = .ok (.invokevirtual 104, 3))
theorem d_law_1069 {X : State → Nat → Nat → Prop} : decode (lw_M X).1 1069 = .ok (.if_icmp .eq 28, 3) := (by decide +kernel : decode code 1069 = .ok (.if_icmp .eq 28, 3))
theorem d_law_1072 {X : State → Nat → Nat → Prop} : decode (lw_M X).1 1072 = .ok (.iconst 0, 1) := (by decide +kernel : decode code 1072 = .ok (.iconst 0, 1))
theorem d_law_1073 {X : State → Nat → Nat → Prop} : decode (lw_M X).1 1073 = .ok (.ireturn, 1) := (by decide +kernel : decode code 1073 = .ok (.ireturn, 1))
theorem d_law_1074 {X : State → Nat → Nat → Prop} : decode (lw_M X).1 1074 = .ok (.aload_n 1, 1) := (by decide +kernel : decode code 1074 = .ok (.aload_n 1, 1))
theorem d_law_1075 {X : State → Nat → Nat → Prop} : decode (lw_M X).1 1075 = .ok (.aload_n 0, 1) := (by decide +kernel : decode code 1075 = .ok (.aload_n 0, 1))
theorem d_law_1076 {X : State → Nat → Nat → Prop} : decode (lw_M X).1 1076 = .ok (.iload_n 3, 1) := (by decide +kernel : decode code 1076 = .ok (.iload_n 3, 1))
theorem d_law_1077 {X : State → Nat → Nat → Prop} : decode (lw_M X).1 1077 = .ok (.iconst 1, 1) := (by decide +kernel : decode code 1077 = .ok (.iconst 1, 1))
theorem d_law_1078 {X : State → Nat → Nat → Prop} : decode (lw_M X).1 1078 = .ok (.iadd, 1) := (by decide +kernel : decode code 1078 = .ok (.iadd, 1))
theorem d_law_1079 {X : State → Nat → Nat → Prop} : decode (lw_M X).1 1079 = .ok (.iaload, 1) := (by decide +kernel : decode code 1079 = .ok (.iaload, 1))
theorem d_law_1080 {X : State → Nat → Nat → Prop} : decode (lw_M X).1 1080 = .ok (.invokevirtual 105, 3) := (by decide +kernel : decode code 1080 = .ok (.invokevirtual 105, 3))
theorem d_law_1083 {X : State → Nat → Nat → Prop} : decode (lw_M X).1 1083 = .ok (.aload_n 2, 1) := (by decide +kernel : decode code 1083 = .ok (.aload_n 2, 1))
theorem d_law_1084 {X : State → Nat → Nat → Prop} : decode (lw_M X).1 1084 = .ok (.aload_n 0, 1) := (by decide +kernel : decode code 1084 = .ok (.aload_n 0, 1))
theorem d_law_1085 {X : State → Nat → Nat → Prop} : decode (lw_M X).1 1085 = .ok (.iload_n 3, 1) := (by decide +kernel : decode code 1085 = .ok (.iload_n 3, 1))
theorem d_law_1086 {X : State → Nat → Nat → Prop} : decode (lw_M X).1 1086 = .ok (.iconst 1, 1) := (by decide +kernel : decode code 1086 = .ok (.iconst 1, 1))
theorem d_law_1087 {X : State → Nat → Nat → Prop} : decode (lw_M X).1 1087 = .ok (.iadd, 1) := (by decide +kernel : decode code 1087 = .ok (.iadd, 1))
theorem d_law_1088 {X : State → Nat → Nat → Prop} : decode (lw_M X).1 1088 = .ok (.iaload, 1) := (by decide +kernel : decode code 1088 = .ok (.iaload, 1))
theorem d_law_1089 {X : State → Nat → Nat → Prop} : decode (lw_M X).1 1089 = .ok (.invokevirtual 108, 3) := (by decide +kernel : decode code 1089 = .ok (.invokevirtual 108, 3))
theorem d_law_1092 {X : State → Nat → Nat → Prop} : decode (lw_M X).1 1092 = .ok (.if_icmp .eq 5, 3) := (by decide +kernel : decode code 1092 = .ok (.if_icmp .eq 5, 3))
theorem d_law_1095 {X : State → Nat → Nat → Prop} : decode (lw_M X).1 1095 = .ok (.iconst 0, 1) := (by decide +kernel : decode code 1095 = .ok (.iconst 0, 1))
theorem d_law_1096 {X : State → Nat → Nat → Prop} : decode (lw_M X).1 1096 = .ok (.ireturn, 1) := (by decide +kernel : decode code 1096 = .ok (.ireturn, 1))
theorem d_law_1097 {X : State → Nat → Nat → Prop} : decode (lw_M X).1 1097 = .ok (.iinc 3 7, 3) := (by decide +kernel : decode code 1097 = .ok (.iinc 3 7, 3))
theorem d_law_1100 {X : State → Nat → Nat → Prop} : decode (lw_M X).1 1100 = .ok (.goto (-1082), 3) := (by decide +kernel : decode code 1100 = .ok (.goto (-1082), 3))
theorem d_law_1103 {X : State → Nat → Nat → Prop} : decode (lw_M X).1 1103 = .ok (.iconst 1, 1) := (by decide +kernel : decode code 1103 = .ok (.iconst 1, 1))
theorem d_law_1104 {X : State → Nat → Nat → Prop} : decode (lw_M X).1 1104 = .ok (.ireturn, 1) := (by decide +kernel : decode code 1104 = .ok (.ireturn, 1))
end
section
/-! THE WORLDS. A state of the class, of the reference: arrays of ints (also booleans) by the number of their cell, arrays of longs likewise, single ints. -/
abbrev cs_S : Type := (Nat → Nat → Int32) × (Nat → Nat → Int64) × (Nat → Int32)
def cs_I (S : cs_S) (k : Nat) (g : Nat → Int32) : cs_S := (va_up S.1 k g, S.2.1, S.2.2)
def cs_J (S : cs_S) (k : Nat) (g : Nat → Int64) : cs_S := (S.1, va_up S.2.1 k g, S.2.2)
def cs_F (S : cs_S) (k : Nat) (x : Int32) : cs_S := (S.1, S.2.1, va_up S.2.2 k x)
def cs_w (S : cs_S) : List am_C := [
  .inr (6, [.ref 1, .ref 8, .ref 14, .ref 15, .ref 16, .ref 32, .ref 34]),
  .inr (2, [.ref 2, .ref 3, .ref 4, .ref 5, .ref 6, .ref 7, .int (S.2.2 1)]),
  .inl (0, 25, .inl (S.1 2)),
  .inl (0, 5, .inl (S.1 3)),
  .inl (2, 20, .inl (S.1 4)),
  .inl (2, 5, .inl (S.1 5)),
  .inl (0, 5, .inl (S.1 6)),
  .inl (2, 5, .inl (S.1 7)),
  .inr (1, [.ref 9, .ref 10, .ref 11, .ref 12, .ref 13, .int (S.2.2 8)]),
  .inl (0, 60, .inl (S.1 9)),
  .inl (0, 60, .inl (S.1 10)),
  .inl (0, 60, .inl (S.1 11)),
  .inl (0, 60, .inl (S.1 12)),
  .inl (1, 60, .inr (.inl (S.2.1 13))),
  .inl (1, 10, .inr (.inl (S.2.1 14))),
  .inl (1, 40, .inr (.inl (S.2.1 15))),
  .inr (3, [.ref 17, .ref 24, .ref 25, .ref 26, .ref 27, .ref 28, .ref 29, .ref 30, .ref 31, .int (S.2.2 16)]),
  .inr (5, [.ref 18]),
  .inl (4, 5, .inr (.inr (.inr (.inr (fun i => if i < 5 then some (19 + i) else none))))),
  .inl (1, 6, .inr (.inl (S.2.1 19))),
  .inl (1, 6, .inr (.inl (S.2.1 20))),
  .inl (1, 6, .inr (.inl (S.2.1 21))),
  .inl (1, 6, .inr (.inl (S.2.1 22))),
  .inl (1, 6, .inr (.inl (S.2.1 23))),
  .inl (1, 4, .inr (.inl (S.2.1 24))),
  .inl (1, 20, .inr (.inl (S.2.1 25))),
  .inl (1, 200, .inr (.inl (S.2.1 26))),
  .inl (1, 40, .inr (.inl (S.2.1 27))),
  .inl (1, 160, .inr (.inl (S.2.1 28))),
  .inl (1, 160, .inr (.inl (S.2.1 29))),
  .inl (2, 5, .inl (S.1 30)),
  .inl (2, 5, .inl (S.1 31)),
  .inr (0, [.ref 33, .int (S.2.2 32)]),
  .inl (0, 60, .inl (S.1 33)),
  .inr (4, [.ref 35, .int (S.2.2 34)]),
  .inl (0, 200, .inl (S.1 35))]
def ms_w (S : cs_S) : List am_C := [
  .inr (7, [.int (S.2.2 0), .ref 37, .ref 38, .ref 39, .ref 40, .int (S.2.2 5), .ref 41, .ref 42, .ref 43, .ref 44, .ref 45, .ref 46, .ref 47, .int (S.2.2 13), .ref 48, .ref 49, .ref 50, .int (S.2.2 17), .int (S.2.2 18), .ref 51, .ref 52, .int (S.2.2 21), .ref 53, .ref 54, .int (S.2.2 24), .ref 55, .ref 56, .long (S.2.1 27 0), .long (S.2.1 28 0)]),
  .inl (0, 25, .inl (S.1 37)),
  .inl (2, 20, .inl (S.1 38)),
  .inl (2, 5, .inl (S.1 39)),
  .inl (0, 5, .inl (S.1 40)),
  .inl (0, 60, .inl (S.1 41)),
  .inl (0, 60, .inl (S.1 42)),
  .inl (0, 60, .inl (S.1 43)),
  .inl (0, 60, .inl (S.1 44)),
  .inl (1, 60, .inr (.inl (S.2.1 45))),
  .inl (1, 10, .inr (.inl (S.2.1 46))),
  .inl (1, 40, .inr (.inl (S.2.1 47))),
  .inl (1, 20, .inr (.inl (S.2.1 48))),
  .inl (1, 20, .inr (.inl (S.2.1 49))),
  .inl (2, 20, .inl (S.1 50)),
  .inl (1, 10, .inr (.inl (S.2.1 51))),
  .inl (1, 160, .inr (.inl (S.2.1 52))),
  .inl (0, 60, .inl (S.1 53)),
  .inl (0, 200, .inl (S.1 54)),
  .inl (1, 30, .inr (.inl (S.2.1 55))),
  .inl (1, 30, .inr (.inl (S.2.1 56)))]
end
section
/-! further rows of the abstract machine: indices as numbers, compares of longs, calls with an answer -/
def bI (c : Prop) [Decidable c] : Int32 := if c then 1 else 0
theorem bI_0 (c : Prop) [Decidable c] : bI c = 0 ↔ ¬ c := by unfold bI; split <;> simp_all
theorem bI_t {c : Prop} [Decidable c] (h : c) : bI c = 1 := if_pos h
theorem bI_f {c : Prop} [Decidable c] (h : ¬ c) : bI c = 0 := if_neg h
theorem bI_nar (c : Prop) [Decidable c] : narrow .boolean (.int (bI c)) = .int (bI c) := by unfold bI; split <;> rfl
theorem bI_vp (c : Prop) [Decidable c] : vp_nar .boolean (bI c) = bI c := by unfold bI; split <;> rfl
theorem am_cmp_eq (x y : Int64) : lg_cmp x y = 0 ↔ x = y := by
  unfold lg_cmp
  by_cases h1 : y < x
  · have h2 : x ≠ y := fun e => by subst e; exact absurd h1 Int64.lt_irrefl
    simp [h1, h2]
  · by_cases h2 : x = y
    · simp [h1, h2]
    · simp [h1, h2]
theorem am_cmp_lt (x y : Int64) : lg_cmp x y < 0 ↔ x < y := by
  unfold lg_cmp
  by_cases h1 : y < x
  · have h2 : ¬ x < y := lg_lt_not h1
    simp [h1, h2]
  · by_cases h2 : x = y
    · subst h2; simp [h1]
    · have h3 : x < y := by
        rw [Int64.lt_iff_toInt_lt] at h1 ⊢
        have : x.toInt ≠ y.toInt := fun e => h2 (Int64.toInt_inj.mp e)
        omega
      simp [h1, h2, h3]
theorem am_cmp_gt (x y : Int64) : 0 < lg_cmp x y ↔ y < x := by
  unfold lg_cmp
  by_cases h1 : y < x
  · simp [h1]
  · by_cases h2 : x = y
    · simp [h1, h2]
    · simp [h1, h2]
theorem i32_nlt (x y : Int32) : ¬ x < y ↔ y ≤ x := by
  rw [Int32.lt_iff_toInt_lt, Int32.le_iff_toInt_le]; omega
theorem i64_nlt (x y : Int64) : ¬ x < y ↔ y ≤ x := by
  rw [Int64.lt_iff_toInt_lt, Int64.le_iff_toInt_le]; omega
theorem am_cmp_ge (x y : Int64) : 0 ≤ lg_cmp x y ↔ y ≤ x := by
  rw [← i32_nlt, am_cmp_lt, i64_nlt]
theorem am_cmp_le (x y : Int64) : lg_cmp x y ≤ 0 ↔ x ≤ y := by
  rw [← i32_nlt, am_cmp_gt, i64_nlt]
section AMH
variable {M : am_M} {d rc rs pc : Nat} {lv : List (Nat × Value)} {st : List Value} {w : List am_C} {cells slots : Nat} {Z : am_E}
theorem aw_lc_eq {x y : Int64} {off : Int} {tgt : Nat} (hd : decode M.1 pc = .ok (.lcmp, 1)) (hd2 : decode M.1 (pc + 1) = .ok (.ifCond .eq off, 3)) (ht : ((pc + 1 : Nat) : Int) + off = (tgt : Int)) (kt : x = y → AW M d rc rs tgt lv st w cells slots Z) (kf : ¬ x = y → AW M d rc rs (pc + 4) lv st w cells slots Z) : AW M d rc rs pc lv (.long y :: .long x :: st) w cells slots Z :=
  aw_lcmp hd (aw_if_eq hd2 ht (fun h => kt ((am_cmp_eq x y).mp h)) (fun h => kf (fun e => h ((am_cmp_eq x y).mpr e))))
theorem aw_lc_ne {x y : Int64} {off : Int} {tgt : Nat} (hd : decode M.1 pc = .ok (.lcmp, 1)) (hd2 : decode M.1 (pc + 1) = .ok (.ifCond .ne off, 3)) (ht : ((pc + 1 : Nat) : Int) + off = (tgt : Int)) (kt : ¬ x = y → AW M d rc rs tgt lv st w cells slots Z) (kf : x = y → AW M d rc rs (pc + 4) lv st w cells slots Z) : AW M d rc rs pc lv (.long y :: .long x :: st) w cells slots Z :=
  aw_lcmp hd (aw_if_ne hd2 ht (fun h => kt (fun e => h ((am_cmp_eq x y).mpr e))) (fun h => kf ((am_cmp_eq x y).mp h)))
theorem aw_lc_lt {x y : Int64} {off : Int} {tgt : Nat} (hd : decode M.1 pc = .ok (.lcmp, 1)) (hd2 : decode M.1 (pc + 1) = .ok (.ifCond .lt off, 3)) (ht : ((pc + 1 : Nat) : Int) + off = (tgt : Int)) (kt : x < y → AW M d rc rs tgt lv st w cells slots Z) (kf : ¬ x < y → AW M d rc rs (pc + 4) lv st w cells slots Z) : AW M d rc rs pc lv (.long y :: .long x :: st) w cells slots Z :=
  aw_lcmp hd (aw_if_lt hd2 ht (fun h => kt ((am_cmp_lt x y).mp h)) (fun h => kf (fun e => h ((am_cmp_lt x y).mpr e))))
theorem aw_lc_ge {x y : Int64} {off : Int} {tgt : Nat} (hd : decode M.1 pc = .ok (.lcmp, 1)) (hd2 : decode M.1 (pc + 1) = .ok (.ifCond .ge off, 3)) (ht : ((pc + 1 : Nat) : Int) + off = (tgt : Int)) (kt : y ≤ x → AW M d rc rs tgt lv st w cells slots Z) (kf : ¬ y ≤ x → AW M d rc rs (pc + 4) lv st w cells slots Z) : AW M d rc rs pc lv (.long y :: .long x :: st) w cells slots Z :=
  aw_lcmp hd (aw_if_ge hd2 ht (fun h => kt ((am_cmp_ge x y).mp h)) (fun h => kf (fun e => h ((am_cmp_ge x y).mpr e))))
theorem aw_lc_gt {x y : Int64} {off : Int} {tgt : Nat} (hd : decode M.1 pc = .ok (.lcmp, 1)) (hd2 : decode M.1 (pc + 1) = .ok (.ifCond .gt off, 3)) (ht : ((pc + 1 : Nat) : Int) + off = (tgt : Int)) (kt : y < x → AW M d rc rs tgt lv st w cells slots Z) (kf : ¬ y < x → AW M d rc rs (pc + 4) lv st w cells slots Z) : AW M d rc rs pc lv (.long y :: .long x :: st) w cells slots Z :=
  aw_lcmp hd (aw_if_gt hd2 ht (fun h => kt ((am_cmp_gt x y).mp h)) (fun h => kf (fun e => h ((am_cmp_gt x y).mpr e))))
theorem aw_lc_le {x y : Int64} {off : Int} {tgt : Nat} (hd : decode M.1 pc = .ok (.lcmp, 1)) (hd2 : decode M.1 (pc + 1) = .ok (.ifCond .le off, 3)) (ht : ((pc + 1 : Nat) : Int) + off = (tgt : Int)) (kt : x ≤ y → AW M d rc rs tgt lv st w cells slots Z) (kf : ¬ x ≤ y → AW M d rc rs (pc + 4) lv st w cells slots Z) : AW M d rc rs pc lv (.long y :: .long x :: st) w cells slots Z :=
  aw_lcmp hd (aw_if_le hd2 ht (fun h => kt ((am_cmp_le x y).mp h)) (fun h => kf (fun e => h ((am_cmp_le x y).mpr e))))
theorem aw_ialdN {q n j : Nat} {f : Nat → Int32} (hd : decode M.1 pc = .ok (.iaload, 1)) (hw : w[q]? = some (.inl (0, n, .inl f))) (hj : j < n) (hn : n < 2 ^ 31) (kk : AW M d rc rs (pc + 1) lv (.int (f j) :: st) w cells slots Z) : AW M d rc rs pc lv (.int (nI j) :: .ref q :: st) w cells slots Z :=
  aw_iald hd hw (vp_in_nI hj hn) (by rw [nI_clamp (by omega)]; exact kk)
theorem aw_iastN {q n j : Nat} {f : Nat → Int32} {x : Int32} {w1 : List am_C} (hd : decode M.1 pc = .ok (.iastore, 1)) (hw : w[q]? = some (.inl (0, n, .inl f))) (hj : j < n) (hn : n < 2 ^ 31) (hw1 : w.set q (.inl (0, n, .inl (upd f j x))) = w1) (kk : AW M d rc rs (pc + 1) lv st w1 cells slots Z) : AW M d rc rs pc lv (.int x :: .int (nI j) :: .ref q :: st) w cells slots Z :=
  aw_iast hd hw (vp_in_nI hj hn) (by rw [nI_clamp (by omega), hw1]; exact kk)
theorem aw_laldN {q n j : Nat} {f : Nat → Int64} (hd : decode M.1 pc = .ok (.laload, 1)) (hw : w[q]? = some (.inl (1, n, .inr (.inl f)))) (hj : j < n) (hn : n < 2 ^ 31) (kk : AW M d rc rs (pc + 1) lv (.long (f j) :: st) w cells slots Z) : AW M d rc rs pc lv (.int (nI j) :: .ref q :: st) w cells slots Z :=
  aw_lald hd hw (vp_in_nI hj hn) (by rw [nI_clamp (by omega)]; exact kk)
theorem aw_lastN {q n j : Nat} {f : Nat → Int64} {x : Int64} {w1 : List am_C} (hd : decode M.1 pc = .ok (.lastore, 1)) (hw : w[q]? = some (.inl (1, n, .inr (.inl f)))) (hj : j < n) (hn : n < 2 ^ 31) (hw1 : w.set q (.inl (1, n, .inr (.inl (vp_updL f j x)))) = w1) (kk : AW M d rc rs (pc + 1) lv st w1 cells slots Z) : AW M d rc rs pc lv (.long x :: .int (nI j) :: .ref q :: st) w cells slots Z :=
  aw_last hd hw (vp_in_nI hj hn) (by rw [nI_clamp (by omega), hw1]; exact kk)
theorem aw_zaldN {q n j : Nat} {f : Nat → Int32} (hd : decode M.1 pc = .ok (.baload, 1)) (hw : w[q]? = some (.inl (2, n, .inl f))) (hj : j < n) (hn : n < 2 ^ 31) (kk : AW M d rc rs (pc + 1) lv (.int (f j) :: st) w cells slots Z) : AW M d rc rs pc lv (.int (nI j) :: .ref q :: st) w cells slots Z :=
  aw_zald hd hw (vp_in_nI hj hn) (by rw [nI_clamp (by omega)]; exact kk)
theorem aw_zastN {q n j : Nat} {f : Nat → Int32} {x : Int32} {w1 : List am_C} (hd : decode M.1 pc = .ok (.bastore, 1)) (hw : w[q]? = some (.inl (2, n, .inl f))) (hj : j < n) (hn : n < 2 ^ 31) (hw1 : w.set q (.inl (2, n, .inl (upd f j (vp_nar .boolean x)))) = w1) (kk : AW M d rc rs (pc + 1) lv st w1 cells slots Z) : AW M d rc rs pc lv (.int x :: .int (nI j) :: .ref q :: st) w cells slots Z :=
  aw_zast hd hw (vp_in_nI hj hn) (by rw [nI_clamp (by omega), hw1]; exact kk)
theorem aw_aaldN {q t n j y : Nat} {f : Nat → Option Nat} (hd : decode M.1 pc = .ok (.aaload, 1)) (hw : w[q]? = some (.inl (t, n, .inr (.inr (.inr (.inr f)))))) (ht : t < am_nt) (hrf : (am_ty t).isReference = true) (hj : j < n) (hn : n < 2 ^ 31) (hf : f j = some y) (kk : AW M d rc rs (pc + 1) lv (.ref y :: st) w cells slots Z) : AW M d rc rs pc lv (.int (nI j) :: .ref q :: st) w cells slots Z :=
  aw_aald hd hw ht hrf (vp_in_nI hj hn) (nI_clamp (by omega)) hf kk
theorem aw_putW {idx q ci k : Nat} {ty : FieldType} {fs : List Value} {v : Value} {w1 : List am_C} (hd : decode M.1 pc = .ok (.putfield idx, 3)) (hf : am_fp M.2.2.2.1 idx ci k ty) (hw : w[q]? = some (.inr (ci, fs))) (hl9 : k < fs.length) (hn : ∀ b sc : Nat, narrow ty (am_v b sc v) = am_v b sc v ∧ fits ty (am_v b sc v) = true) (hw1 : w.set q (.inr (ci, fs.set k v)) = w1) (kk : AW M d rc rs (pc + 3) lv st w1 cells slots Z) : AW M d rc rs pc lv (v :: .ref q :: st) w cells slots Z :=
  aw_put hd hf hw hl9 hn (by rw [hw1]; exact kk)
theorem aw_cV1 {y : am_Y} {d' idx n : Nat} {q ci N : Nat} {T : u_T} {fs : List Value} {As stk : List Value} {v : Value} {w1 : List am_C} (hd : decode M.1 pc = .ok (.invokevirtual idx, 3)) (ct : am_ct y d' (.ref q :: As) w (some v) w1 0 0) (hm : am_mk y n) (hi : Cond.instanceMethod y.1 ∈ am_G ∧ Cond.selects y.1.cls y.1 y.1 ∈ am_G) (hlk : Cond.methodLink M.2.2.2.1 idx y.1 ∈ am_G) (hw : w[q]? = some (.inr (ci, fs))) (hc : am_cl[ci]? = some (y.1.cls, T, N)) (hst : stk = As.reverse ++ .ref q :: st) (hn : As.length = n) (hcat : (st.map fun v => v.category).sum ≤ 8) (hdd : d' + 1 ≤ d) (hrc : cells ≤ rc) (hrs : slots ≤ rs) (kk : AW M d rc rs (pc + 3) lv (v :: st) w1 cells slots Z) : AW M d rc rs pc lv stk w cells slots Z :=
  aw_callV hd ct hm hi hlk hw hc hst hn hcat hdd hrc hrs kk
theorem aw_cV0 {y : am_Y} {d' idx n : Nat} {q ci N : Nat} {T : u_T} {fs : List Value} {As stk : List Value} {w1 : List am_C} (hd : decode M.1 pc = .ok (.invokevirtual idx, 3)) (ct : am_ct y d' (.ref q :: As) w none w1 0 0) (hm : am_mk y n) (hi : Cond.instanceMethod y.1 ∈ am_G ∧ Cond.selects y.1.cls y.1 y.1 ∈ am_G) (hlk : Cond.methodLink M.2.2.2.1 idx y.1 ∈ am_G) (hw : w[q]? = some (.inr (ci, fs))) (hc : am_cl[ci]? = some (y.1.cls, T, N)) (hst : stk = As.reverse ++ .ref q :: st) (hn : As.length = n) (hcat : (st.map fun v => v.category).sum ≤ 8) (hdd : d' + 1 ≤ d) (hrc : cells ≤ rc) (hrs : slots ≤ rs) (kk : AW M d rc rs (pc + 3) lv st w1 cells slots Z) : AW M d rc rs pc lv stk w cells slots Z :=
  aw_callV hd ct hm hi hlk hw hc hst hn hcat hdd hrc hrs kk
theorem aw_cVN1 {y : am_Y} {d' idx n : Nat} {host : String} {q ci N : Nat} {T : u_T} {fs : List Value} {As stk : List Value} {v : Value} {w1 : List am_C} (hd : decode M.1 pc = .ok (.invokevirtual idx, 3)) (ct : am_ct y d' (.ref q :: As) w (some v) w1 0 0) (hm : am_mk y n) (hi : Cond.instanceMethod y.1 ∈ am_G ∧ Cond.selects y.1.cls y.1 y.1 ∈ am_G) (hlk : Cond.methodLinkNest M.2.2.2.1 idx y.1 host ∈ am_N) (hw : w[q]? = some (.inr (ci, fs))) (hc : am_cl[ci]? = some (y.1.cls, T, N)) (hst : stk = As.reverse ++ .ref q :: st) (hn : As.length = n) (hcat : (st.map fun v => v.category).sum ≤ 8) (hdd : d' + 1 ≤ d) (hrc : cells ≤ rc) (hrs : slots ≤ rs) (kk : AW M d rc rs (pc + 3) lv (v :: st) w1 cells slots Z) : AW M d rc rs pc lv stk w cells slots Z :=
  aw_callVN hd ct hm hi hlk hw hc hst hn hcat hdd hrc hrs kk
theorem aw_cVN0 {y : am_Y} {d' idx n : Nat} {host : String} {q ci N : Nat} {T : u_T} {fs : List Value} {As stk : List Value} {w1 : List am_C} (hd : decode M.1 pc = .ok (.invokevirtual idx, 3)) (ct : am_ct y d' (.ref q :: As) w none w1 0 0) (hm : am_mk y n) (hi : Cond.instanceMethod y.1 ∈ am_G ∧ Cond.selects y.1.cls y.1 y.1 ∈ am_G) (hlk : Cond.methodLinkNest M.2.2.2.1 idx y.1 host ∈ am_N) (hw : w[q]? = some (.inr (ci, fs))) (hc : am_cl[ci]? = some (y.1.cls, T, N)) (hst : stk = As.reverse ++ .ref q :: st) (hn : As.length = n) (hcat : (st.map fun v => v.category).sum ≤ 8) (hdd : d' + 1 ≤ d) (hrc : cells ≤ rc) (hrs : slots ≤ rs) (kk : AW M d rc rs (pc + 3) lv st w1 cells slots Z) : AW M d rc rs pc lv stk w cells slots Z :=
  aw_callVN hd ct hm hi hlk hw hc hst hn hcat hdd hrc hrs kk
theorem aw_cS1 {y : am_Y} {d' idx n : Nat} {As stk : List Value} {v : Value} {w1 : List am_C} (hd : decode M.1 pc = .ok (.invokestatic idx, 3)) (ct : am_ct y d' As w (some v) w1 0 0) (hm : am_mk y n) (hi : Cond.static y.1 ∈ am_G) (hlk : Cond.methodLink M.2.2.2.1 idx y.1 ∈ am_G) (hst : stk = As.reverse ++ st) (hn : As.length = n) (hcat : (st.map fun v => v.category).sum ≤ 8) (hdd : d' + 1 ≤ d) (hrc : cells ≤ rc) (hrs : slots ≤ rs) (kk : AW M d rc rs (pc + 3) lv (v :: st) w1 cells slots Z) : AW M d rc rs pc lv stk w cells slots Z :=
  aw_callS hd ct hm hi hlk hst hn hcat hdd hrc hrs kk
theorem aw_cS0 {y : am_Y} {d' idx n : Nat} {As stk : List Value} {w1 : List am_C} (hd : decode M.1 pc = .ok (.invokestatic idx, 3)) (ct : am_ct y d' As w none w1 0 0) (hm : am_mk y n) (hi : Cond.static y.1 ∈ am_G) (hlk : Cond.methodLink M.2.2.2.1 idx y.1 ∈ am_G) (hst : stk = As.reverse ++ st) (hn : As.length = n) (hcat : (st.map fun v => v.category).sum ≤ 8) (hdd : d' + 1 ≤ d) (hrc : cells ≤ rc) (hrs : slots ≤ rs) (kk : AW M d rc rs (pc + 3) lv st w1 cells slots Z) : AW M d rc rs pc lv stk w cells slots Z :=
  aw_callS hd ct hm hi hlk hst hn hcat hdd hrc hrs kk
theorem aw_cSN1 {y : am_Y} {d' idx n : Nat} {host : String} {As stk : List Value} {v : Value} {w1 : List am_C} (hd : decode M.1 pc = .ok (.invokestatic idx, 3)) (ct : am_ct y d' As w (some v) w1 0 0) (hm : am_mk y n) (hi : Cond.static y.1 ∈ am_G) (hlk : Cond.methodLinkNest M.2.2.2.1 idx y.1 host ∈ am_N) (hst : stk = As.reverse ++ st) (hn : As.length = n) (hcat : (st.map fun v => v.category).sum ≤ 8) (hdd : d' + 1 ≤ d) (hrc : cells ≤ rc) (hrs : slots ≤ rs) (kk : AW M d rc rs (pc + 3) lv (v :: st) w1 cells slots Z) : AW M d rc rs pc lv stk w cells slots Z :=
  aw_callSN hd ct hm hi hlk hst hn hcat hdd hrc hrs kk
theorem aw_cSN0 {y : am_Y} {d' idx n : Nat} {host : String} {As stk : List Value} {w1 : List am_C} (hd : decode M.1 pc = .ok (.invokestatic idx, 3)) (ct : am_ct y d' As w none w1 0 0) (hm : am_mk y n) (hi : Cond.static y.1 ∈ am_G) (hlk : Cond.methodLinkNest M.2.2.2.1 idx y.1 host ∈ am_N) (hst : stk = As.reverse ++ st) (hn : As.length = n) (hcat : (st.map fun v => v.category).sum ≤ 8) (hdd : d' + 1 ≤ d) (hrc : cells ≤ rc) (hrs : slots ≤ rs) (kk : AW M d rc rs (pc + 3) lv st w1 cells slots Z) : AW M d rc rs pc lv stk w cells slots Z :=
  aw_callSN hd ct hm hi hlk hst hn hcat hdd hrc hrs kk
def am_has (lv : List (Nat × Value)) : List (Nat × Value) → Prop
  | [] => True
  | q :: l => am_lk lv q.1 = some q.2 ∧ am_has lv l
theorem am_has_mem {lv : List (Nat × Value)} : ∀ {l : List (Nat × Value)}, am_has lv l → ∀ q ∈ l, q ∈ lv
  | q :: l, h, x, hx => by
    rcases List.mem_cons.mp hx with e | hx
    · subst e; exact am_lk_mem h.1
    · exact am_has_mem h.2 x hx
theorem aw_pick {lv' : List (Nat × Value)} (h : am_has lv lv') (k : AW M d rc rs pc lv' st w cells slots Z) : AW M d rc rs pc lv st w cells slots Z := aw_sub (am_has_mem h) k
theorem aw_iretE {v v' : Int32} {w' : List am_C} {mc ms : Nat} (hd : decode M.1 pc = .ok (.ireturn, 1)) (hr : M.2.2.1 = some .int) (hv : v = v') (hw : w = w') (h1 : cells = mc) (h2 : slots = ms) : AW M d rc rs pc lv [.int v] w cells slots (am_Z (some (.int v')) w' mc ms) := by
  subst hv; subst hw; subst h1; subst h2; exact aw_iret hd hr
theorem aw_zretE {v v' : Int32} {w' : List am_C} {mc ms : Nat} (hd : decode M.1 pc = .ok (.ireturn, 1)) (hr : M.2.2.1 = some .boolean) (hn : narrow .boolean (.int v) = .int v) (hv : v = v') (hw : w = w') (h1 : cells = mc) (h2 : slots = ms) : AW M d rc rs pc lv [.int v] w cells slots (am_Z (some (.int v')) w' mc ms) := by
  subst hv; subst hw; subst h1; subst h2; exact aw_zret hd hr hn
theorem aw_lretE {v v' : Int64} {w' : List am_C} {mc ms : Nat} (hd : decode M.1 pc = .ok (.lreturn, 1)) (hr : M.2.2.1 = some .long) (hv : v = v') (hw : w = w') (h1 : cells = mc) (h2 : slots = ms) : AW M d rc rs pc lv [.long v] w cells slots (am_Z (some (.long v')) w' mc ms) := by
  subst hv; subst hw; subst h1; subst h2; exact aw_lret hd hr
theorem aw_vretE {w' : List am_C} {mc ms : Nat} (hd : decode M.1 pc = .ok (.return_, 1)) (hr : M.2.2.1 = none) (hw : w = w') (h1 : cells = mc) (h2 : slots = ms) : AW M d rc rs pc lv [] w cells slots (am_Z none w' mc ms) := by
  subst hw; subst h1; subst h2; exact aw_vret hd hr
end AMH
theorem cs_f1_6 (S : cs_S) (r : List am_C) (x : Int32) : (cs_w S ++ r).set 1 (.inr (2, List.set [.ref 2, .ref 3, .ref 4, .ref 5, .ref 6, .ref 7, .int (S.2.2 1)] 6 (.int x))) = cs_w (cs_F S 1 x) ++ r := rfl
theorem cs_s2 (S : cs_S) (r : List am_C) (g : Nat → Int32) : (cs_w S ++ r).set 2 (.inl (0, 25, .inl g)) = cs_w (cs_I S 2 g) ++ r := rfl
theorem cs_s3 (S : cs_S) (r : List am_C) (g : Nat → Int32) : (cs_w S ++ r).set 3 (.inl (0, 5, .inl g)) = cs_w (cs_I S 3 g) ++ r := rfl
theorem cs_s4 (S : cs_S) (r : List am_C) (g : Nat → Int32) : (cs_w S ++ r).set 4 (.inl (2, 20, .inl g)) = cs_w (cs_I S 4 g) ++ r := rfl
theorem cs_s5 (S : cs_S) (r : List am_C) (g : Nat → Int32) : (cs_w S ++ r).set 5 (.inl (2, 5, .inl g)) = cs_w (cs_I S 5 g) ++ r := rfl
theorem cs_s6 (S : cs_S) (r : List am_C) (g : Nat → Int32) : (cs_w S ++ r).set 6 (.inl (0, 5, .inl g)) = cs_w (cs_I S 6 g) ++ r := rfl
theorem cs_s7 (S : cs_S) (r : List am_C) (g : Nat → Int32) : (cs_w S ++ r).set 7 (.inl (2, 5, .inl g)) = cs_w (cs_I S 7 g) ++ r := rfl
theorem cs_f8_5 (S : cs_S) (r : List am_C) (x : Int32) : (cs_w S ++ r).set 8 (.inr (1, List.set [.ref 9, .ref 10, .ref 11, .ref 12, .ref 13, .int (S.2.2 8)] 5 (.int x))) = cs_w (cs_F S 8 x) ++ r := rfl
theorem cs_s9 (S : cs_S) (r : List am_C) (g : Nat → Int32) : (cs_w S ++ r).set 9 (.inl (0, 60, .inl g)) = cs_w (cs_I S 9 g) ++ r := rfl
theorem cs_s10 (S : cs_S) (r : List am_C) (g : Nat → Int32) : (cs_w S ++ r).set 10 (.inl (0, 60, .inl g)) = cs_w (cs_I S 10 g) ++ r := rfl
theorem cs_s11 (S : cs_S) (r : List am_C) (g : Nat → Int32) : (cs_w S ++ r).set 11 (.inl (0, 60, .inl g)) = cs_w (cs_I S 11 g) ++ r := rfl
theorem cs_s12 (S : cs_S) (r : List am_C) (g : Nat → Int32) : (cs_w S ++ r).set 12 (.inl (0, 60, .inl g)) = cs_w (cs_I S 12 g) ++ r := rfl
theorem cs_s13 (S : cs_S) (r : List am_C) (g : Nat → Int64) : (cs_w S ++ r).set 13 (.inl (1, 60, .inr (.inl g))) = cs_w (cs_J S 13 g) ++ r := rfl
theorem cs_s14 (S : cs_S) (r : List am_C) (g : Nat → Int64) : (cs_w S ++ r).set 14 (.inl (1, 10, .inr (.inl g))) = cs_w (cs_J S 14 g) ++ r := rfl
theorem cs_s15 (S : cs_S) (r : List am_C) (g : Nat → Int64) : (cs_w S ++ r).set 15 (.inl (1, 40, .inr (.inl g))) = cs_w (cs_J S 15 g) ++ r := rfl
theorem cs_f16_9 (S : cs_S) (r : List am_C) (x : Int32) : (cs_w S ++ r).set 16 (.inr (3, List.set [.ref 17, .ref 24, .ref 25, .ref 26, .ref 27, .ref 28, .ref 29, .ref 30, .ref 31, .int (S.2.2 16)] 9 (.int x))) = cs_w (cs_F S 16 x) ++ r := rfl
theorem cs_s19 (S : cs_S) (r : List am_C) (g : Nat → Int64) : (cs_w S ++ r).set 19 (.inl (1, 6, .inr (.inl g))) = cs_w (cs_J S 19 g) ++ r := rfl
theorem cs_s20 (S : cs_S) (r : List am_C) (g : Nat → Int64) : (cs_w S ++ r).set 20 (.inl (1, 6, .inr (.inl g))) = cs_w (cs_J S 20 g) ++ r := rfl
theorem cs_s21 (S : cs_S) (r : List am_C) (g : Nat → Int64) : (cs_w S ++ r).set 21 (.inl (1, 6, .inr (.inl g))) = cs_w (cs_J S 21 g) ++ r := rfl
theorem cs_s22 (S : cs_S) (r : List am_C) (g : Nat → Int64) : (cs_w S ++ r).set 22 (.inl (1, 6, .inr (.inl g))) = cs_w (cs_J S 22 g) ++ r := rfl
theorem cs_s23 (S : cs_S) (r : List am_C) (g : Nat → Int64) : (cs_w S ++ r).set 23 (.inl (1, 6, .inr (.inl g))) = cs_w (cs_J S 23 g) ++ r := rfl
theorem cs_s24 (S : cs_S) (r : List am_C) (g : Nat → Int64) : (cs_w S ++ r).set 24 (.inl (1, 4, .inr (.inl g))) = cs_w (cs_J S 24 g) ++ r := rfl
theorem cs_s25 (S : cs_S) (r : List am_C) (g : Nat → Int64) : (cs_w S ++ r).set 25 (.inl (1, 20, .inr (.inl g))) = cs_w (cs_J S 25 g) ++ r := rfl
theorem cs_s26 (S : cs_S) (r : List am_C) (g : Nat → Int64) : (cs_w S ++ r).set 26 (.inl (1, 200, .inr (.inl g))) = cs_w (cs_J S 26 g) ++ r := rfl
theorem cs_s27 (S : cs_S) (r : List am_C) (g : Nat → Int64) : (cs_w S ++ r).set 27 (.inl (1, 40, .inr (.inl g))) = cs_w (cs_J S 27 g) ++ r := rfl
theorem cs_s28 (S : cs_S) (r : List am_C) (g : Nat → Int64) : (cs_w S ++ r).set 28 (.inl (1, 160, .inr (.inl g))) = cs_w (cs_J S 28 g) ++ r := rfl
theorem cs_s29 (S : cs_S) (r : List am_C) (g : Nat → Int64) : (cs_w S ++ r).set 29 (.inl (1, 160, .inr (.inl g))) = cs_w (cs_J S 29 g) ++ r := rfl
theorem cs_s30 (S : cs_S) (r : List am_C) (g : Nat → Int32) : (cs_w S ++ r).set 30 (.inl (2, 5, .inl g)) = cs_w (cs_I S 30 g) ++ r := rfl
theorem cs_s31 (S : cs_S) (r : List am_C) (g : Nat → Int32) : (cs_w S ++ r).set 31 (.inl (2, 5, .inl g)) = cs_w (cs_I S 31 g) ++ r := rfl
theorem cs_f32_1 (S : cs_S) (r : List am_C) (x : Int32) : (cs_w S ++ r).set 32 (.inr (0, List.set [.ref 33, .int (S.2.2 32)] 1 (.int x))) = cs_w (cs_F S 32 x) ++ r := rfl
theorem cs_s33 (S : cs_S) (r : List am_C) (g : Nat → Int32) : (cs_w S ++ r).set 33 (.inl (0, 60, .inl g)) = cs_w (cs_I S 33 g) ++ r := rfl
theorem cs_f34_1 (S : cs_S) (r : List am_C) (x : Int32) : (cs_w S ++ r).set 34 (.inr (4, List.set [.ref 35, .int (S.2.2 34)] 1 (.int x))) = cs_w (cs_F S 34 x) ++ r := rfl
theorem cs_s35 (S : cs_S) (r : List am_C) (g : Nat → Int32) : (cs_w S ++ r).set 35 (.inl (0, 200, .inl g)) = cs_w (cs_I S 35 g) ++ r := rfl
theorem ms_f36_0 (C S : cs_S) (x : Int32) : (cs_w C ++ ms_w S).set 36 (.inr (7, List.set [.int (S.2.2 0), .ref 37, .ref 38, .ref 39, .ref 40, .int (S.2.2 5), .ref 41, .ref 42, .ref 43, .ref 44, .ref 45, .ref 46, .ref 47, .int (S.2.2 13), .ref 48, .ref 49, .ref 50, .int (S.2.2 17), .int (S.2.2 18), .ref 51, .ref 52, .int (S.2.2 21), .ref 53, .ref 54, .int (S.2.2 24), .ref 55, .ref 56, .long (S.2.1 27 0), .long (S.2.1 28 0)] 0 (.int x))) = cs_w C ++ ms_w (cs_F S 0 x) := rfl
theorem ms_f36_5 (C S : cs_S) (x : Int32) : (cs_w C ++ ms_w S).set 36 (.inr (7, List.set [.int (S.2.2 0), .ref 37, .ref 38, .ref 39, .ref 40, .int (S.2.2 5), .ref 41, .ref 42, .ref 43, .ref 44, .ref 45, .ref 46, .ref 47, .int (S.2.2 13), .ref 48, .ref 49, .ref 50, .int (S.2.2 17), .int (S.2.2 18), .ref 51, .ref 52, .int (S.2.2 21), .ref 53, .ref 54, .int (S.2.2 24), .ref 55, .ref 56, .long (S.2.1 27 0), .long (S.2.1 28 0)] 5 (.int x))) = cs_w C ++ ms_w (cs_F S 5 x) := rfl
theorem ms_f36_13 (C S : cs_S) (x : Int32) : (cs_w C ++ ms_w S).set 36 (.inr (7, List.set [.int (S.2.2 0), .ref 37, .ref 38, .ref 39, .ref 40, .int (S.2.2 5), .ref 41, .ref 42, .ref 43, .ref 44, .ref 45, .ref 46, .ref 47, .int (S.2.2 13), .ref 48, .ref 49, .ref 50, .int (S.2.2 17), .int (S.2.2 18), .ref 51, .ref 52, .int (S.2.2 21), .ref 53, .ref 54, .int (S.2.2 24), .ref 55, .ref 56, .long (S.2.1 27 0), .long (S.2.1 28 0)] 13 (.int x))) = cs_w C ++ ms_w (cs_F S 13 x) := rfl
theorem ms_f36_17 (C S : cs_S) (x : Int32) : (cs_w C ++ ms_w S).set 36 (.inr (7, List.set [.int (S.2.2 0), .ref 37, .ref 38, .ref 39, .ref 40, .int (S.2.2 5), .ref 41, .ref 42, .ref 43, .ref 44, .ref 45, .ref 46, .ref 47, .int (S.2.2 13), .ref 48, .ref 49, .ref 50, .int (S.2.2 17), .int (S.2.2 18), .ref 51, .ref 52, .int (S.2.2 21), .ref 53, .ref 54, .int (S.2.2 24), .ref 55, .ref 56, .long (S.2.1 27 0), .long (S.2.1 28 0)] 17 (.int x))) = cs_w C ++ ms_w (cs_F S 17 x) := rfl
theorem ms_f36_18 (C S : cs_S) (x : Int32) : (cs_w C ++ ms_w S).set 36 (.inr (7, List.set [.int (S.2.2 0), .ref 37, .ref 38, .ref 39, .ref 40, .int (S.2.2 5), .ref 41, .ref 42, .ref 43, .ref 44, .ref 45, .ref 46, .ref 47, .int (S.2.2 13), .ref 48, .ref 49, .ref 50, .int (S.2.2 17), .int (S.2.2 18), .ref 51, .ref 52, .int (S.2.2 21), .ref 53, .ref 54, .int (S.2.2 24), .ref 55, .ref 56, .long (S.2.1 27 0), .long (S.2.1 28 0)] 18 (.int x))) = cs_w C ++ ms_w (cs_F S 18 x) := rfl
theorem ms_f36_21 (C S : cs_S) (x : Int32) : (cs_w C ++ ms_w S).set 36 (.inr (7, List.set [.int (S.2.2 0), .ref 37, .ref 38, .ref 39, .ref 40, .int (S.2.2 5), .ref 41, .ref 42, .ref 43, .ref 44, .ref 45, .ref 46, .ref 47, .int (S.2.2 13), .ref 48, .ref 49, .ref 50, .int (S.2.2 17), .int (S.2.2 18), .ref 51, .ref 52, .int (S.2.2 21), .ref 53, .ref 54, .int (S.2.2 24), .ref 55, .ref 56, .long (S.2.1 27 0), .long (S.2.1 28 0)] 21 (.int x))) = cs_w C ++ ms_w (cs_F S 21 x) := rfl
theorem ms_f36_24 (C S : cs_S) (x : Int32) : (cs_w C ++ ms_w S).set 36 (.inr (7, List.set [.int (S.2.2 0), .ref 37, .ref 38, .ref 39, .ref 40, .int (S.2.2 5), .ref 41, .ref 42, .ref 43, .ref 44, .ref 45, .ref 46, .ref 47, .int (S.2.2 13), .ref 48, .ref 49, .ref 50, .int (S.2.2 17), .int (S.2.2 18), .ref 51, .ref 52, .int (S.2.2 21), .ref 53, .ref 54, .int (S.2.2 24), .ref 55, .ref 56, .long (S.2.1 27 0), .long (S.2.1 28 0)] 24 (.int x))) = cs_w C ++ ms_w (cs_F S 24 x) := rfl
theorem ms_f36_27 (C S : cs_S) (x : Int64) : (cs_w C ++ ms_w S).set 36 (.inr (7, List.set [.int (S.2.2 0), .ref 37, .ref 38, .ref 39, .ref 40, .int (S.2.2 5), .ref 41, .ref 42, .ref 43, .ref 44, .ref 45, .ref 46, .ref 47, .int (S.2.2 13), .ref 48, .ref 49, .ref 50, .int (S.2.2 17), .int (S.2.2 18), .ref 51, .ref 52, .int (S.2.2 21), .ref 53, .ref 54, .int (S.2.2 24), .ref 55, .ref 56, .long (S.2.1 27 0), .long (S.2.1 28 0)] 27 (.long x))) = cs_w C ++ ms_w (cs_J S 27 (fun _ => x)) := rfl
theorem ms_f36_28 (C S : cs_S) (x : Int64) : (cs_w C ++ ms_w S).set 36 (.inr (7, List.set [.int (S.2.2 0), .ref 37, .ref 38, .ref 39, .ref 40, .int (S.2.2 5), .ref 41, .ref 42, .ref 43, .ref 44, .ref 45, .ref 46, .ref 47, .int (S.2.2 13), .ref 48, .ref 49, .ref 50, .int (S.2.2 17), .int (S.2.2 18), .ref 51, .ref 52, .int (S.2.2 21), .ref 53, .ref 54, .int (S.2.2 24), .ref 55, .ref 56, .long (S.2.1 27 0), .long (S.2.1 28 0)] 28 (.long x))) = cs_w C ++ ms_w (cs_J S 28 (fun _ => x)) := rfl
theorem ms_s37 (C S : cs_S) (g : Nat → Int32) : (cs_w C ++ ms_w S).set 37 (.inl (0, 25, .inl g)) = cs_w C ++ ms_w (cs_I S 37 g) := rfl
theorem ms_s38 (C S : cs_S) (g : Nat → Int32) : (cs_w C ++ ms_w S).set 38 (.inl (2, 20, .inl g)) = cs_w C ++ ms_w (cs_I S 38 g) := rfl
theorem ms_s39 (C S : cs_S) (g : Nat → Int32) : (cs_w C ++ ms_w S).set 39 (.inl (2, 5, .inl g)) = cs_w C ++ ms_w (cs_I S 39 g) := rfl
theorem ms_s40 (C S : cs_S) (g : Nat → Int32) : (cs_w C ++ ms_w S).set 40 (.inl (0, 5, .inl g)) = cs_w C ++ ms_w (cs_I S 40 g) := rfl
theorem ms_s41 (C S : cs_S) (g : Nat → Int32) : (cs_w C ++ ms_w S).set 41 (.inl (0, 60, .inl g)) = cs_w C ++ ms_w (cs_I S 41 g) := rfl
theorem ms_s42 (C S : cs_S) (g : Nat → Int32) : (cs_w C ++ ms_w S).set 42 (.inl (0, 60, .inl g)) = cs_w C ++ ms_w (cs_I S 42 g) := rfl
theorem ms_s43 (C S : cs_S) (g : Nat → Int32) : (cs_w C ++ ms_w S).set 43 (.inl (0, 60, .inl g)) = cs_w C ++ ms_w (cs_I S 43 g) := rfl
theorem ms_s44 (C S : cs_S) (g : Nat → Int32) : (cs_w C ++ ms_w S).set 44 (.inl (0, 60, .inl g)) = cs_w C ++ ms_w (cs_I S 44 g) := rfl
theorem ms_s45 (C S : cs_S) (g : Nat → Int64) : (cs_w C ++ ms_w S).set 45 (.inl (1, 60, .inr (.inl g))) = cs_w C ++ ms_w (cs_J S 45 g) := rfl
theorem ms_s46 (C S : cs_S) (g : Nat → Int64) : (cs_w C ++ ms_w S).set 46 (.inl (1, 10, .inr (.inl g))) = cs_w C ++ ms_w (cs_J S 46 g) := rfl
theorem ms_s47 (C S : cs_S) (g : Nat → Int64) : (cs_w C ++ ms_w S).set 47 (.inl (1, 40, .inr (.inl g))) = cs_w C ++ ms_w (cs_J S 47 g) := rfl
theorem ms_s48 (C S : cs_S) (g : Nat → Int64) : (cs_w C ++ ms_w S).set 48 (.inl (1, 20, .inr (.inl g))) = cs_w C ++ ms_w (cs_J S 48 g) := rfl
theorem ms_s49 (C S : cs_S) (g : Nat → Int64) : (cs_w C ++ ms_w S).set 49 (.inl (1, 20, .inr (.inl g))) = cs_w C ++ ms_w (cs_J S 49 g) := rfl
theorem ms_s50 (C S : cs_S) (g : Nat → Int32) : (cs_w C ++ ms_w S).set 50 (.inl (2, 20, .inl g)) = cs_w C ++ ms_w (cs_I S 50 g) := rfl
theorem ms_s51 (C S : cs_S) (g : Nat → Int64) : (cs_w C ++ ms_w S).set 51 (.inl (1, 10, .inr (.inl g))) = cs_w C ++ ms_w (cs_J S 51 g) := rfl
theorem ms_s52 (C S : cs_S) (g : Nat → Int64) : (cs_w C ++ ms_w S).set 52 (.inl (1, 160, .inr (.inl g))) = cs_w C ++ ms_w (cs_J S 52 g) := rfl
theorem ms_s53 (C S : cs_S) (g : Nat → Int32) : (cs_w C ++ ms_w S).set 53 (.inl (0, 60, .inl g)) = cs_w C ++ ms_w (cs_I S 53 g) := rfl
theorem ms_s54 (C S : cs_S) (g : Nat → Int32) : (cs_w C ++ ms_w S).set 54 (.inl (0, 200, .inl g)) = cs_w C ++ ms_w (cs_I S 54 g) := rfl
theorem ms_s55 (C S : cs_S) (g : Nat → Int64) : (cs_w C ++ ms_w S).set 55 (.inl (1, 30, .inr (.inl g))) = cs_w C ++ ms_w (cs_J S 55 g) := rfl
theorem ms_s56 (C S : cs_S) (g : Nat → Int64) : (cs_w C ++ ms_w S).set 56 (.inl (1, 30, .inr (.inl g))) = cs_w C ++ ms_w (cs_J S 56 g) := rfl
end
section
/-! RateChains.slotOf and the small static ones; RateChains$Plants -/
def b01 (f : Nat → Int32) : Prop := ∀ j, f j = 0 ∨ f j = 1
theorem b01_nar {f : Nat → Int32} (h : b01 f) (j : Nat) : narrow .boolean (.int (f j)) = .int (f j) := by rcases h j with e | e <;> rw [e] <;> rfl
theorem b01_upd {f : Nat → Int32} (h : b01 f) (k : Nat) (c : Prop) [Decidable c] : b01 (upd f k (bI c)) := by
  intro j
  unfold upd bI
  split
  · split
    · exact Or.inr rfl
    · exact Or.inl rfl
  · exact h j
def ex_n (f : Nat → Bool) : Nat → Bool
  | 0 => false
  | n + 1 => ex_n f n || f n
theorem ex_n_iff (f : Nat → Bool) : ∀ n, ex_n f n = true ↔ ∃ t, t < n ∧ f t = true
  | 0 => by simp [ex_n]
  | n + 1 => by
    simp only [ex_n, Bool.or_eq_true, ex_n_iff f n]
    constructor
    · rintro (⟨t, h1, h2⟩ | h)
      · exact ⟨t, by omega, h2⟩
      · exact ⟨n, by omega, h⟩
    · rintro ⟨t, h1, h2⟩
      by_cases e : t = n
      · subst e; exact Or.inr h2
      · exact Or.inl ⟨t, by omega, h2⟩
theorem cs_II (S : cs_S) (k : Nat) (e e' : Nat → Int32) : cs_I (cs_I S k e) k e' = cs_I S k e' := by unfold cs_I; simp only [bx_uu]
theorem cs_JJ (S : cs_S) (k : Nat) (e e' : Nat → Int64) : cs_J (cs_J S k e) k e' = cs_J S k e' := by unfold cs_J; simp only [bx_uu]
theorem cs_FF (S : cs_S) (k : Nat) (e e' : Int32) : cs_F (cs_F S k e) k e' = cs_F S k e' := by unfold cs_F; simp only [bx_uu]
theorem c_Pl_shareOf (S : cs_S) (r : List am_C) (p t : Nat) (hp : p < 5) (ht : t < 5) : am_ct y_Pl_shareOf 0 [.ref 1, .int (nI p), .int (nI t)] (cs_w S ++ r) (some (.int (S.1 2 (p * 5 + t)))) (cs_w S ++ r) 0 0 := by
  refine am_ct.of rfl (Nat.le_of_ble_eq_true rfl) ?_
  refine aw_aload_n d_Pl_shareOf_0 rfl ?_
  refine aw_get d_Pl_shareOf_1 fl_Pl_9 rfl rfl ?_
  refine aw_iload_n d_Pl_shareOf_4 rfl ?_
  refine aw_iconst (v := nI 5) d_Pl_shareOf_5 rfl ?_
  refine aw_imul d_Pl_shareOf_6 ?_
  refine aw_iload_n d_Pl_shareOf_7 rfl ?_
  refine aw_iadd d_Pl_shareOf_8 ?_
  refine aw_iald d_Pl_shareOf_9 rfl (by rw [pk_mul, nI_add]; exact vp_in_nI (by omega) (by omega)) ?_
  rw [pk_mul, nI_add, nI_clamp (by omega)]
  exact aw_iret d_Pl_shareOf_10 rfl
theorem c_Pl_setLoss (S : cs_S) (r : List am_C) (p : Nat) (x : Int32) (hp : p < 5) : am_ct y_Pl_setLoss 0 [.ref 1, .int (nI p), .int x] (cs_w S ++ r) none (cs_w (cs_I (cs_I S 5 (upd (S.1 5) p 1)) 6 (upd (S.1 6) p x)) ++ r) 0 0 := by
  refine am_ct.of rfl (Nat.le_of_ble_eq_true rfl) ?_
  refine aw_aload_n d_Pl_setLoss_0 rfl ?_
  refine aw_get d_Pl_setLoss_1 fl_Pl_22 rfl rfl ?_
  refine aw_iload_n d_Pl_setLoss_4 rfl ?_
  refine aw_iconst (v := nI 1) d_Pl_setLoss_5 rfl ?_
  refine aw_zast d_Pl_setLoss_6 rfl (vp_in_nI hp (by omega)) ?_
  rw [nI_clamp (by omega)]
  refine aw_aload_n d_Pl_setLoss_7 rfl ?_
  refine aw_get d_Pl_setLoss_8 fl_Pl_25 rfl rfl ?_
  refine aw_iload_n d_Pl_setLoss_11 rfl ?_
  refine aw_iload_n d_Pl_setLoss_12 rfl ?_
  refine aw_iast d_Pl_setLoss_13 rfl (vp_in_nI hp (by omega)) ?_
  rw [nI_clamp (by omega)]
  refine aw_eqw (w' := (cs_w (cs_I (cs_I S 5 (upd (S.1 5) p 1)) 6 (upd (S.1 6) p x)) ++ r)) rfl ?_
  exact aw_vret d_Pl_setLoss_14 rfl
theorem c_RC_slotOf (w : List am_C) (p k : Nat) : am_ct y_RC_slotOf 0 [.int (nI p), .int (nI k)] (w) (some (.int (nI (p * 4 + k)))) (w) 0 0 := by
  refine am_ct.of rfl (Nat.le_of_ble_eq_true rfl) ?_
  refine aw_iload_n d_RC_slotOf_0 rfl ?_
  refine aw_iconst (v := nI 4) d_RC_slotOf_1 (by decide) ?_
  refine aw_imul d_RC_slotOf_2 ?_
  try simp only [pk_mul, nI_add]
  refine aw_iload_n d_RC_slotOf_3 rfl ?_
  refine aw_iadd d_RC_slotOf_4 ?_
  try simp only [pk_mul, nI_add]
  exact aw_iretE d_RC_slotOf_5 rfl rfl rfl rfl rfl
theorem c_RC_cell (w : List am_C) (p k : Nat) : am_ct y_RC_cell 0 [.int (nI p), .int (nI k)] (w) (some (.int (nI (p * 10 + k)))) (w) 0 0 := by
  refine am_ct.of rfl (Nat.le_of_ble_eq_true rfl) ?_
  refine aw_iload_n d_RC_cell_0 rfl ?_
  refine aw_bipush (v := nI 10) d_RC_cell_1 (by decide) ?_
  refine aw_imul d_RC_cell_3 ?_
  try simp only [pk_mul, nI_add]
  refine aw_iload_n d_RC_cell_4 rfl ?_
  refine aw_iadd d_RC_cell_5 ?_
  try simp only [pk_mul, nI_add]
  exact aw_iretE d_RC_cell_6 rfl rfl rfl rfl rfl
theorem c_Pl_isPoint (S : cs_S) (r : List am_C) (p k : Nat) (hp : p < 5) (hk : k < 4) (hb : b01 (S.1 4)) : am_ct y_Pl_isPoint 1 [.ref 1, .int (nI p), .int (nI k)] (cs_w S ++ r) (some (.int (S.1 4 (p * 4 + k)))) (cs_w S ++ r) 0 0 := by
  refine am_ct.of rfl (Nat.le_of_ble_eq_true rfl) ?_
  refine aw_aload_n d_Pl_isPoint_0 rfl ?_
  refine aw_get d_Pl_isPoint_1 fl_Pl_18 rfl rfl ?_
  refine aw_iload_n d_Pl_isPoint_4 rfl ?_
  refine aw_iload_n d_Pl_isPoint_5 rfl ?_
  refine aw_cSN1 d_Pl_isPoint_6 (c_RC_slotOf _ p k) mk_RC_slotOf is_RC_slotOf ln_Pl_43 rfl rfl (Nat.le_of_ble_eq_true rfl) (Nat.le_of_ble_eq_true rfl) (Nat.le_of_ble_eq_true rfl) (Nat.le_of_ble_eq_true rfl) ?_
  refine aw_zaldN d_Pl_isPoint_9 rfl (by omega) (Nat.le_of_ble_eq_true rfl) ?_
  exact aw_zretE d_Pl_isPoint_10 rfl (b01_nar hb _) rfl rfl rfl rfl
theorem c_Pl_add (S : cs_S) (r : List am_C) : am_ct y_Pl_add 0 [.ref 1] (cs_w S ++ r) (some (.int (if S.2.2 1 < nI 5 then S.2.2 1 + nI 1 - nI 1 else -1))) (cs_w (if S.2.2 1 < nI 5 then cs_F S 1 (S.2.2 1 + nI 1) else S) ++ r) 0 0 := by
  refine am_ct.of rfl (Nat.le_of_ble_eq_true rfl) ?_
  refine aw_aload_n d_Pl_add_0 rfl ?_
  refine aw_get d_Pl_add_1 fl_Pl_31 rfl rfl ?_
  refine aw_iconst (v := nI 5) d_Pl_add_4 (by decide) ?_
  refine aw_icmp_lt (tgt := 10) d_Pl_add_5 (by decide) (fun h5 => ?_) (fun h5 => ?_)
  · refine aw_aload_n d_Pl_add_10 rfl ?_
    refine aw_dup d_Pl_add_11 rfl ?_
    refine aw_get d_Pl_add_12 fl_Pl_31 rfl rfl ?_
    refine aw_iconst (v := nI 1) d_Pl_add_15 (by decide) ?_
    refine aw_iadd d_Pl_add_16 ?_
    refine aw_putW d_Pl_add_17 fp_Pl_31 rfl (Nat.le_of_ble_eq_true rfl) (fun _ _ => ⟨rfl, rfl⟩) (cs_f1_6 _ _ _) ?_
    refine aw_aload_n d_Pl_add_20 rfl ?_
    refine aw_get d_Pl_add_21 fl_Pl_31 rfl rfl ?_
    refine aw_iconst (v := nI 1) d_Pl_add_24 (by decide) ?_
    refine aw_isub d_Pl_add_25 ?_
    exact aw_iretE d_Pl_add_26 rfl (by rw [if_pos h5]; rfl) (by rw [if_pos h5]) rfl rfl
  · refine aw_iconst (v := -1) d_Pl_add_8 (by decide) ?_
    exact aw_iretE d_Pl_add_9 rfl (by rw [if_neg h5]) (by rw [if_neg h5]) rfl rfl
theorem c_Pl_has (S : cs_S) (r : List am_C) (x : Int32) : am_ct y_Pl_has 0 [.ref 1, .int x] (cs_w S ++ r) (some (.int (bI (0 ≤ x ∧ x < S.2.2 1)))) (cs_w S ++ r) 0 0 := by
  refine am_ct.of rfl (Nat.le_of_ble_eq_true rfl) ?_
  refine aw_iload_n d_Pl_has_0 rfl ?_
  refine aw_if_lt (tgt := 16) d_Pl_has_1 (by decide) (fun h1 => ?_) (fun h1 => ?_)
  · refine aw_iconst (v := nI 0) d_Pl_has_16 (by decide) ?_
    exact aw_zretE d_Pl_has_17 rfl rfl (by first | exact (bI_t ⟨(i32_nlt _ _).mp h1, Int32.not_le.mp h9⟩).symm | exact (bI_f (fun e => absurd e.1 (Int32.not_le.mpr h1))).symm | exact (bI_f (fun e => absurd h9 (Int32.not_le.mpr e.2))).symm) rfl rfl rfl
  · refine aw_iload_n d_Pl_has_4 rfl ?_
    refine aw_aload_n d_Pl_has_5 rfl ?_
    refine aw_get d_Pl_has_6 fl_Pl_31 rfl rfl ?_
    refine aw_icmp_ge (tgt := 16) d_Pl_has_9 (by decide) (fun h9 => ?_) (fun h9 => ?_)
    · refine aw_iconst (v := nI 0) d_Pl_has_16 (by decide) ?_
      exact aw_zretE d_Pl_has_17 rfl rfl (by first | exact (bI_t ⟨(i32_nlt _ _).mp h1, Int32.not_le.mp h9⟩).symm | exact (bI_f (fun e => absurd e.1 (Int32.not_le.mpr h1))).symm | exact (bI_f (fun e => absurd h9 (Int32.not_le.mpr e.2))).symm) rfl rfl rfl
    · refine aw_iconst (v := nI 1) d_Pl_has_12 (by decide) ?_
      refine aw_goto (tgt := 17) d_Pl_has_13 (by decide) ?_
      exact aw_zretE d_Pl_has_17 rfl rfl (by first | exact (bI_t ⟨(i32_nlt _ _).mp h1, Int32.not_le.mp h9⟩).symm | exact (bI_f (fun e => absurd e.1 (Int32.not_le.mpr h1))).symm | exact (bI_f (fun e => absurd h9 (Int32.not_le.mpr e.2))).symm) rfl rfl rfl
theorem c_Pl_setShare (S : cs_S) (r : List am_C) (p t : Nat) (x : Int32) (hp : p < 5) (ht : t < 5) : am_ct y_Pl_setShare 1 [.ref 1, .int (nI p), .int (nI t), .int x] (cs_w S ++ r) (some (.int (bI (S.1 3 p - S.1 2 (p * 5 + t) + x ≤ nI 10)))) (cs_w (if S.1 3 p - S.1 2 (p * 5 + t) + x ≤ nI 10 then cs_I (cs_I S 2 (upd (S.1 2) (p * 5 + t) x)) 3 (upd (S.1 3) p (S.1 3 p - S.1 2 (p * 5 + t) + x)) else S) ++ r) 0 0 := by
  refine am_ct.of rfl (Nat.le_of_ble_eq_true rfl) ?_
  refine aw_aload_n d_Pl_setShare_0 rfl ?_
  refine aw_get d_Pl_setShare_1 fl_Pl_15 rfl rfl ?_
  refine aw_iload_n d_Pl_setShare_4 rfl ?_
  refine aw_ialdN d_Pl_setShare_5 rfl (by omega) (Nat.le_of_ble_eq_true rfl) ?_
  refine aw_aload_n d_Pl_setShare_6 rfl ?_
  refine aw_iload_n d_Pl_setShare_7 rfl ?_
  refine aw_iload_n d_Pl_setShare_8 rfl ?_
  refine aw_cV1 d_Pl_setShare_9 (c_Pl_shareOf S r p t hp ht) mk_Pl_shareOf is_Pl_shareOf ln_Pl_35 rfl rfl rfl rfl (Nat.le_of_ble_eq_true rfl) (Nat.le_of_ble_eq_true rfl) (Nat.le_of_ble_eq_true rfl) (Nat.le_of_ble_eq_true rfl) ?_
  refine aw_isub d_Pl_setShare_12 ?_
  refine aw_iload_n d_Pl_setShare_13 rfl ?_
  refine aw_iadd d_Pl_setShare_14 ?_
  refine aw_istore d_Pl_setShare_15 (Nat.le_of_ble_eq_true rfl) ?_
  refine aw_iload d_Pl_setShare_17 rfl ?_
  refine aw_bipush (v := nI 10) d_Pl_setShare_19 (by decide) ?_
  refine aw_icmp_le (tgt := 26) d_Pl_setShare_21 (by decide) (fun h21 => ?_) (fun h21 => ?_)
  · refine aw_aload_n d_Pl_setShare_26 rfl ?_
    refine aw_get d_Pl_setShare_27 fl_Pl_9 rfl rfl ?_
    refine aw_iload_n d_Pl_setShare_30 rfl ?_
    refine aw_iconst (v := nI 5) d_Pl_setShare_31 (by decide) ?_
    refine aw_imul d_Pl_setShare_32 ?_
    try simp only [pk_mul, nI_add]
    refine aw_iload_n d_Pl_setShare_33 rfl ?_
    refine aw_iadd d_Pl_setShare_34 ?_
    try simp only [pk_mul, nI_add]
    refine aw_iload_n d_Pl_setShare_35 rfl ?_
    refine aw_iastN d_Pl_setShare_36 rfl (by omega) (Nat.le_of_ble_eq_true rfl) (cs_s2 _ _ _) ?_
    refine aw_aload_n d_Pl_setShare_37 rfl ?_
    refine aw_get d_Pl_setShare_38 fl_Pl_15 rfl rfl ?_
    refine aw_iload_n d_Pl_setShare_41 rfl ?_
    refine aw_iload d_Pl_setShare_42 rfl ?_
    refine aw_iastN d_Pl_setShare_44 rfl (by omega) (Nat.le_of_ble_eq_true rfl) (cs_s3 _ _ _) ?_
    refine aw_iconst (v := nI 1) d_Pl_setShare_45 (by decide) ?_
    exact aw_zretE d_Pl_setShare_46 rfl rfl (by rw [bI_t h21]; rfl) (by rw [if_pos h21]; rfl) rfl rfl
  · refine aw_iconst (v := nI 0) d_Pl_setShare_24 (by decide) ?_
    exact aw_zretE d_Pl_setShare_25 rfl rfl (by rw [bI_f h21]; rfl) (by rw [if_neg h21]) rfl rfl
theorem c_Pl_setPoint (S : cs_S) (r : List am_C) (p k : Nat) (hp : p < 5) (hk : k < 4) (hb : b01 (S.1 4)) : am_ct y_Pl_setPoint 2 [.ref 1, .int (nI p), .int (nI k)] (cs_w S ++ r) (some (.int (bI (S.1 4 (p * 4 + k) = 0)))) (cs_w (if S.1 4 (p * 4 + k) = 0 then cs_I S 4 (upd (S.1 4) (p * 4 + k) 1) else S) ++ r) 0 0 := by
  refine am_ct.of rfl (Nat.le_of_ble_eq_true rfl) ?_
  refine aw_aload_n d_Pl_setPoint_0 rfl ?_
  refine aw_iload_n d_Pl_setPoint_1 rfl ?_
  refine aw_iload_n d_Pl_setPoint_2 rfl ?_
  refine aw_cV1 d_Pl_setPoint_3 (c_Pl_isPoint S r p k hp hk hb) mk_Pl_isPoint is_Pl_isPoint ln_Pl_39 rfl rfl rfl rfl (Nat.le_of_ble_eq_true rfl) (Nat.le_of_ble_eq_true rfl) (Nat.le_of_ble_eq_true rfl) (Nat.le_of_ble_eq_true rfl) ?_
  refine aw_if_eq (tgt := 11) d_Pl_setPoint_6 (by decide) (fun h6 => ?_) (fun h6 => ?_)
  · refine aw_aload_n d_Pl_setPoint_11 rfl ?_
    refine aw_get d_Pl_setPoint_12 fl_Pl_18 rfl rfl ?_
    refine aw_iload_n d_Pl_setPoint_15 rfl ?_
    refine aw_iload_n d_Pl_setPoint_16 rfl ?_
    refine aw_cSN1 d_Pl_setPoint_17 (c_RC_slotOf _ p k) mk_RC_slotOf is_RC_slotOf ln_Pl_43 rfl rfl (Nat.le_of_ble_eq_true rfl) (Nat.le_of_ble_eq_true rfl) (Nat.le_of_ble_eq_true rfl) (Nat.le_of_ble_eq_true rfl) ?_
    refine aw_iconst (v := nI 1) d_Pl_setPoint_20 (by decide) ?_
    refine aw_zastN d_Pl_setPoint_21 rfl (by omega) (Nat.le_of_ble_eq_true rfl) (cs_s4 _ _ _) ?_
    refine aw_iconst (v := nI 1) d_Pl_setPoint_22 (by decide) ?_
    exact aw_zretE d_Pl_setPoint_23 rfl rfl (by rw [bI_t h6]; rfl) (by rw [if_pos h6]; rfl) rfl rfl
  · refine aw_iconst (v := nI 0) d_Pl_setPoint_9 (by decide) ?_
    exact aw_zretE d_Pl_setPoint_10 rfl rfl (by rw [bI_f h6]; rfl) (by rw [if_neg h6]) rfl rfl
theorem c_Pl_isPointWithAverage (S : cs_S) (r : List am_C) (p k : Nat) (hp : p < 5) (hk : k < 4) (hb : b01 (S.1 4)) : am_ct y_Pl_isPointWithAverage 2 [.ref 1, .int (nI p), .int (nI k)] (cs_w S ++ r) (some (.int (bI (S.1 5 p ≠ 0 ∧ S.1 4 (p * 4 + k) ≠ 0)))) (cs_w S ++ r) 0 0 := by
  refine am_ct.of rfl (Nat.le_of_ble_eq_true rfl) ?_
  refine aw_aload_n d_Pl_isPointWithAverage_0 rfl ?_
  refine aw_get d_Pl_isPointWithAverage_1 fl_Pl_22 rfl rfl ?_
  refine aw_iload_n d_Pl_isPointWithAverage_4 rfl ?_
  refine aw_zaldN d_Pl_isPointWithAverage_5 rfl (by omega) (Nat.le_of_ble_eq_true rfl) ?_
  refine aw_if_eq (tgt := 22) d_Pl_isPointWithAverage_6 (by decide) (fun h6 => ?_) (fun h6 => ?_)
  · refine aw_iconst (v := nI 0) d_Pl_isPointWithAverage_22 (by decide) ?_
    exact aw_zretE d_Pl_isPointWithAverage_23 rfl rfl (bI_f (fun e => e.1 h6)).symm rfl rfl rfl
  · refine aw_aload_n d_Pl_isPointWithAverage_9 rfl ?_
    refine aw_iload_n d_Pl_isPointWithAverage_10 rfl ?_
    refine aw_iload_n d_Pl_isPointWithAverage_11 rfl ?_
    refine aw_cV1 d_Pl_isPointWithAverage_12 (c_Pl_isPoint S r p k hp hk hb) mk_Pl_isPoint is_Pl_isPoint ln_Pl_39 rfl rfl rfl rfl (Nat.le_of_ble_eq_true rfl) (Nat.le_of_ble_eq_true rfl) (Nat.le_of_ble_eq_true rfl) (Nat.le_of_ble_eq_true rfl) ?_
    refine aw_if_eq (tgt := 22) d_Pl_isPointWithAverage_15 (by decide) (fun h15 => ?_) (fun h15 => ?_)
    · refine aw_iconst (v := nI 0) d_Pl_isPointWithAverage_22 (by decide) ?_
      exact aw_zretE d_Pl_isPointWithAverage_23 rfl rfl (bI_f (fun e => e.2 h15)).symm rfl rfl rfl
    · refine aw_iconst (v := nI 1) d_Pl_isPointWithAverage_18 (by decide) ?_
      refine aw_goto (tgt := 23) d_Pl_isPointWithAverage_19 (by decide) ?_
      exact aw_zretE d_Pl_isPointWithAverage_23 rfl rfl (bI_t ⟨h6, h15⟩).symm rfl rfl rfl
theorem c_Pl_goesOn (S : cs_S) (r : List am_C) (p k : Nat) (hp : p < 5) (hk : k < 4) (hb : b01 (S.1 4)) : am_ct y_Pl_goesOn 2 [.ref 1, .int (nI p), .int (nI k)] (cs_w S ++ r) (some (.int (bI (S.1 4 (p * 4 + k) = 0 ∧ 0 < S.1 3 p)))) (cs_w S ++ r) 0 0 := by
  refine am_ct.of rfl (Nat.le_of_ble_eq_true rfl) ?_
  refine aw_aload_n d_Pl_goesOn_0 rfl ?_
  refine aw_iload_n d_Pl_goesOn_1 rfl ?_
  refine aw_iload_n d_Pl_goesOn_2 rfl ?_
  refine aw_cV1 d_Pl_goesOn_3 (c_Pl_isPoint S r p k hp hk hb) mk_Pl_isPoint is_Pl_isPoint ln_Pl_39 rfl rfl rfl rfl (Nat.le_of_ble_eq_true rfl) (Nat.le_of_ble_eq_true rfl) (Nat.le_of_ble_eq_true rfl) (Nat.le_of_ble_eq_true rfl) ?_
  refine aw_if_ne (tgt := 22) d_Pl_goesOn_6 (by decide) (fun h6 => ?_) (fun h6 => ?_)
  · refine aw_iconst (v := nI 0) d_Pl_goesOn_22 (by decide) ?_
    exact aw_zretE d_Pl_goesOn_23 rfl rfl (by first | exact (bI_t ⟨h6, Int32.not_le.mp h15⟩).symm | exact (bI_f (fun e => h6 e.1)).symm | exact (bI_f (fun e => absurd h15 (Int32.not_le.mpr e.2))).symm) rfl rfl rfl
  · refine aw_aload_n d_Pl_goesOn_9 rfl ?_
    refine aw_get d_Pl_goesOn_10 fl_Pl_15 rfl rfl ?_
    refine aw_iload_n d_Pl_goesOn_13 rfl ?_
    refine aw_ialdN d_Pl_goesOn_14 rfl (by omega) (Nat.le_of_ble_eq_true rfl) ?_
    refine aw_if_le (tgt := 22) d_Pl_goesOn_15 (by decide) (fun h15 => ?_) (fun h15 => ?_)
    · refine aw_iconst (v := nI 0) d_Pl_goesOn_22 (by decide) ?_
      exact aw_zretE d_Pl_goesOn_23 rfl rfl (by first | exact (bI_t ⟨h6, Int32.not_le.mp h15⟩).symm | exact (bI_f (fun e => h6 e.1)).symm | exact (bI_f (fun e => absurd h15 (Int32.not_le.mpr e.2))).symm) rfl rfl rfl
    · refine aw_iconst (v := nI 1) d_Pl_goesOn_18 (by decide) ?_
      refine aw_goto (tgt := 23) d_Pl_goesOn_19 (by decide) ?_
      exact aw_zretE d_Pl_goesOn_23 rfl rfl (by first | exact (bI_t ⟨h6, Int32.not_le.mp h15⟩).symm | exact (bI_f (fun e => h6 e.1)).symm | exact (bI_f (fun e => absurd h15 (Int32.not_le.mpr e.2))).symm) rfl rfl rfl
theorem c_Pl_isBare (S : cs_S) (r : List am_C) (p k : Nat) (hp : p < 5) (hk : k < 4) (hb : b01 (S.1 4)) : am_ct y_Pl_isBare 2 [.ref 1, .int (nI p), .int (nI k)] (cs_w S ++ r) (some (.int (bI (S.1 4 (p * 4 + k) = 0 ∧ S.1 3 p = 0 ∧ S.1 5 p = 0)))) (cs_w S ++ r) 0 0 := by
  refine am_ct.of rfl (Nat.le_of_ble_eq_true rfl) ?_
  refine aw_aload_n d_Pl_isBare_0 rfl ?_
  refine aw_iload_n d_Pl_isBare_1 rfl ?_
  refine aw_iload_n d_Pl_isBare_2 rfl ?_
  refine aw_cV1 d_Pl_isBare_3 (c_Pl_isPoint S r p k hp hk hb) mk_Pl_isPoint is_Pl_isPoint ln_Pl_39 rfl rfl rfl rfl (Nat.le_of_ble_eq_true rfl) (Nat.le_of_ble_eq_true rfl) (Nat.le_of_ble_eq_true rfl) (Nat.le_of_ble_eq_true rfl) ?_
  refine aw_if_ne (tgt := 31) d_Pl_isBare_6 (by decide) (fun h6 => ?_) (fun h6 => ?_)
  · refine aw_iconst (v := nI 0) d_Pl_isBare_31 (by decide) ?_
    exact aw_zretE d_Pl_isBare_32 rfl rfl (by first | exact (bI_t ⟨h6, h15, h24⟩).symm | exact (bI_f (fun e => h6 e.1)).symm | exact (bI_f (fun e => h15 e.2.1)).symm | exact (bI_f (fun e => h24 e.2.2)).symm) rfl rfl rfl
  · refine aw_aload_n d_Pl_isBare_9 rfl ?_
    refine aw_get d_Pl_isBare_10 fl_Pl_15 rfl rfl ?_
    refine aw_iload_n d_Pl_isBare_13 rfl ?_
    refine aw_ialdN d_Pl_isBare_14 rfl (by omega) (Nat.le_of_ble_eq_true rfl) ?_
    refine aw_if_ne (tgt := 31) d_Pl_isBare_15 (by decide) (fun h15 => ?_) (fun h15 => ?_)
    · refine aw_iconst (v := nI 0) d_Pl_isBare_31 (by decide) ?_
      exact aw_zretE d_Pl_isBare_32 rfl rfl (by first | exact (bI_t ⟨h6, h15, h24⟩).symm | exact (bI_f (fun e => h6 e.1)).symm | exact (bI_f (fun e => h15 e.2.1)).symm | exact (bI_f (fun e => h24 e.2.2)).symm) rfl rfl rfl
    · refine aw_aload_n d_Pl_isBare_18 rfl ?_
      refine aw_get d_Pl_isBare_19 fl_Pl_22 rfl rfl ?_
      refine aw_iload_n d_Pl_isBare_22 rfl ?_
      refine aw_zaldN d_Pl_isBare_23 rfl (by omega) (Nat.le_of_ble_eq_true rfl) ?_
      refine aw_if_ne (tgt := 31) d_Pl_isBare_24 (by decide) (fun h24 => ?_) (fun h24 => ?_)
      · refine aw_iconst (v := nI 0) d_Pl_isBare_31 (by decide) ?_
        exact aw_zretE d_Pl_isBare_32 rfl rfl (by first | exact (bI_t ⟨h6, h15, h24⟩).symm | exact (bI_f (fun e => h6 e.1)).symm | exact (bI_f (fun e => h15 e.2.1)).symm | exact (bI_f (fun e => h24 e.2.2)).symm) rfl rfl rfl
      · refine aw_iconst (v := nI 1) d_Pl_isBare_27 (by decide) ?_
        refine aw_goto (tgt := 32) d_Pl_isBare_28 (by decide) ?_
        exact aw_zretE d_Pl_isBare_32 rfl rfl (by first | exact (bI_t ⟨h6, h15, h24⟩).symm | exact (bI_f (fun e => h6 e.1)).symm | exact (bI_f (fun e => h15 e.2.1)).symm | exact (bI_f (fun e => h24 e.2.2)).symm) rfl rfl rfl
theorem c_Pl_tenthsCounted (S : cs_S) (r : List am_C) (p k : Nat) (hp : p < 5) (hk : k < 4) (hb : b01 (S.1 4)) : am_ct y_Pl_tenthsCounted 2 [.ref 1, .int (nI p), .int (nI k)] (cs_w S ++ r) (some (.int (if S.1 4 (p * 4 + k) = 0 then (if S.1 5 p = 0 then nI 0 else nI 10 - S.1 6 p) else nI 10))) (cs_w S ++ r) 0 0 := by
  refine am_ct.of rfl (Nat.le_of_ble_eq_true rfl) ?_
  refine aw_aload_n d_Pl_tenthsCounted_0 rfl ?_
  refine aw_iload_n d_Pl_tenthsCounted_1 rfl ?_
  refine aw_iload_n d_Pl_tenthsCounted_2 rfl ?_
  refine aw_cV1 d_Pl_tenthsCounted_3 (c_Pl_isPoint S r p k hp hk hb) mk_Pl_isPoint is_Pl_isPoint ln_Pl_39 rfl rfl rfl rfl (Nat.le_of_ble_eq_true rfl) (Nat.le_of_ble_eq_true rfl) (Nat.le_of_ble_eq_true rfl) (Nat.le_of_ble_eq_true rfl) ?_
  refine aw_if_eq (tgt := 12) d_Pl_tenthsCounted_6 (by decide) (fun h6 => ?_) (fun h6 => ?_)
  · refine aw_aload_n d_Pl_tenthsCounted_12 rfl ?_
    refine aw_get d_Pl_tenthsCounted_13 fl_Pl_22 rfl rfl ?_
    refine aw_iload_n d_Pl_tenthsCounted_16 rfl ?_
    refine aw_zaldN d_Pl_tenthsCounted_17 rfl (by omega) (Nat.le_of_ble_eq_true rfl) ?_
    refine aw_if_eq (tgt := 33) d_Pl_tenthsCounted_18 (by decide) (fun h18 => ?_) (fun h18 => ?_)
    · refine aw_iconst (v := nI 0) d_Pl_tenthsCounted_33 (by decide) ?_
      exact aw_iretE d_Pl_tenthsCounted_34 rfl (by first | rw [if_pos h6, if_pos h18] | rw [if_pos h6, if_neg h18]) rfl rfl rfl
    · refine aw_bipush (v := nI 10) d_Pl_tenthsCounted_21 (by decide) ?_
      refine aw_aload_n d_Pl_tenthsCounted_23 rfl ?_
      refine aw_get d_Pl_tenthsCounted_24 fl_Pl_25 rfl rfl ?_
      refine aw_iload_n d_Pl_tenthsCounted_27 rfl ?_
      refine aw_ialdN d_Pl_tenthsCounted_28 rfl (by omega) (Nat.le_of_ble_eq_true rfl) ?_
      refine aw_isub d_Pl_tenthsCounted_29 ?_
      refine aw_goto (tgt := 34) d_Pl_tenthsCounted_30 (by decide) ?_
      exact aw_iretE d_Pl_tenthsCounted_34 rfl (by first | rw [if_pos h6, if_pos h18] | rw [if_pos h6, if_neg h18]) rfl rfl rfl
  · refine aw_bipush (v := nI 10) d_Pl_tenthsCounted_9 (by decide) ?_
    exact aw_iretE d_Pl_tenthsCounted_11 rfl (by rw [if_neg h6]) rfl rfl rfl
theorem lp_Pl_gte (S : cs_S) (r : List am_C) (p : Nat) (hp : p < 5) : ∀ (n i : Nat), i + n = 5 → (∀ t, t < i → ¬ (S.1 7 t ≠ 0 ∧ 0 < S.1 2 (p * 5 + t))) → AW (am_Mof y_Pl_goesToAnEnd) 1 0 0 2 [(2, .int (nI i)), (0, .ref 1), (1, .int (nI p))] [] (cs_w S ++ r) 0 0 (am_Z (some (.int (bI (ex_n (fun t => decide (S.1 7 t ≠ 0 ∧ 0 < S.1 2 (p * 5 + t))) 5 = true)))) (cs_w S ++ r) 0 0) := by
  intro n
  induction n with
  | zero =>
    intro i hi hno
    have hi5 : i = 5 := by omega
    subst hi5
    have hx : ¬ (ex_n (fun t => decide (S.1 7 t ≠ 0 ∧ 0 < S.1 2 (p * 5 + t))) 5 = true) := fun h => by
      obtain ⟨t, h1, h2⟩ := (ex_n_iff _ _).mp h
      exact hno t h1 (of_decide_eq_true h2)
    refine aw_iload_n d_Pl_goesToAnEnd_2 rfl ?_
    refine aw_iconst (v := nI 5) d_Pl_goesToAnEnd_3 (by decide) ?_
    refine aw_icmp_ge (tgt := 33) d_Pl_goesToAnEnd_4 (by decide) (fun h4 => ?_) (fun h4 => absurd (nI_le (Nat.le_refl 5) (by omega)) h4)
    refine aw_iconst (v := nI 0) d_Pl_goesToAnEnd_33 (by decide) ?_
    exact aw_zretE d_Pl_goesToAnEnd_34 rfl rfl (bI_f hx).symm rfl rfl rfl
  | succ n ih =>
    intro i hi hno
    refine aw_iload_n d_Pl_goesToAnEnd_2 rfl ?_
    refine aw_iconst (v := nI 5) d_Pl_goesToAnEnd_3 (by decide) ?_
    refine aw_icmp_ge (tgt := 33) d_Pl_goesToAnEnd_4 (by decide) (fun h4 => absurd h4 (nI_ge (by omega) (by omega))) (fun h4 => ?_)
    refine aw_aload_n d_Pl_goesToAnEnd_7 rfl ?_
    refine aw_get d_Pl_goesToAnEnd_8 fl_Pl_28 rfl rfl ?_
    refine aw_iload_n d_Pl_goesToAnEnd_11 rfl ?_
    refine aw_zaldN d_Pl_goesToAnEnd_12 rfl (by omega) (Nat.le_of_ble_eq_true rfl) ?_
    refine aw_if_eq (tgt := 27) d_Pl_goesToAnEnd_13 (by decide) (fun h13 => ?_) (fun h13 => ?_)
    · refine aw_iinc d_Pl_goesToAnEnd_27 rfl (nI_1 _) (Nat.le_of_ble_eq_true rfl) ?_
      refine aw_goto (tgt := 2) d_Pl_goesToAnEnd_30 (by decide) ?_
      exact aw_eql rfl (ih (i + 1) (by omega) (fun t ht hc => by
        rcases (show t < i ∨ t = i by omega) with h | h
        · exact hno t h hc
        · subst h; exact hc.1 h13))
    · refine aw_aload_n d_Pl_goesToAnEnd_16 rfl ?_
      refine aw_iload_n d_Pl_goesToAnEnd_17 rfl ?_
      refine aw_iload_n d_Pl_goesToAnEnd_18 rfl ?_
      refine aw_cV1 d_Pl_goesToAnEnd_19 (c_Pl_shareOf S r p i hp (by omega)) mk_Pl_shareOf is_Pl_shareOf ln_Pl_35 rfl rfl rfl rfl (Nat.le_of_ble_eq_true rfl) (Nat.le_of_ble_eq_true rfl) (Nat.le_of_ble_eq_true rfl) (Nat.le_of_ble_eq_true rfl) ?_
      refine aw_if_le (tgt := 27) d_Pl_goesToAnEnd_22 (by decide) (fun h22 => ?_) (fun h22 => ?_)
      · refine aw_iinc d_Pl_goesToAnEnd_27 rfl (nI_1 _) (Nat.le_of_ble_eq_true rfl) ?_
        refine aw_goto (tgt := 2) d_Pl_goesToAnEnd_30 (by decide) ?_
        exact aw_eql rfl (ih (i + 1) (by omega) (fun t ht hc => by
          rcases (show t < i ∨ t = i by omega) with h | h
          · exact hno t h hc
          · subst h; exact absurd h22 (Int32.not_le.mpr hc.2)))
      · refine aw_iconst (v := nI 1) d_Pl_goesToAnEnd_25 (by decide) ?_
        exact aw_zretE d_Pl_goesToAnEnd_26 rfl rfl (bI_t ((ex_n_iff _ _).mpr ⟨i, by omega, decide_eq_true ⟨h13, Int32.not_le.mp h22⟩⟩)).symm rfl rfl rfl
theorem c_Pl_goesToAnEnd (S : cs_S) (r : List am_C) (p : Nat) (hp : p < 5) : am_ct y_Pl_goesToAnEnd 1 [.ref 1, .int (nI p)] (cs_w S ++ r) (some (.int (bI (ex_n (fun t => decide (S.1 7 t ≠ 0 ∧ 0 < S.1 2 (p * 5 + t))) 5 = true)))) (cs_w S ++ r) 0 0 := by
  refine am_ct.of rfl (Nat.le_of_ble_eq_true rfl) ?_
  refine aw_iconst (v := nI 0) d_Pl_goesToAnEnd_0 (by decide) ?_
  refine aw_istore_n d_Pl_goesToAnEnd_1 (Nat.le_of_ble_eq_true rfl) ?_
  exact aw_eql rfl (lp_Pl_gte S r p hp 5 0 rfl (fun t h => absurd h (Nat.not_lt_zero t)))
end
section
/-! RateChains$Plants: rings -/
def fe_a (e : Nat → Int32) (S : cs_S) (k : Nat) : Nat → (Nat → Int32)
  | 0 => e
  | i + 1 => upd (fe_a e S k i) i (bI (¬ (S.1 4 (i * 4 + k) = 0 ∧ 0 < S.1 3 i) ∨ S.1 3 i < nI 10))
def fe_b (sh e : Nat → Int32) : Nat → (Nat → Int32)
  | 0 => e
  | i + 1 => upd (fe_b sh e i) i (bI (fe_b sh e i i ≠ 0 ∨ ex_n (fun t => decide (fe_b sh e i t ≠ 0 ∧ 0 < sh (i * 5 + t))) 5 = true))
def fe_c (sh e : Nat → Int32) : Nat → (Nat → Int32)
  | 0 => e
  | s + 1 => fe_b sh (fe_c sh e s) 5
def fe_R (e : Nat → Int32) (S : cs_S) (k : Nat) : Nat → Int32 := fe_c (S.1 2) (fe_a e S k 5) 4
def lr_f (e : Nat → Int32) : Nat → Nat → Int32
  | 0, _ => -1
  | n + 1, i => if e i = 0 then nI i else lr_f e n (i + 1)
def lr_st (S : cs_S) : Nat → (Nat → Int32)
  | 0 => S.1 7
  | k + 1 => fe_R (lr_st S k) S k
def lr_v (S : cs_S) : Nat → Int32
  | 0 => -1
  | k + 1 => if lr_f (lr_st S (k + 1)) 5 0 ≠ -1 ∧ (lr_v S k = -1 ∨ lr_f (lr_st S (k + 1)) 5 0 < lr_v S k) then lr_f (lr_st S (k + 1)) 5 0 else lr_v S k
theorem lp_Pl_fe1 (S : cs_S) (r : List am_C) (e : Nat → Int32) (k : Nat) (hk : k < 4) (hb : b01 (S.1 4)) (Z : am_E) (K : AW (am_Mof y_Pl_findEnds) 3 0 0 44 [(2, .int (nI 5)), (0, .ref 1), (1, .int (nI k))] [] (cs_w (cs_I S 7 (fe_a e S k 5)) ++ r) 0 0 Z) : ∀ (n i : Nat), i + n = 5 → AW (am_Mof y_Pl_findEnds) 3 0 0 2 [(2, .int (nI i)), (0, .ref 1), (1, .int (nI k))] [] (cs_w (cs_I S 7 (fe_a e S k i)) ++ r) 0 0 Z := by
  intro n
  induction n with
  | zero =>
    intro i hi
    obtain rfl : i = 5 := by omega
    refine aw_iload_n d_Pl_findEnds_2 rfl ?_
    refine aw_iconst (v := nI 5) d_Pl_findEnds_3 (by decide) ?_
    refine aw_icmp_ge (tgt := 44) d_Pl_findEnds_4 (by decide) (fun h4 => ?_) (fun h4 => absurd (nI_le (Nat.le_refl 5) (by omega)) h4)
    exact K
  | succ n ih =>
    intro i hi
    refine aw_iload_n d_Pl_findEnds_2 rfl ?_
    refine aw_iconst (v := nI 5) d_Pl_findEnds_3 (by decide) ?_
    refine aw_icmp_ge (tgt := 44) d_Pl_findEnds_4 (by decide) (fun h4 => absurd h4 (nI_ge (by omega) (by omega))) (fun h4 => ?_)
    refine aw_aload_n d_Pl_findEnds_7 rfl ?_
    refine aw_get d_Pl_findEnds_8 fl_Pl_28 rfl rfl ?_
    refine aw_iload_n d_Pl_findEnds_11 rfl ?_
    refine aw_aload_n d_Pl_findEnds_12 rfl ?_
    refine aw_iload_n d_Pl_findEnds_13 rfl ?_
    refine aw_iload_n d_Pl_findEnds_14 rfl ?_
    refine aw_cV1 d_Pl_findEnds_15 (c_Pl_goesOn (cs_I S 7 (fe_a e S k i)) r i k (by omega) hk hb) mk_Pl_goesOn is_Pl_goesOn ln_Pl_54 rfl rfl rfl rfl (Nat.le_of_ble_eq_true rfl) (Nat.le_of_ble_eq_true rfl) (Nat.le_of_ble_eq_true rfl) (Nat.le_of_ble_eq_true rfl) ?_
    refine aw_if_eq (tgt := 32) d_Pl_findEnds_18 (by decide) (fun h18 => ?_) (fun h18 => ?_)
    · refine aw_iconst (v := nI 1) d_Pl_findEnds_32 (by decide) ?_
      refine aw_goto (tgt := 37) d_Pl_findEnds_33 (by decide) ?_
      have hv : bI (¬ (S.1 4 (i * 4 + k) = 0 ∧ 0 < S.1 3 i) ∨ S.1 3 i < nI 10) = 1 := bI_t (Or.inl (fun c => (bI_0 _).mp h18 c))
      refine aw_eqs (st' := [.int (bI (¬ (S.1 4 (i * 4 + k) = 0 ∧ 0 < S.1 3 i) ∨ S.1 3 i < nI 10)), .int (nI i), .ref 7]) (by rw [hv]; rfl) ?_
      refine aw_zastN d_Pl_findEnds_37 rfl (by omega) (Nat.le_of_ble_eq_true rfl) (show _ = cs_w (cs_I S 7 (fe_a e S k (i + 1))) ++ r from by rw [bI_vp]; exact (cs_s7 _ _ _).trans (by rw [cs_II]; rfl)) ?_
      refine aw_iinc d_Pl_findEnds_38 rfl (nI_1 _) (Nat.le_of_ble_eq_true rfl) ?_
      refine aw_goto (tgt := 2) d_Pl_findEnds_41 (by decide) ?_
      exact aw_eql rfl (ih (i + 1) (by omega))
    · refine aw_aload_n d_Pl_findEnds_21 rfl ?_
      refine aw_get d_Pl_findEnds_22 fl_Pl_15 rfl rfl ?_
      refine aw_iload_n d_Pl_findEnds_25 rfl ?_
      refine aw_ialdN d_Pl_findEnds_26 rfl (by omega) (Nat.le_of_ble_eq_true rfl) ?_
      refine aw_bipush (v := nI 10) d_Pl_findEnds_27 (by decide) ?_
      refine aw_icmp_ge (tgt := 36) d_Pl_findEnds_29 (by decide) (fun h29 => ?_) (fun h29 => ?_)
      · refine aw_iconst (v := nI 0) d_Pl_findEnds_36 (by decide) ?_
        have hv : bI (¬ (S.1 4 (i * 4 + k) = 0 ∧ 0 < S.1 3 i) ∨ S.1 3 i < nI 10) = 0 := bI_f (fun c => c.elim (fun c => c (Decidable.not_not.mp (fun c2 => h18 ((bI_0 _).mpr c2)))) (fun c => absurd h29 (Int32.not_le.mpr c)))
        refine aw_eqs (st' := [.int (bI (¬ (S.1 4 (i * 4 + k) = 0 ∧ 0 < S.1 3 i) ∨ S.1 3 i < nI 10)), .int (nI i), .ref 7]) (by rw [hv]; rfl) ?_
        refine aw_zastN d_Pl_findEnds_37 rfl (by omega) (Nat.le_of_ble_eq_true rfl) (show _ = cs_w (cs_I S 7 (fe_a e S k (i + 1))) ++ r from by rw [bI_vp]; exact (cs_s7 _ _ _).trans (by rw [cs_II]; rfl)) ?_
        refine aw_iinc d_Pl_findEnds_38 rfl (nI_1 _) (Nat.le_of_ble_eq_true rfl) ?_
        refine aw_goto (tgt := 2) d_Pl_findEnds_41 (by decide) ?_
        exact aw_eql rfl (ih (i + 1) (by omega))
      · refine aw_iconst (v := nI 1) d_Pl_findEnds_32 (by decide) ?_
        refine aw_goto (tgt := 37) d_Pl_findEnds_33 (by decide) ?_
        have hv : bI (¬ (S.1 4 (i * 4 + k) = 0 ∧ 0 < S.1 3 i) ∨ S.1 3 i < nI 10) = 1 := bI_t (Or.inr (Int32.not_le.mp h29))
        refine aw_eqs (st' := [.int (bI (¬ (S.1 4 (i * 4 + k) = 0 ∧ 0 < S.1 3 i) ∨ S.1 3 i < nI 10)), .int (nI i), .ref 7]) (by rw [hv]; rfl) ?_
        refine aw_zastN d_Pl_findEnds_37 rfl (by omega) (Nat.le_of_ble_eq_true rfl) (show _ = cs_w (cs_I S 7 (fe_a e S k (i + 1))) ++ r from by rw [bI_vp]; exact (cs_s7 _ _ _).trans (by rw [cs_II]; rfl)) ?_
        refine aw_iinc d_Pl_findEnds_38 rfl (nI_1 _) (Nat.le_of_ble_eq_true rfl) ?_
        refine aw_goto (tgt := 2) d_Pl_findEnds_41 (by decide) ?_
        exact aw_eql rfl (ih (i + 1) (by omega))
theorem lp_Pl_fe2 (S : cs_S) (r : List am_C) (e : Nat → Int32) (k s : Nat) (Z : am_E) (K : AW (am_Mof y_Pl_findEnds) 3 0 0 92 [(3, .int (nI 5)), (2, .int (nI s)), (0, .ref 1), (1, .int (nI k))] [] (cs_w (cs_I S 7 (fe_b (S.1 2) e 5)) ++ r) 0 0 Z) : ∀ (n i : Nat), i + n = 5 → AW (am_Mof y_Pl_findEnds) 3 0 0 53 [(3, .int (nI i)), (2, .int (nI s)), (0, .ref 1), (1, .int (nI k))] [] (cs_w (cs_I S 7 (fe_b (S.1 2) e i)) ++ r) 0 0 Z := by
  intro n
  induction n with
  | zero =>
    intro i hi
    obtain rfl : i = 5 := by omega
    refine aw_iload_n d_Pl_findEnds_53 rfl ?_
    refine aw_iconst (v := nI 5) d_Pl_findEnds_54 (by decide) ?_
    refine aw_icmp_ge (tgt := 92) d_Pl_findEnds_55 (by decide) (fun h55 => ?_) (fun h55 => absurd (nI_le (Nat.le_refl 5) (by omega)) h55)
    exact K
  | succ n ih =>
    intro i hi
    refine aw_iload_n d_Pl_findEnds_53 rfl ?_
    refine aw_iconst (v := nI 5) d_Pl_findEnds_54 (by decide) ?_
    refine aw_icmp_ge (tgt := 92) d_Pl_findEnds_55 (by decide) (fun h55 => absurd h55 (nI_ge (by omega) (by omega))) (fun h55 => ?_)
    refine aw_aload_n d_Pl_findEnds_58 rfl ?_
    refine aw_get d_Pl_findEnds_59 fl_Pl_28 rfl rfl ?_
    refine aw_iload_n d_Pl_findEnds_62 rfl ?_
    refine aw_aload_n d_Pl_findEnds_63 rfl ?_
    refine aw_get d_Pl_findEnds_64 fl_Pl_28 rfl rfl ?_
    refine aw_iload_n d_Pl_findEnds_67 rfl ?_
    refine aw_zaldN d_Pl_findEnds_68 rfl (by omega) (Nat.le_of_ble_eq_true rfl) ?_
    refine aw_if_ne (tgt := 80) d_Pl_findEnds_69 (by decide) (fun h69 => ?_) (fun h69 => ?_)
    · have h69 : ¬ fe_b (S.1 2) e i i = 0 := h69
      refine aw_iconst (v := nI 1) d_Pl_findEnds_80 (by decide) ?_
      refine aw_goto (tgt := 85) d_Pl_findEnds_81 (by decide) ?_
      have hv : bI (fe_b (S.1 2) e i i ≠ 0 ∨ ex_n (fun t => decide (fe_b (S.1 2) e i t ≠ 0 ∧ 0 < S.1 2 (i * 5 + t))) 5 = true) = 1 := bI_t (Or.inl h69)
      refine aw_eqs (st' := [.int (bI (fe_b (S.1 2) e i i ≠ 0 ∨ ex_n (fun t => decide (fe_b (S.1 2) e i t ≠ 0 ∧ 0 < S.1 2 (i * 5 + t))) 5 = true)), .int (nI i), .ref 7]) (by rw [hv]; rfl) ?_
      refine aw_zastN d_Pl_findEnds_85 rfl (by omega) (Nat.le_of_ble_eq_true rfl) (show _ = cs_w (cs_I S 7 (fe_b (S.1 2) e (i + 1))) ++ r from by rw [bI_vp]; exact (cs_s7 _ _ _).trans (by rw [cs_II]; rfl)) ?_
      refine aw_iinc d_Pl_findEnds_86 rfl (nI_1 _) (Nat.le_of_ble_eq_true rfl) ?_
      refine aw_goto (tgt := 53) d_Pl_findEnds_89 (by decide) ?_
      exact aw_eql rfl (ih (i + 1) (by omega))
    · have h69 : fe_b (S.1 2) e i i = 0 := h69
      refine aw_aload_n d_Pl_findEnds_72 rfl ?_
      refine aw_iload_n d_Pl_findEnds_73 rfl ?_
      refine aw_cV1 d_Pl_findEnds_74 (c_Pl_goesToAnEnd (cs_I S 7 (fe_b (S.1 2) e i)) r i (by omega)) mk_Pl_goesToAnEnd is_Pl_goesToAnEnd ln_Pl_57 rfl rfl rfl rfl (Nat.le_of_ble_eq_true rfl) (Nat.le_of_ble_eq_true rfl) (Nat.le_of_ble_eq_true rfl) (Nat.le_of_ble_eq_true rfl) ?_
      refine aw_if_eq (tgt := 84) d_Pl_findEnds_77 (by decide) (fun h77 => ?_) (fun h77 => ?_)
      · refine aw_iconst (v := nI 0) d_Pl_findEnds_84 (by decide) ?_
        have hv : bI (fe_b (S.1 2) e i i ≠ 0 ∨ ex_n (fun t => decide (fe_b (S.1 2) e i t ≠ 0 ∧ 0 < S.1 2 (i * 5 + t))) 5 = true) = 0 := bI_f (fun c => c.elim (fun c => c h69) (fun c => (bI_0 _).mp h77 c))
        refine aw_eqs (st' := [.int (bI (fe_b (S.1 2) e i i ≠ 0 ∨ ex_n (fun t => decide (fe_b (S.1 2) e i t ≠ 0 ∧ 0 < S.1 2 (i * 5 + t))) 5 = true)), .int (nI i), .ref 7]) (by rw [hv]; rfl) ?_
        refine aw_zastN d_Pl_findEnds_85 rfl (by omega) (Nat.le_of_ble_eq_true rfl) (show _ = cs_w (cs_I S 7 (fe_b (S.1 2) e (i + 1))) ++ r from by rw [bI_vp]; exact (cs_s7 _ _ _).trans (by rw [cs_II]; rfl)) ?_
        refine aw_iinc d_Pl_findEnds_86 rfl (nI_1 _) (Nat.le_of_ble_eq_true rfl) ?_
        refine aw_goto (tgt := 53) d_Pl_findEnds_89 (by decide) ?_
        exact aw_eql rfl (ih (i + 1) (by omega))
      · refine aw_iconst (v := nI 1) d_Pl_findEnds_80 (by decide) ?_
        refine aw_goto (tgt := 85) d_Pl_findEnds_81 (by decide) ?_
        have hv : bI (fe_b (S.1 2) e i i ≠ 0 ∨ ex_n (fun t => decide (fe_b (S.1 2) e i t ≠ 0 ∧ 0 < S.1 2 (i * 5 + t))) 5 = true) = 1 := bI_t (Or.inr (Decidable.not_not.mp (fun c2 => h77 ((bI_0 _).mpr c2))))
        refine aw_eqs (st' := [.int (bI (fe_b (S.1 2) e i i ≠ 0 ∨ ex_n (fun t => decide (fe_b (S.1 2) e i t ≠ 0 ∧ 0 < S.1 2 (i * 5 + t))) 5 = true)), .int (nI i), .ref 7]) (by rw [hv]; rfl) ?_
        refine aw_zastN d_Pl_findEnds_85 rfl (by omega) (Nat.le_of_ble_eq_true rfl) (show _ = cs_w (cs_I S 7 (fe_b (S.1 2) e (i + 1))) ++ r from by rw [bI_vp]; exact (cs_s7 _ _ _).trans (by rw [cs_II]; rfl)) ?_
        refine aw_iinc d_Pl_findEnds_86 rfl (nI_1 _) (Nat.le_of_ble_eq_true rfl) ?_
        refine aw_goto (tgt := 53) d_Pl_findEnds_89 (by decide) ?_
        exact aw_eql rfl (ih (i + 1) (by omega))
theorem lp_Pl_fe3 (S : cs_S) (r : List am_C) (e : Nat → Int32) (k : Nat) (w' : List am_C) (hw : cs_w (cs_I S 7 (fe_c (S.1 2) e 4)) ++ r = w') : ∀ (n s : Nat) (x3 : List (Nat × Value)), s + n = 4 → (x3 = [] ∨ ∃ v : Int32, x3 = [(3, .int v)]) → AW (am_Mof y_Pl_findEnds) 3 0 0 46 ([(2, .int (nI (s + 1)))] ++ x3 ++ [(0, .ref 1), (1, .int (nI k))]) [] (cs_w (cs_I S 7 (fe_c (S.1 2) e s)) ++ r) 0 0 (am_Z none w' 0 0) := by
  intro n
  induction n with
  | zero =>
    intro s x3 hs hx
    obtain rfl : s = 4 := by omega
    refine aw_sub (lv' := [(2, .int (nI 5)), (0, .ref 1), (1, .int (nI k))]) (by intro q hq; simp at hq ⊢; rcases hq with h | h | h <;> simp [h]) ?_
    refine aw_iload_n d_Pl_findEnds_46 rfl ?_
    refine aw_iconst (v := nI 5) d_Pl_findEnds_47 (by decide) ?_
    refine aw_icmp_ge (tgt := 98) d_Pl_findEnds_48 (by decide) (fun h48 => ?_) (fun h48 => absurd (nI_le (Nat.le_refl 5) (by omega)) h48)
    exact aw_vretE d_Pl_findEnds_98 rfl hw rfl rfl
  | succ n ih =>
    intro s x3 hs hx
    refine aw_sub (lv' := [(2, .int (nI (s + 1))), (0, .ref 1), (1, .int (nI k))]) (by intro q hq; simp at hq ⊢; rcases hq with h | h | h <;> simp [h]) ?_
    refine aw_iload_n d_Pl_findEnds_46 rfl ?_
    refine aw_iconst (v := nI 5) d_Pl_findEnds_47 (by decide) ?_
    refine aw_icmp_ge (tgt := 98) d_Pl_findEnds_48 (by decide) (fun h48 => absurd h48 (nI_ge (by omega) (by omega))) (fun h48 => ?_)
    refine aw_iconst (v := nI 0) d_Pl_findEnds_51 (by decide) ?_
    refine aw_istore_n d_Pl_findEnds_52 (Nat.le_of_ble_eq_true rfl) ?_
    refine aw_eql rfl (lp_Pl_fe2 S r (fe_c (S.1 2) e s) k (s + 1) _ ?_ 5 0 rfl)
    refine aw_iinc d_Pl_findEnds_92 rfl (nI_1 _) (Nat.le_of_ble_eq_true rfl) ?_
    refine aw_goto (tgt := 46) d_Pl_findEnds_95 (by decide) ?_
    exact aw_eql rfl (ih (s + 1) [(3, .int (nI 5))] (by omega) (Or.inr ⟨_, rfl⟩))
theorem c_Pl_findEnds (S : cs_S) (r : List am_C) (k : Nat) (hk : k < 4) (hb : b01 (S.1 4)) : am_ct y_Pl_findEnds 3 [.ref 1, .int (nI k)] (cs_w S ++ r) none (cs_w (cs_I S 7 (fe_R (S.1 7) S k)) ++ r) 0 0 := by
  refine am_ct.of rfl (Nat.le_of_ble_eq_true rfl) ?_
  refine aw_iconst (v := nI 0) d_Pl_findEnds_0 (by decide) ?_
  refine aw_istore_n d_Pl_findEnds_1 (Nat.le_of_ble_eq_true rfl) ?_
  refine aw_eql (lv' := [(2, .int (nI 0)), (0, .ref 1), (1, .int (nI k))]) rfl (aw_eqw (w' := cs_w (cs_I S 7 (fe_a (S.1 7) S k 0)) ++ r) (by show cs_w S ++ r = cs_w (va_up S.1 7 (S.1 7), S.2) ++ r; rw [show va_up S.1 7 (S.1 7) = S.1 from by funext j; unfold va_up; split; (rename_i h; rw [h]); rfl]) ?_)
  refine lp_Pl_fe1 S r (S.1 7) k hk hb _ ?_ 5 0 rfl
  refine aw_iconst (v := nI 1) d_Pl_findEnds_44 (by decide) ?_
  refine aw_istore_n d_Pl_findEnds_45 (Nat.le_of_ble_eq_true rfl) ?_
  exact aw_eql rfl (lp_Pl_fe3 S r (fe_a (S.1 7) S k 5) k _ rfl 4 0 [] rfl (Or.inl rfl))
theorem lp_Pl_lro (S : cs_S) (r : List am_C) (e : Nat → Int32) (k : Nat) : ∀ (n i : Nat), i + n = 5 → AW (am_Mof y_Pl_leastInRingOf) 4 0 0 7 [(2, .int (nI i)), (0, .ref 1), (1, .int (nI k))] [] (cs_w (cs_I S 7 e) ++ r) 0 0 (am_Z (some (.int (lr_f e n i))) (cs_w (cs_I S 7 e) ++ r) 0 0) := by
  intro n
  induction n with
  | zero =>
    intro i hi
    obtain rfl : i = 5 := by omega
    refine aw_iload_n d_Pl_leastInRingOf_7 rfl ?_
    refine aw_iconst (v := nI 5) d_Pl_leastInRingOf_8 (by decide) ?_
    refine aw_icmp_ge (tgt := 29) d_Pl_leastInRingOf_9 (by decide) (fun h9 => ?_) (fun h9 => absurd (nI_le (Nat.le_refl 5) (by omega)) h9)
    refine aw_iconst (v := -1) d_Pl_leastInRingOf_29 (by decide) ?_
    exact aw_iretE d_Pl_leastInRingOf_30 rfl rfl rfl rfl rfl
  | succ n ih =>
    intro i hi
    refine aw_iload_n d_Pl_leastInRingOf_7 rfl ?_
    refine aw_iconst (v := nI 5) d_Pl_leastInRingOf_8 (by decide) ?_
    refine aw_icmp_ge (tgt := 29) d_Pl_leastInRingOf_9 (by decide) (fun h9 => absurd h9 (nI_ge (by omega) (by omega))) (fun h9 => ?_)
    refine aw_aload_n d_Pl_leastInRingOf_12 rfl ?_
    refine aw_get d_Pl_leastInRingOf_13 fl_Pl_28 rfl rfl ?_
    refine aw_iload_n d_Pl_leastInRingOf_16 rfl ?_
    refine aw_zaldN d_Pl_leastInRingOf_17 rfl (by omega) (Nat.le_of_ble_eq_true rfl) ?_
    refine aw_if_ne (tgt := 23) d_Pl_leastInRingOf_18 (by decide) (fun h18 => ?_) (fun h18 => ?_)
    · refine aw_iinc d_Pl_leastInRingOf_23 rfl (nI_1 _) (Nat.le_of_ble_eq_true rfl) ?_
      refine aw_goto (tgt := 7) d_Pl_leastInRingOf_26 (by decide) ?_
      refine aw_eql (lv' := [(2, .int (nI (i + 1))), (0, .ref 1), (1, .int (nI k))]) rfl ?_
      have hq : lr_f e (n + 1) i = lr_f e n (i + 1) := if_neg h18
      rw [hq]
      exact ih (i + 1) (by omega)
    · refine aw_iload_n d_Pl_leastInRingOf_21 rfl ?_
      exact aw_iretE d_Pl_leastInRingOf_22 rfl (by exact (if_pos h18).symm) rfl rfl rfl
theorem c_Pl_leastInRingOf (S : cs_S) (r : List am_C) (k : Nat) (hk : k < 4) (hb : b01 (S.1 4)) : am_ct y_Pl_leastInRingOf 4 [.ref 1, .int (nI k)] (cs_w S ++ r) (some (.int (lr_f (fe_R (S.1 7) S k) 5 0))) (cs_w (cs_I S 7 (fe_R (S.1 7) S k)) ++ r) 0 0 := by
  refine am_ct.of rfl (Nat.le_of_ble_eq_true rfl) ?_
  refine aw_aload_n d_Pl_leastInRingOf_0 rfl ?_
  refine aw_iload_n d_Pl_leastInRingOf_1 rfl ?_
  refine aw_cV0 d_Pl_leastInRingOf_2 (c_Pl_findEnds S r k hk hb) mk_Pl_findEnds is_Pl_findEnds ln_Pl_50 rfl rfl rfl rfl (Nat.le_of_ble_eq_true rfl) (Nat.le_of_ble_eq_true rfl) (Nat.le_of_ble_eq_true rfl) (Nat.le_of_ble_eq_true rfl) ?_
  refine aw_iconst (v := nI 0) d_Pl_leastInRingOf_5 (by decide) ?_
  refine aw_istore_n d_Pl_leastInRingOf_6 (Nat.le_of_ble_eq_true rfl) ?_
  exact aw_eql rfl (lp_Pl_lro S r (fe_R (S.1 7) S k) k 5 0 rfl)
theorem lp_Pl_lr (S : cs_S) (r : List am_C) (hb : b01 (S.1 4)) : ∀ (n k : Nat) (x3 : List (Nat × Value)), k + n = 4 → (x3 = [] ∨ ∃ v : Int32, x3 = [(3, .int v)]) → AW (am_Mof y_Pl_leastInRing) 5 0 0 4 ([(2, .int (nI k)), (1, .int (lr_v S k))] ++ x3 ++ [(0, .ref 1)]) [] (cs_w (cs_I S 7 (lr_st S k)) ++ r) 0 0 (am_Z (some (.int (lr_v S 4))) (cs_w (cs_I S 7 (lr_st S 4)) ++ r) 0 0) := by
  intro n
  induction n with
  | zero =>
    intro k x3 hs hx
    obtain rfl : k = 4 := by omega
    refine aw_sub (lv' := [(2, .int (nI 4)), (1, .int (lr_v S 4)), (0, .ref 1)]) (by intro q hq; simp at hq ⊢; rcases hq with h | h | h <;> simp [h]) ?_
    refine aw_iload_n d_Pl_leastInRing_4 rfl ?_
    refine aw_iconst (v := nI 4) d_Pl_leastInRing_5 (by decide) ?_
    refine aw_icmp_ge (tgt := 38) d_Pl_leastInRing_6 (by decide) (fun h6 => ?_) (fun h6 => absurd (nI_le (Nat.le_refl 4) (by omega)) h6)
    refine aw_iload_n d_Pl_leastInRing_38 rfl ?_
    exact aw_iretE d_Pl_leastInRing_39 rfl rfl rfl rfl rfl
  | succ n ih =>
    intro k x3 hs hx
    refine aw_sub (lv' := [(2, .int (nI k)), (1, .int (lr_v S k)), (0, .ref 1)]) (by intro q hq; simp at hq ⊢; rcases hq with h | h | h <;> simp [h]) ?_
    refine aw_iload_n d_Pl_leastInRing_4 rfl ?_
    refine aw_iconst (v := nI 4) d_Pl_leastInRing_5 (by decide) ?_
    refine aw_icmp_ge (tgt := 38) d_Pl_leastInRing_6 (by decide) (fun h6 => absurd h6 (nI_ge (by omega) (by omega))) (fun h6 => ?_)
    refine aw_aload_n d_Pl_leastInRing_9 rfl ?_
    refine aw_iload_n d_Pl_leastInRing_10 rfl ?_
    refine aw_cV1 d_Pl_leastInRing_11 (c_Pl_leastInRingOf (cs_I S 7 (lr_st S k)) r k (by omega) hb) mk_Pl_leastInRingOf is_Pl_leastInRingOf ln_Pl_46 rfl rfl rfl rfl (Nat.le_of_ble_eq_true rfl) (Nat.le_of_ble_eq_true rfl) (Nat.le_of_ble_eq_true rfl) (Nat.le_of_ble_eq_true rfl) ?_
    refine aw_eqs (st' := [.int (lr_f (lr_st S (k + 1)) 5 0)]) rfl ?_
    refine aw_eqw (w' := cs_w (cs_I S 7 (lr_st S (k + 1))) ++ r) (by rw [cs_II]; rfl) ?_
    refine aw_istore_n d_Pl_leastInRing_14 (Nat.le_of_ble_eq_true rfl) ?_
    refine aw_iload_n d_Pl_leastInRing_15 rfl ?_
    refine aw_iconst (v := -1) d_Pl_leastInRing_16 (by decide) ?_
    refine aw_icmp_eq (tgt := 32) d_Pl_leastInRing_17 (by decide) (fun h17 => ?_) (fun h17 => ?_)
    · refine aw_iinc d_Pl_leastInRing_32 rfl (nI_1 _) (Nat.le_of_ble_eq_true rfl) ?_
      refine aw_goto (tgt := 4) d_Pl_leastInRing_35 (by decide) ?_
      have hq : lr_v S (k + 1) = lr_v S k := if_neg (fun c => c.1 h17)
      refine aw_pick (lv' := [(2, .int (nI (k + 1))), (1, .int (lr_v S (k + 1))), (3, .int (lr_f (lr_st S (k + 1)) 5 0)), (0, .ref 1)]) (by rw [hq]; exact ⟨rfl, rfl, rfl, rfl, trivial⟩) ?_
      exact ih (k + 1) [(3, .int (lr_f (lr_st S (k + 1)) 5 0))] (by omega) (Or.inr ⟨_, rfl⟩)
    · refine aw_iload_n d_Pl_leastInRing_20 rfl ?_
      refine aw_iconst (v := -1) d_Pl_leastInRing_21 (by decide) ?_
      refine aw_icmp_eq (tgt := 30) d_Pl_leastInRing_22 (by decide) (fun h22 => ?_) (fun h22 => ?_)
      · refine aw_iload_n d_Pl_leastInRing_30 rfl ?_
        refine aw_istore_n d_Pl_leastInRing_31 (Nat.le_of_ble_eq_true rfl) ?_
        refine aw_iinc d_Pl_leastInRing_32 rfl (nI_1 _) (Nat.le_of_ble_eq_true rfl) ?_
        refine aw_goto (tgt := 4) d_Pl_leastInRing_35 (by decide) ?_
        have hq : lr_v S (k + 1) = lr_f (lr_st S (k + 1)) 5 0 := if_pos ⟨h17, Or.inl h22⟩
        refine aw_pick (lv' := [(2, .int (nI (k + 1))), (1, .int (lr_v S (k + 1))), (3, .int (lr_f (lr_st S (k + 1)) 5 0)), (0, .ref 1)]) (by rw [hq]; exact ⟨rfl, rfl, rfl, rfl, trivial⟩) ?_
        exact ih (k + 1) [(3, .int (lr_f (lr_st S (k + 1)) 5 0))] (by omega) (Or.inr ⟨_, rfl⟩)
      · refine aw_iload_n d_Pl_leastInRing_25 rfl ?_
        refine aw_iload_n d_Pl_leastInRing_26 rfl ?_
        refine aw_icmp_ge (tgt := 32) d_Pl_leastInRing_27 (by decide) (fun h27 => ?_) (fun h27 => ?_)
        · refine aw_iinc d_Pl_leastInRing_32 rfl (nI_1 _) (Nat.le_of_ble_eq_true rfl) ?_
          refine aw_goto (tgt := 4) d_Pl_leastInRing_35 (by decide) ?_
          have hq : lr_v S (k + 1) = lr_v S k := if_neg (fun c => c.2.elim (fun c => h22 c) (fun c => absurd h27 (Int32.not_le.mpr c)))
          refine aw_pick (lv' := [(2, .int (nI (k + 1))), (1, .int (lr_v S (k + 1))), (3, .int (lr_f (lr_st S (k + 1)) 5 0)), (0, .ref 1)]) (by rw [hq]; exact ⟨rfl, rfl, rfl, rfl, trivial⟩) ?_
          exact ih (k + 1) [(3, .int (lr_f (lr_st S (k + 1)) 5 0))] (by omega) (Or.inr ⟨_, rfl⟩)
        · refine aw_iload_n d_Pl_leastInRing_30 rfl ?_
          refine aw_istore_n d_Pl_leastInRing_31 (Nat.le_of_ble_eq_true rfl) ?_
          refine aw_iinc d_Pl_leastInRing_32 rfl (nI_1 _) (Nat.le_of_ble_eq_true rfl) ?_
          refine aw_goto (tgt := 4) d_Pl_leastInRing_35 (by decide) ?_
          have hq : lr_v S (k + 1) = lr_f (lr_st S (k + 1)) 5 0 := if_pos ⟨h17, Or.inr (Int32.not_le.mp h27)⟩
          refine aw_pick (lv' := [(2, .int (nI (k + 1))), (1, .int (lr_v S (k + 1))), (3, .int (lr_f (lr_st S (k + 1)) 5 0)), (0, .ref 1)]) (by rw [hq]; exact ⟨rfl, rfl, rfl, rfl, trivial⟩) ?_
          exact ih (k + 1) [(3, .int (lr_f (lr_st S (k + 1)) 5 0))] (by omega) (Or.inr ⟨_, rfl⟩)
theorem c_Pl_leastInRing (S : cs_S) (r : List am_C) (hb : b01 (S.1 4)) : am_ct y_Pl_leastInRing 5 [.ref 1] (cs_w S ++ r) (some (.int (lr_v S 4))) (cs_w (cs_I S 7 (lr_st S 4)) ++ r) 0 0 := by
  refine am_ct.of rfl (Nat.le_of_ble_eq_true rfl) ?_
  refine aw_iconst (v := -1) d_Pl_leastInRing_0 (by decide) ?_
  refine aw_istore_n d_Pl_leastInRing_1 (Nat.le_of_ble_eq_true rfl) ?_
  refine aw_iconst (v := nI 0) d_Pl_leastInRing_2 (by decide) ?_
  refine aw_istore_n d_Pl_leastInRing_3 (Nat.le_of_ble_eq_true rfl) ?_
  refine aw_eql (lv' := [(2, .int (nI 0)), (1, .int (lr_v S 0)), (0, .ref 1)]) rfl (aw_eqw (w' := cs_w (cs_I S 7 (lr_st S 0)) ++ r) (by show cs_w S ++ r = cs_w (va_up S.1 7 (S.1 7), S.2) ++ r; rw [show va_up S.1 7 (S.1 7) = S.1 from by funext j; unfold va_up; split; (rename_i h; rw [h]); rfl]) ?_)
  exact lp_Pl_lr S r hb 4 0 [] rfl (Or.inl rfl)
end
section
/-! the class's own small methods; Feeds -/
theorem vp_in_lt {x : Int32} {c N : Nat} (h0 : ¬ x < 0) (h : ¬ nI c ≤ x) (hc : c ≤ N) (hN : N < 2 ^ 31) : vp_in x N := by
  rw [Int32.lt_iff_toInt_lt, Int32.toInt_zero] at h0
  rw [Int32.le_iff_toInt_le, nI_toInt (by omega)] at h
  rw [vp_in_iff]
  omega
/-- the fraction a / b in tenths, -1 when it is none -/
def tn_f (a b : Int64) : Int32 := if (b = lN 1 ∨ b = lN 2 ∨ b = lN 5 ∨ b = lN 10) ∧ lN 0 ≤ a ∧ a ≤ b then (a * (lN 10 / b)).toInt32 else -1
/-- Euclid, n steps at most -/
def eu_f : Nat → Int64 → Int64 → Int64
  | 0, h, _ => h
  | n + 1, h, l => if l = lN 0 then h else eu_f n l (h - h / l * l)
def pt_f (a b : Int64) (k : Int32) : Int64 := if eu_f 128 (if lN 0 ≤ a then a else -a) b = lN 0 then lN 0 else if k = 0 then a / eu_f 128 (if lN 0 ≤ a then a else -a) b else b / eu_f 128 (if lN 0 ≤ a then a else -a) b
theorem c_RC_isKind (w : List am_C) (x : Int32) : am_ct y_RC_isKind 0 [.int x] (w) (some (.int (bI (0 ≤ x ∧ x < nI 4)))) (w) 0 0 := by
  refine am_ct.of rfl (Nat.le_of_ble_eq_true rfl) ?_
  refine aw_iload_n d_RC_isKind_0 rfl ?_
  refine aw_if_lt (tgt := 13) d_RC_isKind_1 (by decide) (fun h1 => ?_) (fun h1 => ?_)
  · refine aw_iconst (v := nI 0) d_RC_isKind_13 (by decide) ?_
    exact aw_zretE d_RC_isKind_14 rfl rfl (bI_f (fun e => absurd e.1 (Int32.not_le.mpr h1))).symm rfl rfl rfl
  · refine aw_iload_n d_RC_isKind_4 rfl ?_
    refine aw_iconst (v := nI 4) d_RC_isKind_5 (by decide) ?_
    refine aw_icmp_ge (tgt := 13) d_RC_isKind_6 (by decide) (fun hc => ?_) (fun hc => ?_)
    · refine aw_iconst (v := nI 0) d_RC_isKind_13 (by decide) ?_
      exact aw_zretE d_RC_isKind_14 rfl rfl (bI_f (fun e => absurd hc (Int32.not_le.mpr e.2))).symm rfl rfl rfl
    · refine aw_iconst (v := nI 1) d_RC_isKind_9 (by decide) ?_
      refine aw_goto (tgt := 14) d_RC_isKind_10 (by decide) ?_
      exact aw_zretE d_RC_isKind_14 rfl rfl (bI_t ⟨(i32_nlt _ _).mp h1, Int32.not_le.mp hc⟩).symm rfl rfl rfl
theorem c_RC_isYear (w : List am_C) (x : Int32) : am_ct y_RC_isYear 0 [.int x] (w) (some (.int (bI (0 ≤ x ∧ x < nI 10)))) (w) 0 0 := by
  refine am_ct.of rfl (Nat.le_of_ble_eq_true rfl) ?_
  refine aw_iload_n d_RC_isYear_0 rfl ?_
  refine aw_if_lt (tgt := 14) d_RC_isYear_1 (by decide) (fun h1 => ?_) (fun h1 => ?_)
  · refine aw_iconst (v := nI 0) d_RC_isYear_14 (by decide) ?_
    exact aw_zretE d_RC_isYear_15 rfl rfl (bI_f (fun e => absurd e.1 (Int32.not_le.mpr h1))).symm rfl rfl rfl
  · refine aw_iload_n d_RC_isYear_4 rfl ?_
    refine aw_bipush (v := nI 10) d_RC_isYear_5 (by decide) ?_
    refine aw_icmp_ge (tgt := 14) d_RC_isYear_7 (by decide) (fun hc => ?_) (fun hc => ?_)
    · refine aw_iconst (v := nI 0) d_RC_isYear_14 (by decide) ?_
      exact aw_zretE d_RC_isYear_15 rfl rfl (bI_f (fun e => absurd hc (Int32.not_le.mpr e.2))).symm rfl rfl rfl
    · refine aw_iconst (v := nI 1) d_RC_isYear_10 (by decide) ?_
      refine aw_goto (tgt := 15) d_RC_isYear_11 (by decide) ?_
      exact aw_zretE d_RC_isYear_15 rfl rfl (bI_t ⟨(i32_nlt _ _).mp h1, Int32.not_le.mp hc⟩).symm rfl rfl rfl
theorem c_RC_isCountry (w : List am_C) (x : Int32) : am_ct y_RC_isCountry 0 [.int x] (w) (some (.int (bI (0 ≤ x ∧ x < nI 4)))) (w) 0 0 := by
  refine am_ct.of rfl (Nat.le_of_ble_eq_true rfl) ?_
  refine aw_iload_n d_RC_isCountry_0 rfl ?_
  refine aw_if_lt (tgt := 13) d_RC_isCountry_1 (by decide) (fun h1 => ?_) (fun h1 => ?_)
  · refine aw_iconst (v := nI 0) d_RC_isCountry_13 (by decide) ?_
    exact aw_zretE d_RC_isCountry_14 rfl rfl (bI_f (fun e => absurd e.1 (Int32.not_le.mpr h1))).symm rfl rfl rfl
  · refine aw_iload_n d_RC_isCountry_4 rfl ?_
    refine aw_iconst (v := nI 4) d_RC_isCountry_5 (by decide) ?_
    refine aw_icmp_ge (tgt := 13) d_RC_isCountry_6 (by decide) (fun hc => ?_) (fun hc => ?_)
    · refine aw_iconst (v := nI 0) d_RC_isCountry_13 (by decide) ?_
      exact aw_zretE d_RC_isCountry_14 rfl rfl (bI_f (fun e => absurd hc (Int32.not_le.mpr e.2))).symm rfl rfl rfl
    · refine aw_iconst (v := nI 1) d_RC_isCountry_9 (by decide) ?_
      refine aw_goto (tgt := 14) d_RC_isCountry_10 (by decide) ?_
      exact aw_zretE d_RC_isCountry_14 rfl rfl (bI_t ⟨(i32_nlt _ _).mp h1, Int32.not_le.mp hc⟩).symm rfl rfl rfl
theorem c_RC_isPart (w : List am_C) (x : Int32) : am_ct y_RC_isPart 0 [.int x] (w) (some (.int (bI (x = 0 ∨ x = nI 1)))) (w) 0 0 := by
  refine am_ct.of rfl (Nat.le_of_ble_eq_true rfl) ?_
  refine aw_iload_n d_RC_isPart_0 rfl ?_
  refine aw_if_eq (tgt := 9) d_RC_isPart_1 (by decide) (fun h1 => ?_) (fun h1 => ?_)
  · refine aw_iconst (v := nI 1) d_RC_isPart_9 (by decide) ?_
    refine aw_goto (tgt := 14) d_RC_isPart_10 (by decide) ?_
    exact aw_zretE d_RC_isPart_14 rfl rfl (bI_t (Or.inl h1)).symm rfl rfl rfl
  · refine aw_iload_n d_RC_isPart_4 rfl ?_
    refine aw_iconst (v := nI 1) d_RC_isPart_5 (by decide) ?_
    refine aw_icmp_ne (tgt := 13) d_RC_isPart_6 (by decide) (fun h6 => ?_) (fun h6 => ?_)
    · refine aw_iconst (v := nI 0) d_RC_isPart_13 (by decide) ?_
      exact aw_zretE d_RC_isPart_14 rfl rfl (bI_f (fun e => e.elim h1 h6)).symm rfl rfl rfl
    · refine aw_iconst (v := nI 1) d_RC_isPart_9 (by decide) ?_
      refine aw_goto (tgt := 14) d_RC_isPart_10 (by decide) ?_
      exact aw_zretE d_RC_isPart_14 rfl rfl (bI_t (Or.inr h6)).symm rfl rfl rfl
theorem c_RC_isWithin (w : List am_C) (g l m : Int64) : am_ct y_RC_isWithin 0 [.long g, .long l, .long m] (w) (some (.int (bI (l ≤ g ∧ g ≤ m)))) (w) 0 0 := by
  refine am_ct.of rfl (Nat.le_of_ble_eq_true rfl) ?_
  refine aw_lload_n d_RC_isWithin_0 rfl ?_
  refine aw_lload_n d_RC_isWithin_1 rfl ?_
  refine aw_lc_lt (tgt := 17) d_RC_isWithin_2 d_RC_isWithin_3 (by decide) (fun h3 => ?_) (fun h3 => ?_)
  · refine aw_iconst (v := nI 0) d_RC_isWithin_17 (by decide) ?_
    exact aw_zretE d_RC_isWithin_18 rfl rfl (bI_f (fun e => (i64_nlt _ _).mpr e.1 h3)).symm rfl rfl rfl
  · refine aw_lload_n d_RC_isWithin_6 rfl ?_
    refine aw_lload d_RC_isWithin_7 rfl ?_
    refine aw_lc_gt (tgt := 17) d_RC_isWithin_9 d_RC_isWithin_10 (by decide) (fun h10 => ?_) (fun h10 => ?_)
    · refine aw_iconst (v := nI 0) d_RC_isWithin_17 (by decide) ?_
      exact aw_zretE d_RC_isWithin_18 rfl rfl (bI_f (fun e => (i64_nlt _ _).mpr e.2 h10)).symm rfl rfl rfl
    · refine aw_iconst (v := nI 1) d_RC_isWithin_13 (by decide) ?_
      refine aw_goto (tgt := 18) d_RC_isWithin_14 (by decide) ?_
      exact aw_zretE d_RC_isWithin_18 rfl rfl (bI_t ⟨(i64_nlt _ _).mp h3, (i64_nlt _ _).mp h10⟩).symm rfl rfl rfl
theorem c_RC_tenthsOf (w : List am_C) (a b : Int64) : am_ct y_RC_tenthsOf 0 [.long a, .long b] (w) (some (.int (tn_f a b))) (w) 0 0 := by
  refine am_ct.of rfl (Nat.le_of_ble_eq_true rfl) ?_
  refine aw_lload_n d_RC_tenthsOf_0 rfl ?_
  refine aw_lconst (v := lN 1) d_RC_tenthsOf_1 rfl ?_
  refine aw_lc_eq (tgt := 30) d_RC_tenthsOf_2 d_RC_tenthsOf_3 (by decide) (fun h3 => ?_) (fun h3 => ?_)
  · refine aw_iconst (v := nI 1) d_RC_tenthsOf_30 (by decide) ?_
    refine aw_goto (tgt := 35) d_RC_tenthsOf_31 (by decide) ?_
    refine aw_istore d_RC_tenthsOf_35 (Nat.le_of_ble_eq_true rfl) ?_
    refine aw_iload d_RC_tenthsOf_37 rfl ?_
    refine aw_if_eq (tgt := 54) d_RC_tenthsOf_39 (by decide) (fun h39 => absurd h39 (by decide)) (fun h39 => ?_)
    refine aw_lload_n d_RC_tenthsOf_42 rfl ?_
    refine aw_lconst (v := lN 0) d_RC_tenthsOf_43 rfl ?_
    refine aw_lc_lt (tgt := 54) d_RC_tenthsOf_44 d_RC_tenthsOf_45 (by decide) (fun h45 => ?_) (fun h45 => ?_)
    · refine aw_iconst (v := -1) d_RC_tenthsOf_54 (by decide) ?_
      exact aw_iretE d_RC_tenthsOf_55 rfl (by unfold tn_f; rw [if_neg (fun e => (i64_nlt _ _).mpr e.2.1 h45)]) rfl rfl rfl
    · refine aw_lload_n d_RC_tenthsOf_48 rfl ?_
      refine aw_lload_n d_RC_tenthsOf_49 rfl ?_
      refine aw_lc_le (tgt := 56) d_RC_tenthsOf_50 d_RC_tenthsOf_51 (by decide) (fun h51 => ?_) (fun h51 => ?_)
      · refine aw_lload_n d_RC_tenthsOf_56 rfl ?_
        refine aw_ldc2 (v := lN 10) d_RC_tenthsOf_57 kl_RC_176 ?_
        refine aw_lload_n d_RC_tenthsOf_60 rfl ?_
        refine aw_ldiv d_RC_tenthsOf_61 (by rw [h3]; decide) ?_
        refine aw_lmul d_RC_tenthsOf_62 ?_
        refine aw_l2i d_RC_tenthsOf_63 ?_
        exact aw_iretE d_RC_tenthsOf_64 rfl (by unfold tn_f; rw [if_pos ⟨Or.inl h3, (i64_nlt _ _).mp h45, h51⟩]) rfl rfl rfl
      · refine aw_iconst (v := -1) d_RC_tenthsOf_54 (by decide) ?_
        exact aw_iretE d_RC_tenthsOf_55 rfl (by unfold tn_f; rw [if_neg (fun e => h51 e.2.2)]) rfl rfl rfl
  · refine aw_lload_n d_RC_tenthsOf_6 rfl ?_
    refine aw_ldc2 (v := lN 2) d_RC_tenthsOf_7 kl_RC_172 ?_
    refine aw_lc_eq (tgt := 30) d_RC_tenthsOf_10 d_RC_tenthsOf_11 (by decide) (fun h11 => ?_) (fun h11 => ?_)
    · refine aw_iconst (v := nI 1) d_RC_tenthsOf_30 (by decide) ?_
      refine aw_goto (tgt := 35) d_RC_tenthsOf_31 (by decide) ?_
      refine aw_istore d_RC_tenthsOf_35 (Nat.le_of_ble_eq_true rfl) ?_
      refine aw_iload d_RC_tenthsOf_37 rfl ?_
      refine aw_if_eq (tgt := 54) d_RC_tenthsOf_39 (by decide) (fun h39 => absurd h39 (by decide)) (fun h39 => ?_)
      refine aw_lload_n d_RC_tenthsOf_42 rfl ?_
      refine aw_lconst (v := lN 0) d_RC_tenthsOf_43 rfl ?_
      refine aw_lc_lt (tgt := 54) d_RC_tenthsOf_44 d_RC_tenthsOf_45 (by decide) (fun h45 => ?_) (fun h45 => ?_)
      · refine aw_iconst (v := -1) d_RC_tenthsOf_54 (by decide) ?_
        exact aw_iretE d_RC_tenthsOf_55 rfl (by unfold tn_f; rw [if_neg (fun e => (i64_nlt _ _).mpr e.2.1 h45)]) rfl rfl rfl
      · refine aw_lload_n d_RC_tenthsOf_48 rfl ?_
        refine aw_lload_n d_RC_tenthsOf_49 rfl ?_
        refine aw_lc_le (tgt := 56) d_RC_tenthsOf_50 d_RC_tenthsOf_51 (by decide) (fun h51 => ?_) (fun h51 => ?_)
        · refine aw_lload_n d_RC_tenthsOf_56 rfl ?_
          refine aw_ldc2 (v := lN 10) d_RC_tenthsOf_57 kl_RC_176 ?_
          refine aw_lload_n d_RC_tenthsOf_60 rfl ?_
          refine aw_ldiv d_RC_tenthsOf_61 (by rw [h11]; decide) ?_
          refine aw_lmul d_RC_tenthsOf_62 ?_
          refine aw_l2i d_RC_tenthsOf_63 ?_
          exact aw_iretE d_RC_tenthsOf_64 rfl (by unfold tn_f; rw [if_pos ⟨Or.inr (Or.inl h11), (i64_nlt _ _).mp h45, h51⟩]) rfl rfl rfl
        · refine aw_iconst (v := -1) d_RC_tenthsOf_54 (by decide) ?_
          exact aw_iretE d_RC_tenthsOf_55 rfl (by unfold tn_f; rw [if_neg (fun e => h51 e.2.2)]) rfl rfl rfl
    · refine aw_lload_n d_RC_tenthsOf_14 rfl ?_
      refine aw_ldc2 (v := lN 5) d_RC_tenthsOf_15 kl_RC_174 ?_
      refine aw_lc_eq (tgt := 30) d_RC_tenthsOf_18 d_RC_tenthsOf_19 (by decide) (fun h19 => ?_) (fun h19 => ?_)
      · refine aw_iconst (v := nI 1) d_RC_tenthsOf_30 (by decide) ?_
        refine aw_goto (tgt := 35) d_RC_tenthsOf_31 (by decide) ?_
        refine aw_istore d_RC_tenthsOf_35 (Nat.le_of_ble_eq_true rfl) ?_
        refine aw_iload d_RC_tenthsOf_37 rfl ?_
        refine aw_if_eq (tgt := 54) d_RC_tenthsOf_39 (by decide) (fun h39 => absurd h39 (by decide)) (fun h39 => ?_)
        refine aw_lload_n d_RC_tenthsOf_42 rfl ?_
        refine aw_lconst (v := lN 0) d_RC_tenthsOf_43 rfl ?_
        refine aw_lc_lt (tgt := 54) d_RC_tenthsOf_44 d_RC_tenthsOf_45 (by decide) (fun h45 => ?_) (fun h45 => ?_)
        · refine aw_iconst (v := -1) d_RC_tenthsOf_54 (by decide) ?_
          exact aw_iretE d_RC_tenthsOf_55 rfl (by unfold tn_f; rw [if_neg (fun e => (i64_nlt _ _).mpr e.2.1 h45)]) rfl rfl rfl
        · refine aw_lload_n d_RC_tenthsOf_48 rfl ?_
          refine aw_lload_n d_RC_tenthsOf_49 rfl ?_
          refine aw_lc_le (tgt := 56) d_RC_tenthsOf_50 d_RC_tenthsOf_51 (by decide) (fun h51 => ?_) (fun h51 => ?_)
          · refine aw_lload_n d_RC_tenthsOf_56 rfl ?_
            refine aw_ldc2 (v := lN 10) d_RC_tenthsOf_57 kl_RC_176 ?_
            refine aw_lload_n d_RC_tenthsOf_60 rfl ?_
            refine aw_ldiv d_RC_tenthsOf_61 (by rw [h19]; decide) ?_
            refine aw_lmul d_RC_tenthsOf_62 ?_
            refine aw_l2i d_RC_tenthsOf_63 ?_
            exact aw_iretE d_RC_tenthsOf_64 rfl (by unfold tn_f; rw [if_pos ⟨Or.inr (Or.inr (Or.inl h19)), (i64_nlt _ _).mp h45, h51⟩]) rfl rfl rfl
          · refine aw_iconst (v := -1) d_RC_tenthsOf_54 (by decide) ?_
            exact aw_iretE d_RC_tenthsOf_55 rfl (by unfold tn_f; rw [if_neg (fun e => h51 e.2.2)]) rfl rfl rfl
      · refine aw_lload_n d_RC_tenthsOf_22 rfl ?_
        refine aw_ldc2 (v := lN 10) d_RC_tenthsOf_23 kl_RC_176 ?_
        refine aw_lc_ne (tgt := 34) d_RC_tenthsOf_26 d_RC_tenthsOf_27 (by decide) (fun h27 => ?_) (fun h27 => ?_)
        · refine aw_iconst (v := nI 0) d_RC_tenthsOf_34 (by decide) ?_
          refine aw_istore d_RC_tenthsOf_35 (Nat.le_of_ble_eq_true rfl) ?_
          refine aw_iload d_RC_tenthsOf_37 rfl ?_
          refine aw_if_eq (tgt := 54) d_RC_tenthsOf_39 (by decide) (fun h39 => ?_) (fun h39 => absurd (by decide) h39)
          refine aw_iconst (v := -1) d_RC_tenthsOf_54 (by decide) ?_
          exact aw_iretE d_RC_tenthsOf_55 rfl (by unfold tn_f; rw [if_neg (fun e => e.1.elim h3 (fun e => e.elim h11 (fun e => e.elim h19 h27)))]) rfl rfl rfl
        · refine aw_iconst (v := nI 1) d_RC_tenthsOf_30 (by decide) ?_
          refine aw_goto (tgt := 35) d_RC_tenthsOf_31 (by decide) ?_
          refine aw_istore d_RC_tenthsOf_35 (Nat.le_of_ble_eq_true rfl) ?_
          refine aw_iload d_RC_tenthsOf_37 rfl ?_
          refine aw_if_eq (tgt := 54) d_RC_tenthsOf_39 (by decide) (fun h39 => absurd h39 (by decide)) (fun h39 => ?_)
          refine aw_lload_n d_RC_tenthsOf_42 rfl ?_
          refine aw_lconst (v := lN 0) d_RC_tenthsOf_43 rfl ?_
          refine aw_lc_lt (tgt := 54) d_RC_tenthsOf_44 d_RC_tenthsOf_45 (by decide) (fun h45 => ?_) (fun h45 => ?_)
          · refine aw_iconst (v := -1) d_RC_tenthsOf_54 (by decide) ?_
            exact aw_iretE d_RC_tenthsOf_55 rfl (by unfold tn_f; rw [if_neg (fun e => (i64_nlt _ _).mpr e.2.1 h45)]) rfl rfl rfl
          · refine aw_lload_n d_RC_tenthsOf_48 rfl ?_
            refine aw_lload_n d_RC_tenthsOf_49 rfl ?_
            refine aw_lc_le (tgt := 56) d_RC_tenthsOf_50 d_RC_tenthsOf_51 (by decide) (fun h51 => ?_) (fun h51 => ?_)
            · refine aw_lload_n d_RC_tenthsOf_56 rfl ?_
              refine aw_ldc2 (v := lN 10) d_RC_tenthsOf_57 kl_RC_176 ?_
              refine aw_lload_n d_RC_tenthsOf_60 rfl ?_
              refine aw_ldiv d_RC_tenthsOf_61 (by rw [h27]; decide) ?_
              refine aw_lmul d_RC_tenthsOf_62 ?_
              refine aw_l2i d_RC_tenthsOf_63 ?_
              exact aw_iretE d_RC_tenthsOf_64 rfl (by unfold tn_f; rw [if_pos ⟨Or.inr (Or.inr (Or.inr h27)), (i64_nlt _ _).mp h45, h51⟩]) rfl rfl rfl
            · refine aw_iconst (v := -1) d_RC_tenthsOf_54 (by decide) ?_
              exact aw_iretE d_RC_tenthsOf_55 rfl (by unfold tn_f; rw [if_neg (fun e => h51 e.2.2)]) rfl rfl rfl
theorem lp_RC_co (w : List am_C) : ∀ (n i : Nat) (h l : Int64), i + n = 128 → AW (am_Mof y_RC_commonOf) 0 0 0 9 [(8, .int (nI i)), (6, .long l), (4, .long h)] [] w 0 0 (am_Z (some (.long (eu_f n h l))) w 0 0) := by
  intro n
  induction n with
  | zero =>
    intro i h l hi
    obtain rfl : i = 128 := by omega
    refine aw_iload d_RC_commonOf_9 rfl ?_
    refine aw_sipush (v := nI 128) d_RC_commonOf_11 (by decide) ?_
    refine aw_icmp_ge (tgt := 45) d_RC_commonOf_14 (by decide) (fun h14 => ?_) (fun h14 => absurd (nI_le (Nat.le_refl 128) (by omega)) h14)
    refine aw_lload d_RC_commonOf_45 rfl ?_
    exact aw_lretE d_RC_commonOf_47 rfl rfl rfl rfl rfl
  | succ n ih =>
    intro i h l hi
    refine aw_iload d_RC_commonOf_9 rfl ?_
    refine aw_sipush (v := nI 128) d_RC_commonOf_11 (by decide) ?_
    refine aw_icmp_ge (tgt := 45) d_RC_commonOf_14 (by decide) (fun h14 => absurd h14 (nI_ge (by omega) (by omega))) (fun h14 => ?_)
    refine aw_lload d_RC_commonOf_17 rfl ?_
    refine aw_lconst (v := lN 0) d_RC_commonOf_19 rfl ?_
    refine aw_lc_eq (tgt := 45) d_RC_commonOf_20 d_RC_commonOf_21 (by decide) (fun h21 => ?_) (fun h21 => ?_)
    · refine aw_lload d_RC_commonOf_45 rfl ?_
      exact aw_lretE d_RC_commonOf_47 rfl (by exact (if_pos h21).symm) rfl rfl rfl
    · refine aw_lload d_RC_commonOf_24 rfl ?_
      refine aw_lload d_RC_commonOf_26 rfl ?_
      refine aw_lrem d_RC_commonOf_28 h21 ?_
      refine aw_lstore d_RC_commonOf_29 (Nat.le_of_ble_eq_true rfl) ?_
      refine aw_lload d_RC_commonOf_31 rfl ?_
      refine aw_lstore d_RC_commonOf_33 (Nat.le_of_ble_eq_true rfl) ?_
      refine aw_lload d_RC_commonOf_35 rfl ?_
      refine aw_lstore d_RC_commonOf_37 (Nat.le_of_ble_eq_true rfl) ?_
      refine aw_iinc d_RC_commonOf_39 rfl (nI_1 _) (Nat.le_of_ble_eq_true rfl) ?_
      refine aw_goto (tgt := 9) d_RC_commonOf_42 (by decide) ?_
      have hq : eu_f (n + 1) h l = eu_f n l (h - h / l * l) := if_neg h21
      rw [hq]
      refine aw_pick (lv' := [(8, .int (nI (i + 1))), (6, .long (h - h / l * l)), (4, .long l)]) ⟨rfl, rfl, rfl, trivial⟩ ?_
      exact ih (i + 1) l (h - h / l * l) (by omega)
theorem c_RC_commonOf (w : List am_C) (a b : Int64) : am_ct y_RC_commonOf 0 [.long a, .long b] (w) (some (.long (eu_f 128 a b))) (w) 0 0 := by
  refine am_ct.of rfl (Nat.le_of_ble_eq_true rfl) ?_
  refine aw_lload_n d_RC_commonOf_0 rfl ?_
  refine aw_lstore d_RC_commonOf_1 (Nat.le_of_ble_eq_true rfl) ?_
  refine aw_lload_n d_RC_commonOf_3 rfl ?_
  refine aw_lstore d_RC_commonOf_4 (Nat.le_of_ble_eq_true rfl) ?_
  refine aw_iconst (v := nI 0) d_RC_commonOf_6 (by decide) ?_
  refine aw_istore d_RC_commonOf_7 (Nat.le_of_ble_eq_true rfl) ?_
  refine aw_pick (lv' := [(8, .int (nI 0)), (6, .long b), (4, .long a)]) ⟨rfl, rfl, rfl, trivial⟩ ?_
  exact lp_RC_co w 128 0 a b rfl
theorem c_RC_partOf (w : List am_C) (a b : Int64) (k : Int32) : am_ct y_RC_partOf 1 [.long a, .long b, .int k] (w) (some (.long (pt_f a b k))) (w) 0 0 := by
  refine am_ct.of rfl (Nat.le_of_ble_eq_true rfl) ?_
  refine aw_lload_n d_RC_partOf_0 rfl ?_
  refine aw_lconst (v := lN 0) d_RC_partOf_1 rfl ?_
  refine aw_lc_ge (tgt := 11) d_RC_partOf_2 d_RC_partOf_3 (by decide) (fun h3 => ?_) (fun h3 => ?_)
  · refine aw_lload_n d_RC_partOf_11 rfl ?_
    refine aw_lload_n d_RC_partOf_12 rfl ?_
    refine aw_cS1 d_RC_partOf_13 (c_RC_commonOf w a b) mk_RC_commonOf is_RC_commonOf ln_RC_178 rfl rfl (Nat.le_of_ble_eq_true rfl) (Nat.le_of_ble_eq_true rfl) (Nat.le_of_ble_eq_true rfl) (Nat.le_of_ble_eq_true rfl) ?_
    have hA : (if lN 0 ≤ a then a else -a) = a := if_pos h3
    refine aw_lstore d_RC_partOf_16 (Nat.le_of_ble_eq_true rfl) ?_
    refine aw_lload d_RC_partOf_18 rfl ?_
    refine aw_lconst (v := lN 0) d_RC_partOf_20 rfl ?_
    refine aw_lc_ne (tgt := 27) d_RC_partOf_21 d_RC_partOf_22 (by decide) (fun h22 => ?_) (fun h22 => ?_)
    · refine aw_iload d_RC_partOf_27 rfl ?_
      refine aw_if_ne (tgt := 39) d_RC_partOf_29 (by decide) (fun h29 => ?_) (fun h29 => ?_)
      · refine aw_lload_n d_RC_partOf_39 rfl ?_
        refine aw_lload d_RC_partOf_40 rfl ?_
        refine aw_ldiv d_RC_partOf_42 h22 ?_
        exact aw_lretE d_RC_partOf_43 rfl (by unfold pt_f; rw [hA, if_neg h22, if_neg h29]) rfl rfl rfl
      · refine aw_lload_n d_RC_partOf_32 rfl ?_
        refine aw_lload d_RC_partOf_33 rfl ?_
        refine aw_ldiv d_RC_partOf_35 h22 ?_
        refine aw_goto (tgt := 43) d_RC_partOf_36 (by decide) ?_
        exact aw_lretE d_RC_partOf_43 rfl (by unfold pt_f; rw [hA, if_neg h22, if_pos h29]) rfl rfl rfl
    · refine aw_lconst (v := lN 0) d_RC_partOf_25 rfl ?_
      exact aw_lretE d_RC_partOf_26 rfl (by unfold pt_f; rw [hA, if_pos h22]) rfl rfl rfl
  · refine aw_lload_n d_RC_partOf_6 rfl ?_
    refine aw_lneg d_RC_partOf_7 ?_
    refine aw_goto (tgt := 12) d_RC_partOf_8 (by decide) ?_
    refine aw_lload_n d_RC_partOf_12 rfl ?_
    refine aw_cS1 d_RC_partOf_13 (c_RC_commonOf w (-a) b) mk_RC_commonOf is_RC_commonOf ln_RC_178 rfl rfl (Nat.le_of_ble_eq_true rfl) (Nat.le_of_ble_eq_true rfl) (Nat.le_of_ble_eq_true rfl) (Nat.le_of_ble_eq_true rfl) ?_
    have hA : (if lN 0 ≤ a then a else -a) = (-a) := if_neg h3
    refine aw_lstore d_RC_partOf_16 (Nat.le_of_ble_eq_true rfl) ?_
    refine aw_lload d_RC_partOf_18 rfl ?_
    refine aw_lconst (v := lN 0) d_RC_partOf_20 rfl ?_
    refine aw_lc_ne (tgt := 27) d_RC_partOf_21 d_RC_partOf_22 (by decide) (fun h22 => ?_) (fun h22 => ?_)
    · refine aw_iload d_RC_partOf_27 rfl ?_
      refine aw_if_ne (tgt := 39) d_RC_partOf_29 (by decide) (fun h29 => ?_) (fun h29 => ?_)
      · refine aw_lload_n d_RC_partOf_39 rfl ?_
        refine aw_lload d_RC_partOf_40 rfl ?_
        refine aw_ldiv d_RC_partOf_42 h22 ?_
        exact aw_lretE d_RC_partOf_43 rfl (by unfold pt_f; rw [hA, if_neg h22, if_neg h29]) rfl rfl rfl
      · refine aw_lload_n d_RC_partOf_32 rfl ?_
        refine aw_lload d_RC_partOf_33 rfl ?_
        refine aw_ldiv d_RC_partOf_35 h22 ?_
        refine aw_goto (tgt := 43) d_RC_partOf_36 (by decide) ?_
        exact aw_lretE d_RC_partOf_43 rfl (by unfold pt_f; rw [hA, if_neg h22, if_pos h29]) rfl rfl rfl
    · refine aw_lconst (v := lN 0) d_RC_partOf_25 rfl ?_
      exact aw_lretE d_RC_partOf_26 rfl (by unfold pt_f; rw [hA, if_pos h22]) rfl rfl rfl
theorem c_Fe_add (S : cs_S) (r : List am_C) (a b y c : Int32) (g : Int64) (n : Nat) (hn : S.2.2 8 = nI n) (h60 : n ≤ 60) : am_ct y_Fe_add 0 [.ref 8, .int a, .int b, .long g, .int y, .int c] (cs_w S ++ r) (some (.int (bI (n < 60)))) (cs_w (if n < 60 then cs_F (cs_J (cs_I (cs_I (cs_I (cs_I S 9 (upd (S.1 9) n a)) 10 (upd (S.1 10) n b)) 11 (upd (S.1 11) n y)) 12 (upd (S.1 12) n c)) 13 (vp_updL (S.2.1 13) n g)) 8 (nI (n + 1)) else S) ++ r) 0 0 := by
  refine am_ct.of rfl (Nat.le_of_ble_eq_true rfl) ?_
  refine aw_aload_n d_Fe_add_0 rfl ?_
  refine aw_get d_Fe_add_1 fl_Fe_28 rfl rfl ?_
  refine aw_eqs (congrArg (fun z => Value.int z :: _) hn) ?_
  refine aw_bipush (v := nI 60) d_Fe_add_4 (by decide) ?_
  refine aw_icmp_lt (tgt := 11) d_Fe_add_6 (by decide) (fun h6 => ?_) (fun h6 => ?_)
  · have h6 := (nI_ltI (by omega) (by omega)).mp h6
    refine aw_aload_n d_Fe_add_11 rfl ?_
    refine aw_get d_Fe_add_12 fl_Fe_9 rfl rfl ?_
    refine aw_aload_n d_Fe_add_15 rfl ?_
    refine aw_get d_Fe_add_16 fl_Fe_28 rfl rfl ?_
    refine aw_eqs (congrArg (fun z => Value.int z :: _) hn) ?_
    refine aw_iload_n d_Fe_add_19 rfl ?_
    refine aw_iastN d_Fe_add_20 rfl (by omega) (Nat.le_of_ble_eq_true rfl) (cs_s9 _ _ _) ?_
    refine aw_aload_n d_Fe_add_21 rfl ?_
    refine aw_get d_Fe_add_22 fl_Fe_15 rfl rfl ?_
    refine aw_aload_n d_Fe_add_25 rfl ?_
    refine aw_get d_Fe_add_26 fl_Fe_28 rfl rfl ?_
    refine aw_eqs (congrArg (fun z => Value.int z :: _) hn) ?_
    refine aw_iload_n d_Fe_add_29 rfl ?_
    refine aw_iastN d_Fe_add_30 rfl (by omega) (Nat.le_of_ble_eq_true rfl) (cs_s10 _ _ _) ?_
    refine aw_aload_n d_Fe_add_31 rfl ?_
    refine aw_get d_Fe_add_32 fl_Fe_18 rfl rfl ?_
    refine aw_aload_n d_Fe_add_35 rfl ?_
    refine aw_get d_Fe_add_36 fl_Fe_28 rfl rfl ?_
    refine aw_eqs (congrArg (fun z => Value.int z :: _) hn) ?_
    refine aw_iload d_Fe_add_39 rfl ?_
    refine aw_iastN d_Fe_add_41 rfl (by omega) (Nat.le_of_ble_eq_true rfl) (cs_s11 _ _ _) ?_
    refine aw_aload_n d_Fe_add_42 rfl ?_
    refine aw_get d_Fe_add_43 fl_Fe_21 rfl rfl ?_
    refine aw_aload_n d_Fe_add_46 rfl ?_
    refine aw_get d_Fe_add_47 fl_Fe_28 rfl rfl ?_
    refine aw_eqs (congrArg (fun z => Value.int z :: _) hn) ?_
    refine aw_iload d_Fe_add_50 rfl ?_
    refine aw_iastN d_Fe_add_52 rfl (by omega) (Nat.le_of_ble_eq_true rfl) (cs_s12 _ _ _) ?_
    refine aw_aload_n d_Fe_add_53 rfl ?_
    refine aw_get d_Fe_add_54 fl_Fe_24 rfl rfl ?_
    refine aw_aload_n d_Fe_add_57 rfl ?_
    refine aw_get d_Fe_add_58 fl_Fe_28 rfl rfl ?_
    refine aw_eqs (congrArg (fun z => Value.int z :: _) hn) ?_
    refine aw_lload_n d_Fe_add_61 rfl ?_
    refine aw_lastN d_Fe_add_62 rfl (by omega) (Nat.le_of_ble_eq_true rfl) (cs_s13 _ _ _) ?_
    refine aw_aload_n d_Fe_add_63 rfl ?_
    refine aw_dup d_Fe_add_64 rfl ?_
    refine aw_get d_Fe_add_65 fl_Fe_28 rfl rfl ?_
    refine aw_eqs (congrArg (fun z => Value.int z :: _) hn) ?_
    refine aw_iconst (v := nI 1) d_Fe_add_68 (by decide) ?_
    refine aw_iadd d_Fe_add_69 ?_
    rw [nI_add]
    refine aw_putW d_Fe_add_70 fp_Fe_28 rfl (Nat.le_of_ble_eq_true rfl) (fun _ _ => ⟨rfl, rfl⟩) (cs_f8_5 _ _ _) ?_
    refine aw_iconst (v := nI 1) d_Fe_add_73 (by decide) ?_
    exact aw_zretE d_Fe_add_74 rfl rfl (bI_t h6).symm (by rw [if_pos h6]; rfl) rfl rfl
  · have h6 : ¬ n < 60 := fun e => h6 ((nI_ltI (by omega) (by omega)).mpr e)
    refine aw_iconst (v := nI 0) d_Fe_add_9 (by decide) ?_
    exact aw_zretE d_Fe_add_10 rfl rfl (bI_f h6).symm (by rw [if_neg h6]) rfl rfl
theorem c_Fe_size (S : cs_S) (r : List am_C) : am_ct y_Fe_size 0 [.ref 8] (cs_w S ++ r) (some (.int (S.2.2 8))) (cs_w S ++ r) 0 0 := by
  refine am_ct.of rfl (Nat.le_of_ble_eq_true rfl) ?_
  refine aw_aload_n d_Fe_size_0 rfl ?_
  refine aw_get d_Fe_size_1 fl_Fe_28 rfl rfl ?_
  exact aw_iretE d_Fe_size_4 rfl rfl rfl rfl rfl
theorem c_Fe_plantOf (S : cs_S) (r : List am_C) (j : Nat) (hj : j < 60) : am_ct y_Fe_plantOf 0 [.ref 8, .int (nI j)] (cs_w S ++ r) (some (.int (S.1 9 j))) (cs_w S ++ r) 0 0 := by
  refine am_ct.of rfl (Nat.le_of_ble_eq_true rfl) ?_
  refine aw_aload_n d_Fe_plantOf_0 rfl ?_
  refine aw_get d_Fe_plantOf_1 fl_Fe_9 rfl rfl ?_
  refine aw_iload_n d_Fe_plantOf_4 rfl ?_
  refine aw_ialdN d_Fe_plantOf_5 rfl (by omega) (Nat.le_of_ble_eq_true rfl) ?_
  exact aw_iretE d_Fe_plantOf_6 rfl rfl rfl rfl rfl
theorem c_Fe_kindOf (S : cs_S) (r : List am_C) (j : Nat) (hj : j < 60) : am_ct y_Fe_kindOf 0 [.ref 8, .int (nI j)] (cs_w S ++ r) (some (.int (S.1 10 j))) (cs_w S ++ r) 0 0 := by
  refine am_ct.of rfl (Nat.le_of_ble_eq_true rfl) ?_
  refine aw_aload_n d_Fe_kindOf_0 rfl ?_
  refine aw_get d_Fe_kindOf_1 fl_Fe_15 rfl rfl ?_
  refine aw_iload_n d_Fe_kindOf_4 rfl ?_
  refine aw_ialdN d_Fe_kindOf_5 rfl (by omega) (Nat.le_of_ble_eq_true rfl) ?_
  exact aw_iretE d_Fe_kindOf_6 rfl rfl rfl rfl rfl
theorem c_Fe_yearOf (S : cs_S) (r : List am_C) (j : Nat) (hj : j < 60) : am_ct y_Fe_yearOf 0 [.ref 8, .int (nI j)] (cs_w S ++ r) (some (.int (S.1 11 j))) (cs_w S ++ r) 0 0 := by
  refine am_ct.of rfl (Nat.le_of_ble_eq_true rfl) ?_
  refine aw_aload_n d_Fe_yearOf_0 rfl ?_
  refine aw_get d_Fe_yearOf_1 fl_Fe_18 rfl rfl ?_
  refine aw_iload_n d_Fe_yearOf_4 rfl ?_
  refine aw_ialdN d_Fe_yearOf_5 rfl (by omega) (Nat.le_of_ble_eq_true rfl) ?_
  exact aw_iretE d_Fe_yearOf_6 rfl rfl rfl rfl rfl
theorem c_Fe_countryOf (S : cs_S) (r : List am_C) (j : Nat) (hj : j < 60) : am_ct y_Fe_countryOf 0 [.ref 8, .int (nI j)] (cs_w S ++ r) (some (.int (S.1 12 j))) (cs_w S ++ r) 0 0 := by
  refine am_ct.of rfl (Nat.le_of_ble_eq_true rfl) ?_
  refine aw_aload_n d_Fe_countryOf_0 rfl ?_
  refine aw_get d_Fe_countryOf_1 fl_Fe_21 rfl rfl ?_
  refine aw_iload_n d_Fe_countryOf_4 rfl ?_
  refine aw_ialdN d_Fe_countryOf_5 rfl (by omega) (Nat.le_of_ble_eq_true rfl) ?_
  exact aw_iretE d_Fe_countryOf_6 rfl rfl rfl rfl rfl
theorem c_Fe_gramsOf (S : cs_S) (r : List am_C) (j : Nat) (hj : j < 60) : am_ct y_Fe_gramsOf 0 [.ref 8, .int (nI j)] (cs_w S ++ r) (some (.long (S.2.1 13 j))) (cs_w S ++ r) 0 0 := by
  refine am_ct.of rfl (Nat.le_of_ble_eq_true rfl) ?_
  refine aw_aload_n d_Fe_gramsOf_0 rfl ?_
  refine aw_get d_Fe_gramsOf_1 fl_Fe_24 rfl rfl ?_
  refine aw_iload_n d_Fe_gramsOf_4 rfl ?_
  refine aw_laldN d_Fe_gramsOf_5 rfl (by omega) (Nat.le_of_ble_eq_true rfl) ?_
  exact aw_lretE d_Fe_gramsOf_6 rfl rfl rfl rfl rfl
end
section
/-! RateChains$Worths -/
theorem cs_row (S : cs_S) (r : List am_C) : ∀ i, i < 5 → (cs_w S ++ r)[19 + i]? = some (.inl (1, 6, .inr (.inl (S.2.1 (19 + i)))))
  | 0, _ => rfl
  | 1, _ => rfl
  | 2, _ => rfl
  | 3, _ => rfl
  | 4, _ => rfl
  | i + 5, h => absurd h (by omega)
theorem cs_rowset (S : cs_S) (r : List am_C) (g : Nat → Int64) : ∀ i, i < 5 → (cs_w S ++ r).set (19 + i) (.inl (1, 6, .inr (.inl g))) = cs_w (cs_J S (19 + i) g) ++ r
  | 0, _ => rfl
  | 1, _ => rfl
  | 2, _ => rfl
  | 3, _ => rfl
  | 4, _ => rfl
  | i + 5, h => absurd h (by omega)
theorem cs_rowE (S : cs_S) (r : List am_C) (i : Nat) (hi : i < 5) {g : Nat → Int64} (h : S.2.1 (19 + i) = g) : (cs_w S ++ r)[19 + i]? = some (.inl (1, 6, .inr (.inl g))) := h ▸ cs_row S r i hi
abbrev cs_g (S : cs_S) (k i : Nat) : Prop := S.1 4 (i * 4 + k) = 0 ∧ 0 < S.1 3 i
abbrev cs_tc (S : cs_S) (k p : Nat) : Int32 := if S.1 4 (p * 4 + k) = 0 then (if S.1 5 p = 0 then nI 0 else nI 10 - S.1 6 p) else nI 10
def fl_in (f : Nat → Int64) (S : cs_S) (k i : Nat) : Nat → (Nat → Int64)
  | 0 => f
  | t + 1 => vp_updL (fl_in f S k i t) t (if cs_g S k i then (-(S.1 2 (i * 5 + t))).toInt64 else lN 0)
def fl_2 (f : Nat → Int64) (S : cs_S) (k i : Nat) : Nat → Int64 := vp_updL (fl_in f S k i 5) i (fl_in f S k i 5 i + lN 10)
def fl_r (f : Nat → Int64) (S : cs_S) (k i : Nat) : Nat → Int64 := vp_updL (fl_2 f S k i) 5 (if cs_g S k i then lN 0 else (cs_tc S k i).toInt64)
def fl_J (S : cs_S) (k : Nat) : Nat → (Nat → Nat → Int64)
  | 0 => S.2.1
  | i + 1 => va_up (fl_J S k i) (19 + i) (fl_r (fl_J S k i (19 + i)) S k i)
def cr_f (fa fs : Nat → Int64) (pv fc l : Int64) : Nat → (Nat → Int64)
  | 0 => fa
  | t + 1 => vp_updL (cr_f fa fs pv fc l t) t ((pv * cr_f fa fs pv fc l t t - fc * fs t) / l)
def cr_J (J : Nat → Nat → Int64) (a s : Nat) (l : Int64) : Nat → Nat → Int64 := if l = lN 0 then J else va_up J (19 + a) (cr_f (J (19 + a)) (J (19 + s)) (J (19 + s) s) (J (19 + a) s) l 6)
def cc_J (J : Nat → Nat → Int64) (s : Nat) (l : Int64) : Nat → (Nat → Nat → Int64)
  | 0 => J
  | i + 1 => if i = s then cc_J J s l i else cr_J (cc_J J s l i) i s l
def fi_f : Nat → Nat → (Nat → Nat → Int64) → Int64 → (Nat → Nat → Int64) × Int64
  | 0, _, J, l => (J, l)
  | n + 1, s, J, l => if J (19 + s) s = lN 0 then (J, lN 0) else fi_f n (s + 1) (cc_J J s l 5) (J (19 + s) s)
theorem va_up_idl {α : Type} (f : Nat → α) (k : Nat) : va_up f k (f k) = f := by
  funext j; unfold va_up; split
  · rename_i h; rw [h]
  · rfl
theorem c_Wo_aboveOf (S : cs_S) (r : List am_C) (p : Nat) (hp : p < 5) : am_ct y_Wo_aboveOf 0 [.ref 17, .int (nI p)] (cs_w S ++ r) (some (.long (S.2.1 (19 + p) 5))) (cs_w S ++ r) 0 0 := by
  refine am_ct.of rfl (Nat.le_of_ble_eq_true rfl) ?_
  refine aw_aload_n d_Wo_aboveOf_0 rfl ?_
  refine aw_get d_Wo_aboveOf_1 fl_Wo_11 rfl rfl ?_
  refine aw_iload_n d_Wo_aboveOf_4 rfl ?_
  refine aw_aaldN d_Wo_aboveOf_5 rfl (by decide) rfl (by omega) (Nat.le_of_ble_eq_true rfl) (if_pos hp) ?_
  refine aw_iconst (v := nI 5) d_Wo_aboveOf_6 (by decide) ?_
  refine aw_laldN d_Wo_aboveOf_7 (cs_row S r p hp) (by omega) (Nat.le_of_ble_eq_true rfl) ?_
  exact aw_lretE d_Wo_aboveOf_8 rfl rfl rfl rfl rfl
theorem lp_Wo_cr (S : cs_S) (r : List am_C) (a s : Nat) (ha : a < 5) (hs : s < 5) (hne : a ≠ s) (pv fc l : Int64) (hl : ¬ l = lN 0) (w' : List am_C) (hw : cs_w (S.1, va_up S.2.1 (19 + a) (cr_f (S.2.1 (19 + a)) (S.2.1 (19 + s)) pv fc l 6), S.2.2) ++ r = w') : ∀ (n t : Nat), t + n = 6 → AW (am_Mof y_Wo_clearRow) 0 0 0 30 [(9, .int (nI t)), (5, .long pv), (7, .long fc), (0, .ref 17), (1, .int (nI a)), (2, .int (nI s)), (3, .long l)] [] (cs_w (S.1, va_up S.2.1 (19 + a) (cr_f (S.2.1 (19 + a)) (S.2.1 (19 + s)) pv fc l t), S.2.2) ++ r) 0 0 (am_Z none w' 0 0) := by
  intro n
  induction n with
  | zero =>
    intro t ht
    obtain rfl : t = 6 := by omega
    refine aw_iload d_Wo_clearRow_30 rfl ?_
    refine aw_iconst (v := nI 5) d_Wo_clearRow_32 (by decide) ?_
    refine aw_icmp_gt (tgt := 78) d_Wo_clearRow_33 (by decide) (fun h33 => ?_) (fun h33 => absurd (nI_lt (by omega) (by omega)) h33)
    exact aw_vretE d_Wo_clearRow_78 rfl hw rfl rfl
  | succ n ih =>
    intro t ht
    have hsa : va_up S.2.1 (19 + a) (cr_f (S.2.1 (19 + a)) (S.2.1 (19 + s)) pv fc l t) (19 + s) = S.2.1 (19 + s) := va_up_ne _ _ (by omega)
    have haa : va_up S.2.1 (19 + a) (cr_f (S.2.1 (19 + a)) (S.2.1 (19 + s)) pv fc l t) (19 + a) = cr_f (S.2.1 (19 + a)) (S.2.1 (19 + s)) pv fc l t := va_up_self _ _ _
    refine aw_iload d_Wo_clearRow_30 rfl ?_
    refine aw_iconst (v := nI 5) d_Wo_clearRow_32 (by decide) ?_
    refine aw_icmp_gt (tgt := 78) d_Wo_clearRow_33 (by decide) (fun h33 => absurd h33 (nI_nlt (by omega) (by omega))) (fun h33 => ?_)
    refine aw_aload_n d_Wo_clearRow_36 rfl ?_
    refine aw_get d_Wo_clearRow_37 fl_Wo_11 rfl rfl ?_
    refine aw_iload_n d_Wo_clearRow_40 rfl ?_
    refine aw_aaldN d_Wo_clearRow_41 rfl (by decide) rfl (by omega) (Nat.le_of_ble_eq_true rfl) (if_pos ha) ?_
    refine aw_iload d_Wo_clearRow_42 rfl ?_
    refine aw_lload d_Wo_clearRow_44 rfl ?_
    refine aw_aload_n d_Wo_clearRow_46 rfl ?_
    refine aw_get d_Wo_clearRow_47 fl_Wo_11 rfl rfl ?_
    refine aw_iload_n d_Wo_clearRow_50 rfl ?_
    refine aw_aaldN d_Wo_clearRow_51 rfl (by decide) rfl (by omega) (Nat.le_of_ble_eq_true rfl) (if_pos ha) ?_
    refine aw_iload d_Wo_clearRow_52 rfl ?_
    refine aw_laldN d_Wo_clearRow_54 (cs_rowE (S.1, va_up S.2.1 (19 + a) (cr_f (S.2.1 (19 + a)) (S.2.1 (19 + s)) pv fc l t), S.2.2) r a ha haa) (by omega) (Nat.le_of_ble_eq_true rfl) ?_
    refine aw_lmul d_Wo_clearRow_55 ?_
    refine aw_lload d_Wo_clearRow_56 rfl ?_
    refine aw_aload_n d_Wo_clearRow_58 rfl ?_
    refine aw_get d_Wo_clearRow_59 fl_Wo_11 rfl rfl ?_
    refine aw_iload_n d_Wo_clearRow_62 rfl ?_
    refine aw_aaldN d_Wo_clearRow_63 rfl (by decide) rfl (by omega) (Nat.le_of_ble_eq_true rfl) (if_pos hs) ?_
    refine aw_iload d_Wo_clearRow_64 rfl ?_
    refine aw_laldN d_Wo_clearRow_66 (cs_rowE (S.1, va_up S.2.1 (19 + a) (cr_f (S.2.1 (19 + a)) (S.2.1 (19 + s)) pv fc l t), S.2.2) r s hs hsa) (by omega) (Nat.le_of_ble_eq_true rfl) ?_
    refine aw_lmul d_Wo_clearRow_67 ?_
    refine aw_lsub d_Wo_clearRow_68 ?_
    refine aw_lload_n d_Wo_clearRow_69 rfl ?_
    refine aw_ldiv d_Wo_clearRow_70 hl ?_
    refine aw_lastN d_Wo_clearRow_71 (cs_rowE (S.1, va_up S.2.1 (19 + a) (cr_f (S.2.1 (19 + a)) (S.2.1 (19 + s)) pv fc l t), S.2.2) r a ha haa) (by omega) (Nat.le_of_ble_eq_true rfl) (show _ = cs_w (S.1, va_up S.2.1 (19 + a) (cr_f (S.2.1 (19 + a)) (S.2.1 (19 + s)) pv fc l (t + 1)), S.2.2) ++ r from (cs_rowset _ _ _ a ha).trans (by show cs_w (S.1, va_up (va_up _ _ _) _ _, S.2.2) ++ r = _; rw [bx_uu]; rfl)) ?_
    refine aw_iinc d_Wo_clearRow_72 rfl (nI_1 _) (Nat.le_of_ble_eq_true rfl) ?_
    refine aw_goto (tgt := 30) d_Wo_clearRow_75 (by decide) ?_
    exact aw_eql rfl (ih (t + 1) (by omega))
theorem c_Wo_clearRow (S : cs_S) (r : List am_C) (a s : Nat) (ha : a < 5) (hs : s < 5) (hne : a ≠ s) (l : Int64) : am_ct y_Wo_clearRow 0 [.ref 17, .int (nI a), .int (nI s), .long l] (cs_w S ++ r) none (cs_w (S.1, cr_J S.2.1 a s l, S.2.2) ++ r) 0 0 := by
  refine am_ct.of rfl (Nat.le_of_ble_eq_true rfl) ?_
  refine aw_lload_n d_Wo_clearRow_0 rfl ?_
  refine aw_lconst (v := lN 0) d_Wo_clearRow_1 rfl ?_
  refine aw_lc_ne (tgt := 7) d_Wo_clearRow_2 d_Wo_clearRow_3 (by decide) (fun hl => ?_) (fun hl => ?_)
  · refine aw_aload_n d_Wo_clearRow_7 rfl ?_
    refine aw_get d_Wo_clearRow_8 fl_Wo_11 rfl rfl ?_
    refine aw_iload_n d_Wo_clearRow_11 rfl ?_
    refine aw_aaldN d_Wo_clearRow_12 rfl (by decide) rfl (by omega) (Nat.le_of_ble_eq_true rfl) (if_pos hs) ?_
    refine aw_iload_n d_Wo_clearRow_13 rfl ?_
    refine aw_laldN d_Wo_clearRow_14 (cs_row S r s hs) (by omega) (Nat.le_of_ble_eq_true rfl) ?_
    refine aw_lstore d_Wo_clearRow_15 (Nat.le_of_ble_eq_true rfl) ?_
    refine aw_aload_n d_Wo_clearRow_17 rfl ?_
    refine aw_get d_Wo_clearRow_18 fl_Wo_11 rfl rfl ?_
    refine aw_iload_n d_Wo_clearRow_21 rfl ?_
    refine aw_aaldN d_Wo_clearRow_22 rfl (by decide) rfl (by omega) (Nat.le_of_ble_eq_true rfl) (if_pos ha) ?_
    refine aw_iload_n d_Wo_clearRow_23 rfl ?_
    refine aw_laldN d_Wo_clearRow_24 (cs_row S r a ha) (by omega) (Nat.le_of_ble_eq_true rfl) ?_
    refine aw_lstore d_Wo_clearRow_25 (Nat.le_of_ble_eq_true rfl) ?_
    refine aw_iconst (v := nI 0) d_Wo_clearRow_27 (by decide) ?_
    refine aw_istore d_Wo_clearRow_28 (Nat.le_of_ble_eq_true rfl) ?_
    refine aw_eql (lv' := [(9, .int (nI 0)), (7, .long (S.2.1 (19 + a) s)), (5, .long (S.2.1 (19 + s) s)), (0, .ref 17), (1, .int (nI a)), (2, .int (nI s)), (3, .long l)]) rfl ?_
    refine aw_sub (lv' := [(9, .int (nI 0)), (5, .long (S.2.1 (19 + s) s)), (7, .long (S.2.1 (19 + a) s)), (0, .ref 17), (1, .int (nI a)), (2, .int (nI s)), (3, .long l)]) (by simp) ?_
    refine aw_eqw (w' := cs_w (S.1, va_up S.2.1 (19 + a) (cr_f (S.2.1 (19 + a)) (S.2.1 (19 + s)) (S.2.1 (19 + s) s) (S.2.1 (19 + a) s) l 0), S.2.2) ++ r) (by show cs_w S ++ r = cs_w (S.1, va_up S.2.1 (19 + a) (S.2.1 (19 + a)), S.2.2) ++ r; rw [va_up_idl]) ?_
    exact lp_Wo_cr S r a s ha hs hne _ _ l hl _ (by unfold cr_J; rw [if_neg hl]) 6 0 rfl
  · exact aw_vretE d_Wo_clearRow_6 rfl (by unfold cr_J; rw [if_pos hl]) rfl rfl
theorem lp_Wo_cc (S : cs_S) (r : List am_C) (s : Nat) (hs : s < 5) (l : Int64) (w' : List am_C) (hw : cs_w (S.1, cc_J S.2.1 s l 5, S.2.2) ++ r = w') : ∀ (n i : Nat), i + n = 5 → AW (am_Mof y_Wo_clearColumn) 1 0 0 3 [(4, .int (nI i)), (0, .ref 17), (1, .int (nI s)), (2, .long l)] [] (cs_w (S.1, cc_J S.2.1 s l i, S.2.2) ++ r) 0 0 (am_Z none w' 0 0) := by
  intro n
  induction n with
  | zero =>
    intro i hi
    obtain rfl : i = 5 := by omega
    refine aw_iload d_Wo_clearColumn_3 rfl ?_
    refine aw_iconst (v := nI 5) d_Wo_clearColumn_5 (by decide) ?_
    refine aw_icmp_ge (tgt := 29) d_Wo_clearColumn_6 (by decide) (fun h6 => ?_) (fun h6 => absurd (nI_le (Nat.le_refl 5) (by omega)) h6)
    exact aw_vretE d_Wo_clearColumn_29 rfl hw rfl rfl
  | succ n ih =>
    intro i hi
    refine aw_iload d_Wo_clearColumn_3 rfl ?_
    refine aw_iconst (v := nI 5) d_Wo_clearColumn_5 (by decide) ?_
    refine aw_icmp_ge (tgt := 29) d_Wo_clearColumn_6 (by decide) (fun h6 => absurd h6 (nI_ge (by omega) (by omega))) (fun h6 => ?_)
    refine aw_iload d_Wo_clearColumn_9 rfl ?_
    refine aw_iload_n d_Wo_clearColumn_11 rfl ?_
    refine aw_icmp_eq (tgt := 23) d_Wo_clearColumn_12 (by decide) (fun h12 => ?_) (fun h12 => ?_)
    · refine aw_iinc d_Wo_clearColumn_23 rfl (nI_1 _) (Nat.le_of_ble_eq_true rfl) ?_
      refine aw_goto (tgt := 3) d_Wo_clearColumn_26 (by decide) ?_
      have hq : cc_J S.2.1 s l (i + 1) = cc_J S.2.1 s l i := if_pos ((nI_eq (by omega) (by omega)).mp h12)
      refine aw_eqw (w' := cs_w (S.1, cc_J S.2.1 s l (i + 1), S.2.2) ++ r) (by rw [hq]) ?_
      exact aw_eql rfl (ih (i + 1) (by omega))
    · have hne : ¬ i = s := fun e => h12 (by rw [e])
      refine aw_aload_n d_Wo_clearColumn_15 rfl ?_
      refine aw_iload d_Wo_clearColumn_16 rfl ?_
      refine aw_iload_n d_Wo_clearColumn_18 rfl ?_
      refine aw_lload_n d_Wo_clearColumn_19 rfl ?_
      refine aw_cV0 d_Wo_clearColumn_20 (c_Wo_clearRow (S.1, cc_J S.2.1 s l i, S.2.2) r i s (by omega) hs hne l) mk_Wo_clearRow is_Wo_clearRow ln_Wo_39 rfl rfl rfl rfl (Nat.le_of_ble_eq_true rfl) (Nat.le_of_ble_eq_true rfl) (Nat.le_of_ble_eq_true rfl) (Nat.le_of_ble_eq_true rfl) ?_
      refine aw_iinc d_Wo_clearColumn_23 rfl (nI_1 _) (Nat.le_of_ble_eq_true rfl) ?_
      refine aw_goto (tgt := 3) d_Wo_clearColumn_26 (by decide) ?_
      have hq : cc_J S.2.1 s l (i + 1) = cr_J (cc_J S.2.1 s l i) i s l := if_neg hne
      refine aw_eqw (w' := cs_w (S.1, cc_J S.2.1 s l (i + 1), S.2.2) ++ r) (by rw [hq]) ?_
      exact aw_eql rfl (ih (i + 1) (by omega))
theorem c_Wo_clearColumn (S : cs_S) (r : List am_C) (s : Nat) (hs : s < 5) (l : Int64) : am_ct y_Wo_clearColumn 1 [.ref 17, .int (nI s), .long l] (cs_w S ++ r) none (cs_w (S.1, cc_J S.2.1 s l 5, S.2.2) ++ r) 0 0 := by
  refine am_ct.of rfl (Nat.le_of_ble_eq_true rfl) ?_
  refine aw_iconst (v := nI 0) d_Wo_clearColumn_0 (by decide) ?_
  refine aw_istore d_Wo_clearColumn_1 (Nat.le_of_ble_eq_true rfl) ?_
  exact aw_eql rfl (lp_Wo_cc S r s hs l _ rfl 5 0 rfl)
theorem lp_Wo_f1 (S : cs_S) (r : List am_C) (J : Nat → Nat → Int64) (k i : Nat) (hi : i < 5) (Z : am_E) (K : AW (am_Mof y_Wo_fill) 3 0 0 57 [(5, .int (nI 5)), (4, .int (bI (cs_g S k i))), (3, .int (nI i)), (0, .ref 17), (1, .ref 1), (2, .int (nI k))] [] (cs_w (S.1, va_up J (19 + i) (fl_in (J (19 + i)) S k i 5), S.2.2) ++ r) 0 0 Z) : ∀ (n t : Nat), t + n = 5 → AW (am_Mof y_Wo_fill) 3 0 0 18 [(5, .int (nI t)), (4, .int (bI (cs_g S k i))), (3, .int (nI i)), (0, .ref 17), (1, .ref 1), (2, .int (nI k))] [] (cs_w (S.1, va_up J (19 + i) (fl_in (J (19 + i)) S k i t), S.2.2) ++ r) 0 0 Z := by
  intro n
  induction n with
  | zero =>
    intro t ht
    obtain rfl : t = 5 := by omega
    refine aw_iload d_Wo_fill_18 rfl ?_
    refine aw_iconst (v := nI 5) d_Wo_fill_20 (by decide) ?_
    refine aw_icmp_ge (tgt := 57) d_Wo_fill_21 (by decide) (fun h21 => ?_) (fun h21 => absurd (nI_le (Nat.le_refl 5) (by omega)) h21)
    exact K
  | succ n ih =>
    intro t ht
    have haa : va_up J (19 + i) (fl_in (J (19 + i)) S k i t) (19 + i) = fl_in (J (19 + i)) S k i t := va_up_self _ _ _
    refine aw_iload d_Wo_fill_18 rfl ?_
    refine aw_iconst (v := nI 5) d_Wo_fill_20 (by decide) ?_
    refine aw_icmp_ge (tgt := 57) d_Wo_fill_21 (by decide) (fun h21 => absurd h21 (nI_ge (by omega) (by omega))) (fun h21 => ?_)
    refine aw_aload_n d_Wo_fill_24 rfl ?_
    refine aw_get d_Wo_fill_25 fl_Wo_11 rfl rfl ?_
    refine aw_iload_n d_Wo_fill_28 rfl ?_
    refine aw_aaldN d_Wo_fill_29 rfl (by decide) rfl (by omega) (Nat.le_of_ble_eq_true rfl) (if_pos hi) ?_
    refine aw_iload d_Wo_fill_30 rfl ?_
    refine aw_iload d_Wo_fill_32 rfl ?_
    refine aw_if_eq (tgt := 49) d_Wo_fill_34 (by decide) (fun h34 => ?_) (fun h34 => ?_)
    · refine aw_lconst (v := lN 0) d_Wo_fill_49 rfl ?_
      refine aw_eqs (st' := [.long (if cs_g S k i then (-(S.1 2 (i * 5 + t))).toInt64 else lN 0), .int (nI t), .ref (19 + i)]) (by rw [if_neg ((bI_0 _).mp h34)]) ?_
      refine aw_lastN d_Wo_fill_50 (cs_rowE (S.1, va_up J (19 + i) (fl_in (J (19 + i)) S k i t), S.2.2) r i hi haa) (by omega) (Nat.le_of_ble_eq_true rfl) (show _ = cs_w (S.1, va_up J (19 + i) (fl_in (J (19 + i)) S k i (t + 1)), S.2.2) ++ r from (cs_rowset _ _ _ i hi).trans (by show cs_w (S.1, va_up (va_up _ _ _) _ _, S.2.2) ++ r = _; rw [bx_uu]; rfl)) ?_
      refine aw_iinc d_Wo_fill_51 rfl (nI_1 _) (Nat.le_of_ble_eq_true rfl) ?_
      refine aw_goto (tgt := 18) d_Wo_fill_54 (by decide) ?_
      exact aw_eql rfl (ih (t + 1) (by omega))
    · refine aw_aload_n d_Wo_fill_37 rfl ?_
      refine aw_iload_n d_Wo_fill_38 rfl ?_
      refine aw_iload d_Wo_fill_39 rfl ?_
      refine aw_cV1 d_Wo_fill_41 (c_Pl_shareOf (S.1, va_up J (19 + i) (fl_in (J (19 + i)) S k i t), S.2.2) r i t hi (by omega)) mk_Pl_shareOf is_Pl_shareOf ln_Wo_30 rfl rfl rfl rfl (Nat.le_of_ble_eq_true rfl) (Nat.le_of_ble_eq_true rfl) (Nat.le_of_ble_eq_true rfl) (Nat.le_of_ble_eq_true rfl) ?_
      refine aw_ineg d_Wo_fill_44 ?_
      refine aw_i2l d_Wo_fill_45 ?_
      refine aw_goto (tgt := 50) d_Wo_fill_46 (by decide) ?_
      refine aw_eqs (st' := [.long (if cs_g S k i then (-(S.1 2 (i * 5 + t))).toInt64 else lN 0), .int (nI t), .ref (19 + i)]) (by rw [if_pos (Decidable.not_not.mp (fun c2 => h34 ((bI_0 _).mpr c2)))]) ?_
      refine aw_lastN d_Wo_fill_50 (cs_rowE (S.1, va_up J (19 + i) (fl_in (J (19 + i)) S k i t), S.2.2) r i hi haa) (by omega) (Nat.le_of_ble_eq_true rfl) (show _ = cs_w (S.1, va_up J (19 + i) (fl_in (J (19 + i)) S k i (t + 1)), S.2.2) ++ r from (cs_rowset _ _ _ i hi).trans (by show cs_w (S.1, va_up (va_up _ _ _) _ _, S.2.2) ++ r = _; rw [bx_uu]; rfl)) ?_
      refine aw_iinc d_Wo_fill_51 rfl (nI_1 _) (Nat.le_of_ble_eq_true rfl) ?_
      refine aw_goto (tgt := 18) d_Wo_fill_54 (by decide) ?_
      exact aw_eql rfl (ih (t + 1) (by omega))
theorem lp_Wo_f2 (S : cs_S) (r : List am_C) (k : Nat) (hk : k < 4) (hb : b01 (S.1 4)) (w' : List am_C) (hw : cs_w (S.1, fl_J S k 5, S.2.2) ++ r = w') : ∀ (n i : Nat), i + n = 5 → AW (am_Mof y_Wo_fill) 3 0 0 2 [(3, .int (nI i)), (0, .ref 17), (1, .ref 1), (2, .int (nI k))] [] (cs_w (S.1, fl_J S k i, S.2.2) ++ r) 0 0 (am_Z none w' 0 0) := by
  intro n
  induction n with
  | zero =>
    intro i hi
    obtain rfl : i = 5 := by omega
    refine aw_iload_n d_Wo_fill_2 rfl ?_
    refine aw_iconst (v := nI 5) d_Wo_fill_3 (by decide) ?_
    refine aw_icmp_ge (tgt := 101) d_Wo_fill_4 (by decide) (fun h4 => ?_) (fun h4 => absurd (nI_le (Nat.le_refl 5) (by omega)) h4)
    exact aw_vretE d_Wo_fill_101 rfl hw rfl rfl
  | succ n ih =>
    intro i hi
    have h5 : i < 5 := by omega
    refine aw_iload_n d_Wo_fill_2 rfl ?_
    refine aw_iconst (v := nI 5) d_Wo_fill_3 (by decide) ?_
    refine aw_icmp_ge (tgt := 101) d_Wo_fill_4 (by decide) (fun h4 => absurd h4 (nI_ge (by omega) (by omega))) (fun h4 => ?_)
    refine aw_aload_n d_Wo_fill_7 rfl ?_
    refine aw_iload_n d_Wo_fill_8 rfl ?_
    refine aw_iload_n d_Wo_fill_9 rfl ?_
    refine aw_cV1 d_Wo_fill_10 (c_Pl_goesOn (S.1, fl_J S k i, S.2.2) r i k h5 hk hb) mk_Pl_goesOn is_Pl_goesOn ln_Wo_24 rfl rfl rfl rfl (Nat.le_of_ble_eq_true rfl) (Nat.le_of_ble_eq_true rfl) (Nat.le_of_ble_eq_true rfl) (Nat.le_of_ble_eq_true rfl) ?_
    refine aw_istore d_Wo_fill_13 (Nat.le_of_ble_eq_true rfl) ?_
    refine aw_iconst (v := nI 0) d_Wo_fill_15 (by decide) ?_
    refine aw_istore d_Wo_fill_16 (Nat.le_of_ble_eq_true rfl) ?_
    refine aw_eql (lv' := [(5, .int (nI 0)), (4, .int (bI (cs_g S k i))), (3, .int (nI i)), (0, .ref 17), (1, .ref 1), (2, .int (nI k))]) rfl ?_
    refine aw_eqw (w' := cs_w (S.1, va_up (fl_J S k i) (19 + i) (fl_in (fl_J S k i (19 + i)) S k i 0), S.2.2) ++ r) (by show cs_w (S.1, fl_J S k i, S.2.2) ++ r = cs_w (S.1, va_up (fl_J S k i) (19 + i) (fl_J S k i (19 + i)), S.2.2) ++ r; rw [va_up_idl]) ?_
    refine lp_Wo_f1 S r (fl_J S k i) k i h5 _ ?_ 5 0 rfl
    refine aw_aload_n d_Wo_fill_57 rfl ?_
    refine aw_get d_Wo_fill_58 fl_Wo_11 rfl rfl ?_
    refine aw_iload_n d_Wo_fill_61 rfl ?_
    refine aw_aaldN d_Wo_fill_62 rfl (by decide) rfl (by omega) (Nat.le_of_ble_eq_true rfl) (if_pos h5) ?_
    refine aw_iload_n d_Wo_fill_63 rfl ?_
    refine aw_dup2 d_Wo_fill_64 rfl rfl ?_
    refine aw_laldN d_Wo_fill_65 (cs_rowE (S.1, va_up (fl_J S k i) (19 + i) (fl_in (fl_J S k i (19 + i)) S k i 5), S.2.2) r i h5 (va_up_self _ _ _)) (by omega) (Nat.le_of_ble_eq_true rfl) ?_
    refine aw_ldc2 (v := lN 10) d_Wo_fill_66 kl_Wo_34 ?_
    refine aw_ladd d_Wo_fill_69 ?_
    refine aw_lastN d_Wo_fill_70 (cs_rowE (S.1, va_up (fl_J S k i) (19 + i) (fl_in (fl_J S k i (19 + i)) S k i 5), S.2.2) r i h5 (va_up_self _ _ _)) (by omega) (Nat.le_of_ble_eq_true rfl) (show _ = cs_w (S.1, va_up (fl_J S k i) (19 + i) (fl_2 (fl_J S k i (19 + i)) S k i), S.2.2) ++ r from (cs_rowset _ _ _ i h5).trans (by show cs_w (S.1, va_up (va_up _ _ _) _ _, S.2.2) ++ r = _; rw [bx_uu]; rfl)) ?_
    refine aw_aload_n d_Wo_fill_71 rfl ?_
    refine aw_get d_Wo_fill_72 fl_Wo_11 rfl rfl ?_
    refine aw_iload_n d_Wo_fill_75 rfl ?_
    refine aw_aaldN d_Wo_fill_76 rfl (by decide) rfl (by omega) (Nat.le_of_ble_eq_true rfl) (if_pos h5) ?_
    refine aw_iconst (v := nI 5) d_Wo_fill_77 (by decide) ?_
    refine aw_iload d_Wo_fill_78 rfl ?_
    refine aw_if_eq (tgt := 87) d_Wo_fill_80 (by decide) (fun h80 => ?_) (fun h80 => ?_)
    · refine aw_aload_n d_Wo_fill_87 rfl ?_
      refine aw_iload_n d_Wo_fill_88 rfl ?_
      refine aw_iload_n d_Wo_fill_89 rfl ?_
      refine aw_cV1 d_Wo_fill_90 (c_Pl_tenthsCounted (S.1, va_up (fl_J S k i) (19 + i) (fl_2 (fl_J S k i (19 + i)) S k i), S.2.2) r i k h5 hk hb) mk_Pl_tenthsCounted is_Pl_tenthsCounted ln_Wo_36 rfl rfl rfl rfl (Nat.le_of_ble_eq_true rfl) (Nat.le_of_ble_eq_true rfl) (Nat.le_of_ble_eq_true rfl) (Nat.le_of_ble_eq_true rfl) ?_
      refine aw_i2l d_Wo_fill_93 ?_
      refine aw_eqs (st' := [.long (if cs_g S k i then lN 0 else (cs_tc S k i).toInt64), .int (nI 5), .ref (19 + i)]) (by rw [if_neg ((bI_0 _).mp h80)]) ?_
      refine aw_lastN d_Wo_fill_94 (cs_rowE (S.1, va_up (fl_J S k i) (19 + i) (fl_2 (fl_J S k i (19 + i)) S k i), S.2.2) r i h5 (va_up_self _ _ _)) (by omega) (Nat.le_of_ble_eq_true rfl) (show _ = cs_w (S.1, fl_J S k (i + 1), S.2.2) ++ r from (cs_rowset _ _ _ i h5).trans (by show cs_w (S.1, va_up (va_up _ _ _) _ _, S.2.2) ++ r = _; rw [bx_uu]; rfl)) ?_
      refine aw_iinc d_Wo_fill_95 rfl (nI_1 _) (Nat.le_of_ble_eq_true rfl) ?_
      refine aw_goto (tgt := 2) d_Wo_fill_98 (by decide) ?_
      refine aw_pick (lv' := [(3, .int (nI (i + 1))), (0, .ref 17), (1, .ref 1), (2, .int (nI k))]) ⟨rfl, rfl, rfl, rfl, trivial⟩ ?_
      exact ih (i + 1) (by omega)
    · refine aw_lconst (v := lN 0) d_Wo_fill_83 rfl ?_
      refine aw_goto (tgt := 94) d_Wo_fill_84 (by decide) ?_
      refine aw_eqs (st' := [.long (if cs_g S k i then lN 0 else (cs_tc S k i).toInt64), .int (nI 5), .ref (19 + i)]) (by rw [if_pos (Decidable.not_not.mp (fun c2 => h80 ((bI_0 _).mpr c2)))]) ?_
      refine aw_lastN d_Wo_fill_94 (cs_rowE (S.1, va_up (fl_J S k i) (19 + i) (fl_2 (fl_J S k i (19 + i)) S k i), S.2.2) r i h5 (va_up_self _ _ _)) (by omega) (Nat.le_of_ble_eq_true rfl) (show _ = cs_w (S.1, fl_J S k (i + 1), S.2.2) ++ r from (cs_rowset _ _ _ i h5).trans (by show cs_w (S.1, va_up (va_up _ _ _) _ _, S.2.2) ++ r = _; rw [bx_uu]; rfl)) ?_
      refine aw_iinc d_Wo_fill_95 rfl (nI_1 _) (Nat.le_of_ble_eq_true rfl) ?_
      refine aw_goto (tgt := 2) d_Wo_fill_98 (by decide) ?_
      refine aw_pick (lv' := [(3, .int (nI (i + 1))), (0, .ref 17), (1, .ref 1), (2, .int (nI k))]) ⟨rfl, rfl, rfl, rfl, trivial⟩ ?_
      exact ih (i + 1) (by omega)
theorem c_Wo_fill (S : cs_S) (r : List am_C) (k : Nat) (hk : k < 4) (hb : b01 (S.1 4)) : am_ct y_Wo_fill 3 [.ref 17, .ref 1, .int (nI k)] (cs_w S ++ r) none (cs_w (S.1, fl_J S k 5, S.2.2) ++ r) 0 0 := by
  refine am_ct.of rfl (Nat.le_of_ble_eq_true rfl) ?_
  refine aw_iconst (v := nI 0) d_Wo_fill_0 (by decide) ?_
  refine aw_istore_n d_Wo_fill_1 (Nat.le_of_ble_eq_true rfl) ?_
  exact aw_eql rfl (lp_Wo_f2 S r k hk hb _ rfl 5 0 rfl)
theorem lp_Wo_find (S : cs_S) (r : List am_C) : ∀ (n s : Nat) (J : Nat → Nat → Int64) (l : Int64) (x6 : List (Nat × Value)), s + n = 5 → AW (am_Mof y_Wo_find) 4 0 0 11 ([(5, .int (nI s)), (3, .long l)] ++ x6 ++ [(0, .ref 17)]) [] (cs_w (S.1, J, S.2.2) ++ r) 0 0 (am_Z (some (.long (fi_f n s J l).2)) (cs_w (S.1, (fi_f n s J l).1, S.2.2) ++ r) 0 0) := by
  intro n
  induction n with
  | zero =>
    intro s J l x6 hs
    obtain rfl : s = 5 := by omega
    refine aw_sub (lv' := [(5, .int (nI 5)), (3, .long l), (0, .ref 17)]) (by simp) ?_
    refine aw_iload d_Wo_find_11 rfl ?_
    refine aw_iconst (v := nI 5) d_Wo_find_13 (by decide) ?_
    refine aw_icmp_ge (tgt := 54) d_Wo_find_14 (by decide) (fun h14 => ?_) (fun h14 => absurd (nI_le (Nat.le_refl 5) (by omega)) h14)
    refine aw_lload_n d_Wo_find_54 rfl ?_
    exact aw_lretE d_Wo_find_55 rfl rfl rfl rfl rfl
  | succ n ih =>
    intro s J l x6 hs
    have h5 : s < 5 := by omega
    refine aw_sub (lv' := [(5, .int (nI s)), (3, .long l), (0, .ref 17)]) (by simp) ?_
    refine aw_iload d_Wo_find_11 rfl ?_
    refine aw_iconst (v := nI 5) d_Wo_find_13 (by decide) ?_
    refine aw_icmp_ge (tgt := 54) d_Wo_find_14 (by decide) (fun h14 => absurd h14 (nI_ge (by omega) (by omega))) (fun h14 => ?_)
    refine aw_aload_n d_Wo_find_17 rfl ?_
    refine aw_get d_Wo_find_18 fl_Wo_11 rfl rfl ?_
    refine aw_iload d_Wo_find_21 rfl ?_
    refine aw_aaldN d_Wo_find_23 rfl (by decide) rfl (by omega) (Nat.le_of_ble_eq_true rfl) (if_pos h5) ?_
    refine aw_iload d_Wo_find_24 rfl ?_
    refine aw_laldN d_Wo_find_26 (cs_row (S.1, J, S.2.2) r s h5) (by omega) (Nat.le_of_ble_eq_true rfl) ?_
    refine aw_lstore d_Wo_find_27 (Nat.le_of_ble_eq_true rfl) ?_
    refine aw_lload d_Wo_find_29 rfl ?_
    refine aw_lconst (v := lN 0) d_Wo_find_31 rfl ?_
    refine aw_lc_ne (tgt := 38) d_Wo_find_32 d_Wo_find_33 (by decide) (fun h33 => ?_) (fun h33 => ?_)
    · refine aw_aload_n d_Wo_find_38 rfl ?_
      refine aw_iload d_Wo_find_39 rfl ?_
      refine aw_lload_n d_Wo_find_41 rfl ?_
      refine aw_cV0 d_Wo_find_42 (c_Wo_clearColumn (S.1, J, S.2.2) r s h5 l) mk_Wo_clearColumn is_Wo_clearColumn ln_Wo_20 rfl rfl rfl rfl (Nat.le_of_ble_eq_true rfl) (Nat.le_of_ble_eq_true rfl) (Nat.le_of_ble_eq_true rfl) (Nat.le_of_ble_eq_true rfl) ?_
      refine aw_lload d_Wo_find_45 rfl ?_
      refine aw_lstore_n d_Wo_find_47 (Nat.le_of_ble_eq_true rfl) ?_
      refine aw_iinc d_Wo_find_48 rfl (nI_1 _) (Nat.le_of_ble_eq_true rfl) ?_
      refine aw_goto (tgt := 11) d_Wo_find_51 (by decide) ?_
      have hq : fi_f (n + 1) s J l = fi_f n (s + 1) (cc_J J s l 5) (J (19 + s) s) := if_neg h33
      rw [hq]
      refine aw_pick (lv' := [(5, .int (nI (s + 1))), (3, .long (J (19 + s) s)), (0, .ref 17)]) ⟨rfl, rfl, rfl, trivial⟩ ?_
      exact ih (s + 1) _ _ [] (by omega)
    · refine aw_lconst (v := lN 0) d_Wo_find_36 rfl ?_
      exact aw_lretE d_Wo_find_37 rfl (by show lN 0 = (if _ then _ else _ : (Nat → Nat → Int64) × Int64).2; rw [if_pos h33]) (by show _ = cs_w (S.1, (if _ then _ else _ : (Nat → Nat → Int64) × Int64).1, S.2.2) ++ r; rw [if_pos h33]) rfl rfl
theorem c_Wo_find (S : cs_S) (r : List am_C) (k : Nat) (hk : k < 4) (hb : b01 (S.1 4)) : am_ct y_Wo_find 4 [.ref 17, .ref 1, .int (nI k)] (cs_w S ++ r) (some (.long (fi_f 5 0 (fl_J S k 5) (lN 1)).2)) (cs_w (S.1, (fi_f 5 0 (fl_J S k 5) (lN 1)).1, S.2.2) ++ r) 0 0 := by
  refine am_ct.of rfl (Nat.le_of_ble_eq_true rfl) ?_
  refine aw_aload_n d_Wo_find_0 rfl ?_
  refine aw_aload_n d_Wo_find_1 rfl ?_
  refine aw_iload_n d_Wo_find_2 rfl ?_
  refine aw_cV0 d_Wo_find_3 (c_Wo_fill S r k hk hb) mk_Wo_fill is_Wo_fill ln_Wo_16 rfl rfl rfl rfl (Nat.le_of_ble_eq_true rfl) (Nat.le_of_ble_eq_true rfl) (Nat.le_of_ble_eq_true rfl) (Nat.le_of_ble_eq_true rfl) ?_
  refine aw_lconst (v := lN 1) d_Wo_find_6 rfl ?_
  refine aw_lstore_n d_Wo_find_7 (Nat.le_of_ble_eq_true rfl) ?_
  refine aw_iconst (v := nI 0) d_Wo_find_8 (by decide) ?_
  refine aw_istore d_Wo_find_9 (Nat.le_of_ble_eq_true rfl) ?_
  refine aw_pick (lv' := [(5, .int (nI 0)), (3, .long (lN 1)), (0, .ref 17)]) ⟨rfl, rfl, rfl, trivial⟩ ?_
  exact lp_Wo_find S r 5 0 (fl_J S k 5) (lN 1) [] rfl
end
section
/-! RateChains$Solved: reading, taking, clearing -/
def ab_f (f : Nat → Int64) (k y : Nat) : Nat → Int64
  | 0 => lN 0
  | c + 1 => ab_f f k y c + f (c * 4 * 10 + (k * 10 + y))
def dn_f (b a : Int64) : Int64 := if b ≤ lN 0 then lN 0 else a / b
def al_n (f : Nat → Bool) : Nat → Bool
  | 0 => true
  | n + 1 => al_n f n && f n
theorem al_n_iff (f : Nat → Bool) : ∀ n, al_n f n = true ↔ ∀ t, t < n → f t = true
  | 0 => by simp [al_n]
  | n + 1 => by
    simp only [al_n, Bool.and_eq_true, al_n_iff f n]
    constructor
    · rintro ⟨h1, h2⟩ t ht
      by_cases e : t = n
      · subst e; exact h2
      · exact h1 t (by omega)
    · intro h
      exact ⟨fun t ht => h t (by omega), h n (by omega)⟩
abbrev nm_c (S : cs_S) (k y : Nat) : Prop := ab_f (S.2.1 28) k y 4 ≤ S.2.1 27 (k * 10 + y) * S.2.1 24 k
def nm_f (S : cs_S) : Bool := al_n (fun k => al_n (fun y => decide (nm_c S k y)) 10) 4
def ts_f (f : Nat → Int64) (c k : Nat) : Nat → Nat → Int64 → Int64
  | 0, _, a => a
  | n + 1, i, a => ts_f f c k n (i + 1) (a + f (c * 4 * 10 + (k * 10 + i)))
abbrev tk_p (st : Nat → Int64) (c k i : Nat) (due : Int64) : Int64 := if st (c * 4 * 10 + (k * 10 + i)) < due then st (c * 4 * 10 + (k * 10 + i)) else due
def tk_f (c k : Nat) : Nat → Nat → Int64 → (Nat → Int64) → (Nat → Int64)
  | 0, _, _, st => st
  | n + 1, i, due, st => tk_f c k n (i + 1) (due - tk_p st c k i due) (vp_updL st (c * 4 * 10 + (k * 10 + i)) (st (c * 4 * 10 + (k * 10 + i)) - tk_p st c k i due))
def cl_f (f : Nat → Int64) : Nat → (Nat → Int64)
  | 0 => f
  | i + 1 => vp_updL (cl_f f i) i (lN 0)
theorem mx_1 : Cond.static Lib.Math.max.name ∈ am_G := am_in 496 (by decide +kernel) (by decide +kernel)
theorem mx_2 : Cond.initialized "java/lang/Math" ∈ am_G := am_in 45 (by decide +kernel) (by decide +kernel)
theorem mx_3 : Cond.code Lib.Math.max.name Lib.Math.max.code 2 (some .int) ∈ am_G := am_in 497 (by decide +kernel) (by decide +kernel)
theorem mn_1 : Cond.static Lib.MathLoose.min_long.x ∈ am_G := am_in 504 (by decide +kernel) (by decide +kernel)
theorem mn_3 : Cond.code Lib.MathLoose.min_long.x Lib.MathLoose.min_long.code 4 (some .long) ∈ am_G := am_in 505 (by decide +kernel) (by decide +kernel)
theorem mx_y : ∀ y, y < 10 → (if nI 0 < nI y - nI 2 then nI y - nI 2 else nI 0) = nI (y - 2) := by decide +kernel
theorem c_So_place (w : List am_C) (c k y : Nat) : am_ct y_So_place 1 [.int (nI c), .int (nI k), .int (nI y)] (w) (some (.int (nI (c * 4 * 10 + (k * 10 + y))))) (w) 0 0 := by
  refine am_ct.of rfl (Nat.le_of_ble_eq_true rfl) ?_
  refine aw_iload_n d_So_place_0 rfl ?_
  refine aw_iconst (v := nI 4) d_So_place_1 (by decide) ?_
  refine aw_imul d_So_place_2 ?_
  try simp only [pk_mul, nI_add]
  refine aw_bipush (v := nI 10) d_So_place_3 (by decide) ?_
  refine aw_imul d_So_place_5 ?_
  try simp only [pk_mul, nI_add]
  refine aw_iload_n d_So_place_6 rfl ?_
  refine aw_iload_n d_So_place_7 rfl ?_
  refine aw_cSN1 d_So_place_8 (c_RC_cell w k y) mk_RC_cell is_RC_cell ln_So_68 rfl rfl (Nat.le_of_ble_eq_true rfl) (Nat.le_of_ble_eq_true rfl) (Nat.le_of_ble_eq_true rfl) (Nat.le_of_ble_eq_true rfl) ?_
  refine aw_iadd d_So_place_11 ?_
  try simp only [pk_mul, nI_add]
  exact aw_iretE d_So_place_12 rfl rfl rfl rfl rfl
theorem c_So_isThere (S : cs_S) (r : List am_C) (h16 : narrow .boolean (.int (S.2.2 16)) = .int (S.2.2 16)) : am_ct y_So_isThere 0 [.ref 16] (cs_w S ++ r) (some (.int (S.2.2 16))) (cs_w S ++ r) 0 0 := by
  refine am_ct.of rfl (Nat.le_of_ble_eq_true rfl) ?_
  refine aw_aload_n d_So_isThere_0 rfl ?_
  refine aw_get d_So_isThere_1 fl_So_44 rfl rfl ?_
  exact aw_zretE d_So_isThere_4 rfl h16 rfl rfl rfl rfl
theorem c_So_belowOf (S : cs_S) (r : List am_C) (k : Nat) (hk : k < 4) : am_ct y_So_belowOf 0 [.ref 16, .int (nI k)] (cs_w S ++ r) (some (.long (S.2.1 24 k))) (cs_w S ++ r) 0 0 := by
  refine am_ct.of rfl (Nat.le_of_ble_eq_true rfl) ?_
  refine aw_aload_n d_So_belowOf_0 rfl ?_
  refine aw_get d_So_belowOf_1 fl_So_18 rfl rfl ?_
  refine aw_iload_n d_So_belowOf_4 rfl ?_
  refine aw_laldN d_So_belowOf_5 rfl (by omega) (Nat.le_of_ble_eq_true rfl) ?_
  exact aw_lretE d_So_belowOf_6 rfl rfl rfl rfl rfl
theorem c_So_aboveOfCountry (S : cs_S) (r : List am_C) (c k y : Nat) (hc : c < 4) (hk : k < 4) (hy : y < 10) : am_ct y_So_aboveOfCountry 2 [.ref 16, .int (nI c), .int (nI k), .int (nI y)] (cs_w S ++ r) (some (.long (S.2.1 28 (c * 4 * 10 + (k * 10 + y))))) (cs_w S ++ r) 0 0 := by
  refine am_ct.of rfl (Nat.le_of_ble_eq_true rfl) ?_
  refine aw_aload_n d_So_aboveOfCountry_0 rfl ?_
  refine aw_get d_So_aboveOfCountry_1 fl_So_31 rfl rfl ?_
  refine aw_iload_n d_So_aboveOfCountry_4 rfl ?_
  refine aw_iload_n d_So_aboveOfCountry_5 rfl ?_
  refine aw_iload_n d_So_aboveOfCountry_6 rfl ?_
  refine aw_cS1 d_So_aboveOfCountry_7 (c_So_place _ c k y) mk_So_place is_So_place ln_So_48 rfl rfl (Nat.le_of_ble_eq_true rfl) (Nat.le_of_ble_eq_true rfl) (Nat.le_of_ble_eq_true rfl) (Nat.le_of_ble_eq_true rfl) ?_
  refine aw_laldN d_So_aboveOfCountry_10 rfl (by omega) (Nat.le_of_ble_eq_true rfl) ?_
  exact aw_lretE d_So_aboveOfCountry_11 rfl rfl rfl rfl rfl
theorem c_So_stockOf (S : cs_S) (r : List am_C) (c k y : Nat) (hc : c < 4) (hk : k < 4) (hy : y < 10) : am_ct y_So_stockOf 2 [.ref 16, .int (nI c), .int (nI k), .int (nI y)] (cs_w S ++ r) (some (.long (S.2.1 29 (c * 4 * 10 + (k * 10 + y))))) (cs_w S ++ r) 0 0 := by
  refine am_ct.of rfl (Nat.le_of_ble_eq_true rfl) ?_
  refine aw_aload_n d_So_stockOf_0 rfl ?_
  refine aw_get d_So_stockOf_1 fl_So_34 rfl rfl ?_
  refine aw_iload_n d_So_stockOf_4 rfl ?_
  refine aw_iload_n d_So_stockOf_5 rfl ?_
  refine aw_iload_n d_So_stockOf_6 rfl ?_
  refine aw_cS1 d_So_stockOf_7 (c_So_place _ c k y) mk_So_place is_So_place ln_So_48 rfl rfl (Nat.le_of_ble_eq_true rfl) (Nat.le_of_ble_eq_true rfl) (Nat.le_of_ble_eq_true rfl) (Nat.le_of_ble_eq_true rfl) ?_
  refine aw_laldN d_So_stockOf_10 rfl (by omega) (Nat.le_of_ble_eq_true rfl) ?_
  exact aw_lretE d_So_stockOf_11 rfl rfl rfl rfl rfl
theorem c_So_lostBareAt (S : cs_S) (r : List am_C) (p : Nat) (hp : p < 5) (hb : b01 (S.1 31)) : am_ct y_So_lostBareAt 0 [.ref 16, .int (nI p)] (cs_w S ++ r) (some (.int (S.1 31 p))) (cs_w S ++ r) 0 0 := by
  refine am_ct.of rfl (Nat.le_of_ble_eq_true rfl) ?_
  refine aw_aload_n d_So_lostBareAt_0 rfl ?_
  refine aw_get d_So_lostBareAt_1 fl_So_41 rfl rfl ?_
  refine aw_iload_n d_So_lostBareAt_4 rfl ?_
  refine aw_zaldN d_So_lostBareAt_5 rfl (by omega) (Nat.le_of_ble_eq_true rfl) ?_
  exact aw_zretE d_So_lostBareAt_6 rfl (b01_nar hb _) rfl rfl rfl rfl
theorem c_So_difference (S : cs_S) (r : List am_C) (p k ya yb : Nat) (hp : p < 5) (hk : k < 4) (ha : ya < 10) (hb : yb < 10) : am_ct y_So_difference 1 [.ref 16, .int (nI p), .int (nI k), .int (nI ya), .int (nI yb)] (cs_w S ++ r) (some (.long ((S.2.1 26 ((p * 4 + k) * 10 + yb) - S.2.1 26 ((p * 4 + k) * 10 + ya)) * S.2.1 25 (p * 4 + k)))) (cs_w S ++ r) 0 0 := by
  refine am_ct.of rfl (Nat.le_of_ble_eq_true rfl) ?_
  refine aw_iload_n d_So_difference_0 rfl ?_
  refine aw_iload_n d_So_difference_1 rfl ?_
  refine aw_cSN1 d_So_difference_2 (c_RC_slotOf _ p k) mk_RC_slotOf is_RC_slotOf ln_So_64 rfl rfl (Nat.le_of_ble_eq_true rfl) (Nat.le_of_ble_eq_true rfl) (Nat.le_of_ble_eq_true rfl) (Nat.le_of_ble_eq_true rfl) ?_
  refine aw_istore d_So_difference_5 (Nat.le_of_ble_eq_true rfl) ?_
  refine aw_aload_n d_So_difference_7 rfl ?_
  refine aw_get d_So_difference_8 fl_So_25 rfl rfl ?_
  refine aw_iload d_So_difference_11 rfl ?_
  refine aw_bipush (v := nI 10) d_So_difference_13 (by decide) ?_
  refine aw_imul d_So_difference_15 ?_
  try simp only [pk_mul, nI_add]
  refine aw_iload d_So_difference_16 rfl ?_
  refine aw_iadd d_So_difference_18 ?_
  try simp only [pk_mul, nI_add]
  refine aw_laldN d_So_difference_19 rfl (by omega) (Nat.le_of_ble_eq_true rfl) ?_
  refine aw_aload_n d_So_difference_20 rfl ?_
  refine aw_get d_So_difference_21 fl_So_25 rfl rfl ?_
  refine aw_iload d_So_difference_24 rfl ?_
  refine aw_bipush (v := nI 10) d_So_difference_26 (by decide) ?_
  refine aw_imul d_So_difference_28 ?_
  try simp only [pk_mul, nI_add]
  refine aw_iload_n d_So_difference_29 rfl ?_
  refine aw_iadd d_So_difference_30 ?_
  try simp only [pk_mul, nI_add]
  refine aw_laldN d_So_difference_31 rfl (by omega) (Nat.le_of_ble_eq_true rfl) ?_
  refine aw_lsub d_So_difference_32 ?_
  refine aw_lstore d_So_difference_33 (Nat.le_of_ble_eq_true rfl) ?_
  refine aw_lload d_So_difference_35 rfl ?_
  refine aw_aload_n d_So_difference_37 rfl ?_
  refine aw_get d_So_difference_38 fl_So_22 rfl rfl ?_
  refine aw_iload d_So_difference_41 rfl ?_
  refine aw_laldN d_So_difference_43 rfl (by omega) (Nat.le_of_ble_eq_true rfl) ?_
  refine aw_lmul d_So_difference_44 ?_
  exact aw_lretE d_So_difference_45 rfl rfl rfl rfl rfl
theorem lp_So_ab (S : cs_S) (r : List am_C) (k y : Nat) (hk : k < 4) (hy : y < 10) : ∀ (n c : Nat), c + n = 4 → AW (am_Mof y_So_aboveOf) 3 0 0 5 [(5, .int (nI c)), (3, .long (ab_f (S.2.1 28) k y c)), (0, .ref 16), (1, .int (nI k)), (2, .int (nI y))] [] (cs_w S ++ r) 0 0 (am_Z (some (.long (ab_f (S.2.1 28) k y 4))) (cs_w S ++ r) 0 0) := by
  intro n
  induction n with
  | zero =>
    intro c hc
    obtain rfl : c = 4 := by omega
    refine aw_iload d_So_aboveOf_5 rfl ?_
    refine aw_iconst (v := nI 4) d_So_aboveOf_7 (by decide) ?_
    refine aw_icmp_ge (tgt := 28) d_So_aboveOf_8 (by decide) (fun h8 => ?_) (fun h8 => absurd (nI_le (Nat.le_refl 4) (by omega)) h8)
    refine aw_lload_n d_So_aboveOf_28 rfl ?_
    exact aw_lretE d_So_aboveOf_29 rfl rfl rfl rfl rfl
  | succ n ih =>
    intro c hc
    refine aw_iload d_So_aboveOf_5 rfl ?_
    refine aw_iconst (v := nI 4) d_So_aboveOf_7 (by decide) ?_
    refine aw_icmp_ge (tgt := 28) d_So_aboveOf_8 (by decide) (fun h8 => absurd h8 (nI_ge (by omega) (by omega))) (fun h8 => ?_)
    refine aw_lload_n d_So_aboveOf_11 rfl ?_
    refine aw_aload_n d_So_aboveOf_12 rfl ?_
    refine aw_iload d_So_aboveOf_13 rfl ?_
    refine aw_iload_n d_So_aboveOf_15 rfl ?_
    refine aw_iload_n d_So_aboveOf_16 rfl ?_
    refine aw_cV1 d_So_aboveOf_17 (c_So_aboveOfCountry S r c k y (by omega) hk hy) mk_So_aboveOfCountry is_So_aboveOfCountry ln_So_52 rfl rfl rfl rfl (Nat.le_of_ble_eq_true rfl) (Nat.le_of_ble_eq_true rfl) (Nat.le_of_ble_eq_true rfl) (Nat.le_of_ble_eq_true rfl) ?_
    refine aw_ladd d_So_aboveOf_20 ?_
    refine aw_lstore_n d_So_aboveOf_21 (Nat.le_of_ble_eq_true rfl) ?_
    refine aw_iinc d_So_aboveOf_22 rfl (nI_1 _) (Nat.le_of_ble_eq_true rfl) ?_
    refine aw_goto (tgt := 5) d_So_aboveOf_25 (by decide) ?_
    exact aw_eql rfl (ih (c + 1) (by omega))
theorem c_So_aboveOf (S : cs_S) (r : List am_C) (k y : Nat) (hk : k < 4) (hy : y < 10) : am_ct y_So_aboveOf 3 [.ref 16, .int (nI k), .int (nI y)] (cs_w S ++ r) (some (.long (ab_f (S.2.1 28) k y 4))) (cs_w S ++ r) 0 0 := by
  refine am_ct.of rfl (Nat.le_of_ble_eq_true rfl) ?_
  refine aw_lconst (v := lN 0) d_So_aboveOf_0 rfl ?_
  refine aw_lstore_n d_So_aboveOf_1 (Nat.le_of_ble_eq_true rfl) ?_
  refine aw_iconst (v := nI 0) d_So_aboveOf_2 (by decide) ?_
  refine aw_istore d_So_aboveOf_3 (Nat.le_of_ble_eq_true rfl) ?_
  exact aw_eql rfl (lp_So_ab S r k y hk hy 4 0 rfl)
theorem c_So_down (S : cs_S) (r : List am_C) (a : Int64) (k : Nat) (hk : k < 4) : am_ct y_So_down 0 [.ref 16, .long a, .int (nI k)] (cs_w S ++ r) (some (.long (dn_f (S.2.1 24 k) a))) (cs_w S ++ r) 0 0 := by
  refine am_ct.of rfl (Nat.le_of_ble_eq_true rfl) ?_
  refine aw_aload_n d_So_down_0 rfl ?_
  refine aw_get d_So_down_1 fl_So_18 rfl rfl ?_
  refine aw_iload_n d_So_down_4 rfl ?_
  refine aw_laldN d_So_down_5 rfl (by omega) (Nat.le_of_ble_eq_true rfl) ?_
  refine aw_lconst (v := lN 0) d_So_down_6 rfl ?_
  refine aw_lc_le (tgt := 22) d_So_down_7 d_So_down_8 (by decide) (fun h8 => ?_) (fun h8 => ?_)
  · refine aw_lconst (v := lN 0) d_So_down_22 rfl ?_
    exact aw_lretE d_So_down_23 rfl (by unfold dn_f; rw [if_pos h8]) rfl rfl rfl
  · refine aw_lload_n d_So_down_11 rfl ?_
    refine aw_aload_n d_So_down_12 rfl ?_
    refine aw_get d_So_down_13 fl_So_18 rfl rfl ?_
    refine aw_iload_n d_So_down_16 rfl ?_
    refine aw_laldN d_So_down_17 rfl (by omega) (Nat.le_of_ble_eq_true rfl) ?_
    refine aw_ldiv d_So_down_18 (fun e => h8 (by rw [e]; exact (i64_nlt _ _).mp Int64.lt_irrefl)) ?_
    refine aw_goto (tgt := 23) d_So_down_19 (by decide) ?_
    exact aw_lretE d_So_down_23 rfl (by unfold dn_f; rw [if_neg h8]) rfl rfl rfl
theorem c_So_wholeGrams (S : cs_S) (r : List am_C) (k y : Nat) (hk : k < 4) (hy : y < 10) : am_ct y_So_wholeGrams 4 [.ref 16, .int (nI k), .int (nI y)] (cs_w S ++ r) (some (.long (dn_f (S.2.1 24 k) (ab_f (S.2.1 28) k y 4)))) (cs_w S ++ r) 0 0 := by
  refine am_ct.of rfl (Nat.le_of_ble_eq_true rfl) ?_
  refine aw_aload_n d_So_wholeGrams_0 rfl ?_
  refine aw_aload_n d_So_wholeGrams_1 rfl ?_
  refine aw_iload_n d_So_wholeGrams_2 rfl ?_
  refine aw_iload_n d_So_wholeGrams_3 rfl ?_
  refine aw_cV1 d_So_wholeGrams_4 (c_So_aboveOf S r k y hk hy) mk_So_aboveOf is_So_aboveOf ln_So_56 rfl rfl rfl rfl (Nat.le_of_ble_eq_true rfl) (Nat.le_of_ble_eq_true rfl) (Nat.le_of_ble_eq_true rfl) (Nat.le_of_ble_eq_true rfl) ?_
  refine aw_iload_n d_So_wholeGrams_7 rfl ?_
  refine aw_cV1 d_So_wholeGrams_8 (c_So_down S r _ k hk) mk_So_down is_So_down ln_So_60 rfl rfl rfl rfl (Nat.le_of_ble_eq_true rfl) (Nat.le_of_ble_eq_true rfl) (Nat.le_of_ble_eq_true rfl) (Nat.le_of_ble_eq_true rfl) ?_
  exact aw_lretE d_So_wholeGrams_11 rfl rfl rfl rfl rfl
theorem lp_So_n1 (S : cs_S) (r : List am_C) (k : Nat) (hk : k < 4) (hf : nm_f S = true → ∀ y, y < 10 → nm_c S k y) (K : (∀ y, y < 10 → nm_c S k y) → AW (am_Mof y_So_isNeverMoreThanBrought) 4 0 0 50 [(2, .int (nI 10)), (1, .int (nI k)), (0, .ref 16)] [] (cs_w S ++ r) 0 0 (am_Z (some (.int (bI (nm_f S = true)))) (cs_w S ++ r) 0 0)) : ∀ (n y : Nat), y + n = 10 → (∀ t, t < y → nm_c S k t) → AW (am_Mof y_So_isNeverMoreThanBrought) 4 0 0 9 [(2, .int (nI y)), (1, .int (nI k)), (0, .ref 16)] [] (cs_w S ++ r) 0 0 (am_Z (some (.int (bI (nm_f S = true)))) (cs_w S ++ r) 0 0) := by
  intro n
  induction n with
  | zero =>
    intro y hy hall
    obtain rfl : y = 10 := by omega
    refine aw_iload_n d_So_isNeverMoreThanBrought_9 rfl ?_
    refine aw_bipush (v := nI 10) d_So_isNeverMoreThanBrought_10 (by decide) ?_
    refine aw_icmp_ge (tgt := 50) d_So_isNeverMoreThanBrought_12 (by decide) (fun h12 => ?_) (fun h12 => absurd (nI_le (Nat.le_refl 10) (by omega)) h12)
    exact K hall
  | succ n ih =>
    intro y hy hall
    refine aw_iload_n d_So_isNeverMoreThanBrought_9 rfl ?_
    refine aw_bipush (v := nI 10) d_So_isNeverMoreThanBrought_10 (by decide) ?_
    refine aw_icmp_ge (tgt := 50) d_So_isNeverMoreThanBrought_12 (by decide) (fun h12 => absurd h12 (nI_ge (by omega) (by omega))) (fun h12 => ?_)
    refine aw_aload_n d_So_isNeverMoreThanBrought_15 rfl ?_
    refine aw_iload_n d_So_isNeverMoreThanBrought_16 rfl ?_
    refine aw_iload_n d_So_isNeverMoreThanBrought_17 rfl ?_
    refine aw_cV1 d_So_isNeverMoreThanBrought_18 (c_So_aboveOf S r k y hk (by omega)) mk_So_aboveOf is_So_aboveOf ln_So_56 rfl rfl rfl rfl (Nat.le_of_ble_eq_true rfl) (Nat.le_of_ble_eq_true rfl) (Nat.le_of_ble_eq_true rfl) (Nat.le_of_ble_eq_true rfl) ?_
    refine aw_aload_n d_So_isNeverMoreThanBrought_21 rfl ?_
    refine aw_get d_So_isNeverMoreThanBrought_22 fl_So_28 rfl rfl ?_
    refine aw_iload_n d_So_isNeverMoreThanBrought_25 rfl ?_
    refine aw_iload_n d_So_isNeverMoreThanBrought_26 rfl ?_
    refine aw_cSN1 d_So_isNeverMoreThanBrought_27 (c_RC_cell _ k y) mk_RC_cell is_RC_cell ln_So_68 rfl rfl (Nat.le_of_ble_eq_true rfl) (Nat.le_of_ble_eq_true rfl) (Nat.le_of_ble_eq_true rfl) (Nat.le_of_ble_eq_true rfl) ?_
    refine aw_laldN d_So_isNeverMoreThanBrought_30 rfl (by omega) (Nat.le_of_ble_eq_true rfl) ?_
    refine aw_aload_n d_So_isNeverMoreThanBrought_31 rfl ?_
    refine aw_get d_So_isNeverMoreThanBrought_32 fl_So_18 rfl rfl ?_
    refine aw_iload_n d_So_isNeverMoreThanBrought_35 rfl ?_
    refine aw_laldN d_So_isNeverMoreThanBrought_36 rfl (by omega) (Nat.le_of_ble_eq_true rfl) ?_
    refine aw_lmul d_So_isNeverMoreThanBrought_37 ?_
    refine aw_lc_le (tgt := 44) d_So_isNeverMoreThanBrought_38 d_So_isNeverMoreThanBrought_39 (by decide) (fun h39 => ?_) (fun h39 => ?_)
    · refine aw_iinc d_So_isNeverMoreThanBrought_44 rfl (nI_1 _) (Nat.le_of_ble_eq_true rfl) ?_
      refine aw_goto (tgt := 9) d_So_isNeverMoreThanBrought_47 (by decide) ?_
      exact aw_eql rfl (ih (y + 1) (by omega) (fun t ht => by
        rcases (show t < y ∨ t = y by omega) with h | h
        · exact hall t h
        · subst h; exact h39))
    · refine aw_iconst (v := nI 0) d_So_isNeverMoreThanBrought_42 (by decide) ?_
      exact aw_zretE d_So_isNeverMoreThanBrought_43 rfl rfl (bI_f (fun e => h39 (hf e y (by omega)))).symm rfl rfl rfl
theorem nm_f_all (S : cs_S) : nm_f S = true ↔ ∀ k, k < 4 → ∀ y, y < 10 → nm_c S k y := by
  unfold nm_f
  rw [al_n_iff]
  constructor
  · intro h k hk y hy
    exact of_decide_eq_true ((al_n_iff _ _).mp (h k hk) y hy)
  · intro h k hk
    exact (al_n_iff _ _).mpr (fun y hy => decide_eq_true (h k hk y hy))
theorem lp_So_n2 (S : cs_S) (r : List am_C) : ∀ (n k : Nat) (x2 : List (Nat × Value)), k + n = 4 → (∀ t, t < k → ∀ y, y < 10 → nm_c S t y) → AW (am_Mof y_So_isNeverMoreThanBrought) 4 0 0 2 ([(1, .int (nI k))] ++ x2 ++ [(0, .ref 16)]) [] (cs_w S ++ r) 0 0 (am_Z (some (.int (bI (nm_f S = true)))) (cs_w S ++ r) 0 0) := by
  intro n
  induction n with
  | zero =>
    intro k x2 hk hall
    obtain rfl : k = 4 := by omega
    refine aw_sub (lv' := [(1, .int (nI 4)), (0, .ref 16)]) (by simp) ?_
    refine aw_iload_n d_So_isNeverMoreThanBrought_2 rfl ?_
    refine aw_iconst (v := nI 4) d_So_isNeverMoreThanBrought_3 (by decide) ?_
    refine aw_icmp_ge (tgt := 56) d_So_isNeverMoreThanBrought_4 (by decide) (fun h4 => ?_) (fun h4 => absurd (nI_le (Nat.le_refl 4) (by omega)) h4)
    refine aw_iconst (v := nI 1) d_So_isNeverMoreThanBrought_56 (by decide) ?_
    exact aw_zretE d_So_isNeverMoreThanBrought_57 rfl rfl (bI_t ((nm_f_all S).mpr hall)).symm rfl rfl rfl
  | succ n ih =>
    intro k x2 hk hall
    refine aw_sub (lv' := [(1, .int (nI k)), (0, .ref 16)]) (by simp) ?_
    refine aw_iload_n d_So_isNeverMoreThanBrought_2 rfl ?_
    refine aw_iconst (v := nI 4) d_So_isNeverMoreThanBrought_3 (by decide) ?_
    refine aw_icmp_ge (tgt := 56) d_So_isNeverMoreThanBrought_4 (by decide) (fun h4 => absurd h4 (nI_ge (by omega) (by omega))) (fun h4 => ?_)
    refine aw_iconst (v := nI 0) d_So_isNeverMoreThanBrought_7 (by decide) ?_
    refine aw_istore_n d_So_isNeverMoreThanBrought_8 (Nat.le_of_ble_eq_true rfl) ?_
    refine aw_eql rfl (lp_So_n1 S r k (by omega) (fun e => (nm_f_all S).mp e k (by omega)) (fun hk2 => ?_) 10 0 rfl (fun t h => absurd h (Nat.not_lt_zero t)))
    refine aw_iinc d_So_isNeverMoreThanBrought_50 rfl (nI_1 _) (Nat.le_of_ble_eq_true rfl) ?_
    refine aw_goto (tgt := 2) d_So_isNeverMoreThanBrought_53 (by decide) ?_
    refine aw_pick (lv' := [(1, .int (nI (k + 1))), (0, .ref 16)]) ⟨rfl, rfl, trivial⟩ ?_
    exact ih (k + 1) [] (by omega) (fun t ht => by
      rcases (show t < k ∨ t = k by omega) with h | h
      · exact hall t h
      · subst h; exact hk2)
theorem c_So_isNeverMoreThanBrought (S : cs_S) (r : List am_C) : am_ct y_So_isNeverMoreThanBrought 4 [.ref 16] (cs_w S ++ r) (some (.int (bI (nm_f S = true)))) (cs_w S ++ r) 0 0 := by
  refine am_ct.of rfl (Nat.le_of_ble_eq_true rfl) ?_
  refine aw_iconst (v := nI 0) d_So_isNeverMoreThanBrought_0 (by decide) ?_
  refine aw_istore_n d_So_isNeverMoreThanBrought_1 (Nat.le_of_ble_eq_true rfl) ?_
  exact aw_eql rfl (lp_So_n2 S r 4 0 [] rfl (fun t h => absurd h (Nat.not_lt_zero t)))
theorem lp_So_clear (S : cs_S) (r : List am_C) (q N : Nat) (hN : N < 2 ^ 31) (hq : ∀ S : cs_S, (cs_w S ++ r)[q]? = some (.inl (1, N, .inr (.inl (S.2.1 q))))) (hs : ∀ (S : cs_S) (g : Nat → Int64), (cs_w S ++ r).set q (.inl (1, N, .inr (.inl g))) = cs_w (cs_J S q g) ++ r) : ∀ (n i : Nat), i + n = N → AW (am_Mof y_So_clear) 0 0 0 2 [(1, .int (nI i)), (0, .ref q)] [] (cs_w (cs_J S q (cl_f (S.2.1 q) i)) ++ r) 0 0 (am_Z none (cs_w (cs_J S q (cl_f (S.2.1 q) N)) ++ r) 0 0) := by
  have hqq : ∀ g : Nat → Int64, (cs_w (cs_J S q g) ++ r)[q]? = some (.inl (1, N, .inr (.inl g))) := fun g => by
    have h := hq (cs_J S q g)
    rw [show (cs_J S q g).2.1 q = g from va_up_self _ _ _] at h
    exact h
  intro n
  induction n with
  | zero =>
    intro i hi
    obtain rfl : i = N := by omega
    refine aw_iload_n d_So_clear_2 rfl ?_
    refine aw_aload_n d_So_clear_3 rfl ?_
    refine aw_alen (v := nI i) d_So_clear_4 (hqq _) (by decide) rfl ?_
    refine aw_icmp_ge (tgt := 18) d_So_clear_5 (by decide) (fun h5 => ?_) (fun h5 => absurd (nI_le (Nat.le_refl _) hN) h5)
    exact aw_vretE d_So_clear_18 rfl rfl rfl rfl
  | succ n ih =>
    intro i hi
    refine aw_iload_n d_So_clear_2 rfl ?_
    refine aw_aload_n d_So_clear_3 rfl ?_
    refine aw_alen (v := nI N) d_So_clear_4 (hqq _) (by decide) rfl ?_
    refine aw_icmp_ge (tgt := 18) d_So_clear_5 (by decide) (fun h5 => absurd h5 (nI_ge (by omega) (by omega))) (fun h5 => ?_)
    refine aw_aload_n d_So_clear_8 rfl ?_
    refine aw_iload_n d_So_clear_9 rfl ?_
    refine aw_lconst (v := lN 0) d_So_clear_10 rfl ?_
    refine aw_lastN d_So_clear_11 (hqq _) (by omega) hN (show _ = cs_w (cs_J S q (cl_f (S.2.1 q) (i + 1))) ++ r from (hs _ _).trans (by rw [cs_JJ]; rfl)) ?_
    refine aw_iinc d_So_clear_12 rfl (nI_1 _) (Nat.le_of_ble_eq_true rfl) ?_
    refine aw_goto (tgt := 2) d_So_clear_15 (by decide) ?_
    exact aw_eql rfl (ih (i + 1) (by omega))
theorem c_So_clear (S : cs_S) (r : List am_C) (q N : Nat) (hN : N < 2 ^ 31) (hq : ∀ S : cs_S, (cs_w S ++ r)[q]? = some (.inl (1, N, .inr (.inl (S.2.1 q))))) (hs : ∀ (S : cs_S) (g : Nat → Int64), (cs_w S ++ r).set q (.inl (1, N, .inr (.inl g))) = cs_w (cs_J S q g) ++ r) : am_ct y_So_clear 0 [.ref q] (cs_w S ++ r) none (cs_w (cs_J S q (cl_f (S.2.1 q) N)) ++ r) 0 0 := by
  refine am_ct.of rfl (Nat.le_of_ble_eq_true rfl) ?_
  refine aw_iconst (v := nI 0) d_So_clear_0 (by decide) ?_
  refine aw_istore_n d_So_clear_1 (Nat.le_of_ble_eq_true rfl) ?_
  refine aw_eqw (w' := cs_w (cs_J S q (cl_f (S.2.1 q) 0)) ++ r) (by show cs_w S ++ r = cs_w (S.1, va_up S.2.1 q (S.2.1 q), S.2.2) ++ r; rw [va_up_idl]) ?_
  exact aw_eql rfl (lp_So_clear S r q N hN hq hs N 0 (by omega))
theorem lp_So_t1 (S : cs_S) (r : List am_C) (c k y : Nat) (hc : c < 4) (hk : k < 4) (hy : y < 10) (g : Int64) (Z : am_E) (T : Int64) (K : AW (am_Mof y_So_take) 4 0 0 41 [(7, .long T), (0, .ref 16), (1, .int (nI c)), (2, .int (nI k)), (3, .int (nI y)), (4, .long g), (6, .int (nI (y - 2)))] [] (cs_w S ++ r) 0 0 Z) : ∀ (n i : Nat) (a : Int64), i + n = y + 1 → ts_f (S.2.1 29) c k n i a = T → AW (am_Mof y_So_take) 4 0 0 16 [(9, .int (nI i)), (7, .long a), (0, .ref 16), (1, .int (nI c)), (2, .int (nI k)), (3, .int (nI y)), (4, .long g), (6, .int (nI (y - 2)))] [] (cs_w S ++ r) 0 0 Z := by
  intro n
  induction n with
  | zero =>
    intro i a hi hT
    obtain rfl : i = y + 1 := by omega
    obtain rfl : a = T := hT
    refine aw_iload d_So_take_16 rfl ?_
    refine aw_iload_n d_So_take_18 rfl ?_
    refine aw_icmp_gt (tgt := 41) d_So_take_19 (by decide) (fun h19 => ?_) (fun h19 => absurd (nI_lt (by omega) (by omega)) h19)
    exact aw_pick (lv' := [(7, .long a), (0, .ref 16), (1, .int (nI c)), (2, .int (nI k)), (3, .int (nI y)), (4, .long g), (6, .int (nI (y - 2)))]) ⟨rfl, rfl, rfl, rfl, rfl, rfl, rfl, trivial⟩ K
  | succ n ih =>
    intro i a hi hT
    refine aw_iload d_So_take_16 rfl ?_
    refine aw_iload_n d_So_take_18 rfl ?_
    refine aw_icmp_gt (tgt := 41) d_So_take_19 (by decide) (fun h19 => absurd h19 (nI_nlt (by omega) (by omega))) (fun h19 => ?_)
    refine aw_lload d_So_take_22 rfl ?_
    refine aw_aload_n d_So_take_24 rfl ?_
    refine aw_iload_n d_So_take_25 rfl ?_
    refine aw_iload_n d_So_take_26 rfl ?_
    refine aw_iload d_So_take_27 rfl ?_
    refine aw_cV1 d_So_take_29 (c_So_stockOf S r c k i hc hk (by omega)) mk_So_stockOf is_So_stockOf ln_So_76 rfl rfl rfl rfl (Nat.le_of_ble_eq_true rfl) (Nat.le_of_ble_eq_true rfl) (Nat.le_of_ble_eq_true rfl) (Nat.le_of_ble_eq_true rfl) ?_
    refine aw_ladd d_So_take_32 ?_
    refine aw_lstore d_So_take_33 (Nat.le_of_ble_eq_true rfl) ?_
    refine aw_iinc d_So_take_35 rfl (nI_1 _) (Nat.le_of_ble_eq_true rfl) ?_
    refine aw_goto (tgt := 16) d_So_take_38 (by decide) ?_
    exact aw_eql rfl (ih (i + 1) _ (by omega) hT)
theorem lp_So_t2 (S : cs_S) (r : List am_C) (c k y : Nat) (hc : c < 4) (hk : k < 4) (hy : y < 10) (g T : Int64) (w' : List am_C) : ∀ (n i : Nat) (due : Int64) (st : Nat → Int64) (x12 : List (Nat × Value)), i + n = y + 1 → cs_w (cs_J S 29 (tk_f c k n i due st)) ++ r = w' → AW (am_Mof y_So_take) 4 0 0 61 ([(11, .int (nI i)), (9, .long due), (7, .long T)] ++ x12 ++ [(0, .ref 16), (1, .int (nI c)), (2, .int (nI k)), (3, .int (nI y)), (4, .long g), (6, .int (nI (y - 2)))]) [] (cs_w (cs_J S 29 st) ++ r) 0 0 (am_Z (some (.long (T - g))) w' 0 0) := by
  intro n
  induction n with
  | zero =>
    intro i due st x12 hi hw
    obtain rfl : i = y + 1 := by omega
    refine aw_sub (lv' := [(11, .int (nI (y + 1))), (9, .long due), (7, .long T), (0, .ref 16), (1, .int (nI c)), (2, .int (nI k)), (3, .int (nI y)), (4, .long g), (6, .int (nI (y - 2)))]) (by simp) ?_
    refine aw_iload d_So_take_61 rfl ?_
    refine aw_iload_n d_So_take_63 rfl ?_
    refine aw_icmp_gt (tgt := 112) d_So_take_64 (by decide) (fun h64 => ?_) (fun h64 => absurd (nI_lt (by omega) (by omega)) h64)
    refine aw_lload d_So_take_112 rfl ?_
    refine aw_lload d_So_take_114 rfl ?_
    refine aw_lsub d_So_take_116 ?_
    exact aw_lretE d_So_take_117 rfl rfl hw rfl rfl
  | succ n ih =>
    intro i due st x12 hi hw
    refine aw_sub (lv' := [(11, .int (nI i)), (9, .long due), (7, .long T), (0, .ref 16), (1, .int (nI c)), (2, .int (nI k)), (3, .int (nI y)), (4, .long g), (6, .int (nI (y - 2)))]) (by simp) ?_
    refine aw_iload d_So_take_61 rfl ?_
    refine aw_iload_n d_So_take_63 rfl ?_
    refine aw_icmp_gt (tgt := 112) d_So_take_64 (by decide) (fun h64 => absurd h64 (nI_nlt (by omega) (by omega))) (fun h64 => ?_)
    refine aw_lload d_So_take_67 rfl ?_
    refine aw_aload_n d_So_take_69 rfl ?_
    refine aw_iload_n d_So_take_70 rfl ?_
    refine aw_iload_n d_So_take_71 rfl ?_
    refine aw_iload d_So_take_72 rfl ?_
    refine aw_cV1 d_So_take_74 (c_So_stockOf (cs_J S 29 st) r c k i hc hk (by omega)) mk_So_stockOf is_So_stockOf ln_So_76 rfl rfl rfl rfl (Nat.le_of_ble_eq_true rfl) (Nat.le_of_ble_eq_true rfl) (Nat.le_of_ble_eq_true rfl) (Nat.le_of_ble_eq_true rfl) ?_
    refine aw_mminL d_So_take_77 ln_So_81 mn_1 mx_2 mn_3 (Nat.le_of_ble_eq_true rfl) (by decide) (Nat.le_refl _) (Nat.le_refl _) ?_
    refine aw_eqs (st' := [.long (tk_p st c k i due)]) rfl ?_
    refine aw_lstore d_So_take_80 (Nat.le_of_ble_eq_true rfl) ?_
    refine aw_aload_n d_So_take_82 rfl ?_
    refine aw_get d_So_take_83 fl_So_34 rfl rfl ?_
    refine aw_iload_n d_So_take_86 rfl ?_
    refine aw_iload_n d_So_take_87 rfl ?_
    refine aw_iload d_So_take_88 rfl ?_
    refine aw_cS1 d_So_take_90 (c_So_place _ c k i) mk_So_place is_So_place ln_So_48 rfl rfl (Nat.le_of_ble_eq_true rfl) (Nat.le_of_ble_eq_true rfl) (Nat.le_of_ble_eq_true rfl) (Nat.le_of_ble_eq_true rfl) ?_
    refine aw_dup2 d_So_take_93 rfl rfl ?_
    refine aw_laldN d_So_take_94 rfl (by omega) (Nat.le_of_ble_eq_true rfl) ?_
    refine aw_lload d_So_take_95 rfl ?_
    refine aw_lsub d_So_take_97 ?_
    refine aw_lastN d_So_take_98 rfl (by omega) (Nat.le_of_ble_eq_true rfl) (show _ = cs_w (cs_J S 29 (vp_updL st (c * 4 * 10 + (k * 10 + i)) (st (c * 4 * 10 + (k * 10 + i)) - tk_p st c k i due))) ++ r from (cs_s29 _ _ _).trans (by rw [cs_JJ]; rfl)) ?_
    refine aw_lload d_So_take_99 rfl ?_
    refine aw_lload d_So_take_101 rfl ?_
    refine aw_lsub d_So_take_103 ?_
    refine aw_lstore d_So_take_104 (Nat.le_of_ble_eq_true rfl) ?_
    refine aw_iinc d_So_take_106 rfl (nI_1 _) (Nat.le_of_ble_eq_true rfl) ?_
    refine aw_goto (tgt := 61) d_So_take_109 (by decide) ?_
    refine aw_pick (lv' := [(11, .int (nI (i + 1))), (9, .long (due - tk_p st c k i due)), (7, .long T), (0, .ref 16), (1, .int (nI c)), (2, .int (nI k)), (3, .int (nI y)), (4, .long g), (6, .int (nI (y - 2)))]) ⟨rfl, rfl, rfl, rfl, rfl, rfl, rfl, rfl, rfl, trivial⟩ ?_
    exact ih (i + 1) _ _ [] (by omega) hw
theorem c_So_take (S : cs_S) (r : List am_C) (c k y : Nat) (hc : c < 4) (hk : k < 4) (hy : y < 10) (g : Int64) : am_ct y_So_take 4 [.ref 16, .int (nI c), .int (nI k), .int (nI y), .long g] (cs_w S ++ r) (some (.long (if ts_f (S.2.1 29) c k (y + 1 - (y - 2)) (y - 2) (lN 0) < g then -1 else ts_f (S.2.1 29) c k (y + 1 - (y - 2)) (y - 2) (lN 0) - g))) (cs_w (if ts_f (S.2.1 29) c k (y + 1 - (y - 2)) (y - 2) (lN 0) < g then S else cs_J S 29 (tk_f c k (y + 1 - (y - 2)) (y - 2) g (S.2.1 29))) ++ r) 0 0 := by
  refine am_ct.of rfl (Nat.le_of_ble_eq_true rfl) ?_
  refine aw_iconst (v := nI 0) d_So_take_0 (by decide) ?_
  refine aw_iload_n d_So_take_1 rfl ?_
  refine aw_iconst (v := nI 2) d_So_take_2 (by decide) ?_
  refine aw_isub d_So_take_3 ?_
  refine aw_mmax d_So_take_4 ln_So_71 mx_1 mx_2 mx_3 (Nat.le_of_ble_eq_true rfl) (by decide) (Nat.le_refl _) (Nat.le_refl _) ?_
  rw [mx_y y hy]
  refine aw_istore d_So_take_7 (Nat.le_of_ble_eq_true rfl) ?_
  refine aw_lconst (v := lN 0) d_So_take_9 rfl ?_
  refine aw_lstore d_So_take_10 (Nat.le_of_ble_eq_true rfl) ?_
  refine aw_iload d_So_take_12 rfl ?_
  refine aw_istore d_So_take_14 (Nat.le_of_ble_eq_true rfl) ?_
  generalize hT : ts_f (S.2.1 29) c k (y + 1 - (y - 2)) (y - 2) (lN 0) = T
  refine aw_pick (lv' := [(9, .int (nI (y - 2))), (7, .long (lN 0)), (0, .ref 16), (1, .int (nI c)), (2, .int (nI k)), (3, .int (nI y)), (4, .long g), (6, .int (nI (y - 2)))]) ⟨rfl, rfl, rfl, rfl, rfl, rfl, rfl, rfl, trivial⟩ ?_
  refine lp_So_t1 S r c k y hc hk hy g _ T ?_ (y + 1 - (y - 2)) (y - 2) (lN 0) (by omega) hT
  refine aw_lload d_So_take_41 rfl ?_
  refine aw_lload d_So_take_43 rfl ?_
  refine aw_lc_ge (tgt := 53) d_So_take_45 d_So_take_46 (by decide) (fun h46 => ?_) (fun h46 => ?_)
  · refine aw_lload d_So_take_53 rfl ?_
    refine aw_lstore d_So_take_55 (Nat.le_of_ble_eq_true rfl) ?_
    refine aw_iload d_So_take_57 rfl ?_
    refine aw_istore d_So_take_59 (Nat.le_of_ble_eq_true rfl) ?_
    rw [if_neg (Int64.not_lt.mpr h46), if_neg (Int64.not_lt.mpr h46)]
    refine aw_pick (lv' := [(11, .int (nI (y - 2))), (9, .long g), (7, .long T), (0, .ref 16), (1, .int (nI c)), (2, .int (nI k)), (3, .int (nI y)), (4, .long g), (6, .int (nI (y - 2)))]) ⟨rfl, rfl, rfl, rfl, rfl, rfl, rfl, rfl, rfl, trivial⟩ ?_
    refine aw_eqw (w' := cs_w (cs_J S 29 (S.2.1 29)) ++ r) (by show cs_w S ++ r = cs_w (S.1, va_up S.2.1 29 (S.2.1 29), S.2.2) ++ r; rw [va_up_idl]) ?_
    exact lp_So_t2 S r c k y hc hk hy g T _ (y + 1 - (y - 2)) (y - 2) g (S.2.1 29) [] (by omega) rfl
  · refine aw_ldc2 (v := (-1)) d_So_take_49 kl_So_79 ?_
    exact aw_lretE d_So_take_52 rfl (by rw [if_pos (Int64.not_le.mp h46)]) (by rw [if_pos (Int64.not_le.mp h46)]) rfl rfl
end
