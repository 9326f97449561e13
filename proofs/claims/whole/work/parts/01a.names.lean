/-! ===== BEGIN words of one list among another's, by their places ===== -/
theorem goodIn_r {big : List Cond} (ws : List Cond) (ps : List Nat) (hp : ws = ps.filterMap (fun i => big[i]?)) (h : ws.all goodWord = true) : GoodIn big ws := by
  intro w hw
  have h1 := List.all_eq_true.mp h w hw
  rw [hp] at hw
  obtain ⟨i, -, hi⟩ := List.mem_filterMap.mp hw
  have hm : w ∈ big := by first | exact List.mem_of_getElem? hi | exact List.getElem?_mem hi
  exact ⟨hm, good_of_word h1⟩
theorem goodIn_app {big a b : List Cond} (ha : GoodIn big a) (hb : GoodIn big b) : GoodIn big (a ++ b) := fun w h => (List.mem_append.mp h).elim (ha w) (hb w)
theorem goodIn_ca {big a b : List Cond} {c : Cond} (ha : GoodIn big (c :: a)) (hb : GoodIn big b) : GoodIn big (c :: (a ++ b)) := fun w h => (List.mem_cons.mp h).elim (fun e => ha w (List.mem_cons.mpr (Or.inl e))) (fun h => (List.mem_append.mp h).elim (fun h => ha w (List.mem_cons.mpr (Or.inr h))) (hb w))
theorem goodIn_sub {big ws : List Cond} (hm : ∀ w ∈ ws, w ∈ big) (h : ws.all goodWord = true) : GoodIn big ws := fun w hw => ⟨hm w hw, good_of_word (List.all_eq_true.mp h w hw)⟩
/-! ===== END ===== -/

/-! ===== BEGIN printed: names, fields, word lists, decode rows ===== -/
def RX0 : String := "YardHolds"
def TX0 : u_T := fun k => match k with
  | 0 => ("YardHolds", "rooms", "[I", true)
  | 1 => ("YardHolds", "counts", "[I", true)
  | 2 => ("YardHolds", "wagons", "[I", true)
  | 3 => ("YardHolds", "asked", "I", false)
  | 4 => ("YardHolds", "held", "I", false)
  | 5 => ("YardHolds", "broken", "I", false)
  | 6 => ("YardHolds", "depth", "I", false)
  | 7 => ("YardHolds", "deepest", "I", false)
  | _ => ("YardHolds", "moved", "I", false)
def tyX0 : Nat → FieldType := fun k => match k with
  | 0 => .array .int
  | 1 => .array .int
  | 2 => .array .int
  | 3 => .int
  | 4 => .int
  | 5 => .int
  | 6 => .int
  | 7 => .int
  | _ => .int
abbrev wsX00 : List Cond := u_ws RX0 TX0 9
theorem nmX0 : ∀ a, a < 9 → ∀ b, b < 9 → a ≠ b → (TX0 a).2.1 ≠ (TX0 b).2.1 := by decide +kernel
theorem tyX0_ok : ∀ k, k < 9 → parseFieldDescriptor (TX0 k).2.2.1 = some (tyX0 k) := by decide +kernel
abbrev cX0_init : ByteArray := prog_1_method_1_code
def yX0_init : MethodName := ⟨RX0, "<init>", "()V"⟩
abbrev cX0_lay : ByteArray := prog_1_method_2_code
def yX0_lay : MethodName := ⟨RX0, "lay", "(II)I"⟩
abbrev cX0_lift : ByteArray := prog_1_method_3_code
def yX0_lift : MethodName := ⟨RX0, "lift", "(I)I"⟩
abbrev cX0_couple : ByteArray := prog_1_method_4_code
def yX0_couple : MethodName := ⟨RX0, "couple", "(II)I"⟩
abbrev cX0_uncouple : ByteArray := prog_1_method_5_code
def yX0_uncouple : MethodName := ⟨RX0, "uncouple", "(I)I"⟩
abbrev cX0_shunt : ByteArray := prog_1_method_6_code
def yX0_shunt : MethodName := ⟨RX0, "shunt", "(III)I"⟩
abbrev cX0_sweep : ByteArray := prog_1_method_7_code
def yX0_sweep : MethodName := ⟨RX0, "sweep", "(III)I"⟩
abbrev cX0_tour : ByteArray := prog_1_method_8_code
def yX0_tour : MethodName := ⟨RX0, "tour", "(JI)I"⟩
abbrev cX0_chain : ByteArray := prog_1_method_9_code
def yX0_chain : MethodName := ⟨RX0, "chain", "(JI)I"⟩
abbrev cX0_survey : ByteArray := prog_1_method_10_code
def yX0_survey : MethodName := ⟨RX0, "survey", "(JI)I"⟩
abbrev cX0_turn : ByteArray := prog_1_method_11_code
def yX0_turn : MethodName := ⟨RX0, "turn", "(I)I"⟩
abbrev cX0_swap : ByteArray := prog_1_method_12_code
def yX0_swap : MethodName := ⟨RX0, "swap", "(II)I"⟩
abbrev cX0_wagon : ByteArray := prog_1_method_13_code
def yX0_wagon : MethodName := ⟨RX0, "wagon", "(II)I"⟩
abbrev cX0_told : ByteArray := prog_1_method_14_code
def yX0_told : MethodName := ⟨RX0, "told", "(I)I"⟩
abbrev cX0_isTrack : ByteArray := prog_1_method_15_code
def yX0_isTrack : MethodName := ⟨RX0, "isTrack", "(I)Z"⟩
abbrev cX0_isRowLength : ByteArray := prog_1_method_16_code
def yX0_isRowLength : MethodName := ⟨RX0, "isRowLength", "(I)Z"⟩
abbrev cX0_trackOfRow : ByteArray := prog_1_method_17_code
def yX0_trackOfRow : MethodName := ⟨RX0, "trackOfRow", "(JI)I"⟩
abbrev cX0_place : ByteArray := prog_1_method_18_code
def yX0_place : MethodName := ⟨RX0, "place", "(II)I"⟩
abbrev cX0_isThere : ByteArray := prog_1_method_19_code
def yX0_isThere : MethodName := ⟨RX0, "isThere", "(I)Z"⟩
abbrev cX0_tracksThere : ByteArray := prog_1_method_20_code
def yX0_tracksThere : MethodName := ⟨RX0, "tracksThere", "()I"⟩
abbrev cX0_hold : ByteArray := prog_1_method_21_code
def yX0_hold : MethodName := ⟨RX0, "hold", "(I)Z"⟩
abbrev cX0_letGo : ByteArray := prog_1_method_22_code
def yX0_letGo : MethodName := ⟨RX0, "letGo", "(II)I"⟩
abbrev cX0_holdAndCome : ByteArray := prog_1_method_23_code
def yX0_holdAndCome : MethodName := ⟨RX0, "holdAndCome", "(II)I"⟩
abbrev cX0_come : ByteArray := prog_1_method_24_code
def yX0_come : MethodName := ⟨RX0, "come", "(II)I"⟩
abbrev cX0_go : ByteArray := prog_1_method_25_code
def yX0_go : MethodName := ⟨RX0, "go", "(I)I"⟩
abbrev cX0_moveWagons : ByteArray := prog_1_method_26_code
def yX0_moveWagons : MethodName := ⟨RX0, "moveWagons", "(III)I"⟩
abbrev cX0_sortWagons : ByteArray := prog_1_method_27_code
def yX0_sortWagons : MethodName := ⟨RX0, "sortWagons", "(III)I"⟩
abbrev cX0_takeOnTour : ByteArray := prog_1_method_28_code
def yX0_takeOnTour : MethodName := ⟨RX0, "takeOnTour", "(I)I"⟩
abbrev cX0_exchangePlaces : ByteArray := prog_1_method_29_code
def yX0_exchangePlaces : MethodName := ⟨RX0, "exchangePlaces", "(II)V"⟩
abbrev cX0_exchangeRows : ByteArray := prog_1_method_30_code
def yX0_exchangeRows : MethodName := ⟨RX0, "exchangeRows", "(II)I"⟩
def RX1 : String := "YardHoldsModel"
def TX1 : u_T := fun k => match k with
  | 0 => ("YardHoldsModel", "rooms", "[I", true)
  | 1 => ("YardHoldsModel", "sizes", "[I", true)
  | 2 => ("YardHoldsModel", "wagons", "[I", true)
  | 3 => ("YardHoldsModel", "asked", "I", false)
  | 4 => ("YardHoldsModel", "held", "I", false)
  | 5 => ("YardHoldsModel", "broken", "I", false)
  | 6 => ("YardHoldsModel", "depth", "I", false)
  | 7 => ("YardHoldsModel", "deepest", "I", false)
  | _ => ("YardHoldsModel", "moved", "I", false)
def tyX1 : Nat → FieldType := fun k => match k with
  | 0 => .array .int
  | 1 => .array .int
  | 2 => .array .int
  | 3 => .int
  | 4 => .int
  | 5 => .int
  | 6 => .int
  | 7 => .int
  | _ => .int
abbrev wsX10 : List Cond := u_ws RX1 TX1 9
theorem nmX1 : ∀ a, a < 9 → ∀ b, b < 9 → a ≠ b → (TX1 a).2.1 ≠ (TX1 b).2.1 := by decide +kernel
theorem tyX1_ok : ∀ k, k < 9 → parseFieldDescriptor (TX1 k).2.2.1 = some (tyX1 k) := by decide +kernel
abbrev cX1_init : ByteArray := prog_3_method_1_code
def yX1_init : MethodName := ⟨RX1, "<init>", "()V"⟩
abbrev cX1_in : ByteArray := prog_3_method_2_code
def yX1_in : MethodName := ⟨RX1, "in", "(III)Z"⟩
abbrev cX1_isTrack : ByteArray := prog_3_method_3_code
def yX1_isTrack : MethodName := ⟨RX1, "isTrack", "(I)Z"⟩
abbrev cX1_holds : ByteArray := prog_3_method_4_code
def yX1_holds : MethodName := ⟨RX1, "holds", "(I)Z"⟩
abbrev cX1_goes : ByteArray := prog_3_method_5_code
def yX1_goes : MethodName := ⟨RX1, "goes", "(II)I"⟩
abbrev cX1_last : ByteArray := prog_3_method_6_code
def yX1_last : MethodName := ⟨RX1, "last", "(I)I"⟩
abbrev cX1_come : ByteArray := prog_3_method_7_code
def yX1_come : MethodName := ⟨RX1, "come", "(II)V"⟩
abbrev cX1_isFull : ByteArray := prog_3_method_8_code
def yX1_isFull : MethodName := ⟨RX1, "isFull", "(I)Z"⟩
abbrev cX1_trackOf : ByteArray := prog_3_method_9_code
def yX1_trackOf : MethodName := ⟨RX1, "trackOf", "(JI)I"⟩
abbrev cX1_lay : ByteArray := prog_3_method_10_code
def yX1_lay : MethodName := ⟨RX1, "lay", "(II)I"⟩
abbrev cX1_lift : ByteArray := prog_3_method_11_code
def yX1_lift : MethodName := ⟨RX1, "lift", "(I)I"⟩
abbrev cX1_couple : ByteArray := prog_3_method_12_code
def yX1_couple : MethodName := ⟨RX1, "couple", "(II)I"⟩
abbrev cX1_uncouple : ByteArray := prog_3_method_13_code
def yX1_uncouple : MethodName := ⟨RX1, "uncouple", "(I)I"⟩
abbrev cX1_shunt : ByteArray := prog_3_method_14_code
def yX1_shunt : MethodName := ⟨RX1, "shunt", "(III)I"⟩
abbrev cX1_sweep : ByteArray := prog_3_method_15_code
def yX1_sweep : MethodName := ⟨RX1, "sweep", "(III)I"⟩
abbrev cX1_tour : ByteArray := prog_3_method_16_code
def yX1_tour : MethodName := ⟨RX1, "tour", "(JI)I"⟩
abbrev cX1_chain : ByteArray := prog_3_method_17_code
def yX1_chain : MethodName := ⟨RX1, "chain", "(JI)I"⟩
abbrev cX1_survey : ByteArray := prog_3_method_18_code
def yX1_survey : MethodName := ⟨RX1, "survey", "(JI)I"⟩
abbrev cX1_turn : ByteArray := prog_3_method_19_code
def yX1_turn : MethodName := ⟨RX1, "turn", "(I)I"⟩
abbrev cX1_swap : ByteArray := prog_3_method_20_code
def yX1_swap : MethodName := ⟨RX1, "swap", "(II)I"⟩
abbrev cX1_wagon : ByteArray := prog_3_method_21_code
def yX1_wagon : MethodName := ⟨RX1, "wagon", "(II)I"⟩
abbrev cX1_told : ByteArray := prog_3_method_22_code
def yX1_told : MethodName := ⟨RX1, "told", "(I)I"⟩
def RJ9 : String := "java/lang/Math"
def TJ9 : u_T := fun k => match k with
  | _ => ("", "", "", false)
def tyJ9 : Nat → FieldType := fun k => match k with
  | _ => .int
abbrev wsJ90 : List Cond := u_ws RJ9 TJ9 0
theorem nmJ9 : ∀ a, a < 0 → ∀ b, b < 0 → a ≠ b → (TJ9 a).2.1 ≠ (TJ9 b).2.1 := by decide +kernel
theorem tyJ9_ok : ∀ k, k < 0 → parseFieldDescriptor (TJ9 k).2.2.1 = some (tyJ9 k) := by decide +kernel
abbrev cJ9_max_7cf53 : ByteArray := prog_4_method_65_code
def yJ9_max_7cf53 : MethodName := ⟨RJ9, "max", "(II)I"⟩
def RL : String := "YardHoldsLaw"
abbrev cL_law : ByteArray := code
def yL_law : MethodName := ⟨RL, "law", "([I)Z"⟩
def wsX0_init : List Cond := .code yX0_init cX0_init 1 none :: ([.methodLink RX0 1 objectInit, .instanceMethod objectInit, .code objectInit ⟨#[0xb1]⟩ 1 none, .arrayClass .int, .fieldLink RX0 9 "YardHolds" "rooms" "[I", .fieldLink RX0 13 "YardHolds" "counts" "[I", .fieldLink RX0 16 "YardHolds" "wagons" "[I"] ++ wsX00)
def wsX0_isTrack : List Cond := .code yX0_isTrack cX0_isTrack 1 (some .boolean) :: ([])
def wsX0_isThere : List Cond := .code yX0_isThere cX0_isThere 2 (some .boolean) :: ([.fieldLink RX0 9 "YardHolds" "rooms" "[I"] ++ wsX00)
def wsX0_lay : List Cond := .code yX0_lay cX0_lay 3 (some .int) :: ([.fieldLink RX0 9 "YardHolds" "rooms" "[I", .methodLink RX0 19 yX0_isTrack, .static yX0_isTrack, .initialized RX0, .code yX0_isTrack cX0_isTrack 1 (some .boolean), .methodLink RX0 23 yX0_isThere, .instanceMethod yX0_isThere, .selects RX0 yX0_isThere yX0_isThere, .code yX0_isThere cX0_isThere 2 (some .boolean)] ++ wsX00)
def wsX0_lift : List Cond := .code yX0_lift cX0_lift 3 (some .int) :: ([.fieldLink RX0 13 "YardHolds" "counts" "[I", .fieldLink RX0 9 "YardHolds" "rooms" "[I", .methodLink RX0 19 yX0_isTrack, .static yX0_isTrack, .initialized RX0, .code yX0_isTrack cX0_isTrack 1 (some .boolean), .methodLink RX0 23 yX0_isThere, .instanceMethod yX0_isThere, .selects RX0 yX0_isThere yX0_isThere, .code yX0_isThere cX0_isThere 2 (some .boolean)] ++ wsX00)
def wsX0_hold : List Cond := .code yX0_hold cX0_hold 2 (some .boolean) :: ([.fieldLink RX0 71 "YardHolds" "asked" "I", .fieldLink RX0 74 "YardHolds" "held" "I", .fieldLink RX0 80 "YardHolds" "depth" "I", .fieldLink RX0 83 "YardHolds" "deepest" "I", .methodLink RX0 90 Lib.Math.max.name, .static Lib.Math.max.name, .initialized "java/lang/Math", .code Lib.Math.max.name Lib.Math.max.code 2 (some .int), .methodLink RX0 23 yX0_isThere, .instanceMethod yX0_isThere, .selects RX0 yX0_isThere yX0_isThere, .initialized RX0, .code yX0_isThere cX0_isThere 2 (some .boolean), .fieldLink RX0 9 "YardHolds" "rooms" "[I"] ++ wsX00)
def wsX0_place : List Cond := .code yX0_place cX0_place 2 (some .int) :: ([])
def wsX0_come : List Cond := .code yX0_come cX0_come 4 (some .int) :: ([.fieldLink RX0 13 "YardHolds" "counts" "[I", .fieldLink RX0 9 "YardHolds" "rooms" "[I", .fieldLink RX0 16 "YardHolds" "wagons" "[I", .methodLink RX0 61 yX0_place, .static yX0_place, .initialized RX0, .code yX0_place cX0_place 2 (some .int)] ++ wsX00)
def wsX0_letGo : List Cond := .code yX0_letGo cX0_letGo 3 (some .int) :: ([.fieldLink RX0 80 "YardHolds" "depth" "I", .fieldLink RX0 77 "YardHolds" "broken" "I"] ++ wsX00)
def wsX0_holdAndCome_r1 : List Cond := [Cond.methodLink RX0 30 yX0_hold, Cond.instanceMethod yX0_hold, Cond.selects RX0 yX0_hold yX0_hold, Cond.initialized RX0, Cond.code yX0_hold cX0_hold 2 (some .boolean), Cond.fieldLink RX0 71 "YardHolds" "asked" "I", Cond.fieldLink RX0 74 "YardHolds" "held" "I", Cond.fieldLink RX0 80 "YardHolds" "depth" "I", Cond.fieldLink RX0 83 "YardHolds" "deepest" "I", Cond.methodLink RX0 90 Lib.Math.max.name, Cond.static Lib.Math.max.name, Cond.initialized "java/lang/Math", Cond.code Lib.Math.max.name Lib.Math.max.code 2 (some .int), Cond.methodLink RX0 23 yX0_isThere, Cond.instanceMethod yX0_isThere, Cond.selects RX0 yX0_isThere yX0_isThere, Cond.code yX0_isThere cX0_isThere 2 (some .boolean), Cond.fieldLink RX0 9 "YardHolds" "rooms" "[I", Cond.methodLink RX0 95 yX0_come, Cond.instanceMethod yX0_come, Cond.selects RX0 yX0_come yX0_come, Cond.code yX0_come cX0_come 4 (some .int), Cond.fieldLink RX0 13 "YardHolds" "counts" "[I", Cond.fieldLink RX0 16 "YardHolds" "wagons" "[I"]
def wsX0_holdAndCome_r2 : List Cond := [Cond.methodLink RX0 61 yX0_place, Cond.static yX0_place, Cond.code yX0_place cX0_place 2 (some .int), Cond.methodLink RX0 37 yX0_letGo, Cond.instanceMethod yX0_letGo, Cond.selects RX0 yX0_letGo yX0_letGo, Cond.code yX0_letGo cX0_letGo 3 (some .int), Cond.fieldLink RX0 77 "YardHolds" "broken" "I"]
def wsX0_holdAndCome : List Cond := .code yX0_holdAndCome cX0_holdAndCome 3 (some .int) :: ((wsX0_holdAndCome_r1 ++ wsX0_holdAndCome_r2) ++ wsX00)
def wsX0_couple_r1 : List Cond := [Cond.methodLink RX0 19 yX0_isTrack, Cond.static yX0_isTrack, Cond.initialized RX0, Cond.code yX0_isTrack cX0_isTrack 1 (some .boolean), Cond.methodLink RX0 26 yX0_holdAndCome, Cond.instanceMethod yX0_holdAndCome, Cond.selects RX0 yX0_holdAndCome yX0_holdAndCome, Cond.code yX0_holdAndCome cX0_holdAndCome 3 (some .int), Cond.methodLink RX0 30 yX0_hold, Cond.instanceMethod yX0_hold, Cond.selects RX0 yX0_hold yX0_hold, Cond.code yX0_hold cX0_hold 2 (some .boolean), Cond.fieldLink RX0 71 "YardHolds" "asked" "I", Cond.fieldLink RX0 74 "YardHolds" "held" "I", Cond.fieldLink RX0 80 "YardHolds" "depth" "I", Cond.fieldLink RX0 83 "YardHolds" "deepest" "I", Cond.methodLink RX0 90 Lib.Math.max.name, Cond.static Lib.Math.max.name, Cond.initialized "java/lang/Math", Cond.code Lib.Math.max.name Lib.Math.max.code 2 (some .int), Cond.methodLink RX0 23 yX0_isThere, Cond.instanceMethod yX0_isThere, Cond.selects RX0 yX0_isThere yX0_isThere, Cond.code yX0_isThere cX0_isThere 2 (some .boolean)]
def wsX0_couple_r2 : List Cond := [Cond.fieldLink RX0 9 "YardHolds" "rooms" "[I", Cond.methodLink RX0 95 yX0_come, Cond.instanceMethod yX0_come, Cond.selects RX0 yX0_come yX0_come, Cond.code yX0_come cX0_come 4 (some .int), Cond.fieldLink RX0 13 "YardHolds" "counts" "[I", Cond.fieldLink RX0 16 "YardHolds" "wagons" "[I", Cond.methodLink RX0 61 yX0_place, Cond.static yX0_place, Cond.code yX0_place cX0_place 2 (some .int), Cond.methodLink RX0 37 yX0_letGo, Cond.instanceMethod yX0_letGo, Cond.selects RX0 yX0_letGo yX0_letGo, Cond.code yX0_letGo cX0_letGo 3 (some .int), Cond.fieldLink RX0 77 "YardHolds" "broken" "I"]
def wsX0_couple : List Cond := .code yX0_couple cX0_couple 3 (some .int) :: ((wsX0_couple_r1 ++ wsX0_couple_r2) ++ wsX00)
def wsX0_go : List Cond := .code yX0_go cX0_go 3 (some .int) :: ([.fieldLink RX0 13 "YardHolds" "counts" "[I", .fieldLink RX0 16 "YardHolds" "wagons" "[I", .methodLink RX0 61 yX0_place, .static yX0_place, .initialized RX0, .code yX0_place cX0_place 2 (some .int)] ++ wsX00)
def wsX0_uncouple_r1 : List Cond := [Cond.methodLink RX0 19 yX0_isTrack, Cond.static yX0_isTrack, Cond.initialized RX0, Cond.code yX0_isTrack cX0_isTrack 1 (some .boolean), Cond.methodLink RX0 30 yX0_hold, Cond.instanceMethod yX0_hold, Cond.selects RX0 yX0_hold yX0_hold, Cond.code yX0_hold cX0_hold 2 (some .boolean), Cond.fieldLink RX0 71 "YardHolds" "asked" "I", Cond.fieldLink RX0 74 "YardHolds" "held" "I", Cond.fieldLink RX0 80 "YardHolds" "depth" "I", Cond.fieldLink RX0 83 "YardHolds" "deepest" "I", Cond.methodLink RX0 90 Lib.Math.max.name, Cond.static Lib.Math.max.name, Cond.initialized "java/lang/Math", Cond.code Lib.Math.max.name Lib.Math.max.code 2 (some .int), Cond.methodLink RX0 23 yX0_isThere, Cond.instanceMethod yX0_isThere, Cond.selects RX0 yX0_isThere yX0_isThere, Cond.code yX0_isThere cX0_isThere 2 (some .boolean), Cond.fieldLink RX0 9 "YardHolds" "rooms" "[I", Cond.methodLink RX0 33 yX0_go, Cond.instanceMethod yX0_go, Cond.selects RX0 yX0_go yX0_go]
def wsX0_uncouple_r2 : List Cond := [Cond.code yX0_go cX0_go 3 (some .int), Cond.fieldLink RX0 13 "YardHolds" "counts" "[I", Cond.fieldLink RX0 16 "YardHolds" "wagons" "[I", Cond.methodLink RX0 61 yX0_place, Cond.static yX0_place, Cond.code yX0_place cX0_place 2 (some .int), Cond.methodLink RX0 37 yX0_letGo, Cond.instanceMethod yX0_letGo, Cond.selects RX0 yX0_letGo yX0_letGo, Cond.code yX0_letGo cX0_letGo 3 (some .int), Cond.fieldLink RX0 77 "YardHolds" "broken" "I"]
def wsX0_uncouple : List Cond := .code yX0_uncouple cX0_uncouple 2 (some .int) :: ((wsX0_uncouple_r1 ++ wsX0_uncouple_r2) ++ wsX00)
def wsX0_moveWagons : List Cond := .code yX0_moveWagons cX0_moveWagons 6 (some .int) :: ([.fieldLink RX0 40 "YardHolds" "moved" "I", .methodLink RX0 33 yX0_go, .instanceMethod yX0_go, .selects RX0 yX0_go yX0_go, .initialized RX0, .code yX0_go cX0_go 3 (some .int), .fieldLink RX0 13 "YardHolds" "counts" "[I", .fieldLink RX0 16 "YardHolds" "wagons" "[I", .methodLink RX0 61 yX0_place, .static yX0_place, .code yX0_place cX0_place 2 (some .int), .methodLink RX0 95 yX0_come, .instanceMethod yX0_come, .selects RX0 yX0_come yX0_come, .code yX0_come cX0_come 4 (some .int), .fieldLink RX0 9 "YardHolds" "rooms" "[I"] ++ wsX00)
def wsX0_shunt_r1 : List Cond := [Cond.fieldLink RX0 40 "YardHolds" "moved" "I", Cond.methodLink RX0 19 yX0_isTrack, Cond.static yX0_isTrack, Cond.initialized RX0, Cond.code yX0_isTrack cX0_isTrack 1 (some .boolean), Cond.methodLink RX0 30 yX0_hold, Cond.instanceMethod yX0_hold, Cond.selects RX0 yX0_hold yX0_hold, Cond.code yX0_hold cX0_hold 2 (some .boolean), Cond.fieldLink RX0 71 "YardHolds" "asked" "I", Cond.fieldLink RX0 74 "YardHolds" "held" "I", Cond.fieldLink RX0 80 "YardHolds" "depth" "I", Cond.fieldLink RX0 83 "YardHolds" "deepest" "I", Cond.methodLink RX0 90 Lib.Math.max.name, Cond.static Lib.Math.max.name, Cond.initialized "java/lang/Math", Cond.code Lib.Math.max.name Lib.Math.max.code 2 (some .int), Cond.methodLink RX0 23 yX0_isThere, Cond.instanceMethod yX0_isThere, Cond.selects RX0 yX0_isThere yX0_isThere, Cond.code yX0_isThere cX0_isThere 2 (some .boolean), Cond.fieldLink RX0 9 "YardHolds" "rooms" "[I", Cond.methodLink RX0 37 yX0_letGo, Cond.instanceMethod yX0_letGo]
def wsX0_shunt_r2 : List Cond := [Cond.selects RX0 yX0_letGo yX0_letGo, Cond.code yX0_letGo cX0_letGo 3 (some .int), Cond.fieldLink RX0 77 "YardHolds" "broken" "I", Cond.methodLink RX0 44 yX0_moveWagons, Cond.instanceMethod yX0_moveWagons, Cond.selects RX0 yX0_moveWagons yX0_moveWagons, Cond.code yX0_moveWagons cX0_moveWagons 6 (some .int), Cond.methodLink RX0 33 yX0_go, Cond.instanceMethod yX0_go, Cond.selects RX0 yX0_go yX0_go, Cond.code yX0_go cX0_go 3 (some .int), Cond.fieldLink RX0 13 "YardHolds" "counts" "[I", Cond.fieldLink RX0 16 "YardHolds" "wagons" "[I", Cond.methodLink RX0 61 yX0_place, Cond.static yX0_place, Cond.code yX0_place cX0_place 2 (some .int), Cond.methodLink RX0 95 yX0_come, Cond.instanceMethod yX0_come, Cond.selects RX0 yX0_come yX0_come, Cond.code yX0_come cX0_come 4 (some .int)]
def wsX0_shunt : List Cond := .code yX0_shunt cX0_shunt 4 (some .int) :: ((wsX0_shunt_r1 ++ wsX0_shunt_r2) ++ wsX00)
def wsX0_sortWagons_r1 : List Cond := [Cond.fieldLink RX0 13 "YardHolds" "counts" "[I", Cond.fieldLink RX0 40 "YardHolds" "moved" "I", Cond.methodLink RX0 33 yX0_go, Cond.instanceMethod yX0_go, Cond.selects RX0 yX0_go yX0_go, Cond.initialized RX0, Cond.code yX0_go cX0_go 3 (some .int), Cond.fieldLink RX0 16 "YardHolds" "wagons" "[I", Cond.methodLink RX0 61 yX0_place, Cond.static yX0_place, Cond.code yX0_place cX0_place 2 (some .int), Cond.methodLink RX0 26 yX0_holdAndCome, Cond.instanceMethod yX0_holdAndCome, Cond.selects RX0 yX0_holdAndCome yX0_holdAndCome, Cond.code yX0_holdAndCome cX0_holdAndCome 3 (some .int), Cond.methodLink RX0 30 yX0_hold, Cond.instanceMethod yX0_hold, Cond.selects RX0 yX0_hold yX0_hold, Cond.code yX0_hold cX0_hold 2 (some .boolean), Cond.fieldLink RX0 71 "YardHolds" "asked" "I", Cond.fieldLink RX0 74 "YardHolds" "held" "I", Cond.fieldLink RX0 80 "YardHolds" "depth" "I", Cond.fieldLink RX0 83 "YardHolds" "deepest" "I", Cond.methodLink RX0 90 Lib.Math.max.name]
def wsX0_sortWagons_r2 : List Cond := [Cond.static Lib.Math.max.name, Cond.initialized "java/lang/Math", Cond.code Lib.Math.max.name Lib.Math.max.code 2 (some .int), Cond.methodLink RX0 23 yX0_isThere, Cond.instanceMethod yX0_isThere, Cond.selects RX0 yX0_isThere yX0_isThere, Cond.code yX0_isThere cX0_isThere 2 (some .boolean), Cond.fieldLink RX0 9 "YardHolds" "rooms" "[I", Cond.methodLink RX0 95 yX0_come, Cond.instanceMethod yX0_come, Cond.selects RX0 yX0_come yX0_come, Cond.code yX0_come cX0_come 4 (some .int), Cond.methodLink RX0 37 yX0_letGo, Cond.instanceMethod yX0_letGo, Cond.selects RX0 yX0_letGo yX0_letGo, Cond.code yX0_letGo cX0_letGo 3 (some .int), Cond.fieldLink RX0 77 "YardHolds" "broken" "I"]
def wsX0_sortWagons : List Cond := .code yX0_sortWagons cX0_sortWagons 8 (some .int) :: ((wsX0_sortWagons_r1 ++ wsX0_sortWagons_r2) ++ wsX00)
def wsX0_sweep_r1 : List Cond := [Cond.fieldLink RX0 40 "YardHolds" "moved" "I", Cond.methodLink RX0 19 yX0_isTrack, Cond.static yX0_isTrack, Cond.initialized RX0, Cond.code yX0_isTrack cX0_isTrack 1 (some .boolean), Cond.methodLink RX0 30 yX0_hold, Cond.instanceMethod yX0_hold, Cond.selects RX0 yX0_hold yX0_hold, Cond.code yX0_hold cX0_hold 2 (some .boolean), Cond.fieldLink RX0 71 "YardHolds" "asked" "I", Cond.fieldLink RX0 74 "YardHolds" "held" "I", Cond.fieldLink RX0 80 "YardHolds" "depth" "I", Cond.fieldLink RX0 83 "YardHolds" "deepest" "I", Cond.methodLink RX0 90 Lib.Math.max.name, Cond.static Lib.Math.max.name, Cond.initialized "java/lang/Math", Cond.code Lib.Math.max.name Lib.Math.max.code 2 (some .int), Cond.methodLink RX0 23 yX0_isThere, Cond.instanceMethod yX0_isThere, Cond.selects RX0 yX0_isThere yX0_isThere, Cond.code yX0_isThere cX0_isThere 2 (some .boolean), Cond.fieldLink RX0 9 "YardHolds" "rooms" "[I", Cond.methodLink RX0 48 yX0_sortWagons, Cond.instanceMethod yX0_sortWagons]
def wsX0_sweep_r2 : List Cond := [Cond.selects RX0 yX0_sortWagons yX0_sortWagons, Cond.code yX0_sortWagons cX0_sortWagons 8 (some .int), Cond.fieldLink RX0 13 "YardHolds" "counts" "[I", Cond.methodLink RX0 33 yX0_go, Cond.instanceMethod yX0_go, Cond.selects RX0 yX0_go yX0_go, Cond.code yX0_go cX0_go 3 (some .int), Cond.fieldLink RX0 16 "YardHolds" "wagons" "[I", Cond.methodLink RX0 61 yX0_place, Cond.static yX0_place, Cond.code yX0_place cX0_place 2 (some .int), Cond.methodLink RX0 26 yX0_holdAndCome, Cond.instanceMethod yX0_holdAndCome, Cond.selects RX0 yX0_holdAndCome yX0_holdAndCome, Cond.code yX0_holdAndCome cX0_holdAndCome 3 (some .int), Cond.methodLink RX0 95 yX0_come, Cond.instanceMethod yX0_come, Cond.selects RX0 yX0_come yX0_come, Cond.code yX0_come cX0_come 4 (some .int), Cond.methodLink RX0 37 yX0_letGo, Cond.instanceMethod yX0_letGo, Cond.selects RX0 yX0_letGo yX0_letGo, Cond.code yX0_letGo cX0_letGo 3 (some .int), Cond.fieldLink RX0 77 "YardHolds" "broken" "I"]
def wsX0_sweep : List Cond := .code yX0_sweep cX0_sweep 4 (some .int) :: ((wsX0_sweep_r1 ++ wsX0_sweep_r2) ++ wsX00)
def wsX0_isRowLength : List Cond := .code yX0_isRowLength cX0_isRowLength 1 (some .boolean) :: ([])
def wsX0_trackOfRow : List Cond := .code yX0_trackOfRow cX0_trackOfRow 3 (some .int) :: ([])
def wsX0_takeOnTour : List Cond := .code yX0_takeOnTour cX0_takeOnTour 3 (some .int) :: ([.fieldLink RX0 40 "YardHolds" "moved" "I", .methodLink RX0 33 yX0_go, .instanceMethod yX0_go, .selects RX0 yX0_go yX0_go, .initialized RX0, .code yX0_go cX0_go 3 (some .int), .fieldLink RX0 13 "YardHolds" "counts" "[I", .fieldLink RX0 16 "YardHolds" "wagons" "[I", .methodLink RX0 61 yX0_place, .static yX0_place, .code yX0_place cX0_place 2 (some .int), .methodLink RX0 95 yX0_come, .instanceMethod yX0_come, .selects RX0 yX0_come yX0_come, .code yX0_come cX0_come 4 (some .int), .fieldLink RX0 9 "YardHolds" "rooms" "[I"] ++ wsX00)
def wsX0_tour_r1 : List Cond := [Cond.fieldLink RX0 40 "YardHolds" "moved" "I", Cond.fieldLink RX0 13 "YardHolds" "counts" "[I", Cond.methodLink RX0 51 yX0_isRowLength, Cond.static yX0_isRowLength, Cond.initialized RX0, Cond.code yX0_isRowLength cX0_isRowLength 1 (some .boolean), Cond.methodLink RX0 54 yX0_trackOfRow, Cond.static yX0_trackOfRow, Cond.code yX0_trackOfRow cX0_trackOfRow 3 (some .int), Cond.methodLink RX0 30 yX0_hold, Cond.instanceMethod yX0_hold, Cond.selects RX0 yX0_hold yX0_hold, Cond.code yX0_hold cX0_hold 2 (some .boolean), Cond.fieldLink RX0 71 "YardHolds" "asked" "I", Cond.fieldLink RX0 74 "YardHolds" "held" "I", Cond.fieldLink RX0 80 "YardHolds" "depth" "I", Cond.fieldLink RX0 83 "YardHolds" "deepest" "I", Cond.methodLink RX0 90 Lib.Math.max.name, Cond.static Lib.Math.max.name, Cond.initialized "java/lang/Math", Cond.code Lib.Math.max.name Lib.Math.max.code 2 (some .int), Cond.methodLink RX0 23 yX0_isThere, Cond.instanceMethod yX0_isThere, Cond.selects RX0 yX0_isThere yX0_isThere]
def wsX0_tour_r2 : List Cond := [Cond.code yX0_isThere cX0_isThere 2 (some .boolean), Cond.fieldLink RX0 9 "YardHolds" "rooms" "[I", Cond.methodLink RX0 58 yX0_takeOnTour, Cond.instanceMethod yX0_takeOnTour, Cond.selects RX0 yX0_takeOnTour yX0_takeOnTour, Cond.code yX0_takeOnTour cX0_takeOnTour 3 (some .int), Cond.methodLink RX0 33 yX0_go, Cond.instanceMethod yX0_go, Cond.selects RX0 yX0_go yX0_go, Cond.code yX0_go cX0_go 3 (some .int), Cond.fieldLink RX0 16 "YardHolds" "wagons" "[I", Cond.methodLink RX0 61 yX0_place, Cond.static yX0_place, Cond.code yX0_place cX0_place 2 (some .int), Cond.methodLink RX0 95 yX0_come, Cond.instanceMethod yX0_come, Cond.selects RX0 yX0_come yX0_come, Cond.code yX0_come cX0_come 4 (some .int), Cond.methodLink RX0 37 yX0_letGo, Cond.instanceMethod yX0_letGo, Cond.selects RX0 yX0_letGo yX0_letGo, Cond.code yX0_letGo cX0_letGo 3 (some .int), Cond.fieldLink RX0 77 "YardHolds" "broken" "I"]
def wsX0_tour : List Cond := .code yX0_tour cX0_tour 8 (some .int) :: ((wsX0_tour_r1 ++ wsX0_tour_r2) ++ wsX00)
def wsX0_chain_r1 : List Cond := [Cond.fieldLink RX0 13 "YardHolds" "counts" "[I", Cond.methodLink RX0 51 yX0_isRowLength, Cond.static yX0_isRowLength, Cond.initialized RX0, Cond.code yX0_isRowLength cX0_isRowLength 1 (some .boolean), Cond.methodLink RX0 54 yX0_trackOfRow, Cond.static yX0_trackOfRow, Cond.code yX0_trackOfRow cX0_trackOfRow 3 (some .int), Cond.methodLink RX0 30 yX0_hold, Cond.instanceMethod yX0_hold, Cond.selects RX0 yX0_hold yX0_hold, Cond.code yX0_hold cX0_hold 2 (some .boolean), Cond.fieldLink RX0 71 "YardHolds" "asked" "I", Cond.fieldLink RX0 74 "YardHolds" "held" "I", Cond.fieldLink RX0 80 "YardHolds" "depth" "I", Cond.fieldLink RX0 83 "YardHolds" "deepest" "I", Cond.methodLink RX0 90 Lib.Math.max.name, Cond.static Lib.Math.max.name, Cond.initialized "java/lang/Math", Cond.code Lib.Math.max.name Lib.Math.max.code 2 (some .int), Cond.methodLink RX0 23 yX0_isThere, Cond.instanceMethod yX0_isThere, Cond.selects RX0 yX0_isThere yX0_isThere, Cond.code yX0_isThere cX0_isThere 2 (some .boolean)]
def wsX0_chain_r2 : List Cond := [Cond.fieldLink RX0 9 "YardHolds" "rooms" "[I", Cond.methodLink RX0 37 yX0_letGo, Cond.instanceMethod yX0_letGo, Cond.selects RX0 yX0_letGo yX0_letGo, Cond.code yX0_letGo cX0_letGo 3 (some .int), Cond.fieldLink RX0 77 "YardHolds" "broken" "I"]
def wsX0_chain : List Cond := .code yX0_chain cX0_chain 7 (some .int) :: ((wsX0_chain_r1 ++ wsX0_chain_r2) ++ wsX00)
def wsX0_survey_r1 : List Cond := [Cond.fieldLink RX0 13 "YardHolds" "counts" "[I", Cond.methodLink RX0 51 yX0_isRowLength, Cond.static yX0_isRowLength, Cond.initialized RX0, Cond.code yX0_isRowLength cX0_isRowLength 1 (some .boolean), Cond.methodLink RX0 54 yX0_trackOfRow, Cond.static yX0_trackOfRow, Cond.code yX0_trackOfRow cX0_trackOfRow 3 (some .int), Cond.methodLink RX0 30 yX0_hold, Cond.instanceMethod yX0_hold, Cond.selects RX0 yX0_hold yX0_hold, Cond.code yX0_hold cX0_hold 2 (some .boolean), Cond.fieldLink RX0 71 "YardHolds" "asked" "I", Cond.fieldLink RX0 74 "YardHolds" "held" "I", Cond.fieldLink RX0 80 "YardHolds" "depth" "I", Cond.fieldLink RX0 83 "YardHolds" "deepest" "I", Cond.methodLink RX0 90 Lib.Math.max.name, Cond.static Lib.Math.max.name, Cond.initialized "java/lang/Math", Cond.code Lib.Math.max.name Lib.Math.max.code 2 (some .int), Cond.methodLink RX0 23 yX0_isThere, Cond.instanceMethod yX0_isThere, Cond.selects RX0 yX0_isThere yX0_isThere, Cond.code yX0_isThere cX0_isThere 2 (some .boolean)]
def wsX0_survey_r2 : List Cond := [Cond.fieldLink RX0 9 "YardHolds" "rooms" "[I", Cond.methodLink RX0 37 yX0_letGo, Cond.instanceMethod yX0_letGo, Cond.selects RX0 yX0_letGo yX0_letGo, Cond.code yX0_letGo cX0_letGo 3 (some .int), Cond.fieldLink RX0 77 "YardHolds" "broken" "I"]
def wsX0_survey : List Cond := .code yX0_survey cX0_survey 7 (some .int) :: ((wsX0_survey_r1 ++ wsX0_survey_r2) ++ wsX00)
def wsX0_exchangePlaces : List Cond := .code yX0_exchangePlaces cX0_exchangePlaces 4 none :: ([.fieldLink RX0 16 "YardHolds" "wagons" "[I"] ++ wsX00)
def wsX0_turn_r1 : List Cond := [Cond.fieldLink RX0 13 "YardHolds" "counts" "[I", Cond.methodLink RX0 19 yX0_isTrack, Cond.static yX0_isTrack, Cond.initialized RX0, Cond.code yX0_isTrack cX0_isTrack 1 (some .boolean), Cond.methodLink RX0 30 yX0_hold, Cond.instanceMethod yX0_hold, Cond.selects RX0 yX0_hold yX0_hold, Cond.code yX0_hold cX0_hold 2 (some .boolean), Cond.fieldLink RX0 71 "YardHolds" "asked" "I", Cond.fieldLink RX0 74 "YardHolds" "held" "I", Cond.fieldLink RX0 80 "YardHolds" "depth" "I", Cond.fieldLink RX0 83 "YardHolds" "deepest" "I", Cond.methodLink RX0 90 Lib.Math.max.name, Cond.static Lib.Math.max.name, Cond.initialized "java/lang/Math", Cond.code Lib.Math.max.name Lib.Math.max.code 2 (some .int), Cond.methodLink RX0 23 yX0_isThere, Cond.instanceMethod yX0_isThere, Cond.selects RX0 yX0_isThere yX0_isThere, Cond.code yX0_isThere cX0_isThere 2 (some .boolean), Cond.fieldLink RX0 9 "YardHolds" "rooms" "[I", Cond.methodLink RX0 61 yX0_place, Cond.static yX0_place]
def wsX0_turn_r2 : List Cond := [Cond.code yX0_place cX0_place 2 (some .int), Cond.methodLink RX0 64 yX0_exchangePlaces, Cond.instanceMethod yX0_exchangePlaces, Cond.selects RX0 yX0_exchangePlaces yX0_exchangePlaces, Cond.code yX0_exchangePlaces cX0_exchangePlaces 4 none, Cond.fieldLink RX0 16 "YardHolds" "wagons" "[I", Cond.methodLink RX0 37 yX0_letGo, Cond.instanceMethod yX0_letGo, Cond.selects RX0 yX0_letGo yX0_letGo, Cond.code yX0_letGo cX0_letGo 3 (some .int), Cond.fieldLink RX0 77 "YardHolds" "broken" "I"]
def wsX0_turn : List Cond := .code yX0_turn cX0_turn 4 (some .int) :: ((wsX0_turn_r1 ++ wsX0_turn_r2) ++ wsX00)
def wsX0_exchangeRows : List Cond := .code yX0_exchangeRows cX0_exchangeRows 6 (some .int) :: ([.fieldLink RX0 13 "YardHolds" "counts" "[I", .fieldLink RX0 9 "YardHolds" "rooms" "[I", .methodLink RX0 61 yX0_place, .static yX0_place, .initialized RX0, .code yX0_place cX0_place 2 (some .int), .methodLink RX0 64 yX0_exchangePlaces, .instanceMethod yX0_exchangePlaces, .selects RX0 yX0_exchangePlaces yX0_exchangePlaces, .code yX0_exchangePlaces cX0_exchangePlaces 4 none, .fieldLink RX0 16 "YardHolds" "wagons" "[I"] ++ wsX00)
def wsX0_swap_r1 : List Cond := [Cond.methodLink RX0 19 yX0_isTrack, Cond.static yX0_isTrack, Cond.initialized RX0, Cond.code yX0_isTrack cX0_isTrack 1 (some .boolean), Cond.methodLink RX0 30 yX0_hold, Cond.instanceMethod yX0_hold, Cond.selects RX0 yX0_hold yX0_hold, Cond.code yX0_hold cX0_hold 2 (some .boolean), Cond.fieldLink RX0 71 "YardHolds" "asked" "I", Cond.fieldLink RX0 74 "YardHolds" "held" "I", Cond.fieldLink RX0 80 "YardHolds" "depth" "I", Cond.fieldLink RX0 83 "YardHolds" "deepest" "I", Cond.methodLink RX0 90 Lib.Math.max.name, Cond.static Lib.Math.max.name, Cond.initialized "java/lang/Math", Cond.code Lib.Math.max.name Lib.Math.max.code 2 (some .int), Cond.methodLink RX0 23 yX0_isThere, Cond.instanceMethod yX0_isThere, Cond.selects RX0 yX0_isThere yX0_isThere, Cond.code yX0_isThere cX0_isThere 2 (some .boolean), Cond.fieldLink RX0 9 "YardHolds" "rooms" "[I", Cond.methodLink RX0 37 yX0_letGo, Cond.instanceMethod yX0_letGo, Cond.selects RX0 yX0_letGo yX0_letGo]
def wsX0_swap_r2 : List Cond := [Cond.code yX0_letGo cX0_letGo 3 (some .int), Cond.fieldLink RX0 77 "YardHolds" "broken" "I", Cond.methodLink RX0 68 yX0_exchangeRows, Cond.instanceMethod yX0_exchangeRows, Cond.selects RX0 yX0_exchangeRows yX0_exchangeRows, Cond.code yX0_exchangeRows cX0_exchangeRows 6 (some .int), Cond.fieldLink RX0 13 "YardHolds" "counts" "[I", Cond.methodLink RX0 61 yX0_place, Cond.static yX0_place, Cond.code yX0_place cX0_place 2 (some .int), Cond.methodLink RX0 64 yX0_exchangePlaces, Cond.instanceMethod yX0_exchangePlaces, Cond.selects RX0 yX0_exchangePlaces yX0_exchangePlaces, Cond.code yX0_exchangePlaces cX0_exchangePlaces 4 none, Cond.fieldLink RX0 16 "YardHolds" "wagons" "[I"]
def wsX0_swap : List Cond := .code yX0_swap cX0_swap 3 (some .int) :: ((wsX0_swap_r1 ++ wsX0_swap_r2) ++ wsX00)
def wsX0_wagon : List Cond := .code yX0_wagon cX0_wagon 3 (some .int) :: ([.fieldLink RX0 13 "YardHolds" "counts" "[I", .fieldLink RX0 16 "YardHolds" "wagons" "[I", .methodLink RX0 19 yX0_isTrack, .static yX0_isTrack, .initialized RX0, .code yX0_isTrack cX0_isTrack 1 (some .boolean), .methodLink RX0 61 yX0_place, .static yX0_place, .code yX0_place cX0_place 2 (some .int)] ++ wsX00)
def wsX0_tracksThere : List Cond := .code yX0_tracksThere cX0_tracksThere 3 (some .int) :: ([.methodLink RX0 23 yX0_isThere, .instanceMethod yX0_isThere, .selects RX0 yX0_isThere yX0_isThere, .initialized RX0, .code yX0_isThere cX0_isThere 2 (some .boolean), .fieldLink RX0 9 "YardHolds" "rooms" "[I"] ++ wsX00)
def wsX0_told : List Cond := .code yX0_told cX0_told 2 (some .int) :: ([.fieldLink RX0 71 "YardHolds" "asked" "I", .fieldLink RX0 74 "YardHolds" "held" "I", .fieldLink RX0 77 "YardHolds" "broken" "I", .fieldLink RX0 80 "YardHolds" "depth" "I", .fieldLink RX0 83 "YardHolds" "deepest" "I", .fieldLink RX0 40 "YardHolds" "moved" "I", .methodLink RX0 86 yX0_tracksThere, .instanceMethod yX0_tracksThere, .selects RX0 yX0_tracksThere yX0_tracksThere, .initialized RX0, .code yX0_tracksThere cX0_tracksThere 3 (some .int), .methodLink RX0 23 yX0_isThere, .instanceMethod yX0_isThere, .selects RX0 yX0_isThere yX0_isThere, .code yX0_isThere cX0_isThere 2 (some .boolean), .fieldLink RX0 9 "YardHolds" "rooms" "[I"] ++ wsX00)
def wsX1_init : List Cond := .code yX1_init cX1_init 1 none :: ([.methodLink RX1 1 objectInit, .instanceMethod objectInit, .code objectInit ⟨#[0xb1]⟩ 1 none, .arrayClass .int, .fieldLink RX1 9 "YardHoldsModel" "rooms" "[I", .fieldLink RX1 13 "YardHoldsModel" "sizes" "[I", .fieldLink RX1 16 "YardHoldsModel" "wagons" "[I"] ++ wsX10)
def wsX1_in : List Cond := .code yX1_in cX1_in 3 (some .boolean) :: ([])
def wsX1_isTrack : List Cond := .code yX1_isTrack cX1_isTrack 1 (some .boolean) :: ([.methodLink RX1 19 yX1_in, .static yX1_in, .initialized RX1, .code yX1_in cX1_in 3 (some .boolean)])
def wsX1_holds : List Cond := .code yX1_holds cX1_holds 2 (some .boolean) :: ([.fieldLink RX1 23 "YardHoldsModel" "asked" "I", .fieldLink RX1 9 "YardHoldsModel" "rooms" "[I", .fieldLink RX1 27 "YardHoldsModel" "held" "I", .fieldLink RX1 30 "YardHoldsModel" "depth" "I", .fieldLink RX1 33 "YardHoldsModel" "deepest" "I"] ++ wsX10)
def wsX1_goes : List Cond := .code yX1_goes cX1_goes 3 (some .int) :: ([.fieldLink RX1 30 "YardHoldsModel" "depth" "I", .fieldLink RX1 36 "YardHoldsModel" "broken" "I"] ++ wsX10)
def wsX1_last : List Cond := .code yX1_last cX1_last 2 (some .int) :: ([.fieldLink RX1 16 "YardHoldsModel" "wagons" "[I", .fieldLink RX1 13 "YardHoldsModel" "sizes" "[I"] ++ wsX10)
def wsX1_come : List Cond := .code yX1_come cX1_come 3 none :: ([.fieldLink RX1 16 "YardHoldsModel" "wagons" "[I", .fieldLink RX1 13 "YardHoldsModel" "sizes" "[I"] ++ wsX10)
def wsX1_isFull : List Cond := .code yX1_isFull cX1_isFull 2 (some .boolean) :: ([.fieldLink RX1 13 "YardHoldsModel" "sizes" "[I", .fieldLink RX1 9 "YardHoldsModel" "rooms" "[I"] ++ wsX10)
def wsX1_trackOf : List Cond := .code yX1_trackOf cX1_trackOf 3 (some .int) :: ([])
def wsX1_lay : List Cond := .code yX1_lay cX1_lay 3 (some .int) :: ([.fieldLink RX1 9 "YardHoldsModel" "rooms" "[I", .fieldLink RX1 13 "YardHoldsModel" "sizes" "[I", .methodLink RX1 39 yX1_isTrack, .static yX1_isTrack, .initialized RX1, .code yX1_isTrack cX1_isTrack 1 (some .boolean), .methodLink RX1 19 yX1_in, .static yX1_in, .code yX1_in cX1_in 3 (some .boolean)] ++ wsX10)
def wsX1_lift : List Cond := .code yX1_lift cX1_lift 3 (some .int) :: ([.fieldLink RX1 9 "YardHoldsModel" "rooms" "[I", .fieldLink RX1 13 "YardHoldsModel" "sizes" "[I", .methodLink RX1 39 yX1_isTrack, .static yX1_isTrack, .initialized RX1, .code yX1_isTrack cX1_isTrack 1 (some .boolean), .methodLink RX1 19 yX1_in, .static yX1_in, .code yX1_in cX1_in 3 (some .boolean)] ++ wsX10)
def wsX1_couple_r1 : List Cond := [Cond.fieldLink RX1 13 "YardHoldsModel" "sizes" "[I", Cond.methodLink RX1 39 yX1_isTrack, Cond.static yX1_isTrack, Cond.initialized RX1, Cond.code yX1_isTrack cX1_isTrack 1 (some .boolean), Cond.methodLink RX1 19 yX1_in, Cond.static yX1_in, Cond.code yX1_in cX1_in 3 (some .boolean), Cond.methodLink RX1 43 yX1_holds, Cond.instanceMethod yX1_holds, Cond.selects RX1 yX1_holds yX1_holds, Cond.code yX1_holds cX1_holds 2 (some .boolean), Cond.fieldLink RX1 23 "YardHoldsModel" "asked" "I", Cond.fieldLink RX1 9 "YardHoldsModel" "rooms" "[I", Cond.fieldLink RX1 27 "YardHoldsModel" "held" "I", Cond.fieldLink RX1 30 "YardHoldsModel" "depth" "I", Cond.fieldLink RX1 33 "YardHoldsModel" "deepest" "I", Cond.methodLink RX1 46 yX1_isFull, Cond.instanceMethod yX1_isFull, Cond.selects RX1 yX1_isFull yX1_isFull, Cond.code yX1_isFull cX1_isFull 2 (some .boolean), Cond.methodLink RX1 49 yX1_goes, Cond.instanceMethod yX1_goes, Cond.selects RX1 yX1_goes yX1_goes]
def wsX1_couple_r2 : List Cond := [Cond.code yX1_goes cX1_goes 3 (some .int), Cond.fieldLink RX1 36 "YardHoldsModel" "broken" "I", Cond.methodLink RX1 53 yX1_come, Cond.instanceMethod yX1_come, Cond.selects RX1 yX1_come yX1_come, Cond.code yX1_come cX1_come 3 none, Cond.fieldLink RX1 16 "YardHoldsModel" "wagons" "[I"]
def wsX1_couple : List Cond := .code yX1_couple cX1_couple 3 (some .int) :: ((wsX1_couple_r1 ++ wsX1_couple_r2) ++ wsX10)
def wsX1_uncouple_r1 : List Cond := [Cond.fieldLink RX1 13 "YardHoldsModel" "sizes" "[I", Cond.methodLink RX1 39 yX1_isTrack, Cond.static yX1_isTrack, Cond.initialized RX1, Cond.code yX1_isTrack cX1_isTrack 1 (some .boolean), Cond.methodLink RX1 19 yX1_in, Cond.static yX1_in, Cond.code yX1_in cX1_in 3 (some .boolean), Cond.methodLink RX1 43 yX1_holds, Cond.instanceMethod yX1_holds, Cond.selects RX1 yX1_holds yX1_holds, Cond.code yX1_holds cX1_holds 2 (some .boolean), Cond.fieldLink RX1 23 "YardHoldsModel" "asked" "I", Cond.fieldLink RX1 9 "YardHoldsModel" "rooms" "[I", Cond.fieldLink RX1 27 "YardHoldsModel" "held" "I", Cond.fieldLink RX1 30 "YardHoldsModel" "depth" "I", Cond.fieldLink RX1 33 "YardHoldsModel" "deepest" "I", Cond.methodLink RX1 49 yX1_goes, Cond.instanceMethod yX1_goes, Cond.selects RX1 yX1_goes yX1_goes, Cond.code yX1_goes cX1_goes 3 (some .int), Cond.fieldLink RX1 36 "YardHoldsModel" "broken" "I", Cond.methodLink RX1 57 yX1_last, Cond.instanceMethod yX1_last]
def wsX1_uncouple_r2 : List Cond := [Cond.selects RX1 yX1_last yX1_last, Cond.code yX1_last cX1_last 2 (some .int), Cond.fieldLink RX1 16 "YardHoldsModel" "wagons" "[I"]
def wsX1_uncouple : List Cond := .code yX1_uncouple cX1_uncouple 3 (some .int) :: ((wsX1_uncouple_r1 ++ wsX1_uncouple_r2) ++ wsX10)
def wsX1_shunt_r1 : List Cond := [Cond.fieldLink RX1 61 "YardHoldsModel" "moved" "I", Cond.fieldLink RX1 13 "YardHoldsModel" "sizes" "[I", Cond.methodLink RX1 39 yX1_isTrack, Cond.static yX1_isTrack, Cond.initialized RX1, Cond.code yX1_isTrack cX1_isTrack 1 (some .boolean), Cond.methodLink RX1 19 yX1_in, Cond.static yX1_in, Cond.code yX1_in cX1_in 3 (some .boolean), Cond.methodLink RX1 43 yX1_holds, Cond.instanceMethod yX1_holds, Cond.selects RX1 yX1_holds yX1_holds, Cond.code yX1_holds cX1_holds 2 (some .boolean), Cond.fieldLink RX1 23 "YardHoldsModel" "asked" "I", Cond.fieldLink RX1 9 "YardHoldsModel" "rooms" "[I", Cond.fieldLink RX1 27 "YardHoldsModel" "held" "I", Cond.fieldLink RX1 30 "YardHoldsModel" "depth" "I", Cond.fieldLink RX1 33 "YardHoldsModel" "deepest" "I", Cond.methodLink RX1 49 yX1_goes, Cond.instanceMethod yX1_goes, Cond.selects RX1 yX1_goes yX1_goes, Cond.code yX1_goes cX1_goes 3 (some .int), Cond.fieldLink RX1 36 "YardHoldsModel" "broken" "I", Cond.methodLink RX1 57 yX1_last]
def wsX1_shunt_r2 : List Cond := [Cond.instanceMethod yX1_last, Cond.selects RX1 yX1_last yX1_last, Cond.code yX1_last cX1_last 2 (some .int), Cond.fieldLink RX1 16 "YardHoldsModel" "wagons" "[I", Cond.methodLink RX1 46 yX1_isFull, Cond.instanceMethod yX1_isFull, Cond.selects RX1 yX1_isFull yX1_isFull, Cond.code yX1_isFull cX1_isFull 2 (some .boolean), Cond.methodLink RX1 53 yX1_come, Cond.instanceMethod yX1_come, Cond.selects RX1 yX1_come yX1_come, Cond.code yX1_come cX1_come 3 none]
def wsX1_shunt : List Cond := .code yX1_shunt cX1_shunt 7 (some .int) :: ((wsX1_shunt_r1 ++ wsX1_shunt_r2) ++ wsX10)
def wsX1_sweep_r1 : List Cond := [Cond.fieldLink RX1 61 "YardHoldsModel" "moved" "I", Cond.fieldLink RX1 13 "YardHoldsModel" "sizes" "[I", Cond.methodLink RX1 39 yX1_isTrack, Cond.static yX1_isTrack, Cond.initialized RX1, Cond.code yX1_isTrack cX1_isTrack 1 (some .boolean), Cond.methodLink RX1 19 yX1_in, Cond.static yX1_in, Cond.code yX1_in cX1_in 3 (some .boolean), Cond.methodLink RX1 43 yX1_holds, Cond.instanceMethod yX1_holds, Cond.selects RX1 yX1_holds yX1_holds, Cond.code yX1_holds cX1_holds 2 (some .boolean), Cond.fieldLink RX1 23 "YardHoldsModel" "asked" "I", Cond.fieldLink RX1 9 "YardHoldsModel" "rooms" "[I", Cond.fieldLink RX1 27 "YardHoldsModel" "held" "I", Cond.fieldLink RX1 30 "YardHoldsModel" "depth" "I", Cond.fieldLink RX1 33 "YardHoldsModel" "deepest" "I", Cond.methodLink RX1 57 yX1_last, Cond.instanceMethod yX1_last, Cond.selects RX1 yX1_last yX1_last, Cond.code yX1_last cX1_last 2 (some .int), Cond.fieldLink RX1 16 "YardHoldsModel" "wagons" "[I", Cond.methodLink RX1 53 yX1_come]
def wsX1_sweep_r2 : List Cond := [Cond.instanceMethod yX1_come, Cond.selects RX1 yX1_come yX1_come, Cond.code yX1_come cX1_come 3 none, Cond.methodLink RX1 49 yX1_goes, Cond.instanceMethod yX1_goes, Cond.selects RX1 yX1_goes yX1_goes, Cond.code yX1_goes cX1_goes 3 (some .int), Cond.fieldLink RX1 36 "YardHoldsModel" "broken" "I", Cond.methodLink RX1 46 yX1_isFull, Cond.instanceMethod yX1_isFull, Cond.selects RX1 yX1_isFull yX1_isFull, Cond.code yX1_isFull cX1_isFull 2 (some .boolean)]
def wsX1_sweep : List Cond := .code yX1_sweep cX1_sweep 8 (some .int) :: ((wsX1_sweep_r1 ++ wsX1_sweep_r2) ++ wsX10)
def wsX1_tour_r1 : List Cond := [Cond.fieldLink RX1 61 "YardHoldsModel" "moved" "I", Cond.fieldLink RX1 13 "YardHoldsModel" "sizes" "[I", Cond.methodLink RX1 19 yX1_in, Cond.static yX1_in, Cond.initialized RX1, Cond.code yX1_in cX1_in 3 (some .boolean), Cond.methodLink RX1 64 yX1_trackOf, Cond.static yX1_trackOf, Cond.code yX1_trackOf cX1_trackOf 3 (some .int), Cond.methodLink RX1 43 yX1_holds, Cond.instanceMethod yX1_holds, Cond.selects RX1 yX1_holds yX1_holds, Cond.code yX1_holds cX1_holds 2 (some .boolean), Cond.fieldLink RX1 23 "YardHoldsModel" "asked" "I", Cond.fieldLink RX1 9 "YardHoldsModel" "rooms" "[I", Cond.fieldLink RX1 27 "YardHoldsModel" "held" "I", Cond.fieldLink RX1 30 "YardHoldsModel" "depth" "I", Cond.fieldLink RX1 33 "YardHoldsModel" "deepest" "I", Cond.methodLink RX1 57 yX1_last, Cond.instanceMethod yX1_last, Cond.selects RX1 yX1_last yX1_last, Cond.code yX1_last cX1_last 2 (some .int), Cond.fieldLink RX1 16 "YardHoldsModel" "wagons" "[I", Cond.methodLink RX1 49 yX1_goes]
def wsX1_tour_r2 : List Cond := [Cond.instanceMethod yX1_goes, Cond.selects RX1 yX1_goes yX1_goes, Cond.code yX1_goes cX1_goes 3 (some .int), Cond.fieldLink RX1 36 "YardHoldsModel" "broken" "I"]
def wsX1_tour : List Cond := .code yX1_tour cX1_tour 9 (some .int) :: ((wsX1_tour_r1 ++ wsX1_tour_r2) ++ wsX10)
def wsX1_chain : List Cond := .code yX1_chain cX1_chain 7 (some .int) :: ([.fieldLink RX1 13 "YardHoldsModel" "sizes" "[I", .methodLink RX1 19 yX1_in, .static yX1_in, .initialized RX1, .code yX1_in cX1_in 3 (some .boolean), .methodLink RX1 64 yX1_trackOf, .static yX1_trackOf, .code yX1_trackOf cX1_trackOf 3 (some .int), .methodLink RX1 43 yX1_holds, .instanceMethod yX1_holds, .selects RX1 yX1_holds yX1_holds, .code yX1_holds cX1_holds 2 (some .boolean), .fieldLink RX1 23 "YardHoldsModel" "asked" "I", .fieldLink RX1 9 "YardHoldsModel" "rooms" "[I", .fieldLink RX1 27 "YardHoldsModel" "held" "I", .fieldLink RX1 30 "YardHoldsModel" "depth" "I", .fieldLink RX1 33 "YardHoldsModel" "deepest" "I", .methodLink RX1 49 yX1_goes, .instanceMethod yX1_goes, .selects RX1 yX1_goes yX1_goes, .code yX1_goes cX1_goes 3 (some .int), .fieldLink RX1 36 "YardHoldsModel" "broken" "I"] ++ wsX10)
def wsX1_survey : List Cond := .code yX1_survey cX1_survey 7 (some .int) :: ([.fieldLink RX1 13 "YardHoldsModel" "sizes" "[I", .methodLink RX1 19 yX1_in, .static yX1_in, .initialized RX1, .code yX1_in cX1_in 3 (some .boolean), .methodLink RX1 64 yX1_trackOf, .static yX1_trackOf, .code yX1_trackOf cX1_trackOf 3 (some .int), .methodLink RX1 43 yX1_holds, .instanceMethod yX1_holds, .selects RX1 yX1_holds yX1_holds, .code yX1_holds cX1_holds 2 (some .boolean), .fieldLink RX1 23 "YardHoldsModel" "asked" "I", .fieldLink RX1 9 "YardHoldsModel" "rooms" "[I", .fieldLink RX1 27 "YardHoldsModel" "held" "I", .fieldLink RX1 30 "YardHoldsModel" "depth" "I", .fieldLink RX1 33 "YardHoldsModel" "deepest" "I", .methodLink RX1 49 yX1_goes, .instanceMethod yX1_goes, .selects RX1 yX1_goes yX1_goes, .code yX1_goes cX1_goes 3 (some .int), .fieldLink RX1 36 "YardHoldsModel" "broken" "I"] ++ wsX10)
def wsX1_turn : List Cond := .code yX1_turn cX1_turn 8 (some .int) :: ([.fieldLink RX1 13 "YardHoldsModel" "sizes" "[I", .fieldLink RX1 16 "YardHoldsModel" "wagons" "[I", .methodLink RX1 39 yX1_isTrack, .static yX1_isTrack, .initialized RX1, .code yX1_isTrack cX1_isTrack 1 (some .boolean), .methodLink RX1 19 yX1_in, .static yX1_in, .code yX1_in cX1_in 3 (some .boolean), .methodLink RX1 43 yX1_holds, .instanceMethod yX1_holds, .selects RX1 yX1_holds yX1_holds, .code yX1_holds cX1_holds 2 (some .boolean), .fieldLink RX1 23 "YardHoldsModel" "asked" "I", .fieldLink RX1 9 "YardHoldsModel" "rooms" "[I", .fieldLink RX1 27 "YardHoldsModel" "held" "I", .fieldLink RX1 30 "YardHoldsModel" "depth" "I", .fieldLink RX1 33 "YardHoldsModel" "deepest" "I", .methodLink RX1 49 yX1_goes, .instanceMethod yX1_goes, .selects RX1 yX1_goes yX1_goes, .code yX1_goes cX1_goes 3 (some .int), .fieldLink RX1 36 "YardHoldsModel" "broken" "I"] ++ wsX10)
def wsX1_swap : List Cond := .code yX1_swap cX1_swap 5 (some .int) :: ([.fieldLink RX1 13 "YardHoldsModel" "sizes" "[I", .fieldLink RX1 9 "YardHoldsModel" "rooms" "[I", .fieldLink RX1 16 "YardHoldsModel" "wagons" "[I", .methodLink RX1 39 yX1_isTrack, .static yX1_isTrack, .initialized RX1, .code yX1_isTrack cX1_isTrack 1 (some .boolean), .methodLink RX1 19 yX1_in, .static yX1_in, .code yX1_in cX1_in 3 (some .boolean), .methodLink RX1 43 yX1_holds, .instanceMethod yX1_holds, .selects RX1 yX1_holds yX1_holds, .code yX1_holds cX1_holds 2 (some .boolean), .fieldLink RX1 23 "YardHoldsModel" "asked" "I", .fieldLink RX1 27 "YardHoldsModel" "held" "I", .fieldLink RX1 30 "YardHoldsModel" "depth" "I", .fieldLink RX1 33 "YardHoldsModel" "deepest" "I", .methodLink RX1 49 yX1_goes, .instanceMethod yX1_goes, .selects RX1 yX1_goes yX1_goes, .code yX1_goes cX1_goes 3 (some .int), .fieldLink RX1 36 "YardHoldsModel" "broken" "I"] ++ wsX10)
def wsX1_wagon : List Cond := .code yX1_wagon cX1_wagon 3 (some .int) :: ([.fieldLink RX1 13 "YardHoldsModel" "sizes" "[I", .fieldLink RX1 16 "YardHoldsModel" "wagons" "[I", .methodLink RX1 39 yX1_isTrack, .static yX1_isTrack, .initialized RX1, .code yX1_isTrack cX1_isTrack 1 (some .boolean), .methodLink RX1 19 yX1_in, .static yX1_in, .code yX1_in cX1_in 3 (some .boolean)] ++ wsX10)
def wsX1_told : List Cond := .code yX1_told cX1_told 4 (some .int) :: ([.fieldLink RX1 9 "YardHoldsModel" "rooms" "[I", .fieldLink RX1 23 "YardHoldsModel" "asked" "I", .fieldLink RX1 27 "YardHoldsModel" "held" "I", .fieldLink RX1 36 "YardHoldsModel" "broken" "I", .fieldLink RX1 30 "YardHoldsModel" "depth" "I", .fieldLink RX1 33 "YardHoldsModel" "deepest" "I", .fieldLink RX1 61 "YardHoldsModel" "moved" "I"] ++ wsX10)
def wsJ9_max_7cf53 : List Cond := .code yJ9_max_7cf53 cJ9_max_7cf53 2 (some .int) :: ([])
def wsL_law_r1 : List Cond := [Cond.classLink RL 7 RX0, Cond.instantiable RX0 9, Cond.initialized RX0, Cond.classLink RL 10 RX1, Cond.instantiable RX1 9, Cond.initialized RX1, Cond.constantLong RL 40 (4294967295), Cond.methodLink RL 9 yX0_init, Cond.instanceMethod yX0_init, Cond.code yX0_init cX0_init 1 none, Cond.methodLink RX0 1 objectInit, Cond.instanceMethod objectInit, Cond.code objectInit ⟨#[0xb1]⟩ 1 none, Cond.arrayClass .int, Cond.fieldLink RX0 9 "YardHolds" "rooms" "[I", Cond.fieldLink RX0 13 "YardHolds" "counts" "[I", Cond.fieldLink RX0 16 "YardHolds" "wagons" "[I", Cond.methodLink RL 12 yX1_init, Cond.instanceMethod yX1_init, Cond.code yX1_init cX1_init 1 none, Cond.methodLink RX1 1 objectInit, Cond.fieldLink RX1 9 "YardHoldsModel" "rooms" "[I", Cond.fieldLink RX1 13 "YardHoldsModel" "sizes" "[I", Cond.fieldLink RX1 16 "YardHoldsModel" "wagons" "[I"]
def wsL_law_r2 : List Cond := [Cond.methodLink RL 13 yX0_lay, Cond.instanceMethod yX0_lay, Cond.selects RX0 yX0_lay yX0_lay, Cond.code yX0_lay cX0_lay 3 (some .int), Cond.methodLink RX0 19 yX0_isTrack, Cond.static yX0_isTrack, Cond.code yX0_isTrack cX0_isTrack 1 (some .boolean), Cond.methodLink RX0 23 yX0_isThere, Cond.instanceMethod yX0_isThere, Cond.selects RX0 yX0_isThere yX0_isThere, Cond.code yX0_isThere cX0_isThere 2 (some .boolean), Cond.methodLink RL 17 yX1_lay, Cond.instanceMethod yX1_lay, Cond.selects RX1 yX1_lay yX1_lay, Cond.code yX1_lay cX1_lay 3 (some .int), Cond.methodLink RX1 39 yX1_isTrack, Cond.static yX1_isTrack, Cond.code yX1_isTrack cX1_isTrack 1 (some .boolean), Cond.methodLink RX1 19 yX1_in, Cond.static yX1_in, Cond.code yX1_in cX1_in 3 (some .boolean), Cond.methodLink RL 18 yX0_lift, Cond.instanceMethod yX0_lift, Cond.selects RX0 yX0_lift yX0_lift]
def wsL_law_r3 : List Cond := [Cond.code yX0_lift cX0_lift 3 (some .int), Cond.methodLink RL 22 yX1_lift, Cond.instanceMethod yX1_lift, Cond.selects RX1 yX1_lift yX1_lift, Cond.code yX1_lift cX1_lift 3 (some .int), Cond.methodLink RL 23 yX0_couple, Cond.instanceMethod yX0_couple, Cond.selects RX0 yX0_couple yX0_couple, Cond.code yX0_couple cX0_couple 3 (some .int), Cond.methodLink RX0 26 yX0_holdAndCome, Cond.instanceMethod yX0_holdAndCome, Cond.selects RX0 yX0_holdAndCome yX0_holdAndCome, Cond.code yX0_holdAndCome cX0_holdAndCome 3 (some .int), Cond.methodLink RX0 30 yX0_hold, Cond.instanceMethod yX0_hold, Cond.selects RX0 yX0_hold yX0_hold, Cond.code yX0_hold cX0_hold 2 (some .boolean), Cond.fieldLink RX0 71 "YardHolds" "asked" "I", Cond.fieldLink RX0 74 "YardHolds" "held" "I", Cond.fieldLink RX0 80 "YardHolds" "depth" "I", Cond.fieldLink RX0 83 "YardHolds" "deepest" "I", Cond.methodLink RX0 90 Lib.Math.max.name, Cond.static Lib.Math.max.name, Cond.initialized "java/lang/Math"]
def wsL_law_r4 : List Cond := [Cond.code Lib.Math.max.name Lib.Math.max.code 2 (some .int), Cond.methodLink RX0 95 yX0_come, Cond.instanceMethod yX0_come, Cond.selects RX0 yX0_come yX0_come, Cond.code yX0_come cX0_come 4 (some .int), Cond.methodLink RX0 61 yX0_place, Cond.static yX0_place, Cond.code yX0_place cX0_place 2 (some .int), Cond.methodLink RX0 37 yX0_letGo, Cond.instanceMethod yX0_letGo, Cond.selects RX0 yX0_letGo yX0_letGo, Cond.code yX0_letGo cX0_letGo 3 (some .int), Cond.fieldLink RX0 77 "YardHolds" "broken" "I", Cond.methodLink RL 26 yX1_couple, Cond.instanceMethod yX1_couple, Cond.selects RX1 yX1_couple yX1_couple, Cond.code yX1_couple cX1_couple 3 (some .int), Cond.methodLink RX1 43 yX1_holds, Cond.instanceMethod yX1_holds, Cond.selects RX1 yX1_holds yX1_holds, Cond.code yX1_holds cX1_holds 2 (some .boolean), Cond.fieldLink RX1 23 "YardHoldsModel" "asked" "I", Cond.fieldLink RX1 27 "YardHoldsModel" "held" "I", Cond.fieldLink RX1 30 "YardHoldsModel" "depth" "I"]
def wsL_law_r5 : List Cond := [Cond.fieldLink RX1 33 "YardHoldsModel" "deepest" "I", Cond.methodLink RX1 46 yX1_isFull, Cond.instanceMethod yX1_isFull, Cond.selects RX1 yX1_isFull yX1_isFull, Cond.code yX1_isFull cX1_isFull 2 (some .boolean), Cond.methodLink RX1 49 yX1_goes, Cond.instanceMethod yX1_goes, Cond.selects RX1 yX1_goes yX1_goes, Cond.code yX1_goes cX1_goes 3 (some .int), Cond.fieldLink RX1 36 "YardHoldsModel" "broken" "I", Cond.methodLink RX1 53 yX1_come, Cond.instanceMethod yX1_come, Cond.selects RX1 yX1_come yX1_come, Cond.code yX1_come cX1_come 3 none, Cond.methodLink RL 27 yX0_uncouple, Cond.instanceMethod yX0_uncouple, Cond.selects RX0 yX0_uncouple yX0_uncouple, Cond.code yX0_uncouple cX0_uncouple 2 (some .int), Cond.methodLink RX0 33 yX0_go, Cond.instanceMethod yX0_go, Cond.selects RX0 yX0_go yX0_go, Cond.code yX0_go cX0_go 3 (some .int), Cond.methodLink RL 30 yX1_uncouple, Cond.instanceMethod yX1_uncouple]
def wsL_law_r6 : List Cond := [Cond.selects RX1 yX1_uncouple yX1_uncouple, Cond.code yX1_uncouple cX1_uncouple 3 (some .int), Cond.methodLink RX1 57 yX1_last, Cond.instanceMethod yX1_last, Cond.selects RX1 yX1_last yX1_last, Cond.code yX1_last cX1_last 2 (some .int), Cond.methodLink RL 31 yX0_shunt, Cond.instanceMethod yX0_shunt, Cond.selects RX0 yX0_shunt yX0_shunt, Cond.code yX0_shunt cX0_shunt 4 (some .int), Cond.fieldLink RX0 40 "YardHolds" "moved" "I", Cond.methodLink RX0 44 yX0_moveWagons, Cond.instanceMethod yX0_moveWagons, Cond.selects RX0 yX0_moveWagons yX0_moveWagons, Cond.code yX0_moveWagons cX0_moveWagons 6 (some .int), Cond.methodLink RL 35 yX1_shunt, Cond.instanceMethod yX1_shunt, Cond.selects RX1 yX1_shunt yX1_shunt, Cond.code yX1_shunt cX1_shunt 7 (some .int), Cond.fieldLink RX1 61 "YardHoldsModel" "moved" "I", Cond.methodLink RL 36 yX0_sweep, Cond.instanceMethod yX0_sweep, Cond.selects RX0 yX0_sweep yX0_sweep, Cond.code yX0_sweep cX0_sweep 4 (some .int)]
def wsL_law_r7 : List Cond := [Cond.methodLink RX0 48 yX0_sortWagons, Cond.instanceMethod yX0_sortWagons, Cond.selects RX0 yX0_sortWagons yX0_sortWagons, Cond.code yX0_sortWagons cX0_sortWagons 8 (some .int), Cond.methodLink RL 39 yX1_sweep, Cond.instanceMethod yX1_sweep, Cond.selects RX1 yX1_sweep yX1_sweep, Cond.code yX1_sweep cX1_sweep 8 (some .int), Cond.methodLink RL 42 yX0_tour, Cond.instanceMethod yX0_tour, Cond.selects RX0 yX0_tour yX0_tour, Cond.code yX0_tour cX0_tour 8 (some .int), Cond.methodLink RX0 51 yX0_isRowLength, Cond.static yX0_isRowLength, Cond.code yX0_isRowLength cX0_isRowLength 1 (some .boolean), Cond.methodLink RX0 54 yX0_trackOfRow, Cond.static yX0_trackOfRow, Cond.code yX0_trackOfRow cX0_trackOfRow 3 (some .int), Cond.methodLink RX0 58 yX0_takeOnTour, Cond.instanceMethod yX0_takeOnTour, Cond.selects RX0 yX0_takeOnTour yX0_takeOnTour, Cond.code yX0_takeOnTour cX0_takeOnTour 3 (some .int), Cond.methodLink RL 46 yX1_tour, Cond.instanceMethod yX1_tour]
def wsL_law_r8 : List Cond := [Cond.selects RX1 yX1_tour yX1_tour, Cond.code yX1_tour cX1_tour 9 (some .int), Cond.methodLink RX1 64 yX1_trackOf, Cond.static yX1_trackOf, Cond.code yX1_trackOf cX1_trackOf 3 (some .int), Cond.methodLink RL 47 yX0_chain, Cond.instanceMethod yX0_chain, Cond.selects RX0 yX0_chain yX0_chain, Cond.code yX0_chain cX0_chain 7 (some .int), Cond.methodLink RL 50 yX1_chain, Cond.instanceMethod yX1_chain, Cond.selects RX1 yX1_chain yX1_chain, Cond.code yX1_chain cX1_chain 7 (some .int), Cond.methodLink RL 51 yX0_survey, Cond.instanceMethod yX0_survey, Cond.selects RX0 yX0_survey yX0_survey, Cond.code yX0_survey cX0_survey 7 (some .int), Cond.methodLink RL 54 yX1_survey, Cond.instanceMethod yX1_survey, Cond.selects RX1 yX1_survey yX1_survey, Cond.code yX1_survey cX1_survey 7 (some .int), Cond.methodLink RL 55 yX0_turn, Cond.instanceMethod yX0_turn, Cond.selects RX0 yX0_turn yX0_turn]
def wsL_law_r9 : List Cond := [Cond.code yX0_turn cX0_turn 4 (some .int), Cond.methodLink RX0 64 yX0_exchangePlaces, Cond.instanceMethod yX0_exchangePlaces, Cond.selects RX0 yX0_exchangePlaces yX0_exchangePlaces, Cond.code yX0_exchangePlaces cX0_exchangePlaces 4 none, Cond.methodLink RL 58 yX1_turn, Cond.instanceMethod yX1_turn, Cond.selects RX1 yX1_turn yX1_turn, Cond.code yX1_turn cX1_turn 8 (some .int), Cond.methodLink RL 59 yX0_swap, Cond.instanceMethod yX0_swap, Cond.selects RX0 yX0_swap yX0_swap, Cond.code yX0_swap cX0_swap 3 (some .int), Cond.methodLink RX0 68 yX0_exchangeRows, Cond.instanceMethod yX0_exchangeRows, Cond.selects RX0 yX0_exchangeRows yX0_exchangeRows, Cond.code yX0_exchangeRows cX0_exchangeRows 6 (some .int), Cond.methodLink RL 62 yX1_swap, Cond.instanceMethod yX1_swap, Cond.selects RX1 yX1_swap yX1_swap, Cond.code yX1_swap cX1_swap 5 (some .int), Cond.methodLink RL 63 yX0_wagon, Cond.instanceMethod yX0_wagon, Cond.selects RX0 yX0_wagon yX0_wagon]
def wsL_law_r10 : List Cond := [Cond.code yX0_wagon cX0_wagon 3 (some .int), Cond.methodLink RL 66 yX1_wagon, Cond.instanceMethod yX1_wagon, Cond.selects RX1 yX1_wagon yX1_wagon, Cond.code yX1_wagon cX1_wagon 3 (some .int), Cond.methodLink RL 67 yX0_told, Cond.instanceMethod yX0_told, Cond.selects RX0 yX0_told yX0_told, Cond.code yX0_told cX0_told 2 (some .int), Cond.methodLink RX0 86 yX0_tracksThere, Cond.instanceMethod yX0_tracksThere, Cond.selects RX0 yX0_tracksThere yX0_tracksThere, Cond.code yX0_tracksThere cX0_tracksThere 3 (some .int), Cond.methodLink RL 70 yX1_told, Cond.instanceMethod yX1_told, Cond.selects RX1 yX1_told yX1_told, Cond.code yX1_told cX1_told 4 (some .int)]
def wsL_law : List Cond := (wsL_law_r1 ++ (wsL_law_r2 ++ (wsL_law_r3 ++ (wsL_law_r4 ++ (wsL_law_r5 ++ (wsL_law_r6 ++ (wsL_law_r7 ++ (wsL_law_r8 ++ (wsL_law_r9 ++ wsL_law_r10))))))))) ++ wsX00 ++ wsX10 ++ ([] : List Cond)
set_option maxRecDepth 20000 in
theorem wsL_law_in : ∀ w ∈ wsL_law, w ∈ lw_tbl := fun w h => (goodIn_p wsL_law [25, 28, 177, 61, 64, 68, 210, 213, 216, 72, 220, 76, 80, 84, 87, 91, 94, 98, 224, 228, 232, 236, 240, 102, 106, 244, 248, 110, 114, 252, 118, 122, 256, 126, 129, 132, 136, 260, 263, 140, 267, 144, 271, 148, 152, 275, 156, 160, 279, 164, 283, 168, 172, 287] (by decide +kernel) (by decide +kernel) w h).1
theorem inlX0 : ∀ w ∈ wsX00, w ∈ wsL_law := fun _ h => List.mem_append_left _ (List.mem_append_left _ (List.mem_append_right _ h))
theorem inX0 : ∀ w ∈ wsX00, w ∈ lw_tbl := fun w h => wsL_law_in w (inlX0 w h)
theorem inlX1 : ∀ w ∈ wsX10, w ∈ wsL_law := fun _ h => List.mem_append_left _ (List.mem_append_right _ h)
theorem inX1 : ∀ w ∈ wsX10, w ∈ lw_tbl := fun w h => wsL_law_in w (inlX1 w h)
theorem inJ9 : ∀ w ∈ wsJ90, w ∈ lw_tbl := by decide +kernel
theorem dX0_init_0 : decode cX0_init 0 = .ok (.aload_n 0, 1) := by decide +kernel
theorem dX0_init_1 : decode cX0_init 1 = .ok (.invokespecial 1, 3) := by decide +kernel
theorem dX0_init_4 : decode cX0_init 4 = .ok (.aload_n 0, 1) := by decide +kernel
theorem dX0_init_5 : decode cX0_init 5 = .ok (.bipush 8, 2) := by decide +kernel
theorem dX0_init_7 : decode cX0_init 7 = .ok (.newarray .int, 2) := by decide +kernel
theorem dX0_init_9 : decode cX0_init 9 = .ok (.putfield 9, 3) := by decide +kernel
theorem dX0_init_12 : decode cX0_init 12 = .ok (.aload_n 0, 1) := by decide +kernel
theorem dX0_init_13 : decode cX0_init 13 = .ok (.bipush 8, 2) := by decide +kernel
theorem dX0_init_15 : decode cX0_init 15 = .ok (.newarray .int, 2) := by decide +kernel
theorem dX0_init_17 : decode cX0_init 17 = .ok (.putfield 13, 3) := by decide +kernel
theorem dX0_init_20 : decode cX0_init 20 = .ok (.aload_n 0, 1) := by decide +kernel
theorem dX0_init_21 : decode cX0_init 21 = .ok (.bipush 96, 2) := by decide +kernel
theorem dX0_init_23 : decode cX0_init 23 = .ok (.newarray .int, 2) := by decide +kernel
theorem dX0_init_25 : decode cX0_init 25 = .ok (.putfield 16, 3) := by decide +kernel
theorem dX0_init_28 : decode cX0_init 28 = .ok (.return_, 1) := by decide +kernel
set_option maxRecDepth 20000 in
theorem ggX0_lay_X0_isTrack : GoodIn wsX0_lay wsX0_isTrack := goodIn_r _ [5] (by decide +kernel) (by decide +kernel)
set_option maxRecDepth 20000 in
theorem gX0_lay_X0_isTrack : GoodIn wsX0_lay (va_wsS RX0 19 yX0_isTrack wsX0_isTrack) := goodIn_app (goodIn_of _ (by decide +kernel)) ggX0_lay_X0_isTrack
set_option maxRecDepth 20000 in
theorem ggX0_lay_X0_isThere : GoodIn wsX0_lay wsX0_isThere := goodIn_r _ [9, 1, 10, 11, 12, 13, 14, 15, 16, 17, 18] (by decide +kernel) (by decide +kernel)
set_option maxRecDepth 20000 in
theorem gX0_lay_X0_isThere : GoodIn wsX0_lay (wsV RX0 23 RX0 yX0_isThere wsX0_isThere) := goodIn_app (goodIn_of _ (by decide +kernel)) ggX0_lay_X0_isThere
theorem dX0_lay_0 : decode cX0_lay 0 = .ok (.iload_n 1, 1) := by decide +kernel
theorem dX0_lay_1 : decode cX0_lay 1 = .ok (.invokestatic 19, 3) := by decide +kernel
theorem dX0_lay_4 : decode cX0_lay 4 = .ok (.ifCond .eq 14, 3) := by decide +kernel
theorem dX0_lay_7 : decode cX0_lay 7 = .ok (.iload_n 2, 1) := by decide +kernel
theorem dX0_lay_8 : decode cX0_lay 8 = .ok (.iconst 1, 1) := by decide +kernel
theorem dX0_lay_9 : decode cX0_lay 9 = .ok (.if_icmp .lt 9, 3) := by decide +kernel
theorem dX0_lay_12 : decode cX0_lay 12 = .ok (.iload_n 2, 1) := by decide +kernel
theorem dX0_lay_13 : decode cX0_lay 13 = .ok (.bipush 12, 2) := by decide +kernel
theorem dX0_lay_15 : decode cX0_lay 15 = .ok (.if_icmp .le 6, 3) := by decide +kernel
theorem dX0_lay_18 : decode cX0_lay 18 = .ok (.bipush (-2), 2) := by decide +kernel
theorem dX0_lay_20 : decode cX0_lay 20 = .ok (.ireturn, 1) := by decide +kernel
theorem dX0_lay_21 : decode cX0_lay 21 = .ok (.aload_n 0, 1) := by decide +kernel
theorem dX0_lay_22 : decode cX0_lay 22 = .ok (.iload_n 1, 1) := by decide +kernel
theorem dX0_lay_23 : decode cX0_lay 23 = .ok (.invokevirtual 23, 3) := by decide +kernel
theorem dX0_lay_26 : decode cX0_lay 26 = .ok (.ifCond .eq 5, 3) := by decide +kernel
theorem dX0_lay_29 : decode cX0_lay 29 = .ok (.iconst 0, 1) := by decide +kernel
theorem dX0_lay_30 : decode cX0_lay 30 = .ok (.ireturn, 1) := by decide +kernel
theorem dX0_lay_31 : decode cX0_lay 31 = .ok (.aload_n 0, 1) := by decide +kernel
theorem dX0_lay_32 : decode cX0_lay 32 = .ok (.getfield 9, 3) := by decide +kernel
theorem dX0_lay_35 : decode cX0_lay 35 = .ok (.iload_n 1, 1) := by decide +kernel
theorem dX0_lay_36 : decode cX0_lay 36 = .ok (.iload_n 2, 1) := by decide +kernel
theorem dX0_lay_37 : decode cX0_lay 37 = .ok (.iastore, 1) := by decide +kernel
theorem dX0_lay_38 : decode cX0_lay 38 = .ok (.iconst 1, 1) := by decide +kernel
theorem dX0_lay_39 : decode cX0_lay 39 = .ok (.ireturn, 1) := by decide +kernel
set_option maxRecDepth 20000 in
theorem ggX0_lift_X0_isTrack : GoodIn wsX0_lift wsX0_isTrack := goodIn_r _ [6] (by decide +kernel) (by decide +kernel)
set_option maxRecDepth 20000 in
theorem gX0_lift_X0_isTrack : GoodIn wsX0_lift (va_wsS RX0 19 yX0_isTrack wsX0_isTrack) := goodIn_app (goodIn_of _ (by decide +kernel)) ggX0_lift_X0_isTrack
set_option maxRecDepth 20000 in
theorem ggX0_lift_X0_isThere : GoodIn wsX0_lift wsX0_isThere := goodIn_r _ [10, 2, 11, 12, 13, 14, 15, 16, 17, 18, 19] (by decide +kernel) (by decide +kernel)
set_option maxRecDepth 20000 in
theorem gX0_lift_X0_isThere : GoodIn wsX0_lift (wsV RX0 23 RX0 yX0_isThere wsX0_isThere) := goodIn_app (goodIn_of _ (by decide +kernel)) ggX0_lift_X0_isThere
theorem dX0_lift_0 : decode cX0_lift 0 = .ok (.iload_n 1, 1) := by decide +kernel
theorem dX0_lift_1 : decode cX0_lift 1 = .ok (.invokestatic 19, 3) := by decide +kernel
theorem dX0_lift_4 : decode cX0_lift 4 = .ok (.ifCond .ne 6, 3) := by decide +kernel
theorem dX0_lift_7 : decode cX0_lift 7 = .ok (.bipush (-2), 2) := by decide +kernel
theorem dX0_lift_9 : decode cX0_lift 9 = .ok (.ireturn, 1) := by decide +kernel
theorem dX0_lift_10 : decode cX0_lift 10 = .ok (.aload_n 0, 1) := by decide +kernel
theorem dX0_lift_11 : decode cX0_lift 11 = .ok (.iload_n 1, 1) := by decide +kernel
theorem dX0_lift_12 : decode cX0_lift 12 = .ok (.invokevirtual 23, 3) := by decide +kernel
theorem dX0_lift_15 : decode cX0_lift 15 = .ok (.ifCond .ne 6, 3) := by decide +kernel
theorem dX0_lift_18 : decode cX0_lift 18 = .ok (.bipush (-3), 2) := by decide +kernel
theorem dX0_lift_20 : decode cX0_lift 20 = .ok (.ireturn, 1) := by decide +kernel
theorem dX0_lift_21 : decode cX0_lift 21 = .ok (.aload_n 0, 1) := by decide +kernel
theorem dX0_lift_22 : decode cX0_lift 22 = .ok (.getfield 13, 3) := by decide +kernel
theorem dX0_lift_25 : decode cX0_lift 25 = .ok (.iload_n 1, 1) := by decide +kernel
theorem dX0_lift_26 : decode cX0_lift 26 = .ok (.iaload, 1) := by decide +kernel
theorem dX0_lift_27 : decode cX0_lift 27 = .ok (.istore_n 2, 1) := by decide +kernel
theorem dX0_lift_28 : decode cX0_lift 28 = .ok (.aload_n 0, 1) := by decide +kernel
theorem dX0_lift_29 : decode cX0_lift 29 = .ok (.getfield 9, 3) := by decide +kernel
theorem dX0_lift_32 : decode cX0_lift 32 = .ok (.iload_n 1, 1) := by decide +kernel
theorem dX0_lift_33 : decode cX0_lift 33 = .ok (.iconst 0, 1) := by decide +kernel
theorem dX0_lift_34 : decode cX0_lift 34 = .ok (.iastore, 1) := by decide +kernel
theorem dX0_lift_35 : decode cX0_lift 35 = .ok (.aload_n 0, 1) := by decide +kernel
theorem dX0_lift_36 : decode cX0_lift 36 = .ok (.getfield 13, 3) := by decide +kernel
theorem dX0_lift_39 : decode cX0_lift 39 = .ok (.iload_n 1, 1) := by decide +kernel
theorem dX0_lift_40 : decode cX0_lift 40 = .ok (.iconst 0, 1) := by decide +kernel
theorem dX0_lift_41 : decode cX0_lift 41 = .ok (.iastore, 1) := by decide +kernel
theorem dX0_lift_42 : decode cX0_lift 42 = .ok (.iload_n 2, 1) := by decide +kernel
theorem dX0_lift_43 : decode cX0_lift 43 = .ok (.ireturn, 1) := by decide +kernel
set_option maxRecDepth 20000 in
theorem ggX0_couple_X0_isTrack : GoodIn wsX0_couple wsX0_isTrack := goodIn_r _ [4] (by decide +kernel) (by decide +kernel)
set_option maxRecDepth 20000 in
theorem gX0_couple_X0_isTrack : GoodIn wsX0_couple (va_wsS RX0 19 yX0_isTrack wsX0_isTrack) := goodIn_app (goodIn_of _ (by decide +kernel)) ggX0_couple_X0_isTrack
set_option maxRecDepth 20000 in
theorem ggX0_couple_X0_holdAndCome : GoodIn wsX0_couple wsX0_holdAndCome := goodIn_r _ [8, 9, 10, 11, 3, 12, 13, 14, 15, 16, 17, 18, 19, 20, 21, 22, 23, 24, 25, 26, 27, 28, 29, 30, 31, 32, 33, 34, 35, 36, 37, 38, 39, 40, 41, 42, 43, 44, 45, 46, 47, 48] (by decide +kernel) (by decide +kernel)
set_option maxRecDepth 20000 in
theorem gX0_couple_X0_holdAndCome : GoodIn wsX0_couple (wsV RX0 26 RX0 yX0_holdAndCome wsX0_holdAndCome) := goodIn_app (goodIn_of _ (by decide +kernel)) ggX0_couple_X0_holdAndCome
theorem dX0_couple_0 : decode cX0_couple 0 = .ok (.iload_n 1, 1) := by decide +kernel
theorem dX0_couple_1 : decode cX0_couple 1 = .ok (.invokestatic 19, 3) := by decide +kernel
theorem dX0_couple_4 : decode cX0_couple 4 = .ok (.ifCond .eq 15, 3) := by decide +kernel
theorem dX0_couple_7 : decode cX0_couple 7 = .ok (.iload_n 2, 1) := by decide +kernel
theorem dX0_couple_8 : decode cX0_couple 8 = .ok (.iconst 1, 1) := by decide +kernel
theorem dX0_couple_9 : decode cX0_couple 9 = .ok (.if_icmp .lt 10, 3) := by decide +kernel
theorem dX0_couple_12 : decode cX0_couple 12 = .ok (.iload_n 2, 1) := by decide +kernel
theorem dX0_couple_13 : decode cX0_couple 13 = .ok (.sipush 999, 3) := by decide +kernel
theorem dX0_couple_16 : decode cX0_couple 16 = .ok (.if_icmp .le 6, 3) := by decide +kernel
theorem dX0_couple_19 : decode cX0_couple 19 = .ok (.bipush (-2), 2) := by decide +kernel
theorem dX0_couple_21 : decode cX0_couple 21 = .ok (.ireturn, 1) := by decide +kernel
theorem dX0_couple_22 : decode cX0_couple 22 = .ok (.aload_n 0, 1) := by decide +kernel
theorem dX0_couple_23 : decode cX0_couple 23 = .ok (.iload_n 1, 1) := by decide +kernel
theorem dX0_couple_24 : decode cX0_couple 24 = .ok (.iload_n 2, 1) := by decide +kernel
theorem dX0_couple_25 : decode cX0_couple 25 = .ok (.invokevirtual 26, 3) := by decide +kernel
theorem dX0_couple_28 : decode cX0_couple 28 = .ok (.ireturn, 1) := by decide +kernel
set_option maxRecDepth 20000 in
theorem ggX0_uncouple_X0_isTrack : GoodIn wsX0_uncouple wsX0_isTrack := goodIn_r _ [4] (by decide +kernel) (by decide +kernel)
set_option maxRecDepth 20000 in
theorem gX0_uncouple_X0_isTrack : GoodIn wsX0_uncouple (va_wsS RX0 19 yX0_isTrack wsX0_isTrack) := goodIn_app (goodIn_of _ (by decide +kernel)) ggX0_uncouple_X0_isTrack
set_option maxRecDepth 20000 in
theorem ggX0_uncouple_X0_hold : GoodIn wsX0_uncouple wsX0_hold := goodIn_r _ [8, 9, 10, 11, 12, 13, 14, 15, 16, 17, 18, 19, 3, 20, 21, 36, 37, 38, 39, 40, 41, 42, 43, 44] (by decide +kernel) (by decide +kernel)
set_option maxRecDepth 20000 in
theorem gX0_uncouple_X0_hold : GoodIn wsX0_uncouple (wsV RX0 30 RX0 yX0_hold wsX0_hold) := goodIn_app (goodIn_of _ (by decide +kernel)) ggX0_uncouple_X0_hold
set_option maxRecDepth 20000 in
theorem ggX0_uncouple_X0_go : GoodIn wsX0_uncouple wsX0_go := goodIn_r _ [25, 26, 27, 28, 29, 3, 30, 36, 37, 38, 39, 40, 41, 42, 43, 44] (by decide +kernel) (by decide +kernel)
set_option maxRecDepth 20000 in
theorem gX0_uncouple_X0_go : GoodIn wsX0_uncouple (wsV RX0 33 RX0 yX0_go wsX0_go) := goodIn_app (goodIn_of _ (by decide +kernel)) ggX0_uncouple_X0_go
set_option maxRecDepth 20000 in
theorem ggX0_uncouple_X0_letGo : GoodIn wsX0_uncouple wsX0_letGo := goodIn_r _ [34, 11, 35, 36, 37, 38, 39, 40, 41, 42, 43, 44] (by decide +kernel) (by decide +kernel)
set_option maxRecDepth 20000 in
theorem gX0_uncouple_X0_letGo : GoodIn wsX0_uncouple (wsV RX0 37 RX0 yX0_letGo wsX0_letGo) := goodIn_app (goodIn_of _ (by decide +kernel)) ggX0_uncouple_X0_letGo
theorem dX0_uncouple_0 : decode cX0_uncouple 0 = .ok (.iload_n 1, 1) := by decide +kernel
theorem dX0_uncouple_1 : decode cX0_uncouple 1 = .ok (.invokestatic 19, 3) := by decide +kernel
theorem dX0_uncouple_4 : decode cX0_uncouple 4 = .ok (.ifCond .ne 6, 3) := by decide +kernel
theorem dX0_uncouple_7 : decode cX0_uncouple 7 = .ok (.bipush (-2), 2) := by decide +kernel
theorem dX0_uncouple_9 : decode cX0_uncouple 9 = .ok (.ireturn, 1) := by decide +kernel
theorem dX0_uncouple_10 : decode cX0_uncouple 10 = .ok (.aload_n 0, 1) := by decide +kernel
theorem dX0_uncouple_11 : decode cX0_uncouple 11 = .ok (.iload_n 1, 1) := by decide +kernel
theorem dX0_uncouple_12 : decode cX0_uncouple 12 = .ok (.invokevirtual 30, 3) := by decide +kernel
theorem dX0_uncouple_15 : decode cX0_uncouple 15 = .ok (.ifCond .ne 6, 3) := by decide +kernel
theorem dX0_uncouple_18 : decode cX0_uncouple 18 = .ok (.bipush (-3), 2) := by decide +kernel
theorem dX0_uncouple_20 : decode cX0_uncouple 20 = .ok (.ireturn, 1) := by decide +kernel
theorem dX0_uncouple_21 : decode cX0_uncouple 21 = .ok (.aload_n 0, 1) := by decide +kernel
theorem dX0_uncouple_22 : decode cX0_uncouple 22 = .ok (.iconst 1, 1) := by decide +kernel
theorem dX0_uncouple_23 : decode cX0_uncouple 23 = .ok (.aload_n 0, 1) := by decide +kernel
theorem dX0_uncouple_24 : decode cX0_uncouple 24 = .ok (.iload_n 1, 1) := by decide +kernel
theorem dX0_uncouple_25 : decode cX0_uncouple 25 = .ok (.invokevirtual 33, 3) := by decide +kernel
theorem dX0_uncouple_28 : decode cX0_uncouple 28 = .ok (.invokevirtual 37, 3) := by decide +kernel
theorem dX0_uncouple_31 : decode cX0_uncouple 31 = .ok (.ireturn, 1) := by decide +kernel
set_option maxRecDepth 20000 in
theorem ggX0_shunt_X0_isTrack : GoodIn wsX0_shunt wsX0_isTrack := goodIn_r _ [5] (by decide +kernel) (by decide +kernel)
set_option maxRecDepth 20000 in
theorem gX0_shunt_X0_isTrack : GoodIn wsX0_shunt (va_wsS RX0 19 yX0_isTrack wsX0_isTrack) := goodIn_app (goodIn_of _ (by decide +kernel)) ggX0_shunt_X0_isTrack
set_option maxRecDepth 20000 in
theorem ggX0_shunt_X0_hold : GoodIn wsX0_shunt wsX0_hold := goodIn_r _ [9, 10, 11, 12, 13, 14, 15, 16, 17, 18, 19, 20, 4, 21, 22, 45, 46, 47, 48, 49, 50, 51, 52, 53] (by decide +kernel) (by decide +kernel)
set_option maxRecDepth 20000 in
theorem gX0_shunt_X0_hold : GoodIn wsX0_shunt (wsV RX0 30 RX0 yX0_hold wsX0_hold) := goodIn_app (goodIn_of _ (by decide +kernel)) ggX0_shunt_X0_hold
set_option maxRecDepth 20000 in
theorem ggX0_shunt_X0_letGo : GoodIn wsX0_shunt wsX0_letGo := goodIn_r _ [26, 12, 27, 45, 46, 47, 48, 49, 50, 51, 52, 53] (by decide +kernel) (by decide +kernel)
set_option maxRecDepth 20000 in
theorem gX0_shunt_X0_letGo : GoodIn wsX0_shunt (wsV RX0 37 RX0 yX0_letGo wsX0_letGo) := goodIn_app (goodIn_of _ (by decide +kernel)) ggX0_shunt_X0_letGo
set_option maxRecDepth 20000 in
theorem ggX0_shunt_X0_moveWagons : GoodIn wsX0_shunt wsX0_moveWagons := goodIn_r _ [31, 1, 32, 33, 34, 4, 35, 36, 37, 38, 39, 40, 41, 42, 43, 44, 22, 45, 46, 47, 48, 49, 50, 51, 52, 53] (by decide +kernel) (by decide +kernel)
set_option maxRecDepth 20000 in
theorem gX0_shunt_X0_moveWagons : GoodIn wsX0_shunt (wsV RX0 44 RX0 yX0_moveWagons wsX0_moveWagons) := goodIn_app (goodIn_of _ (by decide +kernel)) ggX0_shunt_X0_moveWagons
theorem dX0_shunt_0 : decode cX0_shunt 0 = .ok (.iload_n 1, 1) := by decide +kernel
theorem dX0_shunt_1 : decode cX0_shunt 1 = .ok (.invokestatic 19, 3) := by decide +kernel
theorem dX0_shunt_4 : decode cX0_shunt 4 = .ok (.ifCond .eq 20, 3) := by decide +kernel
theorem dX0_shunt_7 : decode cX0_shunt 7 = .ok (.iload_n 2, 1) := by decide +kernel
theorem dX0_shunt_8 : decode cX0_shunt 8 = .ok (.invokestatic 19, 3) := by decide +kernel
theorem dX0_shunt_11 : decode cX0_shunt 11 = .ok (.ifCond .eq 13, 3) := by decide +kernel
theorem dX0_shunt_14 : decode cX0_shunt 14 = .ok (.iload_n 3, 1) := by decide +kernel
theorem dX0_shunt_15 : decode cX0_shunt 15 = .ok (.ifCond .lt 9, 3) := by decide +kernel
theorem dX0_shunt_18 : decode cX0_shunt 18 = .ok (.iload_n 3, 1) := by decide +kernel
theorem dX0_shunt_19 : decode cX0_shunt 19 = .ok (.bipush 20, 2) := by decide +kernel
theorem dX0_shunt_21 : decode cX0_shunt 21 = .ok (.if_icmp .le 6, 3) := by decide +kernel
theorem dX0_shunt_24 : decode cX0_shunt 24 = .ok (.bipush (-2), 2) := by decide +kernel
theorem dX0_shunt_26 : decode cX0_shunt 26 = .ok (.ireturn, 1) := by decide +kernel
theorem dX0_shunt_27 : decode cX0_shunt 27 = .ok (.aload_n 0, 1) := by decide +kernel
theorem dX0_shunt_28 : decode cX0_shunt 28 = .ok (.iconst 0, 1) := by decide +kernel
theorem dX0_shunt_29 : decode cX0_shunt 29 = .ok (.putfield 40, 3) := by decide +kernel
theorem dX0_shunt_32 : decode cX0_shunt 32 = .ok (.aload_n 0, 1) := by decide +kernel
theorem dX0_shunt_33 : decode cX0_shunt 33 = .ok (.iload_n 1, 1) := by decide +kernel
theorem dX0_shunt_34 : decode cX0_shunt 34 = .ok (.invokevirtual 30, 3) := by decide +kernel
theorem dX0_shunt_37 : decode cX0_shunt 37 = .ok (.ifCond .ne 6, 3) := by decide +kernel
theorem dX0_shunt_40 : decode cX0_shunt 40 = .ok (.bipush (-3), 2) := by decide +kernel
theorem dX0_shunt_42 : decode cX0_shunt 42 = .ok (.ireturn, 1) := by decide +kernel
theorem dX0_shunt_43 : decode cX0_shunt 43 = .ok (.aload_n 0, 1) := by decide +kernel
theorem dX0_shunt_44 : decode cX0_shunt 44 = .ok (.iload_n 2, 1) := by decide +kernel
theorem dX0_shunt_45 : decode cX0_shunt 45 = .ok (.invokevirtual 30, 3) := by decide +kernel
theorem dX0_shunt_48 : decode cX0_shunt 48 = .ok (.ifCond .ne 11, 3) := by decide +kernel
theorem dX0_shunt_51 : decode cX0_shunt 51 = .ok (.aload_n 0, 1) := by decide +kernel
theorem dX0_shunt_52 : decode cX0_shunt 52 = .ok (.iconst 1, 1) := by decide +kernel
theorem dX0_shunt_53 : decode cX0_shunt 53 = .ok (.bipush (-3), 2) := by decide +kernel
theorem dX0_shunt_55 : decode cX0_shunt 55 = .ok (.invokevirtual 37, 3) := by decide +kernel
theorem dX0_shunt_58 : decode cX0_shunt 58 = .ok (.ireturn, 1) := by decide +kernel
theorem dX0_shunt_59 : decode cX0_shunt 59 = .ok (.aload_n 0, 1) := by decide +kernel
theorem dX0_shunt_60 : decode cX0_shunt 60 = .ok (.iconst 2, 1) := by decide +kernel
theorem dX0_shunt_61 : decode cX0_shunt 61 = .ok (.aload_n 0, 1) := by decide +kernel
theorem dX0_shunt_62 : decode cX0_shunt 62 = .ok (.iload_n 1, 1) := by decide +kernel
theorem dX0_shunt_63 : decode cX0_shunt 63 = .ok (.iload_n 2, 1) := by decide +kernel
theorem dX0_shunt_64 : decode cX0_shunt 64 = .ok (.iload_n 3, 1) := by decide +kernel
theorem dX0_shunt_65 : decode cX0_shunt 65 = .ok (.invokevirtual 44, 3) := by decide +kernel
theorem dX0_shunt_68 : decode cX0_shunt 68 = .ok (.invokevirtual 37, 3) := by decide +kernel
theorem dX0_shunt_71 : decode cX0_shunt 71 = .ok (.ireturn, 1) := by decide +kernel
set_option maxRecDepth 20000 in
theorem ggX0_sweep_X0_isTrack : GoodIn wsX0_sweep wsX0_isTrack := goodIn_r _ [5] (by decide +kernel) (by decide +kernel)
set_option maxRecDepth 20000 in
theorem gX0_sweep_X0_isTrack : GoodIn wsX0_sweep (va_wsS RX0 19 yX0_isTrack wsX0_isTrack) := goodIn_app (goodIn_of _ (by decide +kernel)) ggX0_sweep_X0_isTrack
set_option maxRecDepth 20000 in
theorem ggX0_sweep_X0_hold : GoodIn wsX0_sweep wsX0_hold := goodIn_r _ [9, 10, 11, 12, 13, 14, 15, 16, 17, 18, 19, 20, 4, 21, 22, 49, 50, 51, 52, 53, 54, 55, 56, 57] (by decide +kernel) (by decide +kernel)
set_option maxRecDepth 20000 in
theorem gX0_sweep_X0_hold : GoodIn wsX0_sweep (wsV RX0 30 RX0 yX0_hold wsX0_hold) := goodIn_app (goodIn_of _ (by decide +kernel)) ggX0_sweep_X0_hold
set_option maxRecDepth 20000 in
theorem ggX0_sweep_X0_sortWagons : GoodIn wsX0_sweep wsX0_sortWagons := goodIn_r _ [26, 27, 1, 28, 29, 30, 4, 31, 32, 33, 34, 35, 36, 37, 38, 39, 6, 7, 8, 9, 10, 11, 12, 13, 14, 15, 16, 17, 18, 19, 20, 21, 22, 40, 41, 42, 43, 44, 45, 46, 47, 48, 49, 50, 51, 52, 53, 54, 55, 56, 57] (by decide +kernel) (by decide +kernel)
set_option maxRecDepth 20000 in
theorem gX0_sweep_X0_sortWagons : GoodIn wsX0_sweep (wsV RX0 48 RX0 yX0_sortWagons wsX0_sortWagons) := goodIn_app (goodIn_of _ (by decide +kernel)) ggX0_sweep_X0_sortWagons
set_option maxRecDepth 20000 in
theorem ggX0_sweep_X0_letGo : GoodIn wsX0_sweep wsX0_letGo := goodIn_r _ [47, 12, 48, 49, 50, 51, 52, 53, 54, 55, 56, 57] (by decide +kernel) (by decide +kernel)
set_option maxRecDepth 20000 in
theorem gX0_sweep_X0_letGo : GoodIn wsX0_sweep (wsV RX0 37 RX0 yX0_letGo wsX0_letGo) := goodIn_app (goodIn_of _ (by decide +kernel)) ggX0_sweep_X0_letGo
theorem dX0_sweep_0 : decode cX0_sweep 0 = .ok (.iload_n 1, 1) := by decide +kernel
theorem dX0_sweep_1 : decode cX0_sweep 1 = .ok (.invokestatic 19, 3) := by decide +kernel
theorem dX0_sweep_4 : decode cX0_sweep 4 = .ok (.ifCond .eq 27, 3) := by decide +kernel
theorem dX0_sweep_7 : decode cX0_sweep 7 = .ok (.iload_n 2, 1) := by decide +kernel
theorem dX0_sweep_8 : decode cX0_sweep 8 = .ok (.invokestatic 19, 3) := by decide +kernel
theorem dX0_sweep_11 : decode cX0_sweep 11 = .ok (.ifCond .eq 20, 3) := by decide +kernel
theorem dX0_sweep_14 : decode cX0_sweep 14 = .ok (.iload_n 3, 1) := by decide +kernel
theorem dX0_sweep_15 : decode cX0_sweep 15 = .ok (.invokestatic 19, 3) := by decide +kernel
theorem dX0_sweep_18 : decode cX0_sweep 18 = .ok (.ifCond .eq 13, 3) := by decide +kernel
theorem dX0_sweep_21 : decode cX0_sweep 21 = .ok (.iload_n 1, 1) := by decide +kernel
theorem dX0_sweep_22 : decode cX0_sweep 22 = .ok (.iload_n 2, 1) := by decide +kernel
theorem dX0_sweep_23 : decode cX0_sweep 23 = .ok (.if_icmp .eq 8, 3) := by decide +kernel
theorem dX0_sweep_26 : decode cX0_sweep 26 = .ok (.iload_n 1, 1) := by decide +kernel
theorem dX0_sweep_27 : decode cX0_sweep 27 = .ok (.iload_n 3, 1) := by decide +kernel
theorem dX0_sweep_28 : decode cX0_sweep 28 = .ok (.if_icmp .ne 6, 3) := by decide +kernel
theorem dX0_sweep_31 : decode cX0_sweep 31 = .ok (.bipush (-2), 2) := by decide +kernel
theorem dX0_sweep_33 : decode cX0_sweep 33 = .ok (.ireturn, 1) := by decide +kernel
theorem dX0_sweep_34 : decode cX0_sweep 34 = .ok (.aload_n 0, 1) := by decide +kernel
theorem dX0_sweep_35 : decode cX0_sweep 35 = .ok (.iconst 0, 1) := by decide +kernel
theorem dX0_sweep_36 : decode cX0_sweep 36 = .ok (.putfield 40, 3) := by decide +kernel
theorem dX0_sweep_39 : decode cX0_sweep 39 = .ok (.aload_n 0, 1) := by decide +kernel
theorem dX0_sweep_40 : decode cX0_sweep 40 = .ok (.iload_n 1, 1) := by decide +kernel
theorem dX0_sweep_41 : decode cX0_sweep 41 = .ok (.invokevirtual 30, 3) := by decide +kernel
theorem dX0_sweep_44 : decode cX0_sweep 44 = .ok (.ifCond .ne 6, 3) := by decide +kernel
theorem dX0_sweep_47 : decode cX0_sweep 47 = .ok (.bipush (-3), 2) := by decide +kernel
theorem dX0_sweep_49 : decode cX0_sweep 49 = .ok (.ireturn, 1) := by decide +kernel
theorem dX0_sweep_50 : decode cX0_sweep 50 = .ok (.aload_n 0, 1) := by decide +kernel
theorem dX0_sweep_51 : decode cX0_sweep 51 = .ok (.iconst 1, 1) := by decide +kernel
theorem dX0_sweep_52 : decode cX0_sweep 52 = .ok (.aload_n 0, 1) := by decide +kernel
theorem dX0_sweep_53 : decode cX0_sweep 53 = .ok (.iload_n 1, 1) := by decide +kernel
theorem dX0_sweep_54 : decode cX0_sweep 54 = .ok (.iload_n 2, 1) := by decide +kernel
theorem dX0_sweep_55 : decode cX0_sweep 55 = .ok (.iload_n 3, 1) := by decide +kernel
theorem dX0_sweep_56 : decode cX0_sweep 56 = .ok (.invokevirtual 48, 3) := by decide +kernel
theorem dX0_sweep_59 : decode cX0_sweep 59 = .ok (.invokevirtual 37, 3) := by decide +kernel
theorem dX0_sweep_62 : decode cX0_sweep 62 = .ok (.ireturn, 1) := by decide +kernel
set_option maxRecDepth 20000 in
theorem ggX0_tour_X0_isRowLength : GoodIn wsX0_tour wsX0_isRowLength := goodIn_r _ [6] (by decide +kernel) (by decide +kernel)
set_option maxRecDepth 20000 in
theorem gX0_tour_X0_isRowLength : GoodIn wsX0_tour (va_wsS RX0 51 yX0_isRowLength wsX0_isRowLength) := goodIn_app (goodIn_of _ (by decide +kernel)) ggX0_tour_X0_isRowLength
set_option maxRecDepth 20000 in
theorem ggX0_tour_X0_trackOfRow : GoodIn wsX0_tour wsX0_trackOfRow := goodIn_r _ [9] (by decide +kernel) (by decide +kernel)
set_option maxRecDepth 20000 in
theorem gX0_tour_X0_trackOfRow : GoodIn wsX0_tour (va_wsS RX0 54 yX0_trackOfRow wsX0_trackOfRow) := goodIn_app (goodIn_of _ (by decide +kernel)) ggX0_tour_X0_trackOfRow
set_option maxRecDepth 20000 in
theorem ggX0_tour_X0_hold : GoodIn wsX0_tour wsX0_hold := goodIn_r _ [13, 14, 15, 16, 17, 18, 19, 20, 21, 22, 23, 24, 5, 25, 26, 48, 49, 50, 51, 52, 53, 54, 55, 56] (by decide +kernel) (by decide +kernel)
set_option maxRecDepth 20000 in
theorem gX0_tour_X0_hold : GoodIn wsX0_tour (wsV RX0 30 RX0 yX0_hold wsX0_hold) := goodIn_app (goodIn_of _ (by decide +kernel)) ggX0_tour_X0_hold
set_option maxRecDepth 20000 in
theorem ggX0_tour_X0_takeOnTour : GoodIn wsX0_tour wsX0_takeOnTour := goodIn_r _ [30, 1, 31, 32, 33, 5, 34, 2, 35, 36, 37, 38, 39, 40, 41, 42, 26, 48, 49, 50, 51, 52, 53, 54, 55, 56] (by decide +kernel) (by decide +kernel)
set_option maxRecDepth 20000 in
theorem gX0_tour_X0_takeOnTour : GoodIn wsX0_tour (wsV RX0 58 RX0 yX0_takeOnTour wsX0_takeOnTour) := goodIn_app (goodIn_of _ (by decide +kernel)) ggX0_tour_X0_takeOnTour
set_option maxRecDepth 20000 in
theorem ggX0_tour_X0_letGo : GoodIn wsX0_tour wsX0_letGo := goodIn_r _ [46, 16, 47, 48, 49, 50, 51, 52, 53, 54, 55, 56] (by decide +kernel) (by decide +kernel)
set_option maxRecDepth 20000 in
theorem gX0_tour_X0_letGo : GoodIn wsX0_tour (wsV RX0 37 RX0 yX0_letGo wsX0_letGo) := goodIn_app (goodIn_of _ (by decide +kernel)) ggX0_tour_X0_letGo
theorem dX0_tour_0 : decode cX0_tour 0 = .ok (.iload_n 3, 1) := by decide +kernel
theorem dX0_tour_1 : decode cX0_tour 1 = .ok (.invokestatic 51, 3) := by decide +kernel
theorem dX0_tour_4 : decode cX0_tour 4 = .ok (.ifCond .ne 6, 3) := by decide +kernel
theorem dX0_tour_7 : decode cX0_tour 7 = .ok (.bipush (-2), 2) := by decide +kernel
theorem dX0_tour_9 : decode cX0_tour 9 = .ok (.ireturn, 1) := by decide +kernel
theorem dX0_tour_10 : decode cX0_tour 10 = .ok (.aload_n 0, 1) := by decide +kernel
theorem dX0_tour_11 : decode cX0_tour 11 = .ok (.iconst 0, 1) := by decide +kernel
theorem dX0_tour_12 : decode cX0_tour 12 = .ok (.putfield 40, 3) := by decide +kernel
theorem dX0_tour_15 : decode cX0_tour 15 = .ok (.iconst 0, 1) := by decide +kernel
theorem dX0_tour_16 : decode cX0_tour 16 = .ok (.istore 4, 2) := by decide +kernel
theorem dX0_tour_18 : decode cX0_tour 18 = .ok (.iconst 0, 1) := by decide +kernel
theorem dX0_tour_19 : decode cX0_tour 19 = .ok (.istore 5, 2) := by decide +kernel
theorem dX0_tour_21 : decode cX0_tour 21 = .ok (.iload 5, 2) := by decide +kernel
theorem dX0_tour_23 : decode cX0_tour 23 = .ok (.iload_n 3, 1) := by decide +kernel
theorem dX0_tour_24 : decode cX0_tour 24 = .ok (.if_icmp .ge 77, 3) := by decide +kernel
theorem dX0_tour_27 : decode cX0_tour 27 = .ok (.lload_n 1, 1) := by decide +kernel
theorem dX0_tour_28 : decode cX0_tour 28 = .ok (.iload 5, 2) := by decide +kernel
theorem dX0_tour_30 : decode cX0_tour 30 = .ok (.invokestatic 54, 3) := by decide +kernel
theorem dX0_tour_33 : decode cX0_tour 33 = .ok (.istore 6, 2) := by decide +kernel
theorem dX0_tour_35 : decode cX0_tour 35 = .ok (.aload_n 0, 1) := by decide +kernel
theorem dX0_tour_36 : decode cX0_tour 36 = .ok (.iload 6, 2) := by decide +kernel
theorem dX0_tour_38 : decode cX0_tour 38 = .ok (.invokevirtual 30, 3) := by decide +kernel
theorem dX0_tour_41 : decode cX0_tour 41 = .ok (.ifCond .ne 6, 3) := by decide +kernel
theorem dX0_tour_44 : decode cX0_tour 44 = .ok (.bipush (-3), 2) := by decide +kernel
theorem dX0_tour_46 : decode cX0_tour 46 = .ok (.ireturn, 1) := by decide +kernel
theorem dX0_tour_47 : decode cX0_tour 47 = .ok (.aload_n 0, 1) := by decide +kernel
theorem dX0_tour_48 : decode cX0_tour 48 = .ok (.getfield 13, 3) := by decide +kernel
theorem dX0_tour_51 : decode cX0_tour 51 = .ok (.iload 6, 2) := by decide +kernel
theorem dX0_tour_53 : decode cX0_tour 53 = .ok (.iaload, 1) := by decide +kernel
theorem dX0_tour_54 : decode cX0_tour 54 = .ok (.ifCond .ne 7, 3) := by decide +kernel
theorem dX0_tour_57 : decode cX0_tour 57 = .ok (.iconst 1, 1) := by decide +kernel
theorem dX0_tour_58 : decode cX0_tour 58 = .ok (.goto 4, 3) := by decide +kernel
theorem dX0_tour_61 : decode cX0_tour 61 = .ok (.iconst 0, 1) := by decide +kernel
theorem dX0_tour_62 : decode cX0_tour 62 = .ok (.istore 7, 2) := by decide +kernel
theorem dX0_tour_64 : decode cX0_tour 64 = .ok (.iload 7, 2) := by decide +kernel
theorem dX0_tour_66 : decode cX0_tour 66 = .ok (.ifCond .ne 14, 3) := by decide +kernel
theorem dX0_tour_69 : decode cX0_tour 69 = .ok (.iload 4, 2) := by decide +kernel
theorem dX0_tour_71 : decode cX0_tour 71 = .ok (.aload_n 0, 1) := by decide +kernel
theorem dX0_tour_72 : decode cX0_tour 72 = .ok (.iload 6, 2) := by decide +kernel
theorem dX0_tour_74 : decode cX0_tour 74 = .ok (.invokevirtual 58, 3) := by decide +kernel
theorem dX0_tour_77 : decode cX0_tour 77 = .ok (.iadd, 1) := by decide +kernel
theorem dX0_tour_78 : decode cX0_tour 78 = .ok (.istore 4, 2) := by decide +kernel
theorem dX0_tour_80 : decode cX0_tour 80 = .ok (.aload_n 0, 1) := by decide +kernel
theorem dX0_tour_81 : decode cX0_tour 81 = .ok (.iconst 1, 1) := by decide +kernel
theorem dX0_tour_82 : decode cX0_tour 82 = .ok (.iconst 0, 1) := by decide +kernel
theorem dX0_tour_83 : decode cX0_tour 83 = .ok (.invokevirtual 37, 3) := by decide +kernel
theorem dX0_tour_86 : decode cX0_tour 86 = .ok (.pop, 1) := by decide +kernel
theorem dX0_tour_87 : decode cX0_tour 87 = .ok (.iload 7, 2) := by decide +kernel
theorem dX0_tour_89 : decode cX0_tour 89 = .ok (.ifCond .eq 6, 3) := by decide +kernel
theorem dX0_tour_92 : decode cX0_tour 92 = .ok (.goto 9, 3) := by decide +kernel
theorem dX0_tour_95 : decode cX0_tour 95 = .ok (.iinc 5 1, 3) := by decide +kernel
theorem dX0_tour_98 : decode cX0_tour 98 = .ok (.goto (-77), 3) := by decide +kernel
theorem dX0_tour_101 : decode cX0_tour 101 = .ok (.iload 4, 2) := by decide +kernel
theorem dX0_tour_103 : decode cX0_tour 103 = .ok (.ireturn, 1) := by decide +kernel
set_option maxRecDepth 20000 in
theorem ggX0_chain_X0_isRowLength : GoodIn wsX0_chain wsX0_isRowLength := goodIn_r _ [5] (by decide +kernel) (by decide +kernel)
set_option maxRecDepth 20000 in
theorem gX0_chain_X0_isRowLength : GoodIn wsX0_chain (va_wsS RX0 51 yX0_isRowLength wsX0_isRowLength) := goodIn_app (goodIn_of _ (by decide +kernel)) ggX0_chain_X0_isRowLength
set_option maxRecDepth 20000 in
theorem ggX0_chain_X0_trackOfRow : GoodIn wsX0_chain wsX0_trackOfRow := goodIn_r _ [8] (by decide +kernel) (by decide +kernel)
set_option maxRecDepth 20000 in
theorem gX0_chain_X0_trackOfRow : GoodIn wsX0_chain (va_wsS RX0 54 yX0_trackOfRow wsX0_trackOfRow) := goodIn_app (goodIn_of _ (by decide +kernel)) ggX0_chain_X0_trackOfRow
set_option maxRecDepth 20000 in
theorem ggX0_chain_X0_hold : GoodIn wsX0_chain wsX0_hold := goodIn_r _ [12, 13, 14, 15, 16, 17, 18, 19, 20, 21, 22, 23, 4, 24, 25, 31, 32, 33, 34, 35, 36, 37, 38, 39] (by decide +kernel) (by decide +kernel)
set_option maxRecDepth 20000 in
theorem gX0_chain_X0_hold : GoodIn wsX0_chain (wsV RX0 30 RX0 yX0_hold wsX0_hold) := goodIn_app (goodIn_of _ (by decide +kernel)) ggX0_chain_X0_hold
set_option maxRecDepth 20000 in
theorem ggX0_chain_X0_letGo : GoodIn wsX0_chain wsX0_letGo := goodIn_r _ [29, 15, 30, 31, 32, 33, 34, 35, 36, 37, 38, 39] (by decide +kernel) (by decide +kernel)
set_option maxRecDepth 20000 in
theorem gX0_chain_X0_letGo : GoodIn wsX0_chain (wsV RX0 37 RX0 yX0_letGo wsX0_letGo) := goodIn_app (goodIn_of _ (by decide +kernel)) ggX0_chain_X0_letGo
theorem dX0_chain_0 : decode cX0_chain 0 = .ok (.iload_n 3, 1) := by decide +kernel
theorem dX0_chain_1 : decode cX0_chain 1 = .ok (.invokestatic 51, 3) := by decide +kernel
theorem dX0_chain_4 : decode cX0_chain 4 = .ok (.ifCond .ne 6, 3) := by decide +kernel
theorem dX0_chain_7 : decode cX0_chain 7 = .ok (.bipush (-2), 2) := by decide +kernel
theorem dX0_chain_9 : decode cX0_chain 9 = .ok (.ireturn, 1) := by decide +kernel
theorem dX0_chain_10 : decode cX0_chain 10 = .ok (.iconst 0, 1) := by decide +kernel
theorem dX0_chain_11 : decode cX0_chain 11 = .ok (.istore 4, 2) := by decide +kernel
theorem dX0_chain_13 : decode cX0_chain 13 = .ok (.iconst 0, 1) := by decide +kernel
theorem dX0_chain_14 : decode cX0_chain 14 = .ok (.istore 5, 2) := by decide +kernel
theorem dX0_chain_16 : decode cX0_chain 16 = .ok (.iload 5, 2) := by decide +kernel
theorem dX0_chain_18 : decode cX0_chain 18 = .ok (.iload_n 3, 1) := by decide +kernel
theorem dX0_chain_19 : decode cX0_chain 19 = .ok (.if_icmp .ge 47, 3) := by decide +kernel
theorem dX0_chain_22 : decode cX0_chain 22 = .ok (.lload_n 1, 1) := by decide +kernel
theorem dX0_chain_23 : decode cX0_chain 23 = .ok (.iload 5, 2) := by decide +kernel
theorem dX0_chain_25 : decode cX0_chain 25 = .ok (.invokestatic 54, 3) := by decide +kernel
theorem dX0_chain_28 : decode cX0_chain 28 = .ok (.istore 6, 2) := by decide +kernel
theorem dX0_chain_30 : decode cX0_chain 30 = .ok (.aload_n 0, 1) := by decide +kernel
theorem dX0_chain_31 : decode cX0_chain 31 = .ok (.iload 6, 2) := by decide +kernel
theorem dX0_chain_33 : decode cX0_chain 33 = .ok (.invokevirtual 30, 3) := by decide +kernel
theorem dX0_chain_36 : decode cX0_chain 36 = .ok (.ifCond .ne 12, 3) := by decide +kernel
theorem dX0_chain_39 : decode cX0_chain 39 = .ok (.aload_n 0, 1) := by decide +kernel
theorem dX0_chain_40 : decode cX0_chain 40 = .ok (.iload 5, 2) := by decide +kernel
theorem dX0_chain_42 : decode cX0_chain 42 = .ok (.bipush (-3), 2) := by decide +kernel
theorem dX0_chain_44 : decode cX0_chain 44 = .ok (.invokevirtual 37, 3) := by decide +kernel
theorem dX0_chain_47 : decode cX0_chain 47 = .ok (.ireturn, 1) := by decide +kernel
theorem dX0_chain_48 : decode cX0_chain 48 = .ok (.iload 4, 2) := by decide +kernel
theorem dX0_chain_50 : decode cX0_chain 50 = .ok (.aload_n 0, 1) := by decide +kernel
theorem dX0_chain_51 : decode cX0_chain 51 = .ok (.getfield 13, 3) := by decide +kernel
theorem dX0_chain_54 : decode cX0_chain 54 = .ok (.iload 6, 2) := by decide +kernel
theorem dX0_chain_56 : decode cX0_chain 56 = .ok (.iaload, 1) := by decide +kernel
theorem dX0_chain_57 : decode cX0_chain 57 = .ok (.iadd, 1) := by decide +kernel
theorem dX0_chain_58 : decode cX0_chain 58 = .ok (.istore 4, 2) := by decide +kernel
theorem dX0_chain_60 : decode cX0_chain 60 = .ok (.iinc 5 1, 3) := by decide +kernel
theorem dX0_chain_63 : decode cX0_chain 63 = .ok (.goto (-47), 3) := by decide +kernel
theorem dX0_chain_66 : decode cX0_chain 66 = .ok (.aload_n 0, 1) := by decide +kernel
theorem dX0_chain_67 : decode cX0_chain 67 = .ok (.iload_n 3, 1) := by decide +kernel
theorem dX0_chain_68 : decode cX0_chain 68 = .ok (.iload 4, 2) := by decide +kernel
theorem dX0_chain_70 : decode cX0_chain 70 = .ok (.invokevirtual 37, 3) := by decide +kernel
theorem dX0_chain_73 : decode cX0_chain 73 = .ok (.ireturn, 1) := by decide +kernel
set_option maxRecDepth 20000 in
theorem ggX0_survey_X0_isRowLength : GoodIn wsX0_survey wsX0_isRowLength := goodIn_r _ [5] (by decide +kernel) (by decide +kernel)
set_option maxRecDepth 20000 in
theorem gX0_survey_X0_isRowLength : GoodIn wsX0_survey (va_wsS RX0 51 yX0_isRowLength wsX0_isRowLength) := goodIn_app (goodIn_of _ (by decide +kernel)) ggX0_survey_X0_isRowLength
set_option maxRecDepth 20000 in
theorem ggX0_survey_X0_trackOfRow : GoodIn wsX0_survey wsX0_trackOfRow := goodIn_r _ [8] (by decide +kernel) (by decide +kernel)
set_option maxRecDepth 20000 in
theorem gX0_survey_X0_trackOfRow : GoodIn wsX0_survey (va_wsS RX0 54 yX0_trackOfRow wsX0_trackOfRow) := goodIn_app (goodIn_of _ (by decide +kernel)) ggX0_survey_X0_trackOfRow
set_option maxRecDepth 20000 in
theorem ggX0_survey_X0_hold : GoodIn wsX0_survey wsX0_hold := goodIn_r _ [12, 13, 14, 15, 16, 17, 18, 19, 20, 21, 22, 23, 4, 24, 25, 31, 32, 33, 34, 35, 36, 37, 38, 39] (by decide +kernel) (by decide +kernel)
set_option maxRecDepth 20000 in
theorem gX0_survey_X0_hold : GoodIn wsX0_survey (wsV RX0 30 RX0 yX0_hold wsX0_hold) := goodIn_app (goodIn_of _ (by decide +kernel)) ggX0_survey_X0_hold
set_option maxRecDepth 20000 in
theorem ggX0_survey_X0_letGo : GoodIn wsX0_survey wsX0_letGo := goodIn_r _ [29, 15, 30, 31, 32, 33, 34, 35, 36, 37, 38, 39] (by decide +kernel) (by decide +kernel)
set_option maxRecDepth 20000 in
theorem gX0_survey_X0_letGo : GoodIn wsX0_survey (wsV RX0 37 RX0 yX0_letGo wsX0_letGo) := goodIn_app (goodIn_of _ (by decide +kernel)) ggX0_survey_X0_letGo
theorem dX0_survey_0 : decode cX0_survey 0 = .ok (.iload_n 3, 1) := by decide +kernel
theorem dX0_survey_1 : decode cX0_survey 1 = .ok (.invokestatic 51, 3) := by decide +kernel
theorem dX0_survey_4 : decode cX0_survey 4 = .ok (.ifCond .ne 6, 3) := by decide +kernel
theorem dX0_survey_7 : decode cX0_survey 7 = .ok (.bipush (-2), 2) := by decide +kernel
theorem dX0_survey_9 : decode cX0_survey 9 = .ok (.ireturn, 1) := by decide +kernel
theorem dX0_survey_10 : decode cX0_survey 10 = .ok (.iconst 0, 1) := by decide +kernel
theorem dX0_survey_11 : decode cX0_survey 11 = .ok (.istore 4, 2) := by decide +kernel
theorem dX0_survey_13 : decode cX0_survey 13 = .ok (.iconst 0, 1) := by decide +kernel
theorem dX0_survey_14 : decode cX0_survey 14 = .ok (.istore 5, 2) := by decide +kernel
theorem dX0_survey_16 : decode cX0_survey 16 = .ok (.iload 5, 2) := by decide +kernel
theorem dX0_survey_18 : decode cX0_survey 18 = .ok (.iload_n 3, 1) := by decide +kernel
theorem dX0_survey_19 : decode cX0_survey 19 = .ok (.if_icmp .ge 43, 3) := by decide +kernel
theorem dX0_survey_22 : decode cX0_survey 22 = .ok (.lload_n 1, 1) := by decide +kernel
theorem dX0_survey_23 : decode cX0_survey 23 = .ok (.iload 5, 2) := by decide +kernel
theorem dX0_survey_25 : decode cX0_survey 25 = .ok (.invokestatic 54, 3) := by decide +kernel
theorem dX0_survey_28 : decode cX0_survey 28 = .ok (.istore 6, 2) := by decide +kernel
theorem dX0_survey_30 : decode cX0_survey 30 = .ok (.aload_n 0, 1) := by decide +kernel
theorem dX0_survey_31 : decode cX0_survey 31 = .ok (.iload 6, 2) := by decide +kernel
theorem dX0_survey_33 : decode cX0_survey 33 = .ok (.invokevirtual 30, 3) := by decide +kernel
theorem dX0_survey_36 : decode cX0_survey 36 = .ok (.ifCond .eq 20, 3) := by decide +kernel
theorem dX0_survey_39 : decode cX0_survey 39 = .ok (.iload 4, 2) := by decide +kernel
theorem dX0_survey_41 : decode cX0_survey 41 = .ok (.aload_n 0, 1) := by decide +kernel
theorem dX0_survey_42 : decode cX0_survey 42 = .ok (.iconst 1, 1) := by decide +kernel
theorem dX0_survey_43 : decode cX0_survey 43 = .ok (.aload_n 0, 1) := by decide +kernel
theorem dX0_survey_44 : decode cX0_survey 44 = .ok (.getfield 13, 3) := by decide +kernel
theorem dX0_survey_47 : decode cX0_survey 47 = .ok (.iload 6, 2) := by decide +kernel
theorem dX0_survey_49 : decode cX0_survey 49 = .ok (.iaload, 1) := by decide +kernel
theorem dX0_survey_50 : decode cX0_survey 50 = .ok (.invokevirtual 37, 3) := by decide +kernel
theorem dX0_survey_53 : decode cX0_survey 53 = .ok (.iadd, 1) := by decide +kernel
theorem dX0_survey_54 : decode cX0_survey 54 = .ok (.istore 4, 2) := by decide +kernel
theorem dX0_survey_56 : decode cX0_survey 56 = .ok (.iinc 5 1, 3) := by decide +kernel
theorem dX0_survey_59 : decode cX0_survey 59 = .ok (.goto (-43), 3) := by decide +kernel
theorem dX0_survey_62 : decode cX0_survey 62 = .ok (.iload 4, 2) := by decide +kernel
theorem dX0_survey_64 : decode cX0_survey 64 = .ok (.ireturn, 1) := by decide +kernel
set_option maxRecDepth 20000 in
theorem ggX0_turn_X0_isTrack : GoodIn wsX0_turn wsX0_isTrack := goodIn_r _ [5] (by decide +kernel) (by decide +kernel)
set_option maxRecDepth 20000 in
theorem gX0_turn_X0_isTrack : GoodIn wsX0_turn (va_wsS RX0 19 yX0_isTrack wsX0_isTrack) := goodIn_app (goodIn_of _ (by decide +kernel)) ggX0_turn_X0_isTrack
set_option maxRecDepth 20000 in
theorem ggX0_turn_X0_hold : GoodIn wsX0_turn wsX0_hold := goodIn_r _ [9, 10, 11, 12, 13, 14, 15, 16, 17, 18, 19, 20, 4, 21, 22, 36, 37, 38, 39, 40, 41, 42, 43, 44] (by decide +kernel) (by decide +kernel)
set_option maxRecDepth 20000 in
theorem gX0_turn_X0_hold : GoodIn wsX0_turn (wsV RX0 30 RX0 yX0_hold wsX0_hold) := goodIn_app (goodIn_of _ (by decide +kernel)) ggX0_turn_X0_hold
set_option maxRecDepth 20000 in
theorem ggX0_turn_X0_place : GoodIn wsX0_turn wsX0_place := goodIn_r _ [25] (by decide +kernel) (by decide +kernel)
set_option maxRecDepth 20000 in
theorem gX0_turn_X0_place : GoodIn wsX0_turn (va_wsS RX0 61 yX0_place wsX0_place) := goodIn_app (goodIn_of _ (by decide +kernel)) ggX0_turn_X0_place
set_option maxRecDepth 20000 in
theorem ggX0_turn_X0_exchangePlaces : GoodIn wsX0_turn wsX0_exchangePlaces := goodIn_r _ [29, 30, 36, 37, 38, 39, 40, 41, 42, 43, 44] (by decide +kernel) (by decide +kernel)
set_option maxRecDepth 20000 in
theorem gX0_turn_X0_exchangePlaces : GoodIn wsX0_turn (wsV RX0 64 RX0 yX0_exchangePlaces wsX0_exchangePlaces) := goodIn_app (goodIn_of _ (by decide +kernel)) ggX0_turn_X0_exchangePlaces
set_option maxRecDepth 20000 in
theorem ggX0_turn_X0_letGo : GoodIn wsX0_turn wsX0_letGo := goodIn_r _ [34, 12, 35, 36, 37, 38, 39, 40, 41, 42, 43, 44] (by decide +kernel) (by decide +kernel)
set_option maxRecDepth 20000 in
theorem gX0_turn_X0_letGo : GoodIn wsX0_turn (wsV RX0 37 RX0 yX0_letGo wsX0_letGo) := goodIn_app (goodIn_of _ (by decide +kernel)) ggX0_turn_X0_letGo
theorem dX0_turn_0 : decode cX0_turn 0 = .ok (.iload_n 1, 1) := by decide +kernel
theorem dX0_turn_1 : decode cX0_turn 1 = .ok (.invokestatic 19, 3) := by decide +kernel
theorem dX0_turn_4 : decode cX0_turn 4 = .ok (.ifCond .ne 6, 3) := by decide +kernel
theorem dX0_turn_7 : decode cX0_turn 7 = .ok (.bipush (-2), 2) := by decide +kernel
theorem dX0_turn_9 : decode cX0_turn 9 = .ok (.ireturn, 1) := by decide +kernel
theorem dX0_turn_10 : decode cX0_turn 10 = .ok (.aload_n 0, 1) := by decide +kernel
theorem dX0_turn_11 : decode cX0_turn 11 = .ok (.iload_n 1, 1) := by decide +kernel
theorem dX0_turn_12 : decode cX0_turn 12 = .ok (.invokevirtual 30, 3) := by decide +kernel
theorem dX0_turn_15 : decode cX0_turn 15 = .ok (.ifCond .ne 6, 3) := by decide +kernel
theorem dX0_turn_18 : decode cX0_turn 18 = .ok (.bipush (-3), 2) := by decide +kernel
theorem dX0_turn_20 : decode cX0_turn 20 = .ok (.ireturn, 1) := by decide +kernel
theorem dX0_turn_21 : decode cX0_turn 21 = .ok (.aload_n 0, 1) := by decide +kernel
theorem dX0_turn_22 : decode cX0_turn 22 = .ok (.getfield 13, 3) := by decide +kernel
theorem dX0_turn_25 : decode cX0_turn 25 = .ok (.iload_n 1, 1) := by decide +kernel
theorem dX0_turn_26 : decode cX0_turn 26 = .ok (.iaload, 1) := by decide +kernel
theorem dX0_turn_27 : decode cX0_turn 27 = .ok (.istore_n 2, 1) := by decide +kernel
theorem dX0_turn_28 : decode cX0_turn 28 = .ok (.iconst 0, 1) := by decide +kernel
theorem dX0_turn_29 : decode cX0_turn 29 = .ok (.istore_n 3, 1) := by decide +kernel
theorem dX0_turn_30 : decode cX0_turn 30 = .ok (.iload_n 3, 1) := by decide +kernel
theorem dX0_turn_31 : decode cX0_turn 31 = .ok (.iload_n 2, 1) := by decide +kernel
theorem dX0_turn_32 : decode cX0_turn 32 = .ok (.iconst 2, 1) := by decide +kernel
theorem dX0_turn_33 : decode cX0_turn 33 = .ok (.idiv, 1) := by decide +kernel
theorem dX0_turn_34 : decode cX0_turn 34 = .ok (.if_icmp .ge 40, 3) := by decide +kernel
theorem dX0_turn_37 : decode cX0_turn 37 = .ok (.aload_n 0, 1) := by decide +kernel
theorem dX0_turn_38 : decode cX0_turn 38 = .ok (.iload_n 1, 1) := by decide +kernel
theorem dX0_turn_39 : decode cX0_turn 39 = .ok (.invokevirtual 30, 3) := by decide +kernel
theorem dX0_turn_42 : decode cX0_turn 42 = .ok (.pop, 1) := by decide +kernel
theorem dX0_turn_43 : decode cX0_turn 43 = .ok (.aload_n 0, 1) := by decide +kernel
theorem dX0_turn_44 : decode cX0_turn 44 = .ok (.iload_n 1, 1) := by decide +kernel
theorem dX0_turn_45 : decode cX0_turn 45 = .ok (.iload_n 3, 1) := by decide +kernel
theorem dX0_turn_46 : decode cX0_turn 46 = .ok (.invokestatic 61, 3) := by decide +kernel
theorem dX0_turn_49 : decode cX0_turn 49 = .ok (.iload_n 1, 1) := by decide +kernel
theorem dX0_turn_50 : decode cX0_turn 50 = .ok (.iload_n 2, 1) := by decide +kernel
theorem dX0_turn_51 : decode cX0_turn 51 = .ok (.iconst 1, 1) := by decide +kernel
theorem dX0_turn_52 : decode cX0_turn 52 = .ok (.isub, 1) := by decide +kernel
theorem dX0_turn_53 : decode cX0_turn 53 = .ok (.iload_n 3, 1) := by decide +kernel
theorem dX0_turn_54 : decode cX0_turn 54 = .ok (.isub, 1) := by decide +kernel
theorem dX0_turn_55 : decode cX0_turn 55 = .ok (.invokestatic 61, 3) := by decide +kernel
theorem dX0_turn_58 : decode cX0_turn 58 = .ok (.invokevirtual 64, 3) := by decide +kernel
theorem dX0_turn_61 : decode cX0_turn 61 = .ok (.aload_n 0, 1) := by decide +kernel
theorem dX0_turn_62 : decode cX0_turn 62 = .ok (.iconst 1, 1) := by decide +kernel
theorem dX0_turn_63 : decode cX0_turn 63 = .ok (.iconst 0, 1) := by decide +kernel
theorem dX0_turn_64 : decode cX0_turn 64 = .ok (.invokevirtual 37, 3) := by decide +kernel
theorem dX0_turn_67 : decode cX0_turn 67 = .ok (.pop, 1) := by decide +kernel
theorem dX0_turn_68 : decode cX0_turn 68 = .ok (.iinc 3 1, 3) := by decide +kernel
theorem dX0_turn_71 : decode cX0_turn 71 = .ok (.goto (-41), 3) := by decide +kernel
theorem dX0_turn_74 : decode cX0_turn 74 = .ok (.aload_n 0, 1) := by decide +kernel
theorem dX0_turn_75 : decode cX0_turn 75 = .ok (.iconst 1, 1) := by decide +kernel
theorem dX0_turn_76 : decode cX0_turn 76 = .ok (.iload_n 2, 1) := by decide +kernel
theorem dX0_turn_77 : decode cX0_turn 77 = .ok (.invokevirtual 37, 3) := by decide +kernel
theorem dX0_turn_80 : decode cX0_turn 80 = .ok (.ireturn, 1) := by decide +kernel
set_option maxRecDepth 20000 in
theorem ggX0_swap_X0_isTrack : GoodIn wsX0_swap wsX0_isTrack := goodIn_r _ [4] (by decide +kernel) (by decide +kernel)
set_option maxRecDepth 20000 in
theorem gX0_swap_X0_isTrack : GoodIn wsX0_swap (va_wsS RX0 19 yX0_isTrack wsX0_isTrack) := goodIn_app (goodIn_of _ (by decide +kernel)) ggX0_swap_X0_isTrack
set_option maxRecDepth 20000 in
theorem ggX0_swap_X0_hold : GoodIn wsX0_swap wsX0_hold := goodIn_r _ [8, 9, 10, 11, 12, 13, 14, 15, 16, 17, 18, 19, 3, 20, 21, 40, 41, 42, 43, 44, 45, 46, 47, 48] (by decide +kernel) (by decide +kernel)
set_option maxRecDepth 20000 in
theorem gX0_swap_X0_hold : GoodIn wsX0_swap (wsV RX0 30 RX0 yX0_hold wsX0_hold) := goodIn_app (goodIn_of _ (by decide +kernel)) ggX0_swap_X0_hold
set_option maxRecDepth 20000 in
theorem ggX0_swap_X0_letGo : GoodIn wsX0_swap wsX0_letGo := goodIn_r _ [25, 11, 26, 40, 41, 42, 43, 44, 45, 46, 47, 48] (by decide +kernel) (by decide +kernel)
set_option maxRecDepth 20000 in
theorem gX0_swap_X0_letGo : GoodIn wsX0_swap (wsV RX0 37 RX0 yX0_letGo wsX0_letGo) := goodIn_app (goodIn_of _ (by decide +kernel)) ggX0_swap_X0_letGo
set_option maxRecDepth 20000 in
theorem ggX0_swap_X0_exchangeRows : GoodIn wsX0_swap wsX0_exchangeRows := goodIn_r _ [30, 31, 21, 32, 33, 3, 34, 35, 36, 37, 38, 39, 40, 41, 42, 43, 44, 45, 46, 47, 48] (by decide +kernel) (by decide +kernel)
set_option maxRecDepth 20000 in
theorem gX0_swap_X0_exchangeRows : GoodIn wsX0_swap (wsV RX0 68 RX0 yX0_exchangeRows wsX0_exchangeRows) := goodIn_app (goodIn_of _ (by decide +kernel)) ggX0_swap_X0_exchangeRows
theorem dX0_swap_0 : decode cX0_swap 0 = .ok (.iload_n 1, 1) := by decide +kernel
theorem dX0_swap_1 : decode cX0_swap 1 = .ok (.invokestatic 19, 3) := by decide +kernel
theorem dX0_swap_4 : decode cX0_swap 4 = .ok (.ifCond .eq 10, 3) := by decide +kernel
theorem dX0_swap_7 : decode cX0_swap 7 = .ok (.iload_n 2, 1) := by decide +kernel
theorem dX0_swap_8 : decode cX0_swap 8 = .ok (.invokestatic 19, 3) := by decide +kernel
theorem dX0_swap_11 : decode cX0_swap 11 = .ok (.ifCond .ne 6, 3) := by decide +kernel
theorem dX0_swap_14 : decode cX0_swap 14 = .ok (.bipush (-2), 2) := by decide +kernel
theorem dX0_swap_16 : decode cX0_swap 16 = .ok (.ireturn, 1) := by decide +kernel
theorem dX0_swap_17 : decode cX0_swap 17 = .ok (.aload_n 0, 1) := by decide +kernel
theorem dX0_swap_18 : decode cX0_swap 18 = .ok (.iload_n 1, 1) := by decide +kernel
theorem dX0_swap_19 : decode cX0_swap 19 = .ok (.invokevirtual 30, 3) := by decide +kernel
theorem dX0_swap_22 : decode cX0_swap 22 = .ok (.ifCond .ne 6, 3) := by decide +kernel
theorem dX0_swap_25 : decode cX0_swap 25 = .ok (.bipush (-3), 2) := by decide +kernel
theorem dX0_swap_27 : decode cX0_swap 27 = .ok (.ireturn, 1) := by decide +kernel
theorem dX0_swap_28 : decode cX0_swap 28 = .ok (.aload_n 0, 1) := by decide +kernel
theorem dX0_swap_29 : decode cX0_swap 29 = .ok (.iload_n 2, 1) := by decide +kernel
theorem dX0_swap_30 : decode cX0_swap 30 = .ok (.invokevirtual 30, 3) := by decide +kernel
theorem dX0_swap_33 : decode cX0_swap 33 = .ok (.ifCond .ne 11, 3) := by decide +kernel
theorem dX0_swap_36 : decode cX0_swap 36 = .ok (.aload_n 0, 1) := by decide +kernel
theorem dX0_swap_37 : decode cX0_swap 37 = .ok (.iconst 1, 1) := by decide +kernel
theorem dX0_swap_38 : decode cX0_swap 38 = .ok (.bipush (-3), 2) := by decide +kernel
theorem dX0_swap_40 : decode cX0_swap 40 = .ok (.invokevirtual 37, 3) := by decide +kernel
theorem dX0_swap_43 : decode cX0_swap 43 = .ok (.ireturn, 1) := by decide +kernel
theorem dX0_swap_44 : decode cX0_swap 44 = .ok (.aload_n 0, 1) := by decide +kernel
theorem dX0_swap_45 : decode cX0_swap 45 = .ok (.iload_n 1, 1) := by decide +kernel
theorem dX0_swap_46 : decode cX0_swap 46 = .ok (.invokevirtual 30, 3) := by decide +kernel
theorem dX0_swap_49 : decode cX0_swap 49 = .ok (.pop, 1) := by decide +kernel
theorem dX0_swap_50 : decode cX0_swap 50 = .ok (.aload_n 0, 1) := by decide +kernel
theorem dX0_swap_51 : decode cX0_swap 51 = .ok (.iconst 3, 1) := by decide +kernel
theorem dX0_swap_52 : decode cX0_swap 52 = .ok (.aload_n 0, 1) := by decide +kernel
theorem dX0_swap_53 : decode cX0_swap 53 = .ok (.iload_n 1, 1) := by decide +kernel
theorem dX0_swap_54 : decode cX0_swap 54 = .ok (.iload_n 2, 1) := by decide +kernel
theorem dX0_swap_55 : decode cX0_swap 55 = .ok (.invokevirtual 68, 3) := by decide +kernel
theorem dX0_swap_58 : decode cX0_swap 58 = .ok (.invokevirtual 37, 3) := by decide +kernel
theorem dX0_swap_61 : decode cX0_swap 61 = .ok (.ireturn, 1) := by decide +kernel
set_option maxRecDepth 20000 in
theorem ggX0_wagon_X0_isTrack : GoodIn wsX0_wagon wsX0_isTrack := goodIn_r _ [6] (by decide +kernel) (by decide +kernel)
set_option maxRecDepth 20000 in
theorem gX0_wagon_X0_isTrack : GoodIn wsX0_wagon (va_wsS RX0 19 yX0_isTrack wsX0_isTrack) := goodIn_app (goodIn_of _ (by decide +kernel)) ggX0_wagon_X0_isTrack
set_option maxRecDepth 20000 in
theorem ggX0_wagon_X0_place : GoodIn wsX0_wagon wsX0_place := goodIn_r _ [9] (by decide +kernel) (by decide +kernel)
set_option maxRecDepth 20000 in
theorem gX0_wagon_X0_place : GoodIn wsX0_wagon (va_wsS RX0 61 yX0_place wsX0_place) := goodIn_app (goodIn_of _ (by decide +kernel)) ggX0_wagon_X0_place
theorem dX0_wagon_0 : decode cX0_wagon 0 = .ok (.iload_n 1, 1) := by decide +kernel
theorem dX0_wagon_1 : decode cX0_wagon 1 = .ok (.invokestatic 19, 3) := by decide +kernel
theorem dX0_wagon_4 : decode cX0_wagon 4 = .ok (.ifCond .ne 6, 3) := by decide +kernel
theorem dX0_wagon_7 : decode cX0_wagon 7 = .ok (.bipush (-2), 2) := by decide +kernel
theorem dX0_wagon_9 : decode cX0_wagon 9 = .ok (.ireturn, 1) := by decide +kernel
theorem dX0_wagon_10 : decode cX0_wagon 10 = .ok (.iload_n 2, 1) := by decide +kernel
theorem dX0_wagon_11 : decode cX0_wagon 11 = .ok (.ifCond .lt 13, 3) := by decide +kernel
theorem dX0_wagon_14 : decode cX0_wagon 14 = .ok (.iload_n 2, 1) := by decide +kernel
theorem dX0_wagon_15 : decode cX0_wagon 15 = .ok (.aload_n 0, 1) := by decide +kernel
theorem dX0_wagon_16 : decode cX0_wagon 16 = .ok (.getfield 13, 3) := by decide +kernel
theorem dX0_wagon_19 : decode cX0_wagon 19 = .ok (.iload_n 1, 1) := by decide +kernel
theorem dX0_wagon_20 : decode cX0_wagon 20 = .ok (.iaload, 1) := by decide +kernel
theorem dX0_wagon_21 : decode cX0_wagon 21 = .ok (.if_icmp .lt 5, 3) := by decide +kernel
theorem dX0_wagon_24 : decode cX0_wagon 24 = .ok (.iconst 0, 1) := by decide +kernel
theorem dX0_wagon_25 : decode cX0_wagon 25 = .ok (.ireturn, 1) := by decide +kernel
theorem dX0_wagon_26 : decode cX0_wagon 26 = .ok (.aload_n 0, 1) := by decide +kernel
theorem dX0_wagon_27 : decode cX0_wagon 27 = .ok (.getfield 16, 3) := by decide +kernel
theorem dX0_wagon_30 : decode cX0_wagon 30 = .ok (.iload_n 1, 1) := by decide +kernel
theorem dX0_wagon_31 : decode cX0_wagon 31 = .ok (.iload_n 2, 1) := by decide +kernel
theorem dX0_wagon_32 : decode cX0_wagon 32 = .ok (.invokestatic 61, 3) := by decide +kernel
theorem dX0_wagon_35 : decode cX0_wagon 35 = .ok (.iaload, 1) := by decide +kernel
theorem dX0_wagon_36 : decode cX0_wagon 36 = .ok (.ireturn, 1) := by decide +kernel
set_option maxRecDepth 20000 in
theorem ggX0_told_X0_tracksThere : GoodIn wsX0_told wsX0_tracksThere := goodIn_r _ [11, 12, 13, 14, 10, 15, 16, 17, 18, 19, 20, 21, 22, 23, 24, 25] (by decide +kernel) (by decide +kernel)
set_option maxRecDepth 20000 in
theorem gX0_told_X0_tracksThere : GoodIn wsX0_told (wsV RX0 86 RX0 yX0_tracksThere wsX0_tracksThere) := goodIn_app (goodIn_of _ (by decide +kernel)) ggX0_told_X0_tracksThere
theorem dX0_told_0 : decode cX0_told 0 = .ok (.iload_n 1, 1) := by decide +kernel
theorem dX0_told_1 : decode cX0_told 1 = .ok (.tableswitch 78 0 6 #[43, 48, 53, 58, 63, 68, 73], 43) := by decide +kernel
theorem dX0_told_44 : decode cX0_told 44 = .ok (.aload_n 0, 1) := by decide +kernel
theorem dX0_told_45 : decode cX0_told 45 = .ok (.getfield 71, 3) := by decide +kernel
theorem dX0_told_48 : decode cX0_told 48 = .ok (.ireturn, 1) := by decide +kernel
theorem dX0_told_49 : decode cX0_told 49 = .ok (.aload_n 0, 1) := by decide +kernel
theorem dX0_told_50 : decode cX0_told 50 = .ok (.getfield 74, 3) := by decide +kernel
theorem dX0_told_53 : decode cX0_told 53 = .ok (.ireturn, 1) := by decide +kernel
theorem dX0_told_54 : decode cX0_told 54 = .ok (.aload_n 0, 1) := by decide +kernel
theorem dX0_told_55 : decode cX0_told 55 = .ok (.getfield 77, 3) := by decide +kernel
theorem dX0_told_58 : decode cX0_told 58 = .ok (.ireturn, 1) := by decide +kernel
theorem dX0_told_59 : decode cX0_told 59 = .ok (.aload_n 0, 1) := by decide +kernel
theorem dX0_told_60 : decode cX0_told 60 = .ok (.getfield 80, 3) := by decide +kernel
theorem dX0_told_63 : decode cX0_told 63 = .ok (.ireturn, 1) := by decide +kernel
theorem dX0_told_64 : decode cX0_told 64 = .ok (.aload_n 0, 1) := by decide +kernel
theorem dX0_told_65 : decode cX0_told 65 = .ok (.getfield 83, 3) := by decide +kernel
theorem dX0_told_68 : decode cX0_told 68 = .ok (.ireturn, 1) := by decide +kernel
theorem dX0_told_69 : decode cX0_told 69 = .ok (.aload_n 0, 1) := by decide +kernel
theorem dX0_told_70 : decode cX0_told 70 = .ok (.getfield 40, 3) := by decide +kernel
theorem dX0_told_73 : decode cX0_told 73 = .ok (.ireturn, 1) := by decide +kernel
theorem dX0_told_74 : decode cX0_told 74 = .ok (.aload_n 0, 1) := by decide +kernel
theorem dX0_told_75 : decode cX0_told 75 = .ok (.invokevirtual 86, 3) := by decide +kernel
theorem dX0_told_78 : decode cX0_told 78 = .ok (.ireturn, 1) := by decide +kernel
theorem dX0_told_79 : decode cX0_told 79 = .ok (.bipush (-2), 2) := by decide +kernel
theorem dX0_told_81 : decode cX0_told 81 = .ok (.ireturn, 1) := by decide +kernel
theorem dX0_isTrack_0 : decode cX0_isTrack 0 = .ok (.iload_n 0, 1) := by decide +kernel
theorem dX0_isTrack_1 : decode cX0_isTrack 1 = .ok (.ifCond .lt 13, 3) := by decide +kernel
theorem dX0_isTrack_4 : decode cX0_isTrack 4 = .ok (.iload_n 0, 1) := by decide +kernel
theorem dX0_isTrack_5 : decode cX0_isTrack 5 = .ok (.bipush 8, 2) := by decide +kernel
theorem dX0_isTrack_7 : decode cX0_isTrack 7 = .ok (.if_icmp .ge 7, 3) := by decide +kernel
theorem dX0_isTrack_10 : decode cX0_isTrack 10 = .ok (.iconst 1, 1) := by decide +kernel
theorem dX0_isTrack_11 : decode cX0_isTrack 11 = .ok (.goto 4, 3) := by decide +kernel
theorem dX0_isTrack_14 : decode cX0_isTrack 14 = .ok (.iconst 0, 1) := by decide +kernel
theorem dX0_isTrack_15 : decode cX0_isTrack 15 = .ok (.ireturn, 1) := by decide +kernel
theorem dX0_isRowLength_0 : decode cX0_isRowLength 0 = .ok (.iload_n 0, 1) := by decide +kernel
theorem dX0_isRowLength_1 : decode cX0_isRowLength 1 = .ok (.iconst 1, 1) := by decide +kernel
theorem dX0_isRowLength_2 : decode cX0_isRowLength 2 = .ok (.if_icmp .lt 13, 3) := by decide +kernel
theorem dX0_isRowLength_5 : decode cX0_isRowLength 5 = .ok (.iload_n 0, 1) := by decide +kernel
theorem dX0_isRowLength_6 : decode cX0_isRowLength 6 = .ok (.bipush 16, 2) := by decide +kernel
theorem dX0_isRowLength_8 : decode cX0_isRowLength 8 = .ok (.if_icmp .gt 7, 3) := by decide +kernel
theorem dX0_isRowLength_11 : decode cX0_isRowLength 11 = .ok (.iconst 1, 1) := by decide +kernel
theorem dX0_isRowLength_12 : decode cX0_isRowLength 12 = .ok (.goto 4, 3) := by decide +kernel
theorem dX0_isRowLength_15 : decode cX0_isRowLength 15 = .ok (.iconst 0, 1) := by decide +kernel
theorem dX0_isRowLength_16 : decode cX0_isRowLength 16 = .ok (.ireturn, 1) := by decide +kernel
theorem dX0_trackOfRow_0 : decode cX0_trackOfRow 0 = .ok (.lload_n 0, 1) := by decide +kernel
theorem dX0_trackOfRow_1 : decode cX0_trackOfRow 1 = .ok (.iconst 3, 1) := by decide +kernel
theorem dX0_trackOfRow_2 : decode cX0_trackOfRow 2 = .ok (.iload_n 2, 1) := by decide +kernel
theorem dX0_trackOfRow_3 : decode cX0_trackOfRow 3 = .ok (.imul, 1) := by decide +kernel
theorem dX0_trackOfRow_4 : decode cX0_trackOfRow 4 = .ok (.lushr, 1) := by decide +kernel
theorem dX0_trackOfRow_5 : decode cX0_trackOfRow 5 = .ok (.l2i, 1) := by decide +kernel
theorem dX0_trackOfRow_6 : decode cX0_trackOfRow 6 = .ok (.bipush 7, 2) := by decide +kernel
theorem dX0_trackOfRow_8 : decode cX0_trackOfRow 8 = .ok (.iand, 1) := by decide +kernel
theorem dX0_trackOfRow_9 : decode cX0_trackOfRow 9 = .ok (.ireturn, 1) := by decide +kernel
theorem dX0_place_0 : decode cX0_place 0 = .ok (.iload_n 0, 1) := by decide +kernel
theorem dX0_place_1 : decode cX0_place 1 = .ok (.bipush 12, 2) := by decide +kernel
theorem dX0_place_3 : decode cX0_place 3 = .ok (.imul, 1) := by decide +kernel
theorem dX0_place_4 : decode cX0_place 4 = .ok (.iload_n 1, 1) := by decide +kernel
theorem dX0_place_5 : decode cX0_place 5 = .ok (.iadd, 1) := by decide +kernel
theorem dX0_place_6 : decode cX0_place 6 = .ok (.ireturn, 1) := by decide +kernel
theorem dX0_isThere_0 : decode cX0_isThere 0 = .ok (.aload_n 0, 1) := by decide +kernel
theorem dX0_isThere_1 : decode cX0_isThere 1 = .ok (.getfield 9, 3) := by decide +kernel
theorem dX0_isThere_4 : decode cX0_isThere 4 = .ok (.iload_n 1, 1) := by decide +kernel
theorem dX0_isThere_5 : decode cX0_isThere 5 = .ok (.iaload, 1) := by decide +kernel
theorem dX0_isThere_6 : decode cX0_isThere 6 = .ok (.ifCond .le 7, 3) := by decide +kernel
theorem dX0_isThere_9 : decode cX0_isThere 9 = .ok (.iconst 1, 1) := by decide +kernel
theorem dX0_isThere_10 : decode cX0_isThere 10 = .ok (.goto 4, 3) := by decide +kernel
theorem dX0_isThere_13 : decode cX0_isThere 13 = .ok (.iconst 0, 1) := by decide +kernel
theorem dX0_isThere_14 : decode cX0_isThere 14 = .ok (.ireturn, 1) := by decide +kernel
set_option maxRecDepth 20000 in
theorem ggX0_tracksThere_X0_isThere : GoodIn wsX0_tracksThere wsX0_isThere := goodIn_r _ [5, 6, 7, 8, 9, 10, 11, 12, 13, 14, 15] (by decide +kernel) (by decide +kernel)
set_option maxRecDepth 20000 in
theorem gX0_tracksThere_X0_isThere : GoodIn wsX0_tracksThere (wsV RX0 23 RX0 yX0_isThere wsX0_isThere) := goodIn_app (goodIn_of _ (by decide +kernel)) ggX0_tracksThere_X0_isThere
theorem dX0_tracksThere_0 : decode cX0_tracksThere 0 = .ok (.iconst 0, 1) := by decide +kernel
theorem dX0_tracksThere_1 : decode cX0_tracksThere 1 = .ok (.istore_n 1, 1) := by decide +kernel
theorem dX0_tracksThere_2 : decode cX0_tracksThere 2 = .ok (.iconst 0, 1) := by decide +kernel
theorem dX0_tracksThere_3 : decode cX0_tracksThere 3 = .ok (.istore_n 2, 1) := by decide +kernel
theorem dX0_tracksThere_4 : decode cX0_tracksThere 4 = .ok (.iload_n 2, 1) := by decide +kernel
theorem dX0_tracksThere_5 : decode cX0_tracksThere 5 = .ok (.bipush 8, 2) := by decide +kernel
theorem dX0_tracksThere_7 : decode cX0_tracksThere 7 = .ok (.if_icmp .ge 20, 3) := by decide +kernel
theorem dX0_tracksThere_10 : decode cX0_tracksThere 10 = .ok (.aload_n 0, 1) := by decide +kernel
theorem dX0_tracksThere_11 : decode cX0_tracksThere 11 = .ok (.iload_n 2, 1) := by decide +kernel
theorem dX0_tracksThere_12 : decode cX0_tracksThere 12 = .ok (.invokevirtual 23, 3) := by decide +kernel
theorem dX0_tracksThere_15 : decode cX0_tracksThere 15 = .ok (.ifCond .eq 6, 3) := by decide +kernel
theorem dX0_tracksThere_18 : decode cX0_tracksThere 18 = .ok (.iinc 1 1, 3) := by decide +kernel
theorem dX0_tracksThere_21 : decode cX0_tracksThere 21 = .ok (.iinc 2 1, 3) := by decide +kernel
theorem dX0_tracksThere_24 : decode cX0_tracksThere 24 = .ok (.goto (-20), 3) := by decide +kernel
theorem dX0_tracksThere_27 : decode cX0_tracksThere 27 = .ok (.iload_n 1, 1) := by decide +kernel
theorem dX0_tracksThere_28 : decode cX0_tracksThere 28 = .ok (.ireturn, 1) := by decide +kernel
set_option maxRecDepth 20000 in
theorem ggX0_hold_X0_isThere : GoodIn wsX0_hold wsX0_isThere := goodIn_r _ [13, 14, 15, 16, 17, 18, 19, 20, 21, 22, 23] (by decide +kernel) (by decide +kernel)
set_option maxRecDepth 20000 in
theorem gX0_hold_X0_isThere : GoodIn wsX0_hold (wsV RX0 23 RX0 yX0_isThere wsX0_isThere) := goodIn_app (goodIn_of _ (by decide +kernel)) ggX0_hold_X0_isThere
theorem dX0_hold_0 : decode cX0_hold 0 = .ok (.aload_n 0, 1) := by decide +kernel
theorem dX0_hold_1 : decode cX0_hold 1 = .ok (.dup, 1) := by decide +kernel
theorem dX0_hold_2 : decode cX0_hold 2 = .ok (.getfield 71, 3) := by decide +kernel
theorem dX0_hold_5 : decode cX0_hold 5 = .ok (.iconst 1, 1) := by decide +kernel
theorem dX0_hold_6 : decode cX0_hold 6 = .ok (.iadd, 1) := by decide +kernel
theorem dX0_hold_7 : decode cX0_hold 7 = .ok (.putfield 71, 3) := by decide +kernel
theorem dX0_hold_10 : decode cX0_hold 10 = .ok (.aload_n 0, 1) := by decide +kernel
theorem dX0_hold_11 : decode cX0_hold 11 = .ok (.iload_n 1, 1) := by decide +kernel
theorem dX0_hold_12 : decode cX0_hold 12 = .ok (.invokevirtual 23, 3) := by decide +kernel
theorem dX0_hold_15 : decode cX0_hold 15 = .ok (.ifCond .ne 5, 3) := by decide +kernel
theorem dX0_hold_18 : decode cX0_hold 18 = .ok (.iconst 0, 1) := by decide +kernel
theorem dX0_hold_19 : decode cX0_hold 19 = .ok (.ireturn, 1) := by decide +kernel
theorem dX0_hold_20 : decode cX0_hold 20 = .ok (.aload_n 0, 1) := by decide +kernel
theorem dX0_hold_21 : decode cX0_hold 21 = .ok (.dup, 1) := by decide +kernel
theorem dX0_hold_22 : decode cX0_hold 22 = .ok (.getfield 74, 3) := by decide +kernel
theorem dX0_hold_25 : decode cX0_hold 25 = .ok (.iconst 1, 1) := by decide +kernel
theorem dX0_hold_26 : decode cX0_hold 26 = .ok (.iadd, 1) := by decide +kernel
theorem dX0_hold_27 : decode cX0_hold 27 = .ok (.putfield 74, 3) := by decide +kernel
theorem dX0_hold_30 : decode cX0_hold 30 = .ok (.aload_n 0, 1) := by decide +kernel
theorem dX0_hold_31 : decode cX0_hold 31 = .ok (.dup, 1) := by decide +kernel
theorem dX0_hold_32 : decode cX0_hold 32 = .ok (.getfield 80, 3) := by decide +kernel
theorem dX0_hold_35 : decode cX0_hold 35 = .ok (.iconst 1, 1) := by decide +kernel
theorem dX0_hold_36 : decode cX0_hold 36 = .ok (.iadd, 1) := by decide +kernel
theorem dX0_hold_37 : decode cX0_hold 37 = .ok (.putfield 80, 3) := by decide +kernel
theorem dX0_hold_40 : decode cX0_hold 40 = .ok (.aload_n 0, 1) := by decide +kernel
theorem dX0_hold_41 : decode cX0_hold 41 = .ok (.aload_n 0, 1) := by decide +kernel
theorem dX0_hold_42 : decode cX0_hold 42 = .ok (.getfield 83, 3) := by decide +kernel
theorem dX0_hold_45 : decode cX0_hold 45 = .ok (.aload_n 0, 1) := by decide +kernel
theorem dX0_hold_46 : decode cX0_hold 46 = .ok (.getfield 80, 3) := by decide +kernel
theorem dX0_hold_49 : decode cX0_hold 49 = .ok (.invokestatic 90, 3) := by decide +kernel
theorem dX0_hold_52 : decode cX0_hold 52 = .ok (.putfield 83, 3) := by decide +kernel
theorem dX0_hold_55 : decode cX0_hold 55 = .ok (.iconst 1, 1) := by decide +kernel
theorem dX0_hold_56 : decode cX0_hold 56 = .ok (.ireturn, 1) := by decide +kernel
theorem dX0_letGo_0 : decode cX0_letGo 0 = .ok (.aload_n 0, 1) := by decide +kernel
theorem dX0_letGo_1 : decode cX0_letGo 1 = .ok (.dup, 1) := by decide +kernel
theorem dX0_letGo_2 : decode cX0_letGo 2 = .ok (.getfield 80, 3) := by decide +kernel
theorem dX0_letGo_5 : decode cX0_letGo 5 = .ok (.iload_n 1, 1) := by decide +kernel
theorem dX0_letGo_6 : decode cX0_letGo 6 = .ok (.isub, 1) := by decide +kernel
theorem dX0_letGo_7 : decode cX0_letGo 7 = .ok (.putfield 80, 3) := by decide +kernel
theorem dX0_letGo_10 : decode cX0_letGo 10 = .ok (.iload_n 2, 1) := by decide +kernel
theorem dX0_letGo_11 : decode cX0_letGo 11 = .ok (.ifCond .ge 13, 3) := by decide +kernel
theorem dX0_letGo_14 : decode cX0_letGo 14 = .ok (.aload_n 0, 1) := by decide +kernel
theorem dX0_letGo_15 : decode cX0_letGo 15 = .ok (.dup, 1) := by decide +kernel
theorem dX0_letGo_16 : decode cX0_letGo 16 = .ok (.getfield 77, 3) := by decide +kernel
theorem dX0_letGo_19 : decode cX0_letGo 19 = .ok (.iload_n 1, 1) := by decide +kernel
theorem dX0_letGo_20 : decode cX0_letGo 20 = .ok (.iadd, 1) := by decide +kernel
theorem dX0_letGo_21 : decode cX0_letGo 21 = .ok (.putfield 77, 3) := by decide +kernel
theorem dX0_letGo_24 : decode cX0_letGo 24 = .ok (.iload_n 2, 1) := by decide +kernel
theorem dX0_letGo_25 : decode cX0_letGo 25 = .ok (.ireturn, 1) := by decide +kernel
set_option maxRecDepth 20000 in
theorem ggX0_holdAndCome_X0_hold : GoodIn wsX0_holdAndCome wsX0_hold := goodIn_r _ [5, 6, 7, 8, 9, 10, 11, 12, 13, 14, 15, 16, 4, 17, 18, 33, 34, 35, 36, 37, 38, 39, 40, 41] (by decide +kernel) (by decide +kernel)
set_option maxRecDepth 20000 in
theorem gX0_holdAndCome_X0_hold : GoodIn wsX0_holdAndCome (wsV RX0 30 RX0 yX0_hold wsX0_hold) := goodIn_app (goodIn_of _ (by decide +kernel)) ggX0_holdAndCome_X0_hold
set_option maxRecDepth 20000 in
theorem ggX0_holdAndCome_X0_come : GoodIn wsX0_holdAndCome wsX0_come := goodIn_r _ [22, 23, 18, 24, 25, 26, 4, 27, 33, 34, 35, 36, 37, 38, 39, 40, 41] (by decide +kernel) (by decide +kernel)
set_option maxRecDepth 20000 in
theorem gX0_holdAndCome_X0_come : GoodIn wsX0_holdAndCome (wsV RX0 95 RX0 yX0_come wsX0_come) := goodIn_app (goodIn_of _ (by decide +kernel)) ggX0_holdAndCome_X0_come
set_option maxRecDepth 20000 in
theorem ggX0_holdAndCome_X0_letGo : GoodIn wsX0_holdAndCome wsX0_letGo := goodIn_r _ [31, 8, 32, 33, 34, 35, 36, 37, 38, 39, 40, 41] (by decide +kernel) (by decide +kernel)
set_option maxRecDepth 20000 in
theorem gX0_holdAndCome_X0_letGo : GoodIn wsX0_holdAndCome (wsV RX0 37 RX0 yX0_letGo wsX0_letGo) := goodIn_app (goodIn_of _ (by decide +kernel)) ggX0_holdAndCome_X0_letGo
theorem dX0_holdAndCome_0 : decode cX0_holdAndCome 0 = .ok (.aload_n 0, 1) := by decide +kernel
theorem dX0_holdAndCome_1 : decode cX0_holdAndCome 1 = .ok (.iload_n 1, 1) := by decide +kernel
theorem dX0_holdAndCome_2 : decode cX0_holdAndCome 2 = .ok (.invokevirtual 30, 3) := by decide +kernel
theorem dX0_holdAndCome_5 : decode cX0_holdAndCome 5 = .ok (.ifCond .ne 6, 3) := by decide +kernel
theorem dX0_holdAndCome_8 : decode cX0_holdAndCome 8 = .ok (.bipush (-3), 2) := by decide +kernel
theorem dX0_holdAndCome_10 : decode cX0_holdAndCome 10 = .ok (.ireturn, 1) := by decide +kernel
theorem dX0_holdAndCome_11 : decode cX0_holdAndCome 11 = .ok (.aload_n 0, 1) := by decide +kernel
theorem dX0_holdAndCome_12 : decode cX0_holdAndCome 12 = .ok (.iconst 1, 1) := by decide +kernel
theorem dX0_holdAndCome_13 : decode cX0_holdAndCome 13 = .ok (.aload_n 0, 1) := by decide +kernel
theorem dX0_holdAndCome_14 : decode cX0_holdAndCome 14 = .ok (.iload_n 1, 1) := by decide +kernel
theorem dX0_holdAndCome_15 : decode cX0_holdAndCome 15 = .ok (.iload_n 2, 1) := by decide +kernel
theorem dX0_holdAndCome_16 : decode cX0_holdAndCome 16 = .ok (.invokevirtual 95, 3) := by decide +kernel
theorem dX0_holdAndCome_19 : decode cX0_holdAndCome 19 = .ok (.invokevirtual 37, 3) := by decide +kernel
theorem dX0_holdAndCome_22 : decode cX0_holdAndCome 22 = .ok (.ireturn, 1) := by decide +kernel
set_option maxRecDepth 20000 in
theorem ggX0_come_X0_place : GoodIn wsX0_come wsX0_place := goodIn_r _ [7] (by decide +kernel) (by decide +kernel)
set_option maxRecDepth 20000 in
theorem gX0_come_X0_place : GoodIn wsX0_come (va_wsS RX0 61 yX0_place wsX0_place) := goodIn_app (goodIn_of _ (by decide +kernel)) ggX0_come_X0_place
theorem dX0_come_0 : decode cX0_come 0 = .ok (.aload_n 0, 1) := by decide +kernel
theorem dX0_come_1 : decode cX0_come 1 = .ok (.getfield 13, 3) := by decide +kernel
theorem dX0_come_4 : decode cX0_come 4 = .ok (.iload_n 1, 1) := by decide +kernel
theorem dX0_come_5 : decode cX0_come 5 = .ok (.iaload, 1) := by decide +kernel
theorem dX0_come_6 : decode cX0_come 6 = .ok (.istore_n 3, 1) := by decide +kernel
theorem dX0_come_7 : decode cX0_come 7 = .ok (.iload_n 3, 1) := by decide +kernel
theorem dX0_come_8 : decode cX0_come 8 = .ok (.aload_n 0, 1) := by decide +kernel
theorem dX0_come_9 : decode cX0_come 9 = .ok (.getfield 9, 3) := by decide +kernel
theorem dX0_come_12 : decode cX0_come 12 = .ok (.iload_n 1, 1) := by decide +kernel
theorem dX0_come_13 : decode cX0_come 13 = .ok (.iaload, 1) := by decide +kernel
theorem dX0_come_14 : decode cX0_come 14 = .ok (.if_icmp .lt 6, 3) := by decide +kernel
theorem dX0_come_17 : decode cX0_come 17 = .ok (.bipush (-4), 2) := by decide +kernel
theorem dX0_come_19 : decode cX0_come 19 = .ok (.ireturn, 1) := by decide +kernel
theorem dX0_come_20 : decode cX0_come 20 = .ok (.aload_n 0, 1) := by decide +kernel
theorem dX0_come_21 : decode cX0_come 21 = .ok (.getfield 16, 3) := by decide +kernel
theorem dX0_come_24 : decode cX0_come 24 = .ok (.iload_n 1, 1) := by decide +kernel
theorem dX0_come_25 : decode cX0_come 25 = .ok (.iload_n 3, 1) := by decide +kernel
theorem dX0_come_26 : decode cX0_come 26 = .ok (.invokestatic 61, 3) := by decide +kernel
theorem dX0_come_29 : decode cX0_come 29 = .ok (.iload_n 2, 1) := by decide +kernel
theorem dX0_come_30 : decode cX0_come 30 = .ok (.iastore, 1) := by decide +kernel
theorem dX0_come_31 : decode cX0_come 31 = .ok (.aload_n 0, 1) := by decide +kernel
theorem dX0_come_32 : decode cX0_come 32 = .ok (.getfield 13, 3) := by decide +kernel
theorem dX0_come_35 : decode cX0_come 35 = .ok (.iload_n 1, 1) := by decide +kernel
theorem dX0_come_36 : decode cX0_come 36 = .ok (.iload_n 3, 1) := by decide +kernel
theorem dX0_come_37 : decode cX0_come 37 = .ok (.iconst 1, 1) := by decide +kernel
theorem dX0_come_38 : decode cX0_come 38 = .ok (.iadd, 1) := by decide +kernel
theorem dX0_come_39 : decode cX0_come 39 = .ok (.iastore, 1) := by decide +kernel
theorem dX0_come_40 : decode cX0_come 40 = .ok (.iload_n 3, 1) := by decide +kernel
theorem dX0_come_41 : decode cX0_come 41 = .ok (.iconst 1, 1) := by decide +kernel
theorem dX0_come_42 : decode cX0_come 42 = .ok (.iadd, 1) := by decide +kernel
theorem dX0_come_43 : decode cX0_come 43 = .ok (.ireturn, 1) := by decide +kernel
set_option maxRecDepth 20000 in
theorem ggX0_go_X0_place : GoodIn wsX0_go wsX0_place := goodIn_r _ [6] (by decide +kernel) (by decide +kernel)
set_option maxRecDepth 20000 in
theorem gX0_go_X0_place : GoodIn wsX0_go (va_wsS RX0 61 yX0_place wsX0_place) := goodIn_app (goodIn_of _ (by decide +kernel)) ggX0_go_X0_place
theorem dX0_go_0 : decode cX0_go 0 = .ok (.aload_n 0, 1) := by decide +kernel
theorem dX0_go_1 : decode cX0_go 1 = .ok (.getfield 13, 3) := by decide +kernel
theorem dX0_go_4 : decode cX0_go 4 = .ok (.iload_n 1, 1) := by decide +kernel
theorem dX0_go_5 : decode cX0_go 5 = .ok (.iaload, 1) := by decide +kernel
theorem dX0_go_6 : decode cX0_go 6 = .ok (.istore_n 2, 1) := by decide +kernel
theorem dX0_go_7 : decode cX0_go 7 = .ok (.iload_n 2, 1) := by decide +kernel
theorem dX0_go_8 : decode cX0_go 8 = .ok (.ifCond .ne 6, 3) := by decide +kernel
theorem dX0_go_11 : decode cX0_go 11 = .ok (.bipush (-5), 2) := by decide +kernel
theorem dX0_go_13 : decode cX0_go 13 = .ok (.ireturn, 1) := by decide +kernel
theorem dX0_go_14 : decode cX0_go 14 = .ok (.aload_n 0, 1) := by decide +kernel
theorem dX0_go_15 : decode cX0_go 15 = .ok (.getfield 13, 3) := by decide +kernel
theorem dX0_go_18 : decode cX0_go 18 = .ok (.iload_n 1, 1) := by decide +kernel
theorem dX0_go_19 : decode cX0_go 19 = .ok (.iload_n 2, 1) := by decide +kernel
theorem dX0_go_20 : decode cX0_go 20 = .ok (.iconst 1, 1) := by decide +kernel
theorem dX0_go_21 : decode cX0_go 21 = .ok (.isub, 1) := by decide +kernel
theorem dX0_go_22 : decode cX0_go 22 = .ok (.iastore, 1) := by decide +kernel
theorem dX0_go_23 : decode cX0_go 23 = .ok (.aload_n 0, 1) := by decide +kernel
theorem dX0_go_24 : decode cX0_go 24 = .ok (.getfield 16, 3) := by decide +kernel
theorem dX0_go_27 : decode cX0_go 27 = .ok (.iload_n 1, 1) := by decide +kernel
theorem dX0_go_28 : decode cX0_go 28 = .ok (.iload_n 2, 1) := by decide +kernel
theorem dX0_go_29 : decode cX0_go 29 = .ok (.iconst 1, 1) := by decide +kernel
theorem dX0_go_30 : decode cX0_go 30 = .ok (.isub, 1) := by decide +kernel
theorem dX0_go_31 : decode cX0_go 31 = .ok (.invokestatic 61, 3) := by decide +kernel
theorem dX0_go_34 : decode cX0_go 34 = .ok (.iaload, 1) := by decide +kernel
theorem dX0_go_35 : decode cX0_go 35 = .ok (.ireturn, 1) := by decide +kernel
set_option maxRecDepth 20000 in
theorem ggX0_moveWagons_X0_go : GoodIn wsX0_moveWagons wsX0_go := goodIn_r _ [6, 7, 8, 9, 10, 5, 11, 17, 18, 19, 20, 21, 22, 23, 24, 25] (by decide +kernel) (by decide +kernel)
set_option maxRecDepth 20000 in
theorem gX0_moveWagons_X0_go : GoodIn wsX0_moveWagons (wsV RX0 33 RX0 yX0_go wsX0_go) := goodIn_app (goodIn_of _ (by decide +kernel)) ggX0_moveWagons_X0_go
set_option maxRecDepth 20000 in
theorem ggX0_moveWagons_X0_come : GoodIn wsX0_moveWagons wsX0_come := goodIn_r _ [15, 7, 16, 8, 9, 10, 5, 11, 17, 18, 19, 20, 21, 22, 23, 24, 25] (by decide +kernel) (by decide +kernel)
set_option maxRecDepth 20000 in
theorem gX0_moveWagons_X0_come : GoodIn wsX0_moveWagons (wsV RX0 95 RX0 yX0_come wsX0_come) := goodIn_app (goodIn_of _ (by decide +kernel)) ggX0_moveWagons_X0_come
theorem dX0_moveWagons_0 : decode cX0_moveWagons 0 = .ok (.iconst 0, 1) := by decide +kernel
theorem dX0_moveWagons_1 : decode cX0_moveWagons 1 = .ok (.istore 4, 2) := by decide +kernel
theorem dX0_moveWagons_3 : decode cX0_moveWagons 3 = .ok (.iload 4, 2) := by decide +kernel
theorem dX0_moveWagons_5 : decode cX0_moveWagons 5 = .ok (.iload_n 3, 1) := by decide +kernel
theorem dX0_moveWagons_6 : decode cX0_moveWagons 6 = .ok (.if_icmp .ge 59, 3) := by decide +kernel
theorem dX0_moveWagons_9 : decode cX0_moveWagons 9 = .ok (.aload_n 0, 1) := by decide +kernel
theorem dX0_moveWagons_10 : decode cX0_moveWagons 10 = .ok (.iload_n 1, 1) := by decide +kernel
theorem dX0_moveWagons_11 : decode cX0_moveWagons 11 = .ok (.invokevirtual 33, 3) := by decide +kernel
theorem dX0_moveWagons_14 : decode cX0_moveWagons 14 = .ok (.istore 5, 2) := by decide +kernel
theorem dX0_moveWagons_16 : decode cX0_moveWagons 16 = .ok (.iload 5, 2) := by decide +kernel
theorem dX0_moveWagons_18 : decode cX0_moveWagons 18 = .ok (.bipush (-5), 2) := by decide +kernel
theorem dX0_moveWagons_20 : decode cX0_moveWagons 20 = .ok (.if_icmp .ne 6, 3) := by decide +kernel
theorem dX0_moveWagons_23 : decode cX0_moveWagons 23 = .ok (.bipush (-5), 2) := by decide +kernel
theorem dX0_moveWagons_25 : decode cX0_moveWagons 25 = .ok (.ireturn, 1) := by decide +kernel
theorem dX0_moveWagons_26 : decode cX0_moveWagons 26 = .ok (.aload_n 0, 1) := by decide +kernel
theorem dX0_moveWagons_27 : decode cX0_moveWagons 27 = .ok (.iload_n 2, 1) := by decide +kernel
theorem dX0_moveWagons_28 : decode cX0_moveWagons 28 = .ok (.iload 5, 2) := by decide +kernel
theorem dX0_moveWagons_30 : decode cX0_moveWagons 30 = .ok (.invokevirtual 95, 3) := by decide +kernel
theorem dX0_moveWagons_33 : decode cX0_moveWagons 33 = .ok (.bipush (-4), 2) := by decide +kernel
theorem dX0_moveWagons_35 : decode cX0_moveWagons 35 = .ok (.if_icmp .ne 14, 3) := by decide +kernel
theorem dX0_moveWagons_38 : decode cX0_moveWagons 38 = .ok (.aload_n 0, 1) := by decide +kernel
theorem dX0_moveWagons_39 : decode cX0_moveWagons 39 = .ok (.iload_n 1, 1) := by decide +kernel
theorem dX0_moveWagons_40 : decode cX0_moveWagons 40 = .ok (.iload 5, 2) := by decide +kernel
theorem dX0_moveWagons_42 : decode cX0_moveWagons 42 = .ok (.invokevirtual 95, 3) := by decide +kernel
theorem dX0_moveWagons_45 : decode cX0_moveWagons 45 = .ok (.pop, 1) := by decide +kernel
theorem dX0_moveWagons_46 : decode cX0_moveWagons 46 = .ok (.bipush (-4), 2) := by decide +kernel
theorem dX0_moveWagons_48 : decode cX0_moveWagons 48 = .ok (.ireturn, 1) := by decide +kernel
theorem dX0_moveWagons_49 : decode cX0_moveWagons 49 = .ok (.aload_n 0, 1) := by decide +kernel
theorem dX0_moveWagons_50 : decode cX0_moveWagons 50 = .ok (.dup, 1) := by decide +kernel
theorem dX0_moveWagons_51 : decode cX0_moveWagons 51 = .ok (.getfield 40, 3) := by decide +kernel
theorem dX0_moveWagons_54 : decode cX0_moveWagons 54 = .ok (.iconst 1, 1) := by decide +kernel
theorem dX0_moveWagons_55 : decode cX0_moveWagons 55 = .ok (.iadd, 1) := by decide +kernel
theorem dX0_moveWagons_56 : decode cX0_moveWagons 56 = .ok (.putfield 40, 3) := by decide +kernel
theorem dX0_moveWagons_59 : decode cX0_moveWagons 59 = .ok (.iinc 4 1, 3) := by decide +kernel
theorem dX0_moveWagons_62 : decode cX0_moveWagons 62 = .ok (.goto (-59), 3) := by decide +kernel
theorem dX0_moveWagons_65 : decode cX0_moveWagons 65 = .ok (.iload_n 3, 1) := by decide +kernel
theorem dX0_moveWagons_66 : decode cX0_moveWagons 66 = .ok (.ireturn, 1) := by decide +kernel
set_option maxRecDepth 20000 in
theorem ggX0_sortWagons_X0_go : GoodIn wsX0_sortWagons wsX0_go := goodIn_r _ [7, 1, 8, 9, 10, 6, 11, 42, 43, 44, 45, 46, 47, 48, 49, 50] (by decide +kernel) (by decide +kernel)
set_option maxRecDepth 20000 in
theorem gX0_sortWagons_X0_go : GoodIn wsX0_sortWagons (wsV RX0 33 RX0 yX0_go wsX0_go) := goodIn_app (goodIn_of _ (by decide +kernel)) ggX0_sortWagons_X0_go
set_option maxRecDepth 20000 in
theorem ggX0_sortWagons_X0_holdAndCome : GoodIn wsX0_sortWagons wsX0_holdAndCome := goodIn_r _ [15, 16, 17, 18, 6, 19, 20, 21, 22, 23, 24, 25, 26, 27, 28, 29, 30, 31, 32, 33, 34, 35, 36, 1, 8, 9, 10, 11, 37, 38, 39, 40, 41, 42, 43, 44, 45, 46, 47, 48, 49, 50] (by decide +kernel) (by decide +kernel)
set_option maxRecDepth 20000 in
theorem gX0_sortWagons_X0_holdAndCome : GoodIn wsX0_sortWagons (wsV RX0 26 RX0 yX0_holdAndCome wsX0_holdAndCome) := goodIn_app (goodIn_of _ (by decide +kernel)) ggX0_sortWagons_X0_holdAndCome
set_option maxRecDepth 20000 in
theorem ggX0_sortWagons_X0_come : GoodIn wsX0_sortWagons wsX0_come := goodIn_r _ [36, 1, 32, 8, 9, 10, 6, 11, 42, 43, 44, 45, 46, 47, 48, 49, 50] (by decide +kernel) (by decide +kernel)
set_option maxRecDepth 20000 in
theorem gX0_sortWagons_X0_come : GoodIn wsX0_sortWagons (wsV RX0 95 RX0 yX0_come wsX0_come) := goodIn_app (goodIn_of _ (by decide +kernel)) ggX0_sortWagons_X0_come
theorem dX0_sortWagons_0 : decode cX0_sortWagons 0 = .ok (.aload_n 0, 1) := by decide +kernel
theorem dX0_sortWagons_1 : decode cX0_sortWagons 1 = .ok (.getfield 13, 3) := by decide +kernel
theorem dX0_sortWagons_4 : decode cX0_sortWagons 4 = .ok (.iload_n 1, 1) := by decide +kernel
theorem dX0_sortWagons_5 : decode cX0_sortWagons 5 = .ok (.iaload, 1) := by decide +kernel
theorem dX0_sortWagons_6 : decode cX0_sortWagons 6 = .ok (.istore 4, 2) := by decide +kernel
theorem dX0_sortWagons_8 : decode cX0_sortWagons 8 = .ok (.iload 4, 2) := by decide +kernel
theorem dX0_sortWagons_10 : decode cX0_sortWagons 10 = .ok (.ifCond .le 88, 3) := by decide +kernel
theorem dX0_sortWagons_13 : decode cX0_sortWagons 13 = .ok (.aload_n 0, 1) := by decide +kernel
theorem dX0_sortWagons_14 : decode cX0_sortWagons 14 = .ok (.iload_n 1, 1) := by decide +kernel
theorem dX0_sortWagons_15 : decode cX0_sortWagons 15 = .ok (.invokevirtual 33, 3) := by decide +kernel
theorem dX0_sortWagons_18 : decode cX0_sortWagons 18 = .ok (.istore 5, 2) := by decide +kernel
theorem dX0_sortWagons_20 : decode cX0_sortWagons 20 = .ok (.iload 5, 2) := by decide +kernel
theorem dX0_sortWagons_22 : decode cX0_sortWagons 22 = .ok (.bipush 10, 2) := by decide +kernel
theorem dX0_sortWagons_24 : decode cX0_sortWagons 24 = .ok (.irem, 1) := by decide +kernel
theorem dX0_sortWagons_25 : decode cX0_sortWagons 25 = .ok (.istore 6, 2) := by decide +kernel
theorem dX0_sortWagons_27 : decode cX0_sortWagons 27 = .ok (.iload 6, 2) := by decide +kernel
theorem dX0_sortWagons_29 : decode cX0_sortWagons 29 = .ok (.ifCond .ne 6, 3) := by decide +kernel
theorem dX0_sortWagons_32 : decode cX0_sortWagons 32 = .ok (.goto 66, 3) := by decide +kernel
theorem dX0_sortWagons_35 : decode cX0_sortWagons 35 = .ok (.iload 6, 2) := by decide +kernel
theorem dX0_sortWagons_37 : decode cX0_sortWagons 37 = .ok (.bipush 9, 2) := by decide +kernel
theorem dX0_sortWagons_39 : decode cX0_sortWagons 39 = .ok (.if_icmp .ne 6, 3) := by decide +kernel
theorem dX0_sortWagons_42 : decode cX0_sortWagons 42 = .ok (.goto 50, 3) := by decide +kernel
theorem dX0_sortWagons_45 : decode cX0_sortWagons 45 = .ok (.aload_n 0, 1) := by decide +kernel
theorem dX0_sortWagons_46 : decode cX0_sortWagons 46 = .ok (.iload 6, 2) := by decide +kernel
theorem dX0_sortWagons_48 : decode cX0_sortWagons 48 = .ok (.iconst 2, 1) := by decide +kernel
theorem dX0_sortWagons_49 : decode cX0_sortWagons 49 = .ok (.irem, 1) := by decide +kernel
theorem dX0_sortWagons_50 : decode cX0_sortWagons 50 = .ok (.iconst 1, 1) := by decide +kernel
theorem dX0_sortWagons_51 : decode cX0_sortWagons 51 = .ok (.if_icmp .ne 7, 3) := by decide +kernel
theorem dX0_sortWagons_54 : decode cX0_sortWagons 54 = .ok (.iload_n 2, 1) := by decide +kernel
theorem dX0_sortWagons_55 : decode cX0_sortWagons 55 = .ok (.goto 4, 3) := by decide +kernel
theorem dX0_sortWagons_58 : decode cX0_sortWagons 58 = .ok (.iload_n 3, 1) := by decide +kernel
theorem dX0_sortWagons_59 : decode cX0_sortWagons 59 = .ok (.iload 5, 2) := by decide +kernel
theorem dX0_sortWagons_61 : decode cX0_sortWagons 61 = .ok (.invokevirtual 26, 3) := by decide +kernel
theorem dX0_sortWagons_64 : decode cX0_sortWagons 64 = .ok (.istore 7, 2) := by decide +kernel
theorem dX0_sortWagons_66 : decode cX0_sortWagons 66 = .ok (.iload 7, 2) := by decide +kernel
theorem dX0_sortWagons_68 : decode cX0_sortWagons 68 = .ok (.ifCond .ge 14, 3) := by decide +kernel
theorem dX0_sortWagons_71 : decode cX0_sortWagons 71 = .ok (.aload_n 0, 1) := by decide +kernel
theorem dX0_sortWagons_72 : decode cX0_sortWagons 72 = .ok (.iload_n 1, 1) := by decide +kernel
theorem dX0_sortWagons_73 : decode cX0_sortWagons 73 = .ok (.iload 5, 2) := by decide +kernel
theorem dX0_sortWagons_75 : decode cX0_sortWagons 75 = .ok (.invokevirtual 95, 3) := by decide +kernel
theorem dX0_sortWagons_78 : decode cX0_sortWagons 78 = .ok (.pop, 1) := by decide +kernel
theorem dX0_sortWagons_79 : decode cX0_sortWagons 79 = .ok (.iload 7, 2) := by decide +kernel
theorem dX0_sortWagons_81 : decode cX0_sortWagons 81 = .ok (.ireturn, 1) := by decide +kernel
theorem dX0_sortWagons_82 : decode cX0_sortWagons 82 = .ok (.aload_n 0, 1) := by decide +kernel
theorem dX0_sortWagons_83 : decode cX0_sortWagons 83 = .ok (.dup, 1) := by decide +kernel
theorem dX0_sortWagons_84 : decode cX0_sortWagons 84 = .ok (.getfield 40, 3) := by decide +kernel
theorem dX0_sortWagons_87 : decode cX0_sortWagons 87 = .ok (.iconst 1, 1) := by decide +kernel
theorem dX0_sortWagons_88 : decode cX0_sortWagons 88 = .ok (.iadd, 1) := by decide +kernel
theorem dX0_sortWagons_89 : decode cX0_sortWagons 89 = .ok (.putfield 40, 3) := by decide +kernel
theorem dX0_sortWagons_92 : decode cX0_sortWagons 92 = .ok (.iinc 4 (-1), 3) := by decide +kernel
theorem dX0_sortWagons_95 : decode cX0_sortWagons 95 = .ok (.goto (-87), 3) := by decide +kernel
theorem dX0_sortWagons_98 : decode cX0_sortWagons 98 = .ok (.aload_n 0, 1) := by decide +kernel
theorem dX0_sortWagons_99 : decode cX0_sortWagons 99 = .ok (.getfield 40, 3) := by decide +kernel
theorem dX0_sortWagons_102 : decode cX0_sortWagons 102 = .ok (.ireturn, 1) := by decide +kernel
set_option maxRecDepth 20000 in
theorem ggX0_takeOnTour_X0_go : GoodIn wsX0_takeOnTour wsX0_go := goodIn_r _ [6, 7, 8, 9, 10, 5, 11, 17, 18, 19, 20, 21, 22, 23, 24, 25] (by decide +kernel) (by decide +kernel)
set_option maxRecDepth 20000 in
theorem gX0_takeOnTour_X0_go : GoodIn wsX0_takeOnTour (wsV RX0 33 RX0 yX0_go wsX0_go) := goodIn_app (goodIn_of _ (by decide +kernel)) ggX0_takeOnTour_X0_go
set_option maxRecDepth 20000 in
theorem ggX0_takeOnTour_X0_come : GoodIn wsX0_takeOnTour wsX0_come := goodIn_r _ [15, 7, 16, 8, 9, 10, 5, 11, 17, 18, 19, 20, 21, 22, 23, 24, 25] (by decide +kernel) (by decide +kernel)
set_option maxRecDepth 20000 in
theorem gX0_takeOnTour_X0_come : GoodIn wsX0_takeOnTour (wsV RX0 95 RX0 yX0_come wsX0_come) := goodIn_app (goodIn_of _ (by decide +kernel)) ggX0_takeOnTour_X0_come
theorem dX0_takeOnTour_0 : decode cX0_takeOnTour 0 = .ok (.aload_n 0, 1) := by decide +kernel
theorem dX0_takeOnTour_1 : decode cX0_takeOnTour 1 = .ok (.iload_n 1, 1) := by decide +kernel
theorem dX0_takeOnTour_2 : decode cX0_takeOnTour 2 = .ok (.invokevirtual 33, 3) := by decide +kernel
theorem dX0_takeOnTour_5 : decode cX0_takeOnTour 5 = .ok (.istore_n 2, 1) := by decide +kernel
theorem dX0_takeOnTour_6 : decode cX0_takeOnTour 6 = .ok (.iload_n 2, 1) := by decide +kernel
theorem dX0_takeOnTour_7 : decode cX0_takeOnTour 7 = .ok (.bipush 10, 2) := by decide +kernel
theorem dX0_takeOnTour_9 : decode cX0_takeOnTour 9 = .ok (.irem, 1) := by decide +kernel
theorem dX0_takeOnTour_10 : decode cX0_takeOnTour 10 = .ok (.bipush 9, 2) := by decide +kernel
theorem dX0_takeOnTour_12 : decode cX0_takeOnTour 12 = .ok (.if_icmp .ne 12, 3) := by decide +kernel
theorem dX0_takeOnTour_15 : decode cX0_takeOnTour 15 = .ok (.aload_n 0, 1) := by decide +kernel
theorem dX0_takeOnTour_16 : decode cX0_takeOnTour 16 = .ok (.iload_n 1, 1) := by decide +kernel
theorem dX0_takeOnTour_17 : decode cX0_takeOnTour 17 = .ok (.iload_n 2, 1) := by decide +kernel
theorem dX0_takeOnTour_18 : decode cX0_takeOnTour 18 = .ok (.invokevirtual 95, 3) := by decide +kernel
theorem dX0_takeOnTour_21 : decode cX0_takeOnTour 21 = .ok (.pop, 1) := by decide +kernel
theorem dX0_takeOnTour_22 : decode cX0_takeOnTour 22 = .ok (.iconst 0, 1) := by decide +kernel
theorem dX0_takeOnTour_23 : decode cX0_takeOnTour 23 = .ok (.ireturn, 1) := by decide +kernel
theorem dX0_takeOnTour_24 : decode cX0_takeOnTour 24 = .ok (.aload_n 0, 1) := by decide +kernel
theorem dX0_takeOnTour_25 : decode cX0_takeOnTour 25 = .ok (.dup, 1) := by decide +kernel
theorem dX0_takeOnTour_26 : decode cX0_takeOnTour 26 = .ok (.getfield 40, 3) := by decide +kernel
theorem dX0_takeOnTour_29 : decode cX0_takeOnTour 29 = .ok (.iconst 1, 1) := by decide +kernel
theorem dX0_takeOnTour_30 : decode cX0_takeOnTour 30 = .ok (.iadd, 1) := by decide +kernel
theorem dX0_takeOnTour_31 : decode cX0_takeOnTour 31 = .ok (.putfield 40, 3) := by decide +kernel
theorem dX0_takeOnTour_34 : decode cX0_takeOnTour 34 = .ok (.iload_n 2, 1) := by decide +kernel
theorem dX0_takeOnTour_35 : decode cX0_takeOnTour 35 = .ok (.ireturn, 1) := by decide +kernel
theorem dX0_exchangePlaces_0 : decode cX0_exchangePlaces 0 = .ok (.aload_n 0, 1) := by decide +kernel
theorem dX0_exchangePlaces_1 : decode cX0_exchangePlaces 1 = .ok (.getfield 16, 3) := by decide +kernel
theorem dX0_exchangePlaces_4 : decode cX0_exchangePlaces 4 = .ok (.iload_n 1, 1) := by decide +kernel
theorem dX0_exchangePlaces_5 : decode cX0_exchangePlaces 5 = .ok (.iaload, 1) := by decide +kernel
theorem dX0_exchangePlaces_6 : decode cX0_exchangePlaces 6 = .ok (.istore_n 3, 1) := by decide +kernel
theorem dX0_exchangePlaces_7 : decode cX0_exchangePlaces 7 = .ok (.aload_n 0, 1) := by decide +kernel
theorem dX0_exchangePlaces_8 : decode cX0_exchangePlaces 8 = .ok (.getfield 16, 3) := by decide +kernel
theorem dX0_exchangePlaces_11 : decode cX0_exchangePlaces 11 = .ok (.iload_n 1, 1) := by decide +kernel
theorem dX0_exchangePlaces_12 : decode cX0_exchangePlaces 12 = .ok (.aload_n 0, 1) := by decide +kernel
theorem dX0_exchangePlaces_13 : decode cX0_exchangePlaces 13 = .ok (.getfield 16, 3) := by decide +kernel
theorem dX0_exchangePlaces_16 : decode cX0_exchangePlaces 16 = .ok (.iload_n 2, 1) := by decide +kernel
theorem dX0_exchangePlaces_17 : decode cX0_exchangePlaces 17 = .ok (.iaload, 1) := by decide +kernel
theorem dX0_exchangePlaces_18 : decode cX0_exchangePlaces 18 = .ok (.iastore, 1) := by decide +kernel
theorem dX0_exchangePlaces_19 : decode cX0_exchangePlaces 19 = .ok (.aload_n 0, 1) := by decide +kernel
theorem dX0_exchangePlaces_20 : decode cX0_exchangePlaces 20 = .ok (.getfield 16, 3) := by decide +kernel
theorem dX0_exchangePlaces_23 : decode cX0_exchangePlaces 23 = .ok (.iload_n 2, 1) := by decide +kernel
theorem dX0_exchangePlaces_24 : decode cX0_exchangePlaces 24 = .ok (.iload_n 3, 1) := by decide +kernel
theorem dX0_exchangePlaces_25 : decode cX0_exchangePlaces 25 = .ok (.iastore, 1) := by decide +kernel
theorem dX0_exchangePlaces_26 : decode cX0_exchangePlaces 26 = .ok (.return_, 1) := by decide +kernel
set_option maxRecDepth 20000 in
theorem ggX0_exchangeRows_X0_place : GoodIn wsX0_exchangeRows wsX0_place := goodIn_r _ [6] (by decide +kernel) (by decide +kernel)
set_option maxRecDepth 20000 in
theorem gX0_exchangeRows_X0_place : GoodIn wsX0_exchangeRows (va_wsS RX0 61 yX0_place wsX0_place) := goodIn_app (goodIn_of _ (by decide +kernel)) ggX0_exchangeRows_X0_place
set_option maxRecDepth 20000 in
theorem ggX0_exchangeRows_X0_exchangePlaces : GoodIn wsX0_exchangeRows wsX0_exchangePlaces := goodIn_r _ [10, 11, 12, 13, 14, 15, 16, 17, 18, 19, 20] (by decide +kernel) (by decide +kernel)
set_option maxRecDepth 20000 in
theorem gX0_exchangeRows_X0_exchangePlaces : GoodIn wsX0_exchangeRows (wsV RX0 64 RX0 yX0_exchangePlaces wsX0_exchangePlaces) := goodIn_app (goodIn_of _ (by decide +kernel)) ggX0_exchangeRows_X0_exchangePlaces
theorem dX0_exchangeRows_0 : decode cX0_exchangeRows 0 = .ok (.aload_n 0, 1) := by decide +kernel
theorem dX0_exchangeRows_1 : decode cX0_exchangeRows 1 = .ok (.getfield 13, 3) := by decide +kernel
theorem dX0_exchangeRows_4 : decode cX0_exchangeRows 4 = .ok (.iload_n 1, 1) := by decide +kernel
theorem dX0_exchangeRows_5 : decode cX0_exchangeRows 5 = .ok (.iaload, 1) := by decide +kernel
theorem dX0_exchangeRows_6 : decode cX0_exchangeRows 6 = .ok (.istore_n 3, 1) := by decide +kernel
theorem dX0_exchangeRows_7 : decode cX0_exchangeRows 7 = .ok (.aload_n 0, 1) := by decide +kernel
theorem dX0_exchangeRows_8 : decode cX0_exchangeRows 8 = .ok (.getfield 13, 3) := by decide +kernel
theorem dX0_exchangeRows_11 : decode cX0_exchangeRows 11 = .ok (.iload_n 2, 1) := by decide +kernel
theorem dX0_exchangeRows_12 : decode cX0_exchangeRows 12 = .ok (.iaload, 1) := by decide +kernel
theorem dX0_exchangeRows_13 : decode cX0_exchangeRows 13 = .ok (.istore 4, 2) := by decide +kernel
theorem dX0_exchangeRows_15 : decode cX0_exchangeRows 15 = .ok (.iload_n 3, 1) := by decide +kernel
theorem dX0_exchangeRows_16 : decode cX0_exchangeRows 16 = .ok (.aload_n 0, 1) := by decide +kernel
theorem dX0_exchangeRows_17 : decode cX0_exchangeRows 17 = .ok (.getfield 9, 3) := by decide +kernel
theorem dX0_exchangeRows_20 : decode cX0_exchangeRows 20 = .ok (.iload_n 2, 1) := by decide +kernel
theorem dX0_exchangeRows_21 : decode cX0_exchangeRows 21 = .ok (.iaload, 1) := by decide +kernel
theorem dX0_exchangeRows_22 : decode cX0_exchangeRows 22 = .ok (.if_icmp .gt 14, 3) := by decide +kernel
theorem dX0_exchangeRows_25 : decode cX0_exchangeRows 25 = .ok (.iload 4, 2) := by decide +kernel
theorem dX0_exchangeRows_27 : decode cX0_exchangeRows 27 = .ok (.aload_n 0, 1) := by decide +kernel
theorem dX0_exchangeRows_28 : decode cX0_exchangeRows 28 = .ok (.getfield 9, 3) := by decide +kernel
theorem dX0_exchangeRows_31 : decode cX0_exchangeRows 31 = .ok (.iload_n 1, 1) := by decide +kernel
theorem dX0_exchangeRows_32 : decode cX0_exchangeRows 32 = .ok (.iaload, 1) := by decide +kernel
theorem dX0_exchangeRows_33 : decode cX0_exchangeRows 33 = .ok (.if_icmp .le 6, 3) := by decide +kernel
theorem dX0_exchangeRows_36 : decode cX0_exchangeRows 36 = .ok (.bipush (-4), 2) := by decide +kernel
theorem dX0_exchangeRows_38 : decode cX0_exchangeRows 38 = .ok (.ireturn, 1) := by decide +kernel
theorem dX0_exchangeRows_39 : decode cX0_exchangeRows 39 = .ok (.iconst 0, 1) := by decide +kernel
theorem dX0_exchangeRows_40 : decode cX0_exchangeRows 40 = .ok (.istore 5, 2) := by decide +kernel
theorem dX0_exchangeRows_42 : decode cX0_exchangeRows 42 = .ok (.iload 5, 2) := by decide +kernel
theorem dX0_exchangeRows_44 : decode cX0_exchangeRows 44 = .ok (.bipush 12, 2) := by decide +kernel
theorem dX0_exchangeRows_46 : decode cX0_exchangeRows 46 = .ok (.if_icmp .ge 25, 3) := by decide +kernel
theorem dX0_exchangeRows_49 : decode cX0_exchangeRows 49 = .ok (.aload_n 0, 1) := by decide +kernel
theorem dX0_exchangeRows_50 : decode cX0_exchangeRows 50 = .ok (.iload_n 1, 1) := by decide +kernel
theorem dX0_exchangeRows_51 : decode cX0_exchangeRows 51 = .ok (.iload 5, 2) := by decide +kernel
theorem dX0_exchangeRows_53 : decode cX0_exchangeRows 53 = .ok (.invokestatic 61, 3) := by decide +kernel
theorem dX0_exchangeRows_56 : decode cX0_exchangeRows 56 = .ok (.iload_n 2, 1) := by decide +kernel
theorem dX0_exchangeRows_57 : decode cX0_exchangeRows 57 = .ok (.iload 5, 2) := by decide +kernel
theorem dX0_exchangeRows_59 : decode cX0_exchangeRows 59 = .ok (.invokestatic 61, 3) := by decide +kernel
theorem dX0_exchangeRows_62 : decode cX0_exchangeRows 62 = .ok (.invokevirtual 64, 3) := by decide +kernel
theorem dX0_exchangeRows_65 : decode cX0_exchangeRows 65 = .ok (.iinc 5 1, 3) := by decide +kernel
theorem dX0_exchangeRows_68 : decode cX0_exchangeRows 68 = .ok (.goto (-26), 3) := by decide +kernel
theorem dX0_exchangeRows_71 : decode cX0_exchangeRows 71 = .ok (.aload_n 0, 1) := by decide +kernel
theorem dX0_exchangeRows_72 : decode cX0_exchangeRows 72 = .ok (.getfield 13, 3) := by decide +kernel
theorem dX0_exchangeRows_75 : decode cX0_exchangeRows 75 = .ok (.iload_n 1, 1) := by decide +kernel
theorem dX0_exchangeRows_76 : decode cX0_exchangeRows 76 = .ok (.iload 4, 2) := by decide +kernel
theorem dX0_exchangeRows_78 : decode cX0_exchangeRows 78 = .ok (.iastore, 1) := by decide +kernel
theorem dX0_exchangeRows_79 : decode cX0_exchangeRows 79 = .ok (.aload_n 0, 1) := by decide +kernel
theorem dX0_exchangeRows_80 : decode cX0_exchangeRows 80 = .ok (.getfield 13, 3) := by decide +kernel
theorem dX0_exchangeRows_83 : decode cX0_exchangeRows 83 = .ok (.iload_n 2, 1) := by decide +kernel
theorem dX0_exchangeRows_84 : decode cX0_exchangeRows 84 = .ok (.iload_n 3, 1) := by decide +kernel
theorem dX0_exchangeRows_85 : decode cX0_exchangeRows 85 = .ok (.iastore, 1) := by decide +kernel
theorem dX0_exchangeRows_86 : decode cX0_exchangeRows 86 = .ok (.iload 4, 2) := by decide +kernel
theorem dX0_exchangeRows_88 : decode cX0_exchangeRows 88 = .ok (.ireturn, 1) := by decide +kernel
