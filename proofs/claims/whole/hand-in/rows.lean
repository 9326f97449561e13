section
-- ===== PART A: goes FIRST, ahead of the names: the tables' words, and 'selects' of the private methods out of them =====
/-- a private method of a class that the tables say can be made, by its rows of tables_1 -/
def lw_okq (q : MethodName × Nat) : Prop := (q.1.cls ≠ "java/lang/invoke/MethodHandle" ∧ q.1.cls ≠ "java/lang/invoke/VarHandle") ∧ Cond.instantiable q.1.cls q.2 ∈ tables_1 ∧ Cond.privateMethod q.1 ∈ tables_1 ∧ Cond.instanceMethod q.1 ∈ tables_1
theorem lw_p0 : lw_okq (⟨"YardHolds", "isThere", "(I)Z"⟩, 9) := ⟨⟨by decide +kernel, by decide +kernel⟩, List.mem_of_getElem? (i := 5) (by decide +kernel), List.mem_of_getElem? (i := 49) (by decide +kernel), List.mem_of_getElem? (i := 50) (by decide +kernel)⟩
theorem lw_p1 : lw_okq (⟨"YardHolds", "holdAndCome", "(II)I"⟩, 9) := ⟨⟨by decide +kernel, by decide +kernel⟩, List.mem_of_getElem? (i := 5) (by decide +kernel), List.mem_of_getElem? (i := 61) (by decide +kernel), List.mem_of_getElem? (i := 62) (by decide +kernel)⟩
theorem lw_p2 : lw_okq (⟨"YardHolds", "hold", "(I)Z"⟩, 9) := ⟨⟨by decide +kernel, by decide +kernel⟩, List.mem_of_getElem? (i := 5) (by decide +kernel), List.mem_of_getElem? (i := 65) (by decide +kernel), List.mem_of_getElem? (i := 66) (by decide +kernel)⟩
theorem lw_p3 : lw_okq (⟨"YardHolds", "come", "(II)I"⟩, 9) := ⟨⟨by decide +kernel, by decide +kernel⟩, List.mem_of_getElem? (i := 5) (by decide +kernel), List.mem_of_getElem? (i := 72) (by decide +kernel), List.mem_of_getElem? (i := 73) (by decide +kernel)⟩
theorem lw_p4 : lw_okq (⟨"YardHolds", "letGo", "(II)I"⟩, 9) := ⟨⟨by decide +kernel, by decide +kernel⟩, List.mem_of_getElem? (i := 5) (by decide +kernel), List.mem_of_getElem? (i := 79) (by decide +kernel), List.mem_of_getElem? (i := 80) (by decide +kernel)⟩
theorem lw_p5 : lw_okq (⟨"YardHolds", "go", "(I)I"⟩, 9) := ⟨⟨by decide +kernel, by decide +kernel⟩, List.mem_of_getElem? (i := 5) (by decide +kernel), List.mem_of_getElem? (i := 87) (by decide +kernel), List.mem_of_getElem? (i := 88) (by decide +kernel)⟩
theorem lw_p6 : lw_okq (⟨"YardHolds", "moveWagons", "(III)I"⟩, 9) := ⟨⟨by decide +kernel, by decide +kernel⟩, List.mem_of_getElem? (i := 5) (by decide +kernel), List.mem_of_getElem? (i := 95) (by decide +kernel), List.mem_of_getElem? (i := 96) (by decide +kernel)⟩
theorem lw_p7 : lw_okq (⟨"YardHolds", "sortWagons", "(III)I"⟩, 9) := ⟨⟨by decide +kernel, by decide +kernel⟩, List.mem_of_getElem? (i := 5) (by decide +kernel), List.mem_of_getElem? (i := 103) (by decide +kernel), List.mem_of_getElem? (i := 104) (by decide +kernel)⟩
theorem lw_p8 : lw_okq (⟨"YardHolds", "takeOnTour", "(I)I"⟩, 9) := ⟨⟨by decide +kernel, by decide +kernel⟩, List.mem_of_getElem? (i := 5) (by decide +kernel), List.mem_of_getElem? (i := 117) (by decide +kernel), List.mem_of_getElem? (i := 118) (by decide +kernel)⟩
theorem lw_p9 : lw_okq (⟨"YardHolds", "exchangePlaces", "(II)V"⟩, 9) := ⟨⟨by decide +kernel, by decide +kernel⟩, List.mem_of_getElem? (i := 5) (by decide +kernel), List.mem_of_getElem? (i := 133) (by decide +kernel), List.mem_of_getElem? (i := 134) (by decide +kernel)⟩
theorem lw_p10 : lw_okq (⟨"YardHolds", "exchangeRows", "(II)I"⟩, 9) := ⟨⟨by decide +kernel, by decide +kernel⟩, List.mem_of_getElem? (i := 5) (by decide +kernel), List.mem_of_getElem? (i := 141) (by decide +kernel), List.mem_of_getElem? (i := 142) (by decide +kernel)⟩
theorem lw_p11 : lw_okq (⟨"YardHolds", "tracksThere", "()I"⟩, 9) := ⟨⟨by decide +kernel, by decide +kernel⟩, List.mem_of_getElem? (i := 5) (by decide +kernel), List.mem_of_getElem? (i := 153) (by decide +kernel), List.mem_of_getElem? (i := 154) (by decide +kernel)⟩
theorem lw_p12 : lw_okq (⟨"YardHoldsModel", "holds", "(I)Z"⟩, 9) := ⟨⟨by decide +kernel, by decide +kernel⟩, List.mem_of_getElem? (i := 157) (by decide +kernel), List.mem_of_getElem? (i := 209) (by decide +kernel), List.mem_of_getElem? (i := 210) (by decide +kernel)⟩
theorem lw_p13 : lw_okq (⟨"YardHoldsModel", "isFull", "(I)Z"⟩, 9) := ⟨⟨by decide +kernel, by decide +kernel⟩, List.mem_of_getElem? (i := 157) (by decide +kernel), List.mem_of_getElem? (i := 213) (by decide +kernel), List.mem_of_getElem? (i := 214) (by decide +kernel)⟩
theorem lw_p14 : lw_okq (⟨"YardHoldsModel", "goes", "(II)I"⟩, 9) := ⟨⟨by decide +kernel, by decide +kernel⟩, List.mem_of_getElem? (i := 157) (by decide +kernel), List.mem_of_getElem? (i := 217) (by decide +kernel), List.mem_of_getElem? (i := 218) (by decide +kernel)⟩
theorem lw_p15 : lw_okq (⟨"YardHoldsModel", "come", "(II)V"⟩, 9) := ⟨⟨by decide +kernel, by decide +kernel⟩, List.mem_of_getElem? (i := 157) (by decide +kernel), List.mem_of_getElem? (i := 221) (by decide +kernel), List.mem_of_getElem? (i := 222) (by decide +kernel)⟩
def lw_privs_1 : List (MethodName × Nat) := [(⟨"YardHolds", "isThere", "(I)Z"⟩, 9), (⟨"YardHolds", "holdAndCome", "(II)I"⟩, 9), (⟨"YardHolds", "hold", "(I)Z"⟩, 9), (⟨"YardHolds", "come", "(II)I"⟩, 9), (⟨"YardHolds", "letGo", "(II)I"⟩, 9), (⟨"YardHolds", "go", "(I)I"⟩, 9), (⟨"YardHolds", "moveWagons", "(III)I"⟩, 9), (⟨"YardHolds", "sortWagons", "(III)I"⟩, 9), (⟨"YardHolds", "takeOnTour", "(I)I"⟩, 9), (⟨"YardHolds", "exchangePlaces", "(II)V"⟩, 9), (⟨"YardHolds", "exchangeRows", "(II)I"⟩, 9), (⟨"YardHolds", "tracksThere", "()I"⟩, 9), (⟨"YardHoldsModel", "holds", "(I)Z"⟩, 9), (⟨"YardHoldsModel", "isFull", "(I)Z"⟩, 9), (⟨"YardHoldsModel", "goes", "(II)I"⟩, 9), (⟨"YardHoldsModel", "come", "(II)V"⟩, 9)]
theorem lw_r1 : ∀ q ∈ lw_privs_1, lw_okq q := List.forall_mem_cons.mpr ⟨lw_p0, List.forall_mem_cons.mpr ⟨lw_p1, List.forall_mem_cons.mpr ⟨lw_p2, List.forall_mem_cons.mpr ⟨lw_p3, List.forall_mem_cons.mpr ⟨lw_p4, List.forall_mem_cons.mpr ⟨lw_p5, List.forall_mem_cons.mpr ⟨lw_p6, List.forall_mem_cons.mpr ⟨lw_p7, List.forall_mem_cons.mpr ⟨lw_p8, List.forall_mem_cons.mpr ⟨lw_p9, List.forall_mem_cons.mpr ⟨lw_p10, List.forall_mem_cons.mpr ⟨lw_p11, List.forall_mem_cons.mpr ⟨lw_p12, List.forall_mem_cons.mpr ⟨lw_p13, List.forall_mem_cons.mpr ⟨lw_p14, List.forall_mem_cons.mpr ⟨lw_p15, fun _ h => absurd h List.not_mem_nil⟩⟩⟩⟩⟩⟩⟩⟩⟩⟩⟩⟩⟩⟩⟩⟩
theorem lw_p16 : lw_okq (⟨"YardHoldsModel", "last", "(I)I"⟩, 9) := ⟨⟨by decide +kernel, by decide +kernel⟩, List.mem_of_getElem? (i := 157) (by decide +kernel), List.mem_of_getElem? (i := 229) (by decide +kernel), List.mem_of_getElem? (i := 230) (by decide +kernel)⟩
def lw_privs_2 : List (MethodName × Nat) := [(⟨"YardHoldsModel", "last", "(I)I"⟩, 9)]
theorem lw_r2 : ∀ q ∈ lw_privs_2, lw_okq q := List.forall_mem_cons.mpr ⟨lw_p16, fun _ h => absurd h List.not_mem_nil⟩
def lw_privs : List (MethodName × Nat) := lw_privs_1 ++ (lw_privs_2)
def lw_tbl : List Cond := k2_sels lw_privs ++ tables_1
theorem lw_privs_ok : ∀ q ∈ lw_privs, lw_okq q := by
  show ∀ q ∈ lw_privs_1 ++ (lw_privs_2), lw_okq q
  exact List.forall_mem_append.mpr ⟨lw_r1, lw_r2⟩
-- ===== end of PART A; then your names; then what follows =====
end
section
/-! ===== BEGIN words of one list among another's, by their places ===== -/
theorem goodIn_r {big : List Cond} (ws : List Cond) (ps : List Nat) (hp : ws = ps.filterMap (fun i => big[i]?)) (h : ws.all goodWord = true) : GoodIn big ws := by
  intro w hw
  have h1 := List.all_eq_true.mp h w hw
  rw [hp] at hw
  obtain ⟨i, -, hi⟩ := List.mem_filterMap.mp hw
  have hm : w ∈ big := by first | exact List.mem_of_getElem? hi | exact List.getElem?_mem hi
  exact ⟨hm, good_of_word h1⟩
theorem goodIn_app {big a b : List Cond} (ha : GoodIn big a) (hb : GoodIn big b) : GoodIn big (a ++ b) := fun w h => (List.mem_append.mp h).elim (ha w) (hb w)
theorem goodIn_ca {big a b : List Cond} {c : Cond} (ha : GoodIn big (c :: a)) (hb : GoodIn big b) : GoodIn big (c :: (a ++ b)) := fun w h => (List.mem_cons.mp h).elim (fun e => ha w (List.mem_cons.mpr (Or.inl e))) (fun h => (List.mem_append.mp h).elim (fun h => ha w (List.mem_cons.mpr (Or.inr h))) (hb w))
theorem goodIn_sub {big ws : List Cond} (hm : ∀ w ∈ ws, w ∈ big) (h : ws.all goodWord = true) : GoodIn big ws := fun w hw => ⟨hm w hw, good_of_word (List.all_eq_true.mp h w hw)⟩
/-! ===== END ===== -/

/-! ===== BEGIN printed: names, fields, word lists, decode rows ===== -/
def RX0 : String := "YardHolds"
def TX0 : u_T := fun k => match k with
  | 0 => ("YardHolds", "rooms", "[I", true)
  | 1 => ("YardHolds", "counts", "[I", true)
  | 2 => ("YardHolds", "wagons", "[I", true)
  | 3 => ("YardHolds", "asked", "I", false)
  | 4 => ("YardHolds", "held", "I", false)
  | 5 => ("YardHolds", "broken", "I", false)
  | 6 => ("YardHolds", "depth", "I", false)
  | 7 => ("YardHolds", "deepest", "I", false)
  | _ => ("YardHolds", "moved", "I", false)
def tyX0 : Nat → FieldType := fun k => match k with
  | 0 => .array .int
  | 1 => .array .int
  | 2 => .array .int
  | 3 => .int
  | 4 => .int
  | 5 => .int
  | 6 => .int
  | 7 => .int
  | _ => .int
abbrev wsX00 : List Cond := u_ws RX0 TX0 9
theorem nmX0 : ∀ a, a < 9 → ∀ b, b < 9 → a ≠ b → (TX0 a).2.1 ≠ (TX0 b).2.1 := by decide +kernel
theorem tyX0_ok : ∀ k, k < 9 → parseFieldDescriptor (TX0 k).2.2.1 = some (tyX0 k) := by decide +kernel
abbrev cX0_init : ByteArray := prog_1_method_1_code
def yX0_init : MethodName := ⟨RX0, "<init>", "()V"⟩
abbrev cX0_lay : ByteArray := prog_1_method_2_code
def yX0_lay : MethodName := ⟨RX0, "lay", "(II)I"⟩
abbrev cX0_lift : ByteArray := prog_1_method_3_code
def yX0_lift : MethodName := ⟨RX0, "lift", "(I)I"⟩
abbrev cX0_couple : ByteArray := prog_1_method_4_code
def yX0_couple : MethodName := ⟨RX0, "couple", "(II)I"⟩
abbrev cX0_uncouple : ByteArray := prog_1_method_5_code
def yX0_uncouple : MethodName := ⟨RX0, "uncouple", "(I)I"⟩
abbrev cX0_shunt : ByteArray := prog_1_method_6_code
def yX0_shunt : MethodName := ⟨RX0, "shunt", "(III)I"⟩
abbrev cX0_sweep : ByteArray := prog_1_method_7_code
def yX0_sweep : MethodName := ⟨RX0, "sweep", "(III)I"⟩
abbrev cX0_tour : ByteArray := prog_1_method_8_code
def yX0_tour : MethodName := ⟨RX0, "tour", "(JI)I"⟩
abbrev cX0_chain : ByteArray := prog_1_method_9_code
def yX0_chain : MethodName := ⟨RX0, "chain", "(JI)I"⟩
abbrev cX0_survey : ByteArray := prog_1_method_10_code
def yX0_survey : MethodName := ⟨RX0, "survey", "(JI)I"⟩
abbrev cX0_turn : ByteArray := prog_1_method_11_code
def yX0_turn : MethodName := ⟨RX0, "turn", "(I)I"⟩
abbrev cX0_swap : ByteArray := prog_1_method_12_code
def yX0_swap : MethodName := ⟨RX0, "swap", "(II)I"⟩
abbrev cX0_wagon : ByteArray := prog_1_method_13_code
def yX0_wagon : MethodName := ⟨RX0, "wagon", "(II)I"⟩
abbrev cX0_told : ByteArray := prog_1_method_14_code
def yX0_told : MethodName := ⟨RX0, "told", "(I)I"⟩
abbrev cX0_isTrack : ByteArray := prog_1_method_15_code
def yX0_isTrack : MethodName := ⟨RX0, "isTrack", "(I)Z"⟩
abbrev cX0_isRowLength : ByteArray := prog_1_method_16_code
def yX0_isRowLength : MethodName := ⟨RX0, "isRowLength", "(I)Z"⟩
abbrev cX0_trackOfRow : ByteArray := prog_1_method_17_code
def yX0_trackOfRow : MethodName := ⟨RX0, "trackOfRow", "(JI)I"⟩
abbrev cX0_place : ByteArray := prog_1_method_18_code
def yX0_place : MethodName := ⟨RX0, "place", "(II)I"⟩
abbrev cX0_isThere : ByteArray := prog_1_method_19_code
def yX0_isThere : MethodName := ⟨RX0, "isThere", "(I)Z"⟩
abbrev cX0_tracksThere : ByteArray := prog_1_method_20_code
def yX0_tracksThere : MethodName := ⟨RX0, "tracksThere", "()I"⟩
abbrev cX0_hold : ByteArray := prog_1_method_21_code
def yX0_hold : MethodName := ⟨RX0, "hold", "(I)Z"⟩
abbrev cX0_letGo : ByteArray := prog_1_method_22_code
def yX0_letGo : MethodName := ⟨RX0, "letGo", "(II)I"⟩
abbrev cX0_holdAndCome : ByteArray := prog_1_method_23_code
def yX0_holdAndCome : MethodName := ⟨RX0, "holdAndCome", "(II)I"⟩
abbrev cX0_come : ByteArray := prog_1_method_24_code
def yX0_come : MethodName := ⟨RX0, "come", "(II)I"⟩
abbrev cX0_go : ByteArray := prog_1_method_25_code
def yX0_go : MethodName := ⟨RX0, "go", "(I)I"⟩
abbrev cX0_moveWagons : ByteArray := prog_1_method_26_code
def yX0_moveWagons : MethodName := ⟨RX0, "moveWagons", "(III)I"⟩
abbrev cX0_sortWagons : ByteArray := prog_1_method_27_code
def yX0_sortWagons : MethodName := ⟨RX0, "sortWagons", "(III)I"⟩
abbrev cX0_takeOnTour : ByteArray := prog_1_method_28_code
def yX0_takeOnTour : MethodName := ⟨RX0, "takeOnTour", "(I)I"⟩
abbrev cX0_exchangePlaces : ByteArray := prog_1_method_29_code
def yX0_exchangePlaces : MethodName := ⟨RX0, "exchangePlaces", "(II)V"⟩
abbrev cX0_exchangeRows : ByteArray := prog_1_method_30_code
def yX0_exchangeRows : MethodName := ⟨RX0, "exchangeRows", "(II)I"⟩
def RX1 : String := "YardHoldsModel"
def TX1 : u_T := fun k => match k with
  | 0 => ("YardHoldsModel", "rooms", "[I", true)
  | 1 => ("YardHoldsModel", "sizes", "[I", true)
  | 2 => ("YardHoldsModel", "wagons", "[I", true)
  | 3 => ("YardHoldsModel", "asked", "I", false)
  | 4 => ("YardHoldsModel", "held", "I", false)
  | 5 => ("YardHoldsModel", "broken", "I", false)
  | 6 => ("YardHoldsModel", "depth", "I", false)
  | 7 => ("YardHoldsModel", "deepest", "I", false)
  | _ => ("YardHoldsModel", "moved", "I", false)
def tyX1 : Nat → FieldType := fun k => match k with
  | 0 => .array .int
  | 1 => .array .int
  | 2 => .array .int
  | 3 => .int
  | 4 => .int
  | 5 => .int
  | 6 => .int
  | 7 => .int
  | _ => .int
abbrev wsX10 : List Cond := u_ws RX1 TX1 9
theorem nmX1 : ∀ a, a < 9 → ∀ b, b < 9 → a ≠ b → (TX1 a).2.1 ≠ (TX1 b).2.1 := by decide +kernel
theorem tyX1_ok : ∀ k, k < 9 → parseFieldDescriptor (TX1 k).2.2.1 = some (tyX1 k) := by decide +kernel
abbrev cX1_init : ByteArray := prog_3_method_1_code
def yX1_init : MethodName := ⟨RX1, "<init>", "()V"⟩
abbrev cX1_in : ByteArray := prog_3_method_2_code
def yX1_in : MethodName := ⟨RX1, "in", "(III)Z"⟩
abbrev cX1_isTrack : ByteArray := prog_3_method_3_code
def yX1_isTrack : MethodName := ⟨RX1, "isTrack", "(I)Z"⟩
abbrev cX1_holds : ByteArray := prog_3_method_4_code
def yX1_holds : MethodName := ⟨RX1, "holds", "(I)Z"⟩
abbrev cX1_goes : ByteArray := prog_3_method_5_code
def yX1_goes : MethodName := ⟨RX1, "goes", "(II)I"⟩
abbrev cX1_last : ByteArray := prog_3_method_6_code
def yX1_last : MethodName := ⟨RX1, "last", "(I)I"⟩
abbrev cX1_come : ByteArray := prog_3_method_7_code
def yX1_come : MethodName := ⟨RX1, "come", "(II)V"⟩
abbrev cX1_isFull : ByteArray := prog_3_method_8_code
def yX1_isFull : MethodName := ⟨RX1, "isFull", "(I)Z"⟩
abbrev cX1_trackOf : ByteArray := prog_3_method_9_code
def yX1_trackOf : MethodName := ⟨RX1, "trackOf", "(JI)I"⟩
abbrev cX1_lay : ByteArray := prog_3_method_10_code
def yX1_lay : MethodName := ⟨RX1, "lay", "(II)I"⟩
abbrev cX1_lift : ByteArray := prog_3_method_11_code
def yX1_lift : MethodName := ⟨RX1, "lift", "(I)I"⟩
abbrev cX1_couple : ByteArray := prog_3_method_12_code
def yX1_couple : MethodName := ⟨RX1, "couple", "(II)I"⟩
abbrev cX1_uncouple : ByteArray := prog_3_method_13_code
def yX1_uncouple : MethodName := ⟨RX1, "uncouple", "(I)I"⟩
abbrev cX1_shunt : ByteArray := prog_3_method_14_code
def yX1_shunt : MethodName := ⟨RX1, "shunt", "(III)I"⟩
abbrev cX1_sweep : ByteArray := prog_3_method_15_code
def yX1_sweep : MethodName := ⟨RX1, "sweep", "(III)I"⟩
abbrev cX1_tour : ByteArray := prog_3_method_16_code
def yX1_tour : MethodName := ⟨RX1, "tour", "(JI)I"⟩
abbrev cX1_chain : ByteArray := prog_3_method_17_code
def yX1_chain : MethodName := ⟨RX1, "chain", "(JI)I"⟩
abbrev cX1_survey : ByteArray := prog_3_method_18_code
def yX1_survey : MethodName := ⟨RX1, "survey", "(JI)I"⟩
abbrev cX1_turn : ByteArray := prog_3_method_19_code
def yX1_turn : MethodName := ⟨RX1, "turn", "(I)I"⟩
abbrev cX1_swap : ByteArray := prog_3_method_20_code
def yX1_swap : MethodName := ⟨RX1, "swap", "(II)I"⟩
abbrev cX1_wagon : ByteArray := prog_3_method_21_code
def yX1_wagon : MethodName := ⟨RX1, "wagon", "(II)I"⟩
abbrev cX1_told : ByteArray := prog_3_method_22_code
def yX1_told : MethodName := ⟨RX1, "told", "(I)I"⟩
def RJ9 : String := "java/lang/Math"
def TJ9 : u_T := fun k => match k with
  | _ => ("", "", "", false)
def tyJ9 : Nat → FieldType := fun k => match k with
  | _ => .int
abbrev wsJ90 : List Cond := u_ws RJ9 TJ9 0
theorem nmJ9 : ∀ a, a < 0 → ∀ b, b < 0 → a ≠ b → (TJ9 a).2.1 ≠ (TJ9 b).2.1 := by decide +kernel
theorem tyJ9_ok : ∀ k, k < 0 → parseFieldDescriptor (TJ9 k).2.2.1 = some (tyJ9 k) := by decide +kernel
abbrev cJ9_max_7cf53 : ByteArray := prog_4_method_65_code
def yJ9_max_7cf53 : MethodName := ⟨RJ9, "max", "(II)I"⟩
def RL : String := "YardHoldsLaw"
abbrev cL_law : ByteArray := code
def yL_law : MethodName := ⟨RL, "law", "([I)Z"⟩
def wsX0_init : List Cond := .code yX0_init cX0_init 1 none :: ([.methodLink RX0 1 objectInit, .instanceMethod objectInit, .code objectInit ⟨#[0xb1]⟩ 1 none, .arrayClass .int, .fieldLink RX0 9 "YardHolds" "rooms" "[I", .fieldLink RX0 13 "YardHolds" "counts" "[I", .fieldLink RX0 16 "YardHolds" "wagons" "[I"] ++ wsX00)
def wsX0_isTrack : List Cond := .code yX0_isTrack cX0_isTrack 1 (some .boolean) :: ([])
def wsX0_isThere : List Cond := .code yX0_isThere cX0_isThere 2 (some .boolean) :: ([.fieldLink RX0 9 "YardHolds" "rooms" "[I"] ++ wsX00)
def wsX0_lay : List Cond := .code yX0_lay cX0_lay 3 (some .int) :: ([.fieldLink RX0 9 "YardHolds" "rooms" "[I", .methodLink RX0 19 yX0_isTrack, .static yX0_isTrack, .initialized RX0, .code yX0_isTrack cX0_isTrack 1 (some .boolean), .methodLink RX0 23 yX0_isThere, .instanceMethod yX0_isThere, .selects RX0 yX0_isThere yX0_isThere, .code yX0_isThere cX0_isThere 2 (some .boolean)] ++ wsX00)
def wsX0_lift : List Cond := .code yX0_lift cX0_lift 3 (some .int) :: ([.fieldLink RX0 13 "YardHolds" "counts" "[I", .fieldLink RX0 9 "YardHolds" "rooms" "[I", .methodLink RX0 19 yX0_isTrack, .static yX0_isTrack, .initialized RX0, .code yX0_isTrack cX0_isTrack 1 (some .boolean), .methodLink RX0 23 yX0_isThere, .instanceMethod yX0_isThere, .selects RX0 yX0_isThere yX0_isThere, .code yX0_isThere cX0_isThere 2 (some .boolean)] ++ wsX00)
def wsX0_hold : List Cond := .code yX0_hold cX0_hold 2 (some .boolean) :: ([.fieldLink RX0 71 "YardHolds" "asked" "I", .fieldLink RX0 74 "YardHolds" "held" "I", .fieldLink RX0 80 "YardHolds" "depth" "I", .fieldLink RX0 83 "YardHolds" "deepest" "I", .methodLink RX0 90 Lib.Math.max.name, .static Lib.Math.max.name, .initialized "java/lang/Math", .code Lib.Math.max.name Lib.Math.max.code 2 (some .int), .methodLink RX0 23 yX0_isThere, .instanceMethod yX0_isThere, .selects RX0 yX0_isThere yX0_isThere, .initialized RX0, .code yX0_isThere cX0_isThere 2 (some .boolean), .fieldLink RX0 9 "YardHolds" "rooms" "[I"] ++ wsX00)
def wsX0_place : List Cond := .code yX0_place cX0_place 2 (some .int) :: ([])
def wsX0_come : List Cond := .code yX0_come cX0_come 4 (some .int) :: ([.fieldLink RX0 13 "YardHolds" "counts" "[I", .fieldLink RX0 9 "YardHolds" "rooms" "[I", .fieldLink RX0 16 "YardHolds" "wagons" "[I", .methodLink RX0 61 yX0_place, .static yX0_place, .initialized RX0, .code yX0_place cX0_place 2 (some .int)] ++ wsX00)
def wsX0_letGo : List Cond := .code yX0_letGo cX0_letGo 3 (some .int) :: ([.fieldLink RX0 80 "YardHolds" "depth" "I", .fieldLink RX0 77 "YardHolds" "broken" "I"] ++ wsX00)
def wsX0_holdAndCome_r1 : List Cond := [Cond.methodLink RX0 30 yX0_hold, Cond.instanceMethod yX0_hold, Cond.selects RX0 yX0_hold yX0_hold, Cond.initialized RX0, Cond.code yX0_hold cX0_hold 2 (some .boolean), Cond.fieldLink RX0 71 "YardHolds" "asked" "I", Cond.fieldLink RX0 74 "YardHolds" "held" "I", Cond.fieldLink RX0 80 "YardHolds" "depth" "I", Cond.fieldLink RX0 83 "YardHolds" "deepest" "I", Cond.methodLink RX0 90 Lib.Math.max.name, Cond.static Lib.Math.max.name, Cond.initialized "java/lang/Math", Cond.code Lib.Math.max.name Lib.Math.max.code 2 (some .int), Cond.methodLink RX0 23 yX0_isThere, Cond.instanceMethod yX0_isThere, Cond.selects RX0 yX0_isThere yX0_isThere, Cond.code yX0_isThere cX0_isThere 2 (some .boolean), Cond.fieldLink RX0 9 "YardHolds" "rooms" "[I", Cond.methodLink RX0 95 yX0_come, Cond.instanceMethod yX0_come, Cond.selects RX0 yX0_come yX0_come, Cond.code yX0_come cX0_come 4 (some .int), Cond.fieldLink RX0 13 "YardHolds" "counts" "[I", Cond.fieldLink RX0 16 "YardHolds" "wagons" "[I"]
def wsX0_holdAndCome_r2 : List Cond := [Cond.methodLink RX0 61 yX0_place, Cond.static yX0_place, Cond.code yX0_place cX0_place 2 (some .int), Cond.methodLink RX0 37 yX0_letGo, Cond.instanceMethod yX0_letGo, Cond.selects RX0 yX0_letGo yX0_letGo, Cond.code yX0_letGo cX0_letGo 3 (some .int), Cond.fieldLink RX0 77 "YardHolds" "broken" "I"]
def wsX0_holdAndCome : List Cond := .code yX0_holdAndCome cX0_holdAndCome 3 (some .int) :: ((wsX0_holdAndCome_r1 ++ wsX0_holdAndCome_r2) ++ wsX00)
def wsX0_couple_r1 : List Cond := [Cond.methodLink RX0 19 yX0_isTrack, Cond.static yX0_isTrack, Cond.initialized RX0, Cond.code yX0_isTrack cX0_isTrack 1 (some .boolean), Cond.methodLink RX0 26 yX0_holdAndCome, Cond.instanceMethod yX0_holdAndCome, Cond.selects RX0 yX0_holdAndCome yX0_holdAndCome, Cond.code yX0_holdAndCome cX0_holdAndCome 3 (some .int), Cond.methodLink RX0 30 yX0_hold, Cond.instanceMethod yX0_hold, Cond.selects RX0 yX0_hold yX0_hold, Cond.code yX0_hold cX0_hold 2 (some .boolean), Cond.fieldLink RX0 71 "YardHolds" "asked" "I", Cond.fieldLink RX0 74 "YardHolds" "held" "I", Cond.fieldLink RX0 80 "YardHolds" "depth" "I", Cond.fieldLink RX0 83 "YardHolds" "deepest" "I", Cond.methodLink RX0 90 Lib.Math.max.name, Cond.static Lib.Math.max.name, Cond.initialized "java/lang/Math", Cond.code Lib.Math.max.name Lib.Math.max.code 2 (some .int), Cond.methodLink RX0 23 yX0_isThere, Cond.instanceMethod yX0_isThere, Cond.selects RX0 yX0_isThere yX0_isThere, Cond.code yX0_isThere cX0_isThere 2 (some .boolean)]
def wsX0_couple_r2 : List Cond := [Cond.fieldLink RX0 9 "YardHolds" "rooms" "[I", Cond.methodLink RX0 95 yX0_come, Cond.instanceMethod yX0_come, Cond.selects RX0 yX0_come yX0_come, Cond.code yX0_come cX0_come 4 (some .int), Cond.fieldLink RX0 13 "YardHolds" "counts" "[I", Cond.fieldLink RX0 16 "YardHolds" "wagons" "[I", Cond.methodLink RX0 61 yX0_place, Cond.static yX0_place, Cond.code yX0_place cX0_place 2 (some .int), Cond.methodLink RX0 37 yX0_letGo, Cond.instanceMethod yX0_letGo, Cond.selects RX0 yX0_letGo yX0_letGo, Cond.code yX0_letGo cX0_letGo 3 (some .int), Cond.fieldLink RX0 77 "YardHolds" "broken" "I"]
def wsX0_couple : List Cond := .code yX0_couple cX0_couple 3 (some .int) :: ((wsX0_couple_r1 ++ wsX0_couple_r2) ++ wsX00)
def wsX0_go : List Cond := .code yX0_go cX0_go 3 (some .int) :: ([.fieldLink RX0 13 "YardHolds" "counts" "[I", .fieldLink RX0 16 "YardHolds" "wagons" "[I", .methodLink RX0 61 yX0_place, .static yX0_place, .initialized RX0, .code yX0_place cX0_place 2 (some .int)] ++ wsX00)
def wsX0_uncouple_r1 : List Cond := [Cond.methodLink RX0 19 yX0_isTrack, Cond.static yX0_isTrack, Cond.initialized RX0, Cond.code yX0_isTrack cX0_isTrack 1 (some .boolean), Cond.methodLink RX0 30 yX0_hold, Cond.instanceMethod yX0_hold, Cond.selects RX0 yX0_hold yX0_hold, Cond.code yX0_hold cX0_hold 2 (some .boolean), Cond.fieldLink RX0 71 "YardHolds" "asked" "I", Cond.fieldLink RX0 74 "YardHolds" "held" "I", Cond.fieldLink RX0 80 "YardHolds" "depth" "I", Cond.fieldLink RX0 83 "YardHolds" "deepest" "I", Cond.methodLink RX0 90 Lib.Math.max.name, Cond.static Lib.Math.max.name, Cond.initialized "java/lang/Math", Cond.code Lib.Math.max.name Lib.Math.max.code 2 (some .int), Cond.methodLink RX0 23 yX0_isThere, Cond.instanceMethod yX0_isThere, Cond.selects RX0 yX0_isThere yX0_isThere, Cond.code yX0_isThere cX0_isThere 2 (some .boolean), Cond.fieldLink RX0 9 "YardHolds" "rooms" "[I", Cond.methodLink RX0 33 yX0_go, Cond.instanceMethod yX0_go, Cond.selects RX0 yX0_go yX0_go]
def wsX0_uncouple_r2 : List Cond := [Cond.code yX0_go cX0_go 3 (some .int), Cond.fieldLink RX0 13 "YardHolds" "counts" "[I", Cond.fieldLink RX0 16 "YardHolds" "wagons" "[I", Cond.methodLink RX0 61 yX0_place, Cond.static yX0_place, Cond.code yX0_place cX0_place 2 (some .int), Cond.methodLink RX0 37 yX0_letGo, Cond.instanceMethod yX0_letGo, Cond.selects RX0 yX0_letGo yX0_letGo, Cond.code yX0_letGo cX0_letGo 3 (some .int), Cond.fieldLink RX0 77 "YardHolds" "broken" "I"]
def wsX0_uncouple : List Cond := .code yX0_uncouple cX0_uncouple 2 (some .int) :: ((wsX0_uncouple_r1 ++ wsX0_uncouple_r2) ++ wsX00)
def wsX0_moveWagons : List Cond := .code yX0_moveWagons cX0_moveWagons 6 (some .int) :: ([.fieldLink RX0 40 "YardHolds" "moved" "I", .methodLink RX0 33 yX0_go, .instanceMethod yX0_go, .selects RX0 yX0_go yX0_go, .initialized RX0, .code yX0_go cX0_go 3 (some .int), .fieldLink RX0 13 "YardHolds" "counts" "[I", .fieldLink RX0 16 "YardHolds" "wagons" "[I", .methodLink RX0 61 yX0_place, .static yX0_place, .code yX0_place cX0_place 2 (some .int), .methodLink RX0 95 yX0_come, .instanceMethod yX0_come, .selects RX0 yX0_come yX0_come, .code yX0_come cX0_come 4 (some .int), .fieldLink RX0 9 "YardHolds" "rooms" "[I"] ++ wsX00)
def wsX0_shunt_r1 : List Cond := [Cond.fieldLink RX0 40 "YardHolds" "moved" "I", Cond.methodLink RX0 19 yX0_isTrack, Cond.static yX0_isTrack, Cond.initialized RX0, Cond.code yX0_isTrack cX0_isTrack 1 (some .boolean), Cond.methodLink RX0 30 yX0_hold, Cond.instanceMethod yX0_hold, Cond.selects RX0 yX0_hold yX0_hold, Cond.code yX0_hold cX0_hold 2 (some .boolean), Cond.fieldLink RX0 71 "YardHolds" "asked" "I", Cond.fieldLink RX0 74 "YardHolds" "held" "I", Cond.fieldLink RX0 80 "YardHolds" "depth" "I", Cond.fieldLink RX0 83 "YardHolds" "deepest" "I", Cond.methodLink RX0 90 Lib.Math.max.name, Cond.static Lib.Math.max.name, Cond.initialized "java/lang/Math", Cond.code Lib.Math.max.name Lib.Math.max.code 2 (some .int), Cond.methodLink RX0 23 yX0_isThere, Cond.instanceMethod yX0_isThere, Cond.selects RX0 yX0_isThere yX0_isThere, Cond.code yX0_isThere cX0_isThere 2 (some .boolean), Cond.fieldLink RX0 9 "YardHolds" "rooms" "[I", Cond.methodLink RX0 37 yX0_letGo, Cond.instanceMethod yX0_letGo]
def wsX0_shunt_r2 : List Cond := [Cond.selects RX0 yX0_letGo yX0_letGo, Cond.code yX0_letGo cX0_letGo 3 (some .int), Cond.fieldLink RX0 77 "YardHolds" "broken" "I", Cond.methodLink RX0 44 yX0_moveWagons, Cond.instanceMethod yX0_moveWagons, Cond.selects RX0 yX0_moveWagons yX0_moveWagons, Cond.code yX0_moveWagons cX0_moveWagons 6 (some .int), Cond.methodLink RX0 33 yX0_go, Cond.instanceMethod yX0_go, Cond.selects RX0 yX0_go yX0_go, Cond.code yX0_go cX0_go 3 (some .int), Cond.fieldLink RX0 13 "YardHolds" "counts" "[I", Cond.fieldLink RX0 16 "YardHolds" "wagons" "[I", Cond.methodLink RX0 61 yX0_place, Cond.static yX0_place, Cond.code yX0_place cX0_place 2 (some .int), Cond.methodLink RX0 95 yX0_come, Cond.instanceMethod yX0_come, Cond.selects RX0 yX0_come yX0_come, Cond.code yX0_come cX0_come 4 (some .int)]
def wsX0_shunt : List Cond := .code yX0_shunt cX0_shunt 4 (some .int) :: ((wsX0_shunt_r1 ++ wsX0_shunt_r2) ++ wsX00)
def wsX0_sortWagons_r1 : List Cond := [Cond.fieldLink RX0 13 "YardHolds" "counts" "[I", Cond.fieldLink RX0 40 "YardHolds" "moved" "I", Cond.methodLink RX0 33 yX0_go, Cond.instanceMethod yX0_go, Cond.selects RX0 yX0_go yX0_go, Cond.initialized RX0, Cond.code yX0_go cX0_go 3 (some .int), Cond.fieldLink RX0 16 "YardHolds" "wagons" "[I", Cond.methodLink RX0 61 yX0_place, Cond.static yX0_place, Cond.code yX0_place cX0_place 2 (some .int), Cond.methodLink RX0 26 yX0_holdAndCome, Cond.instanceMethod yX0_holdAndCome, Cond.selects RX0 yX0_holdAndCome yX0_holdAndCome, Cond.code yX0_holdAndCome cX0_holdAndCome 3 (some .int), Cond.methodLink RX0 30 yX0_hold, Cond.instanceMethod yX0_hold, Cond.selects RX0 yX0_hold yX0_hold, Cond.code yX0_hold cX0_hold 2 (some .boolean), Cond.fieldLink RX0 71 "YardHolds" "asked" "I", Cond.fieldLink RX0 74 "YardHolds" "held" "I", Cond.fieldLink RX0 80 "YardHolds" "depth" "I", Cond.fieldLink RX0 83 "YardHolds" "deepest" "I", Cond.methodLink RX0 90 Lib.Math.max.name]
def wsX0_sortWagons_r2 : List Cond := [Cond.static Lib.Math.max.name, Cond.initialized "java/lang/Math", Cond.code Lib.Math.max.name Lib.Math.max.code 2 (some .int), Cond.methodLink RX0 23 yX0_isThere, Cond.instanceMethod yX0_isThere, Cond.selects RX0 yX0_isThere yX0_isThere, Cond.code yX0_isThere cX0_isThere 2 (some .boolean), Cond.fieldLink RX0 9 "YardHolds" "rooms" "[I", Cond.methodLink RX0 95 yX0_come, Cond.instanceMethod yX0_come, Cond.selects RX0 yX0_come yX0_come, Cond.code yX0_come cX0_come 4 (some .int), Cond.methodLink RX0 37 yX0_letGo, Cond.instanceMethod yX0_letGo, Cond.selects RX0 yX0_letGo yX0_letGo, Cond.code yX0_letGo cX0_letGo 3 (some .int), Cond.fieldLink RX0 77 "YardHolds" "broken" "I"]
def wsX0_sortWagons : List Cond := .code yX0_sortWagons cX0_sortWagons 8 (some .int) :: ((wsX0_sortWagons_r1 ++ wsX0_sortWagons_r2) ++ wsX00)
def wsX0_sweep_r1 : List Cond := [Cond.fieldLink RX0 40 "YardHolds" "moved" "I", Cond.methodLink RX0 19 yX0_isTrack, Cond.static yX0_isTrack, Cond.initialized RX0, Cond.code yX0_isTrack cX0_isTrack 1 (some .boolean), Cond.methodLink RX0 30 yX0_hold, Cond.instanceMethod yX0_hold, Cond.selects RX0 yX0_hold yX0_hold, Cond.code yX0_hold cX0_hold 2 (some .boolean), Cond.fieldLink RX0 71 "YardHolds" "asked" "I", Cond.fieldLink RX0 74 "YardHolds" "held" "I", Cond.fieldLink RX0 80 "YardHolds" "depth" "I", Cond.fieldLink RX0 83 "YardHolds" "deepest" "I", Cond.methodLink RX0 90 Lib.Math.max.name, Cond.static Lib.Math.max.name, Cond.initialized "java/lang/Math", Cond.code Lib.Math.max.name Lib.Math.max.code 2 (some .int), Cond.methodLink RX0 23 yX0_isThere, Cond.instanceMethod yX0_isThere, Cond.selects RX0 yX0_isThere yX0_isThere, Cond.code yX0_isThere cX0_isThere 2 (some .boolean), Cond.fieldLink RX0 9 "YardHolds" "rooms" "[I", Cond.methodLink RX0 48 yX0_sortWagons, Cond.instanceMethod yX0_sortWagons]
def wsX0_sweep_r2 : List Cond := [Cond.selects RX0 yX0_sortWagons yX0_sortWagons, Cond.code yX0_sortWagons cX0_sortWagons 8 (some .int), Cond.fieldLink RX0 13 "YardHolds" "counts" "[I", Cond.methodLink RX0 33 yX0_go, Cond.instanceMethod yX0_go, Cond.selects RX0 yX0_go yX0_go, Cond.code yX0_go cX0_go 3 (some .int), Cond.fieldLink RX0 16 "YardHolds" "wagons" "[I", Cond.methodLink RX0 61 yX0_place, Cond.static yX0_place, Cond.code yX0_place cX0_place 2 (some .int), Cond.methodLink RX0 26 yX0_holdAndCome, Cond.instanceMethod yX0_holdAndCome, Cond.selects RX0 yX0_holdAndCome yX0_holdAndCome, Cond.code yX0_holdAndCome cX0_holdAndCome 3 (some .int), Cond.methodLink RX0 95 yX0_come, Cond.instanceMethod yX0_come, Cond.selects RX0 yX0_come yX0_come, Cond.code yX0_come cX0_come 4 (some .int), Cond.methodLink RX0 37 yX0_letGo, Cond.instanceMethod yX0_letGo, Cond.selects RX0 yX0_letGo yX0_letGo, Cond.code yX0_letGo cX0_letGo 3 (some .int), Cond.fieldLink RX0 77 "YardHolds" "broken" "I"]
def wsX0_sweep : List Cond := .code yX0_sweep cX0_sweep 4 (some .int) :: ((wsX0_sweep_r1 ++ wsX0_sweep_r2) ++ wsX00)
def wsX0_isRowLength : List Cond := .code yX0_isRowLength cX0_isRowLength 1 (some .boolean) :: ([])
def wsX0_trackOfRow : List Cond := .code yX0_trackOfRow cX0_trackOfRow 3 (some .int) :: ([])
def wsX0_takeOnTour : List Cond := .code yX0_takeOnTour cX0_takeOnTour 3 (some .int) :: ([.fieldLink RX0 40 "YardHolds" "moved" "I", .methodLink RX0 33 yX0_go, .instanceMethod yX0_go, .selects RX0 yX0_go yX0_go, .initialized RX0, .code yX0_go cX0_go 3 (some .int), .fieldLink RX0 13 "YardHolds" "counts" "[I", .fieldLink RX0 16 "YardHolds" "wagons" "[I", .methodLink RX0 61 yX0_place, .static yX0_place, .code yX0_place cX0_place 2 (some .int), .methodLink RX0 95 yX0_come, .instanceMethod yX0_come, .selects RX0 yX0_come yX0_come, .code yX0_come cX0_come 4 (some .int), .fieldLink RX0 9 "YardHolds" "rooms" "[I"] ++ wsX00)
def wsX0_tour_r1 : List Cond := [Cond.fieldLink RX0 40 "YardHolds" "moved" "I", Cond.fieldLink RX0 13 "YardHolds" "counts" "[I", Cond.methodLink RX0 51 yX0_isRowLength, Cond.static yX0_isRowLength, Cond.initialized RX0, Cond.code yX0_isRowLength cX0_isRowLength 1 (some .boolean), Cond.methodLink RX0 54 yX0_trackOfRow, Cond.static yX0_trackOfRow, Cond.code yX0_trackOfRow cX0_trackOfRow 3 (some .int), Cond.methodLink RX0 30 yX0_hold, Cond.instanceMethod yX0_hold, Cond.selects RX0 yX0_hold yX0_hold, Cond.code yX0_hold cX0_hold 2 (some .boolean), Cond.fieldLink RX0 71 "YardHolds" "asked" "I", Cond.fieldLink RX0 74 "YardHolds" "held" "I", Cond.fieldLink RX0 80 "YardHolds" "depth" "I", Cond.fieldLink RX0 83 "YardHolds" "deepest" "I", Cond.methodLink RX0 90 Lib.Math.max.name, Cond.static Lib.Math.max.name, Cond.initialized "java/lang/Math", Cond.code Lib.Math.max.name Lib.Math.max.code 2 (some .int), Cond.methodLink RX0 23 yX0_isThere, Cond.instanceMethod yX0_isThere, Cond.selects RX0 yX0_isThere yX0_isThere]
def wsX0_tour_r2 : List Cond := [Cond.code yX0_isThere cX0_isThere 2 (some .boolean), Cond.fieldLink RX0 9 "YardHolds" "rooms" "[I", Cond.methodLink RX0 58 yX0_takeOnTour, Cond.instanceMethod yX0_takeOnTour, Cond.selects RX0 yX0_takeOnTour yX0_takeOnTour, Cond.code yX0_takeOnTour cX0_takeOnTour 3 (some .int), Cond.methodLink RX0 33 yX0_go, Cond.instanceMethod yX0_go, Cond.selects RX0 yX0_go yX0_go, Cond.code yX0_go cX0_go 3 (some .int), Cond.fieldLink RX0 16 "YardHolds" "wagons" "[I", Cond.methodLink RX0 61 yX0_place, Cond.static yX0_place, Cond.code yX0_place cX0_place 2 (some .int), Cond.methodLink RX0 95 yX0_come, Cond.instanceMethod yX0_come, Cond.selects RX0 yX0_come yX0_come, Cond.code yX0_come cX0_come 4 (some .int), Cond.methodLink RX0 37 yX0_letGo, Cond.instanceMethod yX0_letGo, Cond.selects RX0 yX0_letGo yX0_letGo, Cond.code yX0_letGo cX0_letGo 3 (some .int), Cond.fieldLink RX0 77 "YardHolds" "broken" "I"]
def wsX0_tour : List Cond := .code yX0_tour cX0_tour 8 (some .int) :: ((wsX0_tour_r1 ++ wsX0_tour_r2) ++ wsX00)
def wsX0_chain_r1 : List Cond := [Cond.fieldLink RX0 13 "YardHolds" "counts" "[I", Cond.methodLink RX0 51 yX0_isRowLength, Cond.static yX0_isRowLength, Cond.initialized RX0, Cond.code yX0_isRowLength cX0_isRowLength 1 (some .boolean), Cond.methodLink RX0 54 yX0_trackOfRow, Cond.static yX0_trackOfRow, Cond.code yX0_trackOfRow cX0_trackOfRow 3 (some .int), Cond.methodLink RX0 30 yX0_hold, Cond.instanceMethod yX0_hold, Cond.selects RX0 yX0_hold yX0_hold, Cond.code yX0_hold cX0_hold 2 (some .boolean), Cond.fieldLink RX0 71 "YardHolds" "asked" "I", Cond.fieldLink RX0 74 "YardHolds" "held" "I", Cond.fieldLink RX0 80 "YardHolds" "depth" "I", Cond.fieldLink RX0 83 "YardHolds" "deepest" "I", Cond.methodLink RX0 90 Lib.Math.max.name, Cond.static Lib.Math.max.name, Cond.initialized "java/lang/Math", Cond.code Lib.Math.max.name Lib.Math.max.code 2 (some .int), Cond.methodLink RX0 23 yX0_isThere, Cond.instanceMethod yX0_isThere, Cond.selects RX0 yX0_isThere yX0_isThere, Cond.code yX0_isThere cX0_isThere 2 (some .boolean)]
def wsX0_chain_r2 : List Cond := [Cond.fieldLink RX0 9 "YardHolds" "rooms" "[I", Cond.methodLink RX0 37 yX0_letGo, Cond.instanceMethod yX0_letGo, Cond.selects RX0 yX0_letGo yX0_letGo, Cond.code yX0_letGo cX0_letGo 3 (some .int), Cond.fieldLink RX0 77 "YardHolds" "broken" "I"]
def wsX0_chain : List Cond := .code yX0_chain cX0_chain 7 (some .int) :: ((wsX0_chain_r1 ++ wsX0_chain_r2) ++ wsX00)
def wsX0_survey_r1 : List Cond := [Cond.fieldLink RX0 13 "YardHolds" "counts" "[I", Cond.methodLink RX0 51 yX0_isRowLength, Cond.static yX0_isRowLength, Cond.initialized RX0, Cond.code yX0_isRowLength cX0_isRowLength 1 (some .boolean), Cond.methodLink RX0 54 yX0_trackOfRow, Cond.static yX0_trackOfRow, Cond.code yX0_trackOfRow cX0_trackOfRow 3 (some .int), Cond.methodLink RX0 30 yX0_hold, Cond.instanceMethod yX0_hold, Cond.selects RX0 yX0_hold yX0_hold, Cond.code yX0_hold cX0_hold 2 (some .boolean), Cond.fieldLink RX0 71 "YardHolds" "asked" "I", Cond.fieldLink RX0 74 "YardHolds" "held" "I", Cond.fieldLink RX0 80 "YardHolds" "depth" "I", Cond.fieldLink RX0 83 "YardHolds" "deepest" "I", Cond.methodLink RX0 90 Lib.Math.max.name, Cond.static Lib.Math.max.name, Cond.initialized "java/lang/Math", Cond.code Lib.Math.max.name Lib.Math.max.code 2 (some .int), Cond.methodLink RX0 23 yX0_isThere, Cond.instanceMethod yX0_isThere, Cond.selects RX0 yX0_isThere yX0_isThere, Cond.code yX0_isThere cX0_isThere 2 (some .boolean)]
def wsX0_survey_r2 : List Cond := [Cond.fieldLink RX0 9 "YardHolds" "rooms" "[I", Cond.methodLink RX0 37 yX0_letGo, Cond.instanceMethod yX0_letGo, Cond.selects RX0 yX0_letGo yX0_letGo, Cond.code yX0_letGo cX0_letGo 3 (some .int), Cond.fieldLink RX0 77 "YardHolds" "broken" "I"]
def wsX0_survey : List Cond := .code yX0_survey cX0_survey 7 (some .int) :: ((wsX0_survey_r1 ++ wsX0_survey_r2) ++ wsX00)
def wsX0_exchangePlaces : List Cond := .code yX0_exchangePlaces cX0_exchangePlaces 4 none :: ([.fieldLink RX0 16 "YardHolds" "wagons" "[I"] ++ wsX00)
def wsX0_turn_r1 : List Cond := [Cond.fieldLink RX0 13 "YardHolds" "counts" "[I", Cond.methodLink RX0 19 yX0_isTrack, Cond.static yX0_isTrack, Cond.initialized RX0, Cond.code yX0_isTrack cX0_isTrack 1 (some .boolean), Cond.methodLink RX0 30 yX0_hold, Cond.instanceMethod yX0_hold, Cond.selects RX0 yX0_hold yX0_hold, Cond.code yX0_hold cX0_hold 2 (some .boolean), Cond.fieldLink RX0 71 "YardHolds" "asked" "I", Cond.fieldLink RX0 74 "YardHolds" "held" "I", Cond.fieldLink RX0 80 "YardHolds" "depth" "I", Cond.fieldLink RX0 83 "YardHolds" "deepest" "I", Cond.methodLink RX0 90 Lib.Math.max.name, Cond.static Lib.Math.max.name, Cond.initialized "java/lang/Math", Cond.code Lib.Math.max.name Lib.Math.max.code 2 (some .int), Cond.methodLink RX0 23 yX0_isThere, Cond.instanceMethod yX0_isThere, Cond.selects RX0 yX0_isThere yX0_isThere, Cond.code yX0_isThere cX0_isThere 2 (some .boolean), Cond.fieldLink RX0 9 "YardHolds" "rooms" "[I", Cond.methodLink RX0 61 yX0_place, Cond.static yX0_place]
def wsX0_turn_r2 : List Cond := [Cond.code yX0_place cX0_place 2 (some .int), Cond.methodLink RX0 64 yX0_exchangePlaces, Cond.instanceMethod yX0_exchangePlaces, Cond.selects RX0 yX0_exchangePlaces yX0_exchangePlaces, Cond.code yX0_exchangePlaces cX0_exchangePlaces 4 none, Cond.fieldLink RX0 16 "YardHolds" "wagons" "[I", Cond.methodLink RX0 37 yX0_letGo, Cond.instanceMethod yX0_letGo, Cond.selects RX0 yX0_letGo yX0_letGo, Cond.code yX0_letGo cX0_letGo 3 (some .int), Cond.fieldLink RX0 77 "YardHolds" "broken" "I"]
def wsX0_turn : List Cond := .code yX0_turn cX0_turn 4 (some .int) :: ((wsX0_turn_r1 ++ wsX0_turn_r2) ++ wsX00)
def wsX0_exchangeRows : List Cond := .code yX0_exchangeRows cX0_exchangeRows 6 (some .int) :: ([.fieldLink RX0 13 "YardHolds" "counts" "[I", .fieldLink RX0 9 "YardHolds" "rooms" "[I", .methodLink RX0 61 yX0_place, .static yX0_place, .initialized RX0, .code yX0_place cX0_place 2 (some .int), .methodLink RX0 64 yX0_exchangePlaces, .instanceMethod yX0_exchangePlaces, .selects RX0 yX0_exchangePlaces yX0_exchangePlaces, .code yX0_exchangePlaces cX0_exchangePlaces 4 none, .fieldLink RX0 16 "YardHolds" "wagons" "[I"] ++ wsX00)
def wsX0_swap_r1 : List Cond := [Cond.methodLink RX0 19 yX0_isTrack, Cond.static yX0_isTrack, Cond.initialized RX0, Cond.code yX0_isTrack cX0_isTrack 1 (some .boolean), Cond.methodLink RX0 30 yX0_hold, Cond.instanceMethod yX0_hold, Cond.selects RX0 yX0_hold yX0_hold, Cond.code yX0_hold cX0_hold 2 (some .boolean), Cond.fieldLink RX0 71 "YardHolds" "asked" "I", Cond.fieldLink RX0 74 "YardHolds" "held" "I", Cond.fieldLink RX0 80 "YardHolds" "depth" "I", Cond.fieldLink RX0 83 "YardHolds" "deepest" "I", Cond.methodLink RX0 90 Lib.Math.max.name, Cond.static Lib.Math.max.name, Cond.initialized "java/lang/Math", Cond.code Lib.Math.max.name Lib.Math.max.code 2 (some .int), Cond.methodLink RX0 23 yX0_isThere, Cond.instanceMethod yX0_isThere, Cond.selects RX0 yX0_isThere yX0_isThere, Cond.code yX0_isThere cX0_isThere 2 (some .boolean), Cond.fieldLink RX0 9 "YardHolds" "rooms" "[I", Cond.methodLink RX0 37 yX0_letGo, Cond.instanceMethod yX0_letGo, Cond.selects RX0 yX0_letGo yX0_letGo]
def wsX0_swap_r2 : List Cond := [Cond.code yX0_letGo cX0_letGo 3 (some .int), Cond.fieldLink RX0 77 "YardHolds" "broken" "I", Cond.methodLink RX0 68 yX0_exchangeRows, Cond.instanceMethod yX0_exchangeRows, Cond.selects RX0 yX0_exchangeRows yX0_exchangeRows, Cond.code yX0_exchangeRows cX0_exchangeRows 6 (some .int), Cond.fieldLink RX0 13 "YardHolds" "counts" "[I", Cond.methodLink RX0 61 yX0_place, Cond.static yX0_place, Cond.code yX0_place cX0_place 2 (some .int), Cond.methodLink RX0 64 yX0_exchangePlaces, Cond.instanceMethod yX0_exchangePlaces, Cond.selects RX0 yX0_exchangePlaces yX0_exchangePlaces, Cond.code yX0_exchangePlaces cX0_exchangePlaces 4 none, Cond.fieldLink RX0 16 "YardHolds" "wagons" "[I"]
def wsX0_swap : List Cond := .code yX0_swap cX0_swap 3 (some .int) :: ((wsX0_swap_r1 ++ wsX0_swap_r2) ++ wsX00)
def wsX0_wagon : List Cond := .code yX0_wagon cX0_wagon 3 (some .int) :: ([.fieldLink RX0 13 "YardHolds" "counts" "[I", .fieldLink RX0 16 "YardHolds" "wagons" "[I", .methodLink RX0 19 yX0_isTrack, .static yX0_isTrack, .initialized RX0, .code yX0_isTrack cX0_isTrack 1 (some .boolean), .methodLink RX0 61 yX0_place, .static yX0_place, .code yX0_place cX0_place 2 (some .int)] ++ wsX00)
def wsX0_tracksThere : List Cond := .code yX0_tracksThere cX0_tracksThere 3 (some .int) :: ([.methodLink RX0 23 yX0_isThere, .instanceMethod yX0_isThere, .selects RX0 yX0_isThere yX0_isThere, .initialized RX0, .code yX0_isThere cX0_isThere 2 (some .boolean), .fieldLink RX0 9 "YardHolds" "rooms" "[I"] ++ wsX00)
def wsX0_told : List Cond := .code yX0_told cX0_told 2 (some .int) :: ([.fieldLink RX0 71 "YardHolds" "asked" "I", .fieldLink RX0 74 "YardHolds" "held" "I", .fieldLink RX0 77 "YardHolds" "broken" "I", .fieldLink RX0 80 "YardHolds" "depth" "I", .fieldLink RX0 83 "YardHolds" "deepest" "I", .fieldLink RX0 40 "YardHolds" "moved" "I", .methodLink RX0 86 yX0_tracksThere, .instanceMethod yX0_tracksThere, .selects RX0 yX0_tracksThere yX0_tracksThere, .initialized RX0, .code yX0_tracksThere cX0_tracksThere 3 (some .int), .methodLink RX0 23 yX0_isThere, .instanceMethod yX0_isThere, .selects RX0 yX0_isThere yX0_isThere, .code yX0_isThere cX0_isThere 2 (some .boolean), .fieldLink RX0 9 "YardHolds" "rooms" "[I"] ++ wsX00)
def wsX1_init : List Cond := .code yX1_init cX1_init 1 none :: ([.methodLink RX1 1 objectInit, .instanceMethod objectInit, .code objectInit ⟨#[0xb1]⟩ 1 none, .arrayClass .int, .fieldLink RX1 9 "YardHoldsModel" "rooms" "[I", .fieldLink RX1 13 "YardHoldsModel" "sizes" "[I", .fieldLink RX1 16 "YardHoldsModel" "wagons" "[I"] ++ wsX10)
def wsX1_in : List Cond := .code yX1_in cX1_in 3 (some .boolean) :: ([])
def wsX1_isTrack : List Cond := .code yX1_isTrack cX1_isTrack 1 (some .boolean) :: ([.methodLink RX1 19 yX1_in, .static yX1_in, .initialized RX1, .code yX1_in cX1_in 3 (some .boolean)])
def wsX1_holds : List Cond := .code yX1_holds cX1_holds 2 (some .boolean) :: ([.fieldLink RX1 23 "YardHoldsModel" "asked" "I", .fieldLink RX1 9 "YardHoldsModel" "rooms" "[I", .fieldLink RX1 27 "YardHoldsModel" "held" "I", .fieldLink RX1 30 "YardHoldsModel" "depth" "I", .fieldLink RX1 33 "YardHoldsModel" "deepest" "I"] ++ wsX10)
def wsX1_goes : List Cond := .code yX1_goes cX1_goes 3 (some .int) :: ([.fieldLink RX1 30 "YardHoldsModel" "depth" "I", .fieldLink RX1 36 "YardHoldsModel" "broken" "I"] ++ wsX10)
def wsX1_last : List Cond := .code yX1_last cX1_last 2 (some .int) :: ([.fieldLink RX1 16 "YardHoldsModel" "wagons" "[I", .fieldLink RX1 13 "YardHoldsModel" "sizes" "[I"] ++ wsX10)
def wsX1_come : List Cond := .code yX1_come cX1_come 3 none :: ([.fieldLink RX1 16 "YardHoldsModel" "wagons" "[I", .fieldLink RX1 13 "YardHoldsModel" "sizes" "[I"] ++ wsX10)
def wsX1_isFull : List Cond := .code yX1_isFull cX1_isFull 2 (some .boolean) :: ([.fieldLink RX1 13 "YardHoldsModel" "sizes" "[I", .fieldLink RX1 9 "YardHoldsModel" "rooms" "[I"] ++ wsX10)
def wsX1_trackOf : List Cond := .code yX1_trackOf cX1_trackOf 3 (some .int) :: ([])
def wsX1_lay : List Cond := .code yX1_lay cX1_lay 3 (some .int) :: ([.fieldLink RX1 9 "YardHoldsModel" "rooms" "[I", .fieldLink RX1 13 "YardHoldsModel" "sizes" "[I", .methodLink RX1 39 yX1_isTrack, .static yX1_isTrack, .initialized RX1, .code yX1_isTrack cX1_isTrack 1 (some .boolean), .methodLink RX1 19 yX1_in, .static yX1_in, .code yX1_in cX1_in 3 (some .boolean)] ++ wsX10)
def wsX1_lift : List Cond := .code yX1_lift cX1_lift 3 (some .int) :: ([.fieldLink RX1 9 "YardHoldsModel" "rooms" "[I", .fieldLink RX1 13 "YardHoldsModel" "sizes" "[I", .methodLink RX1 39 yX1_isTrack, .static yX1_isTrack, .initialized RX1, .code yX1_isTrack cX1_isTrack 1 (some .boolean), .methodLink RX1 19 yX1_in, .static yX1_in, .code yX1_in cX1_in 3 (some .boolean)] ++ wsX10)
def wsX1_couple_r1 : List Cond := [Cond.fieldLink RX1 13 "YardHoldsModel" "sizes" "[I", Cond.methodLink RX1 39 yX1_isTrack, Cond.static yX1_isTrack, Cond.initialized RX1, Cond.code yX1_isTrack cX1_isTrack 1 (some .boolean), Cond.methodLink RX1 19 yX1_in, Cond.static yX1_in, Cond.code yX1_in cX1_in 3 (some .boolean), Cond.methodLink RX1 43 yX1_holds, Cond.instanceMethod yX1_holds, Cond.selects RX1 yX1_holds yX1_holds, Cond.code yX1_holds cX1_holds 2 (some .boolean), Cond.fieldLink RX1 23 "YardHoldsModel" "asked" "I", Cond.fieldLink RX1 9 "YardHoldsModel" "rooms" "[I", Cond.fieldLink RX1 27 "YardHoldsModel" "held" "I", Cond.fieldLink RX1 30 "YardHoldsModel" "depth" "I", Cond.fieldLink RX1 33 "YardHoldsModel" "deepest" "I", Cond.methodLink RX1 46 yX1_isFull, Cond.instanceMethod yX1_isFull, Cond.selects RX1 yX1_isFull yX1_isFull, Cond.code yX1_isFull cX1_isFull 2 (some .boolean), Cond.methodLink RX1 49 yX1_goes, Cond.instanceMethod yX1_goes, Cond.selects RX1 yX1_goes yX1_goes]
def wsX1_couple_r2 : List Cond := [Cond.code yX1_goes cX1_goes 3 (some .int), Cond.fieldLink RX1 36 "YardHoldsModel" "broken" "I", Cond.methodLink RX1 53 yX1_come, Cond.instanceMethod yX1_come, Cond.selects RX1 yX1_come yX1_come, Cond.code yX1_come cX1_come 3 none, Cond.fieldLink RX1 16 "YardHoldsModel" "wagons" "[I"]
def wsX1_couple : List Cond := .code yX1_couple cX1_couple 3 (some .int) :: ((wsX1_couple_r1 ++ wsX1_couple_r2) ++ wsX10)
def wsX1_uncouple_r1 : List Cond := [Cond.fieldLink RX1 13 "YardHoldsModel" "sizes" "[I", Cond.methodLink RX1 39 yX1_isTrack, Cond.static yX1_isTrack, Cond.initialized RX1, Cond.code yX1_isTrack cX1_isTrack 1 (some .boolean), Cond.methodLink RX1 19 yX1_in, Cond.static yX1_in, Cond.code yX1_in cX1_in 3 (some .boolean), Cond.methodLink RX1 43 yX1_holds, Cond.instanceMethod yX1_holds, Cond.selects RX1 yX1_holds yX1_holds, Cond.code yX1_holds cX1_holds 2 (some .boolean), Cond.fieldLink RX1 23 "YardHoldsModel" "asked" "I", Cond.fieldLink RX1 9 "YardHoldsModel" "rooms" "[I", Cond.fieldLink RX1 27 "YardHoldsModel" "held" "I", Cond.fieldLink RX1 30 "YardHoldsModel" "depth" "I", Cond.fieldLink RX1 33 "YardHoldsModel" "deepest" "I", Cond.methodLink RX1 49 yX1_goes, Cond.instanceMethod yX1_goes, Cond.selects RX1 yX1_goes yX1_goes, Cond.code yX1_goes cX1_goes 3 (some .int), Cond.fieldLink RX1 36 "YardHoldsModel" "broken" "I", Cond.methodLink RX1 57 yX1_last, Cond.instanceMethod yX1_last]
def wsX1_uncouple_r2 : List Cond := [Cond.selects RX1 yX1_last yX1_last, Cond.code yX1_last cX1_last 2 (some .int), Cond.fieldLink RX1 16 "YardHoldsModel" "wagons" "[I"]
def wsX1_uncouple : List Cond := .code yX1_uncouple cX1_uncouple 3 (some .int) :: ((wsX1_uncouple_r1 ++ wsX1_uncouple_r2) ++ wsX10)
def wsX1_shunt_r1 : List Cond := [Cond.fieldLink RX1 61 "YardHoldsModel" "moved" "I", Cond.fieldLink RX1 13 "YardHoldsModel" "sizes" "[I", Cond.methodLink RX1 39 yX1_isTrack, Cond.static yX1_isTrack, Cond.initialized RX1, Cond.code yX1_isTrack cX1_isTrack 1 (some .boolean), Cond.methodLink RX1 19 yX1_in, Cond.static yX1_in, Cond.code yX1_in cX1_in 3 (some .boolean), Cond.methodLink RX1 43 yX1_holds, Cond.instanceMethod yX1_holds, Cond.selects RX1 yX1_holds yX1_holds, Cond.code yX1_holds cX1_holds 2 (some .boolean), Cond.fieldLink RX1 23 "YardHoldsModel" "asked" "I", Cond.fieldLink RX1 9 "YardHoldsModel" "rooms" "[I", Cond.fieldLink RX1 27 "YardHoldsModel" "held" "I", Cond.fieldLink RX1 30 "YardHoldsModel" "depth" "I", Cond.fieldLink RX1 33 "YardHoldsModel" "deepest" "I", Cond.methodLink RX1 49 yX1_goes, Cond.instanceMethod yX1_goes, Cond.selects RX1 yX1_goes yX1_goes, Cond.code yX1_goes cX1_goes 3 (some .int), Cond.fieldLink RX1 36 "YardHoldsModel" "broken" "I", Cond.methodLink RX1 57 yX1_last]
def wsX1_shunt_r2 : List Cond := [Cond.instanceMethod yX1_last, Cond.selects RX1 yX1_last yX1_last, Cond.code yX1_last cX1_last 2 (some .int), Cond.fieldLink RX1 16 "YardHoldsModel" "wagons" "[I", Cond.methodLink RX1 46 yX1_isFull, Cond.instanceMethod yX1_isFull, Cond.selects RX1 yX1_isFull yX1_isFull, Cond.code yX1_isFull cX1_isFull 2 (some .boolean), Cond.methodLink RX1 53 yX1_come, Cond.instanceMethod yX1_come, Cond.selects RX1 yX1_come yX1_come, Cond.code yX1_come cX1_come 3 none]
def wsX1_shunt : List Cond := .code yX1_shunt cX1_shunt 7 (some .int) :: ((wsX1_shunt_r1 ++ wsX1_shunt_r2) ++ wsX10)
def wsX1_sweep_r1 : List Cond := [Cond.fieldLink RX1 61 "YardHoldsModel" "moved" "I", Cond.fieldLink RX1 13 "YardHoldsModel" "sizes" "[I", Cond.methodLink RX1 39 yX1_isTrack, Cond.static yX1_isTrack, Cond.initialized RX1, Cond.code yX1_isTrack cX1_isTrack 1 (some .boolean), Cond.methodLink RX1 19 yX1_in, Cond.static yX1_in, Cond.code yX1_in cX1_in 3 (some .boolean), Cond.methodLink RX1 43 yX1_holds, Cond.instanceMethod yX1_holds, Cond.selects RX1 yX1_holds yX1_holds, Cond.code yX1_holds cX1_holds 2 (some .boolean), Cond.fieldLink RX1 23 "YardHoldsModel" "asked" "I", Cond.fieldLink RX1 9 "YardHoldsModel" "rooms" "[I", Cond.fieldLink RX1 27 "YardHoldsModel" "held" "I", Cond.fieldLink RX1 30 "YardHoldsModel" "depth" "I", Cond.fieldLink RX1 33 "YardHoldsModel" "deepest" "I", Cond.methodLink RX1 57 yX1_last, Cond.instanceMethod yX1_last, Cond.selects RX1 yX1_last yX1_last, Cond.code yX1_last cX1_last 2 (some .int), Cond.fieldLink RX1 16 "YardHoldsModel" "wagons" "[I", Cond.methodLink RX1 53 yX1_come]
def wsX1_sweep_r2 : List Cond := [Cond.instanceMethod yX1_come, Cond.selects RX1 yX1_come yX1_come, Cond.code yX1_come cX1_come 3 none, Cond.methodLink RX1 49 yX1_goes, Cond.instanceMethod yX1_goes, Cond.selects RX1 yX1_goes yX1_goes, Cond.code yX1_goes cX1_goes 3 (some .int), Cond.fieldLink RX1 36 "YardHoldsModel" "broken" "I", Cond.methodLink RX1 46 yX1_isFull, Cond.instanceMethod yX1_isFull, Cond.selects RX1 yX1_isFull yX1_isFull, Cond.code yX1_isFull cX1_isFull 2 (some .boolean)]
def wsX1_sweep : List Cond := .code yX1_sweep cX1_sweep 8 (some .int) :: ((wsX1_sweep_r1 ++ wsX1_sweep_r2) ++ wsX10)
def wsX1_tour_r1 : List Cond := [Cond.fieldLink RX1 61 "YardHoldsModel" "moved" "I", Cond.fieldLink RX1 13 "YardHoldsModel" "sizes" "[I", Cond.methodLink RX1 19 yX1_in, Cond.static yX1_in, Cond.initialized RX1, Cond.code yX1_in cX1_in 3 (some .boolean), Cond.methodLink RX1 64 yX1_trackOf, Cond.static yX1_trackOf, Cond.code yX1_trackOf cX1_trackOf 3 (some .int), Cond.methodLink RX1 43 yX1_holds, Cond.instanceMethod yX1_holds, Cond.selects RX1 yX1_holds yX1_holds, Cond.code yX1_holds cX1_holds 2 (some .boolean), Cond.fieldLink RX1 23 "YardHoldsModel" "asked" "I", Cond.fieldLink RX1 9 "YardHoldsModel" "rooms" "[I", Cond.fieldLink RX1 27 "YardHoldsModel" "held" "I", Cond.fieldLink RX1 30 "YardHoldsModel" "depth" "I", Cond.fieldLink RX1 33 "YardHoldsModel" "deepest" "I", Cond.methodLink RX1 57 yX1_last, Cond.instanceMethod yX1_last, Cond.selects RX1 yX1_last yX1_last, Cond.code yX1_last cX1_last 2 (some .int), Cond.fieldLink RX1 16 "YardHoldsModel" "wagons" "[I", Cond.methodLink RX1 49 yX1_goes]
def wsX1_tour_r2 : List Cond := [Cond.instanceMethod yX1_goes, Cond.selects RX1 yX1_goes yX1_goes, Cond.code yX1_goes cX1_goes 3 (some .int), Cond.fieldLink RX1 36 "YardHoldsModel" "broken" "I"]
def wsX1_tour : List Cond := .code yX1_tour cX1_tour 9 (some .int) :: ((wsX1_tour_r1 ++ wsX1_tour_r2) ++ wsX10)
def wsX1_chain : List Cond := .code yX1_chain cX1_chain 7 (some .int) :: ([.fieldLink RX1 13 "YardHoldsModel" "sizes" "[I", .methodLink RX1 19 yX1_in, .static yX1_in, .initialized RX1, .code yX1_in cX1_in 3 (some .boolean), .methodLink RX1 64 yX1_trackOf, .static yX1_trackOf, .code yX1_trackOf cX1_trackOf 3 (some .int), .methodLink RX1 43 yX1_holds, .instanceMethod yX1_holds, .selects RX1 yX1_holds yX1_holds, .code yX1_holds cX1_holds 2 (some .boolean), .fieldLink RX1 23 "YardHoldsModel" "asked" "I", .fieldLink RX1 9 "YardHoldsModel" "rooms" "[I", .fieldLink RX1 27 "YardHoldsModel" "held" "I", .fieldLink RX1 30 "YardHoldsModel" "depth" "I", .fieldLink RX1 33 "YardHoldsModel" "deepest" "I", .methodLink RX1 49 yX1_goes, .instanceMethod yX1_goes, .selects RX1 yX1_goes yX1_goes, .code yX1_goes cX1_goes 3 (some .int), .fieldLink RX1 36 "YardHoldsModel" "broken" "I"] ++ wsX10)
def wsX1_survey : List Cond := .code yX1_survey cX1_survey 7 (some .int) :: ([.fieldLink RX1 13 "YardHoldsModel" "sizes" "[I", .methodLink RX1 19 yX1_in, .static yX1_in, .initialized RX1, .code yX1_in cX1_in 3 (some .boolean), .methodLink RX1 64 yX1_trackOf, .static yX1_trackOf, .code yX1_trackOf cX1_trackOf 3 (some .int), .methodLink RX1 43 yX1_holds, .instanceMethod yX1_holds, .selects RX1 yX1_holds yX1_holds, .code yX1_holds cX1_holds 2 (some .boolean), .fieldLink RX1 23 "YardHoldsModel" "asked" "I", .fieldLink RX1 9 "YardHoldsModel" "rooms" "[I", .fieldLink RX1 27 "YardHoldsModel" "held" "I", .fieldLink RX1 30 "YardHoldsModel" "depth" "I", .fieldLink RX1 33 "YardHoldsModel" "deepest" "I", .methodLink RX1 49 yX1_goes, .instanceMethod yX1_goes, .selects RX1 yX1_goes yX1_goes, .code yX1_goes cX1_goes 3 (some .int), .fieldLink RX1 36 "YardHoldsModel" "broken" "I"] ++ wsX10)
def wsX1_turn : List Cond := .code yX1_turn cX1_turn 8 (some .int) :: ([.fieldLink RX1 13 "YardHoldsModel" "sizes" "[I", .fieldLink RX1 16 "YardHoldsModel" "wagons" "[I", .methodLink RX1 39 yX1_isTrack, .static yX1_isTrack, .initialized RX1, .code yX1_isTrack cX1_isTrack 1 (some .boolean), .methodLink RX1 19 yX1_in, .static yX1_in, .code yX1_in cX1_in 3 (some .boolean), .methodLink RX1 43 yX1_holds, .instanceMethod yX1_holds, .selects RX1 yX1_holds yX1_holds, .code yX1_holds cX1_holds 2 (some .boolean), .fieldLink RX1 23 "YardHoldsModel" "asked" "I", .fieldLink RX1 9 "YardHoldsModel" "rooms" "[I", .fieldLink RX1 27 "YardHoldsModel" "held" "I", .fieldLink RX1 30 "YardHoldsModel" "depth" "I", .fieldLink RX1 33 "YardHoldsModel" "deepest" "I", .methodLink RX1 49 yX1_goes, .instanceMethod yX1_goes, .selects RX1 yX1_goes yX1_goes, .code yX1_goes cX1_goes 3 (some .int), .fieldLink RX1 36 "YardHoldsModel" "broken" "I"] ++ wsX10)
def wsX1_swap : List Cond := .code yX1_swap cX1_swap 5 (some .int) :: ([.fieldLink RX1 13 "YardHoldsModel" "sizes" "[I", .fieldLink RX1 9 "YardHoldsModel" "rooms" "[I", .fieldLink RX1 16 "YardHoldsModel" "wagons" "[I", .methodLink RX1 39 yX1_isTrack, .static yX1_isTrack, .initialized RX1, .code yX1_isTrack cX1_isTrack 1 (some .boolean), .methodLink RX1 19 yX1_in, .static yX1_in, .code yX1_in cX1_in 3 (some .boolean), .methodLink RX1 43 yX1_holds, .instanceMethod yX1_holds, .selects RX1 yX1_holds yX1_holds, .code yX1_holds cX1_holds 2 (some .boolean), .fieldLink RX1 23 "YardHoldsModel" "asked" "I", .fieldLink RX1 27 "YardHoldsModel" "held" "I", .fieldLink RX1 30 "YardHoldsModel" "depth" "I", .fieldLink RX1 33 "YardHoldsModel" "deepest" "I", .methodLink RX1 49 yX1_goes, .instanceMethod yX1_goes, .selects RX1 yX1_goes yX1_goes, .code yX1_goes cX1_goes 3 (some .int), .fieldLink RX1 36 "YardHoldsModel" "broken" "I"] ++ wsX10)
def wsX1_wagon : List Cond := .code yX1_wagon cX1_wagon 3 (some .int) :: ([.fieldLink RX1 13 "YardHoldsModel" "sizes" "[I", .fieldLink RX1 16 "YardHoldsModel" "wagons" "[I", .methodLink RX1 39 yX1_isTrack, .static yX1_isTrack, .initialized RX1, .code yX1_isTrack cX1_isTrack 1 (some .boolean), .methodLink RX1 19 yX1_in, .static yX1_in, .code yX1_in cX1_in 3 (some .boolean)] ++ wsX10)
def wsX1_told : List Cond := .code yX1_told cX1_told 4 (some .int) :: ([.fieldLink RX1 9 "YardHoldsModel" "rooms" "[I", .fieldLink RX1 23 "YardHoldsModel" "asked" "I", .fieldLink RX1 27 "YardHoldsModel" "held" "I", .fieldLink RX1 36 "YardHoldsModel" "broken" "I", .fieldLink RX1 30 "YardHoldsModel" "depth" "I", .fieldLink RX1 33 "YardHoldsModel" "deepest" "I", .fieldLink RX1 61 "YardHoldsModel" "moved" "I"] ++ wsX10)
def wsJ9_max_7cf53 : List Cond := .code yJ9_max_7cf53 cJ9_max_7cf53 2 (some .int) :: ([])
def wsL_law_r1 : List Cond := [Cond.classLink RL 7 RX0, Cond.instantiable RX0 9, Cond.initialized RX0, Cond.classLink RL 10 RX1, Cond.instantiable RX1 9, Cond.initialized RX1, Cond.constantLong RL 40 (4294967295), Cond.methodLink RL 9 yX0_init, Cond.instanceMethod yX0_init, Cond.code yX0_init cX0_init 1 none, Cond.methodLink RX0 1 objectInit, Cond.instanceMethod objectInit, Cond.code objectInit ⟨#[0xb1]⟩ 1 none, Cond.arrayClass .int, Cond.fieldLink RX0 9 "YardHolds" "rooms" "[I", Cond.fieldLink RX0 13 "YardHolds" "counts" "[I", Cond.fieldLink RX0 16 "YardHolds" "wagons" "[I", Cond.methodLink RL 12 yX1_init, Cond.instanceMethod yX1_init, Cond.code yX1_init cX1_init 1 none, Cond.methodLink RX1 1 objectInit, Cond.fieldLink RX1 9 "YardHoldsModel" "rooms" "[I", Cond.fieldLink RX1 13 "YardHoldsModel" "sizes" "[I", Cond.fieldLink RX1 16 "YardHoldsModel" "wagons" "[I"]
def wsL_law_r2 : List Cond := [Cond.methodLink RL 13 yX0_lay, Cond.instanceMethod yX0_lay, Cond.selects RX0 yX0_lay yX0_lay, Cond.code yX0_lay cX0_lay 3 (some .int), Cond.methodLink RX0 19 yX0_isTrack, Cond.static yX0_isTrack, Cond.code yX0_isTrack cX0_isTrack 1 (some .boolean), Cond.methodLink RX0 23 yX0_isThere, Cond.instanceMethod yX0_isThere, Cond.selects RX0 yX0_isThere yX0_isThere, Cond.code yX0_isThere cX0_isThere 2 (some .boolean), Cond.methodLink RL 17 yX1_lay, Cond.instanceMethod yX1_lay, Cond.selects RX1 yX1_lay yX1_lay, Cond.code yX1_lay cX1_lay 3 (some .int), Cond.methodLink RX1 39 yX1_isTrack, Cond.static yX1_isTrack, Cond.code yX1_isTrack cX1_isTrack 1 (some .boolean), Cond.methodLink RX1 19 yX1_in, Cond.static yX1_in, Cond.code yX1_in cX1_in 3 (some .boolean), Cond.methodLink RL 18 yX0_lift, Cond.instanceMethod yX0_lift, Cond.selects RX0 yX0_lift yX0_lift]
def wsL_law_r3 : List Cond := [Cond.code yX0_lift cX0_lift 3 (some .int), Cond.methodLink RL 22 yX1_lift, Cond.instanceMethod yX1_lift, Cond.selects RX1 yX1_lift yX1_lift, Cond.code yX1_lift cX1_lift 3 (some .int), Cond.methodLink RL 23 yX0_couple, Cond.instanceMethod yX0_couple, Cond.selects RX0 yX0_couple yX0_couple, Cond.code yX0_couple cX0_couple 3 (some .int), Cond.methodLink RX0 26 yX0_holdAndCome, Cond.instanceMethod yX0_holdAndCome, Cond.selects RX0 yX0_holdAndCome yX0_holdAndCome, Cond.code yX0_holdAndCome cX0_holdAndCome 3 (some .int), Cond.methodLink RX0 30 yX0_hold, Cond.instanceMethod yX0_hold, Cond.selects RX0 yX0_hold yX0_hold, Cond.code yX0_hold cX0_hold 2 (some .boolean), Cond.fieldLink RX0 71 "YardHolds" "asked" "I", Cond.fieldLink RX0 74 "YardHolds" "held" "I", Cond.fieldLink RX0 80 "YardHolds" "depth" "I", Cond.fieldLink RX0 83 "YardHolds" "deepest" "I", Cond.methodLink RX0 90 Lib.Math.max.name, Cond.static Lib.Math.max.name, Cond.initialized "java/lang/Math"]
def wsL_law_r4 : List Cond := [Cond.code Lib.Math.max.name Lib.Math.max.code 2 (some .int), Cond.methodLink RX0 95 yX0_come, Cond.instanceMethod yX0_come, Cond.selects RX0 yX0_come yX0_come, Cond.code yX0_come cX0_come 4 (some .int), Cond.methodLink RX0 61 yX0_place, Cond.static yX0_place, Cond.code yX0_place cX0_place 2 (some .int), Cond.methodLink RX0 37 yX0_letGo, Cond.instanceMethod yX0_letGo, Cond.selects RX0 yX0_letGo yX0_letGo, Cond.code yX0_letGo cX0_letGo 3 (some .int), Cond.fieldLink RX0 77 "YardHolds" "broken" "I", Cond.methodLink RL 26 yX1_couple, Cond.instanceMethod yX1_couple, Cond.selects RX1 yX1_couple yX1_couple, Cond.code yX1_couple cX1_couple 3 (some .int), Cond.methodLink RX1 43 yX1_holds, Cond.instanceMethod yX1_holds, Cond.selects RX1 yX1_holds yX1_holds, Cond.code yX1_holds cX1_holds 2 (some .boolean), Cond.fieldLink RX1 23 "YardHoldsModel" "asked" "I", Cond.fieldLink RX1 27 "YardHoldsModel" "held" "I", Cond.fieldLink RX1 30 "YardHoldsModel" "depth" "I"]
def wsL_law_r5 : List Cond := [Cond.fieldLink RX1 33 "YardHoldsModel" "deepest" "I", Cond.methodLink RX1 46 yX1_isFull, Cond.instanceMethod yX1_isFull, Cond.selects RX1 yX1_isFull yX1_isFull, Cond.code yX1_isFull cX1_isFull 2 (some .boolean), Cond.methodLink RX1 49 yX1_goes, Cond.instanceMethod yX1_goes, Cond.selects RX1 yX1_goes yX1_goes, Cond.code yX1_goes cX1_goes 3 (some .int), Cond.fieldLink RX1 36 "YardHoldsModel" "broken" "I", Cond.methodLink RX1 53 yX1_come, Cond.instanceMethod yX1_come, Cond.selects RX1 yX1_come yX1_come, Cond.code yX1_come cX1_come 3 none, Cond.methodLink RL 27 yX0_uncouple, Cond.instanceMethod yX0_uncouple, Cond.selects RX0 yX0_uncouple yX0_uncouple, Cond.code yX0_uncouple cX0_uncouple 2 (some .int), Cond.methodLink RX0 33 yX0_go, Cond.instanceMethod yX0_go, Cond.selects RX0 yX0_go yX0_go, Cond.code yX0_go cX0_go 3 (some .int), Cond.methodLink RL 30 yX1_uncouple, Cond.instanceMethod yX1_uncouple]
def wsL_law_r6 : List Cond := [Cond.selects RX1 yX1_uncouple yX1_uncouple, Cond.code yX1_uncouple cX1_uncouple 3 (some .int), Cond.methodLink RX1 57 yX1_last, Cond.instanceMethod yX1_last, Cond.selects RX1 yX1_last yX1_last, Cond.code yX1_last cX1_last 2 (some .int), Cond.methodLink RL 31 yX0_shunt, Cond.instanceMethod yX0_shunt, Cond.selects RX0 yX0_shunt yX0_shunt, Cond.code yX0_shunt cX0_shunt 4 (some .int), Cond.fieldLink RX0 40 "YardHolds" "moved" "I", Cond.methodLink RX0 44 yX0_moveWagons, Cond.instanceMethod yX0_moveWagons, Cond.selects RX0 yX0_moveWagons yX0_moveWagons, Cond.code yX0_moveWagons cX0_moveWagons 6 (some .int), Cond.methodLink RL 35 yX1_shunt, Cond.instanceMethod yX1_shunt, Cond.selects RX1 yX1_shunt yX1_shunt, Cond.code yX1_shunt cX1_shunt 7 (some .int), Cond.fieldLink RX1 61 "YardHoldsModel" "moved" "I", Cond.methodLink RL 36 yX0_sweep, Cond.instanceMethod yX0_sweep, Cond.selects RX0 yX0_sweep yX0_sweep, Cond.code yX0_sweep cX0_sweep 4 (some .int)]
def wsL_law_r7 : List Cond := [Cond.methodLink RX0 48 yX0_sortWagons, Cond.instanceMethod yX0_sortWagons, Cond.selects RX0 yX0_sortWagons yX0_sortWagons, Cond.code yX0_sortWagons cX0_sortWagons 8 (some .int), Cond.methodLink RL 39 yX1_sweep, Cond.instanceMethod yX1_sweep, Cond.selects RX1 yX1_sweep yX1_sweep, Cond.code yX1_sweep cX1_sweep 8 (some .int), Cond.methodLink RL 42 yX0_tour, Cond.instanceMethod yX0_tour, Cond.selects RX0 yX0_tour yX0_tour, Cond.code yX0_tour cX0_tour 8 (some .int), Cond.methodLink RX0 51 yX0_isRowLength, Cond.static yX0_isRowLength, Cond.code yX0_isRowLength cX0_isRowLength 1 (some .boolean), Cond.methodLink RX0 54 yX0_trackOfRow, Cond.static yX0_trackOfRow, Cond.code yX0_trackOfRow cX0_trackOfRow 3 (some .int), Cond.methodLink RX0 58 yX0_takeOnTour, Cond.instanceMethod yX0_takeOnTour, Cond.selects RX0 yX0_takeOnTour yX0_takeOnTour, Cond.code yX0_takeOnTour cX0_takeOnTour 3 (some .int), Cond.methodLink RL 46 yX1_tour, Cond.instanceMethod yX1_tour]
def wsL_law_r8 : List Cond := [Cond.selects RX1 yX1_tour yX1_tour, Cond.code yX1_tour cX1_tour 9 (some .int), Cond.methodLink RX1 64 yX1_trackOf, Cond.static yX1_trackOf, Cond.code yX1_trackOf cX1_trackOf 3 (some .int), Cond.methodLink RL 47 yX0_chain, Cond.instanceMethod yX0_chain, Cond.selects RX0 yX0_chain yX0_chain, Cond.code yX0_chain cX0_chain 7 (some .int), Cond.methodLink RL 50 yX1_chain, Cond.instanceMethod yX1_chain, Cond.selects RX1 yX1_chain yX1_chain, Cond.code yX1_chain cX1_chain 7 (some .int), Cond.methodLink RL 51 yX0_survey, Cond.instanceMethod yX0_survey, Cond.selects RX0 yX0_survey yX0_survey, Cond.code yX0_survey cX0_survey 7 (some .int), Cond.methodLink RL 54 yX1_survey, Cond.instanceMethod yX1_survey, Cond.selects RX1 yX1_survey yX1_survey, Cond.code yX1_survey cX1_survey 7 (some .int), Cond.methodLink RL 55 yX0_turn, Cond.instanceMethod yX0_turn, Cond.selects RX0 yX0_turn yX0_turn]
def wsL_law_r9 : List Cond := [Cond.code yX0_turn cX0_turn 4 (some .int), Cond.methodLink RX0 64 yX0_exchangePlaces, Cond.instanceMethod yX0_exchangePlaces, Cond.selects RX0 yX0_exchangePlaces yX0_exchangePlaces, Cond.code yX0_exchangePlaces cX0_exchangePlaces 4 none, Cond.methodLink RL 58 yX1_turn, Cond.instanceMethod yX1_turn, Cond.selects RX1 yX1_turn yX1_turn, Cond.code yX1_turn cX1_turn 8 (some .int), Cond.methodLink RL 59 yX0_swap, Cond.instanceMethod yX0_swap, Cond.selects RX0 yX0_swap yX0_swap, Cond.code yX0_swap cX0_swap 3 (some .int), Cond.methodLink RX0 68 yX0_exchangeRows, Cond.instanceMethod yX0_exchangeRows, Cond.selects RX0 yX0_exchangeRows yX0_exchangeRows, Cond.code yX0_exchangeRows cX0_exchangeRows 6 (some .int), Cond.methodLink RL 62 yX1_swap, Cond.instanceMethod yX1_swap, Cond.selects RX1 yX1_swap yX1_swap, Cond.code yX1_swap cX1_swap 5 (some .int), Cond.methodLink RL 63 yX0_wagon, Cond.instanceMethod yX0_wagon, Cond.selects RX0 yX0_wagon yX0_wagon]
def wsL_law_r10 : List Cond := [Cond.code yX0_wagon cX0_wagon 3 (some .int), Cond.methodLink RL 66 yX1_wagon, Cond.instanceMethod yX1_wagon, Cond.selects RX1 yX1_wagon yX1_wagon, Cond.code yX1_wagon cX1_wagon 3 (some .int), Cond.methodLink RL 67 yX0_told, Cond.instanceMethod yX0_told, Cond.selects RX0 yX0_told yX0_told, Cond.code yX0_told cX0_told 2 (some .int), Cond.methodLink RX0 86 yX0_tracksThere, Cond.instanceMethod yX0_tracksThere, Cond.selects RX0 yX0_tracksThere yX0_tracksThere, Cond.code yX0_tracksThere cX0_tracksThere 3 (some .int), Cond.methodLink RL 70 yX1_told, Cond.instanceMethod yX1_told, Cond.selects RX1 yX1_told yX1_told, Cond.code yX1_told cX1_told 4 (some .int)]
def wsL_law : List Cond := (wsL_law_r1 ++ (wsL_law_r2 ++ (wsL_law_r3 ++ (wsL_law_r4 ++ (wsL_law_r5 ++ (wsL_law_r6 ++ (wsL_law_r7 ++ (wsL_law_r8 ++ (wsL_law_r9 ++ wsL_law_r10))))))))) ++ wsX00 ++ wsX10 ++ ([] : List Cond)
set_option maxRecDepth 20000 in
theorem wsL_law_in : ∀ w ∈ wsL_law, w ∈ lw_tbl := fun w h => (goodIn_p wsL_law [25, 28, 177, 61, 64, 68, 210, 213, 216, 72, 220, 76, 80, 84, 87, 91, 94, 98, 224, 228, 232, 236, 240, 102, 106, 244, 248, 110, 114, 252, 118, 122, 256, 126, 129, 132, 136, 260, 263, 140, 267, 144, 271, 148, 152, 275, 156, 160, 279, 164, 283, 168, 172, 287] (by decide +kernel) (by decide +kernel) w h).1
theorem inlX0 : ∀ w ∈ wsX00, w ∈ wsL_law := fun _ h => List.mem_append_left _ (List.mem_append_left _ (List.mem_append_right _ h))
theorem inX0 : ∀ w ∈ wsX00, w ∈ lw_tbl := fun w h => wsL_law_in w (inlX0 w h)
theorem inlX1 : ∀ w ∈ wsX10, w ∈ wsL_law := fun _ h => List.mem_append_left _ (List.mem_append_right _ h)
theorem inX1 : ∀ w ∈ wsX10, w ∈ lw_tbl := fun w h => wsL_law_in w (inlX1 w h)
theorem inJ9 : ∀ w ∈ wsJ90, w ∈ lw_tbl := by decide +kernel
theorem dX0_init_0 : decode cX0_init 0 = .ok (.aload_n 0, 1) := by decide +kernel
theorem dX0_init_1 : decode cX0_init 1 = .ok (.invokespecial 1, 3) := by decide +kernel
theorem dX0_init_4 : decode cX0_init 4 = .ok (.aload_n 0, 1) := by decide +kernel
theorem dX0_init_5 : decode cX0_init 5 = .ok (.bipush 8, 2) := by decide +kernel
theorem dX0_init_7 : decode cX0_init 7 = .ok (.newarray .int, 2) := by decide +kernel
theorem dX0_init_9 : decode cX0_init 9 = .ok (.putfield 9, 3) := by decide +kernel
theorem dX0_init_12 : decode cX0_init 12 = .ok (.aload_n 0, 1) := by decide +kernel
theorem dX0_init_13 : decode cX0_init 13 = .ok (.bipush 8, 2) := by decide +kernel
theorem dX0_init_15 : decode cX0_init 15 = .ok (.newarray .int, 2) := by decide +kernel
theorem dX0_init_17 : decode cX0_init 17 = .ok (.putfield 13, 3) := by decide +kernel
theorem dX0_init_20 : decode cX0_init 20 = .ok (.aload_n 0, 1) := by decide +kernel
theorem dX0_init_21 : decode cX0_init 21 = .ok (.bipush 96, 2) := by decide +kernel
theorem dX0_init_23 : decode cX0_init 23 = .ok (.newarray .int, 2) := by decide +kernel
theorem dX0_init_25 : decode cX0_init 25 = .ok (.putfield 16, 3) := by decide +kernel
theorem dX0_init_28 : decode cX0_init 28 = .ok (.return_, 1) := by decide +kernel
set_option maxRecDepth 20000 in
theorem ggX0_lay_X0_isTrack : GoodIn wsX0_lay wsX0_isTrack := goodIn_r _ [5] (by decide +kernel) (by decide +kernel)
set_option maxRecDepth 20000 in
theorem gX0_lay_X0_isTrack : GoodIn wsX0_lay (va_wsS RX0 19 yX0_isTrack wsX0_isTrack) := goodIn_app (goodIn_of _ (by decide +kernel)) ggX0_lay_X0_isTrack
set_option maxRecDepth 20000 in
theorem ggX0_lay_X0_isThere : GoodIn wsX0_lay wsX0_isThere := goodIn_r _ [9, 1, 10, 11, 12, 13, 14, 15, 16, 17, 18] (by decide +kernel) (by decide +kernel)
set_option maxRecDepth 20000 in
theorem gX0_lay_X0_isThere : GoodIn wsX0_lay (wsV RX0 23 RX0 yX0_isThere wsX0_isThere) := goodIn_app (goodIn_of _ (by decide +kernel)) ggX0_lay_X0_isThere
theorem dX0_lay_0 : decode cX0_lay 0 = .ok (.iload_n 1, 1) := by decide +kernel
theorem dX0_lay_1 : decode cX0_lay 1 = .ok (.invokestatic 19, 3) := by decide +kernel
theorem dX0_lay_4 : decode cX0_lay 4 = .ok (.ifCond .eq 14, 3) := by decide +kernel
theorem dX0_lay_7 : decode cX0_lay 7 = .ok (.iload_n 2, 1) := by decide +kernel
theorem dX0_lay_8 : decode cX0_lay 8 = .ok (.iconst 1, 1) := by decide +kernel
theorem dX0_lay_9 : decode cX0_lay 9 = .ok (.if_icmp .lt 9, 3) := by decide +kernel
theorem dX0_lay_12 : decode cX0_lay 12 = .ok (.iload_n 2, 1) := by decide +kernel
theorem dX0_lay_13 : decode cX0_lay 13 = .ok (.bipush 12, 2) := by decide +kernel
theorem dX0_lay_15 : decode cX0_lay 15 = .ok (.if_icmp .le 6, 3) := by decide +kernel
theorem dX0_lay_18 : decode cX0_lay 18 = .ok (.bipush (-2), 2) := by decide +kernel
theorem dX0_lay_20 : decode cX0_lay 20 = .ok (.ireturn, 1) := by decide +kernel
theorem dX0_lay_21 : decode cX0_lay 21 = .ok (.aload_n 0, 1) := by decide +kernel
theorem dX0_lay_22 : decode cX0_lay 22 = .ok (.iload_n 1, 1) := by decide +kernel
theorem dX0_lay_23 : decode cX0_lay 23 = .ok (.invokevirtual 23, 3) := by decide +kernel
theorem dX0_lay_26 : decode cX0_lay 26 = .ok (.ifCond .eq 5, 3) := by decide +kernel
theorem dX0_lay_29 : decode cX0_lay 29 = .ok (.iconst 0, 1) := by decide +kernel
theorem dX0_lay_30 : decode cX0_lay 30 = .ok (.ireturn, 1) := by decide +kernel
theorem dX0_lay_31 : decode cX0_lay 31 = .ok (.aload_n 0, 1) := by decide +kernel
theorem dX0_lay_32 : decode cX0_lay 32 = .ok (.getfield 9, 3) := by decide +kernel
theorem dX0_lay_35 : decode cX0_lay 35 = .ok (.iload_n 1, 1) := by decide +kernel
theorem dX0_lay_36 : decode cX0_lay 36 = .ok (.iload_n 2, 1) := by decide +kernel
theorem dX0_lay_37 : decode cX0_lay 37 = .ok (.iastore, 1) := by decide +kernel
theorem dX0_lay_38 : decode cX0_lay 38 = .ok (.iconst 1, 1) := by decide +kernel
theorem dX0_lay_39 : decode cX0_lay 39 = .ok (.ireturn, 1) := by decide +kernel
set_option maxRecDepth 20000 in
theorem ggX0_lift_X0_isTrack : GoodIn wsX0_lift wsX0_isTrack := goodIn_r _ [6] (by decide +kernel) (by decide +kernel)
set_option maxRecDepth 20000 in
theorem gX0_lift_X0_isTrack : GoodIn wsX0_lift (va_wsS RX0 19 yX0_isTrack wsX0_isTrack) := goodIn_app (goodIn_of _ (by decide +kernel)) ggX0_lift_X0_isTrack
set_option maxRecDepth 20000 in
theorem ggX0_lift_X0_isThere : GoodIn wsX0_lift wsX0_isThere := goodIn_r _ [10, 2, 11, 12, 13, 14, 15, 16, 17, 18, 19] (by decide +kernel) (by decide +kernel)
set_option maxRecDepth 20000 in
theorem gX0_lift_X0_isThere : GoodIn wsX0_lift (wsV RX0 23 RX0 yX0_isThere wsX0_isThere) := goodIn_app (goodIn_of _ (by decide +kernel)) ggX0_lift_X0_isThere
theorem dX0_lift_0 : decode cX0_lift 0 = .ok (.iload_n 1, 1) := by decide +kernel
theorem dX0_lift_1 : decode cX0_lift 1 = .ok (.invokestatic 19, 3) := by decide +kernel
theorem dX0_lift_4 : decode cX0_lift 4 = .ok (.ifCond .ne 6, 3) := by decide +kernel
theorem dX0_lift_7 : decode cX0_lift 7 = .ok (.bipush (-2), 2) := by decide +kernel
theorem dX0_lift_9 : decode cX0_lift 9 = .ok (.ireturn, 1) := by decide +kernel
theorem dX0_lift_10 : decode cX0_lift 10 = .ok (.aload_n 0, 1) := by decide +kernel
theorem dX0_lift_11 : decode cX0_lift 11 = .ok (.iload_n 1, 1) := by decide +kernel
theorem dX0_lift_12 : decode cX0_lift 12 = .ok (.invokevirtual 23, 3) := by decide +kernel
theorem dX0_lift_15 : decode cX0_lift 15 = .ok (.ifCond .ne 6, 3) := by decide +kernel
theorem dX0_lift_18 : decode cX0_lift 18 = .ok (.bipush (-3), 2) := by decide +kernel
theorem dX0_lift_20 : decode cX0_lift 20 = .ok (.ireturn, 1) := by decide +kernel
theorem dX0_lift_21 : decode cX0_lift 21 = .ok (.aload_n 0, 1) := by decide +kernel
theorem dX0_lift_22 : decode cX0_lift 22 = .ok (.getfield 13, 3) := by decide +kernel
theorem dX0_lift_25 : decode cX0_lift 25 = .ok (.iload_n 1, 1) := by decide +kernel
theorem dX0_lift_26 : decode cX0_lift 26 = .ok (.iaload, 1) := by decide +kernel
theorem dX0_lift_27 : decode cX0_lift 27 = .ok (.istore_n 2, 1) := by decide +kernel
theorem dX0_lift_28 : decode cX0_lift 28 = .ok (.aload_n 0, 1) := by decide +kernel
theorem dX0_lift_29 : decode cX0_lift 29 = .ok (.getfield 9, 3) := by decide +kernel
theorem dX0_lift_32 : decode cX0_lift 32 = .ok (.iload_n 1, 1) := by decide +kernel
theorem dX0_lift_33 : decode cX0_lift 33 = .ok (.iconst 0, 1) := by decide +kernel
theorem dX0_lift_34 : decode cX0_lift 34 = .ok (.iastore, 1) := by decide +kernel
theorem dX0_lift_35 : decode cX0_lift 35 = .ok (.aload_n 0, 1) := by decide +kernel
theorem dX0_lift_36 : decode cX0_lift 36 = .ok (.getfield 13, 3) := by decide +kernel
theorem dX0_lift_39 : decode cX0_lift 39 = .ok (.iload_n 1, 1) := by decide +kernel
theorem dX0_lift_40 : decode cX0_lift 40 = .ok (.iconst 0, 1) := by decide +kernel
theorem dX0_lift_41 : decode cX0_lift 41 = .ok (.iastore, 1) := by decide +kernel
theorem dX0_lift_42 : decode cX0_lift 42 = .ok (.iload_n 2, 1) := by decide +kernel
theorem dX0_lift_43 : decode cX0_lift 43 = .ok (.ireturn, 1) := by decide +kernel
set_option maxRecDepth 20000 in
theorem ggX0_couple_X0_isTrack : GoodIn wsX0_couple wsX0_isTrack := goodIn_r _ [4] (by decide +kernel) (by decide +kernel)
set_option maxRecDepth 20000 in
theorem gX0_couple_X0_isTrack : GoodIn wsX0_couple (va_wsS RX0 19 yX0_isTrack wsX0_isTrack) := goodIn_app (goodIn_of _ (by decide +kernel)) ggX0_couple_X0_isTrack
set_option maxRecDepth 20000 in
theorem ggX0_couple_X0_holdAndCome : GoodIn wsX0_couple wsX0_holdAndCome := goodIn_r _ [8, 9, 10, 11, 3, 12, 13, 14, 15, 16, 17, 18, 19, 20, 21, 22, 23, 24, 25, 26, 27, 28, 29, 30, 31, 32, 33, 34, 35, 36, 37, 38, 39, 40, 41, 42, 43, 44, 45, 46, 47, 48] (by decide +kernel) (by decide +kernel)
set_option maxRecDepth 20000 in
theorem gX0_couple_X0_holdAndCome : GoodIn wsX0_couple (wsV RX0 26 RX0 yX0_holdAndCome wsX0_holdAndCome) := goodIn_app (goodIn_of _ (by decide +kernel)) ggX0_couple_X0_holdAndCome
theorem dX0_couple_0 : decode cX0_couple 0 = .ok (.iload_n 1, 1) := by decide +kernel
theorem dX0_couple_1 : decode cX0_couple 1 = .ok (.invokestatic 19, 3) := by decide +kernel
theorem dX0_couple_4 : decode cX0_couple 4 = .ok (.ifCond .eq 15, 3) := by decide +kernel
theorem dX0_couple_7 : decode cX0_couple 7 = .ok (.iload_n 2, 1) := by decide +kernel
theorem dX0_couple_8 : decode cX0_couple 8 = .ok (.iconst 1, 1) := by decide +kernel
theorem dX0_couple_9 : decode cX0_couple 9 = .ok (.if_icmp .lt 10, 3) := by decide +kernel
theorem dX0_couple_12 : decode cX0_couple 12 = .ok (.iload_n 2, 1) := by decide +kernel
theorem dX0_couple_13 : decode cX0_couple 13 = .ok (.sipush 999, 3) := by decide +kernel
theorem dX0_couple_16 : decode cX0_couple 16 = .ok (.if_icmp .le 6, 3) := by decide +kernel
theorem dX0_couple_19 : decode cX0_couple 19 = .ok (.bipush (-2), 2) := by decide +kernel
theorem dX0_couple_21 : decode cX0_couple 21 = .ok (.ireturn, 1) := by decide +kernel
theorem dX0_couple_22 : decode cX0_couple 22 = .ok (.aload_n 0, 1) := by decide +kernel
theorem dX0_couple_23 : decode cX0_couple 23 = .ok (.iload_n 1, 1) := by decide +kernel
theorem dX0_couple_24 : decode cX0_couple 24 = .ok (.iload_n 2, 1) := by decide +kernel
theorem dX0_couple_25 : decode cX0_couple 25 = .ok (.invokevirtual 26, 3) := by decide +kernel
theorem dX0_couple_28 : decode cX0_couple 28 = .ok (.ireturn, 1) := by decide +kernel
set_option maxRecDepth 20000 in
theorem ggX0_uncouple_X0_isTrack : GoodIn wsX0_uncouple wsX0_isTrack := goodIn_r _ [4] (by decide +kernel) (by decide +kernel)
set_option maxRecDepth 20000 in
theorem gX0_uncouple_X0_isTrack : GoodIn wsX0_uncouple (va_wsS RX0 19 yX0_isTrack wsX0_isTrack) := goodIn_app (goodIn_of _ (by decide +kernel)) ggX0_uncouple_X0_isTrack
set_option maxRecDepth 20000 in
theorem ggX0_uncouple_X0_hold : GoodIn wsX0_uncouple wsX0_hold := goodIn_r _ [8, 9, 10, 11, 12, 13, 14, 15, 16, 17, 18, 19, 3, 20, 21, 36, 37, 38, 39, 40, 41, 42, 43, 44] (by decide +kernel) (by decide +kernel)
set_option maxRecDepth 20000 in
theorem gX0_uncouple_X0_hold : GoodIn wsX0_uncouple (wsV RX0 30 RX0 yX0_hold wsX0_hold) := goodIn_app (goodIn_of _ (by decide +kernel)) ggX0_uncouple_X0_hold
set_option maxRecDepth 20000 in
theorem ggX0_uncouple_X0_go : GoodIn wsX0_uncouple wsX0_go := goodIn_r _ [25, 26, 27, 28, 29, 3, 30, 36, 37, 38, 39, 40, 41, 42, 43, 44] (by decide +kernel) (by decide +kernel)
set_option maxRecDepth 20000 in
theorem gX0_uncouple_X0_go : GoodIn wsX0_uncouple (wsV RX0 33 RX0 yX0_go wsX0_go) := goodIn_app (goodIn_of _ (by decide +kernel)) ggX0_uncouple_X0_go
set_option maxRecDepth 20000 in
theorem ggX0_uncouple_X0_letGo : GoodIn wsX0_uncouple wsX0_letGo := goodIn_r _ [34, 11, 35, 36, 37, 38, 39, 40, 41, 42, 43, 44] (by decide +kernel) (by decide +kernel)
set_option maxRecDepth 20000 in
theorem gX0_uncouple_X0_letGo : GoodIn wsX0_uncouple (wsV RX0 37 RX0 yX0_letGo wsX0_letGo) := goodIn_app (goodIn_of _ (by decide +kernel)) ggX0_uncouple_X0_letGo
theorem dX0_uncouple_0 : decode cX0_uncouple 0 = .ok (.iload_n 1, 1) := by decide +kernel
theorem dX0_uncouple_1 : decode cX0_uncouple 1 = .ok (.invokestatic 19, 3) := by decide +kernel
theorem dX0_uncouple_4 : decode cX0_uncouple 4 = .ok (.ifCond .ne 6, 3) := by decide +kernel
theorem dX0_uncouple_7 : decode cX0_uncouple 7 = .ok (.bipush (-2), 2) := by decide +kernel
theorem dX0_uncouple_9 : decode cX0_uncouple 9 = .ok (.ireturn, 1) := by decide +kernel
theorem dX0_uncouple_10 : decode cX0_uncouple 10 = .ok (.aload_n 0, 1) := by decide +kernel
theorem dX0_uncouple_11 : decode cX0_uncouple 11 = .ok (.iload_n 1, 1) := by decide +kernel
theorem dX0_uncouple_12 : decode cX0_uncouple 12 = .ok (.invokevirtual 30, 3) := by decide +kernel
theorem dX0_uncouple_15 : decode cX0_uncouple 15 = .ok (.ifCond .ne 6, 3) := by decide +kernel
theorem dX0_uncouple_18 : decode cX0_uncouple 18 = .ok (.bipush (-3), 2) := by decide +kernel
theorem dX0_uncouple_20 : decode cX0_uncouple 20 = .ok (.ireturn, 1) := by decide +kernel
theorem dX0_uncouple_21 : decode cX0_uncouple 21 = .ok (.aload_n 0, 1) := by decide +kernel
theorem dX0_uncouple_22 : decode cX0_uncouple 22 = .ok (.iconst 1, 1) := by decide +kernel
theorem dX0_uncouple_23 : decode cX0_uncouple 23 = .ok (.aload_n 0, 1) := by decide +kernel
theorem dX0_uncouple_24 : decode cX0_uncouple 24 = .ok (.iload_n 1, 1) := by decide +kernel
theorem dX0_uncouple_25 : decode cX0_uncouple 25 = .ok (.invokevirtual 33, 3) := by decide +kernel
theorem dX0_uncouple_28 : decode cX0_uncouple 28 = .ok (.invokevirtual 37, 3) := by decide +kernel
theorem dX0_uncouple_31 : decode cX0_uncouple 31 = .ok (.ireturn, 1) := by decide +kernel
set_option maxRecDepth 20000 in
theorem ggX0_shunt_X0_isTrack : GoodIn wsX0_shunt wsX0_isTrack := goodIn_r _ [5] (by decide +kernel) (by decide +kernel)
set_option maxRecDepth 20000 in
theorem gX0_shunt_X0_isTrack : GoodIn wsX0_shunt (va_wsS RX0 19 yX0_isTrack wsX0_isTrack) := goodIn_app (goodIn_of _ (by decide +kernel)) ggX0_shunt_X0_isTrack
set_option maxRecDepth 20000 in
theorem ggX0_shunt_X0_hold : GoodIn wsX0_shunt wsX0_hold := goodIn_r _ [9, 10, 11, 12, 13, 14, 15, 16, 17, 18, 19, 20, 4, 21, 22, 45, 46, 47, 48, 49, 50, 51, 52, 53] (by decide +kernel) (by decide +kernel)
set_option maxRecDepth 20000 in
theorem gX0_shunt_X0_hold : GoodIn wsX0_shunt (wsV RX0 30 RX0 yX0_hold wsX0_hold) := goodIn_app (goodIn_of _ (by decide +kernel)) ggX0_shunt_X0_hold
set_option maxRecDepth 20000 in
theorem ggX0_shunt_X0_letGo : GoodIn wsX0_shunt wsX0_letGo := goodIn_r _ [26, 12, 27, 45, 46, 47, 48, 49, 50, 51, 52, 53] (by decide +kernel) (by decide +kernel)
set_option maxRecDepth 20000 in
theorem gX0_shunt_X0_letGo : GoodIn wsX0_shunt (wsV RX0 37 RX0 yX0_letGo wsX0_letGo) := goodIn_app (goodIn_of _ (by decide +kernel)) ggX0_shunt_X0_letGo
set_option maxRecDepth 20000 in
theorem ggX0_shunt_X0_moveWagons : GoodIn wsX0_shunt wsX0_moveWagons := goodIn_r _ [31, 1, 32, 33, 34, 4, 35, 36, 37, 38, 39, 40, 41, 42, 43, 44, 22, 45, 46, 47, 48, 49, 50, 51, 52, 53] (by decide +kernel) (by decide +kernel)
set_option maxRecDepth 20000 in
theorem gX0_shunt_X0_moveWagons : GoodIn wsX0_shunt (wsV RX0 44 RX0 yX0_moveWagons wsX0_moveWagons) := goodIn_app (goodIn_of _ (by decide +kernel)) ggX0_shunt_X0_moveWagons
theorem dX0_shunt_0 : decode cX0_shunt 0 = .ok (.iload_n 1, 1) := by decide +kernel
theorem dX0_shunt_1 : decode cX0_shunt 1 = .ok (.invokestatic 19, 3) := by decide +kernel
theorem dX0_shunt_4 : decode cX0_shunt 4 = .ok (.ifCond .eq 20, 3) := by decide +kernel
theorem dX0_shunt_7 : decode cX0_shunt 7 = .ok (.iload_n 2, 1) := by decide +kernel
theorem dX0_shunt_8 : decode cX0_shunt 8 = .ok (.invokestatic 19, 3) := by decide +kernel
theorem dX0_shunt_11 : decode cX0_shunt 11 = .ok (.ifCond .eq 13, 3) := by decide +kernel
theorem dX0_shunt_14 : decode cX0_shunt 14 = .ok (.iload_n 3, 1) := by decide +kernel
theorem dX0_shunt_15 : decode cX0_shunt 15 = .ok (.ifCond .lt 9, 3) := by decide +kernel
theorem dX0_shunt_18 : decode cX0_shunt 18 = .ok (.iload_n 3, 1) := by decide +kernel
theorem dX0_shunt_19 : decode cX0_shunt 19 = .ok (.bipush 20, 2) := by decide +kernel
theorem dX0_shunt_21 : decode cX0_shunt 21 = .ok (.if_icmp .le 6, 3) := by decide +kernel
theorem dX0_shunt_24 : decode cX0_shunt 24 = .ok (.bipush (-2), 2) := by decide +kernel
theorem dX0_shunt_26 : decode cX0_shunt 26 = .ok (.ireturn, 1) := by decide +kernel
theorem dX0_shunt_27 : decode cX0_shunt 27 = .ok (.aload_n 0, 1) := by decide +kernel
theorem dX0_shunt_28 : decode cX0_shunt 28 = .ok (.iconst 0, 1) := by decide +kernel
theorem dX0_shunt_29 : decode cX0_shunt 29 = .ok (.putfield 40, 3) := by decide +kernel
theorem dX0_shunt_32 : decode cX0_shunt 32 = .ok (.aload_n 0, 1) := by decide +kernel
theorem dX0_shunt_33 : decode cX0_shunt 33 = .ok (.iload_n 1, 1) := by decide +kernel
theorem dX0_shunt_34 : decode cX0_shunt 34 = .ok (.invokevirtual 30, 3) := by decide +kernel
theorem dX0_shunt_37 : decode cX0_shunt 37 = .ok (.ifCond .ne 6, 3) := by decide +kernel
theorem dX0_shunt_40 : decode cX0_shunt 40 = .ok (.bipush (-3), 2) := by decide +kernel
theorem dX0_shunt_42 : decode cX0_shunt 42 = .ok (.ireturn, 1) := by decide +kernel
theorem dX0_shunt_43 : decode cX0_shunt 43 = .ok (.aload_n 0, 1) := by decide +kernel
theorem dX0_shunt_44 : decode cX0_shunt 44 = .ok (.iload_n 2, 1) := by decide +kernel
theorem dX0_shunt_45 : decode cX0_shunt 45 = .ok (.invokevirtual 30, 3) := by decide +kernel
theorem dX0_shunt_48 : decode cX0_shunt 48 = .ok (.ifCond .ne 11, 3) := by decide +kernel
theorem dX0_shunt_51 : decode cX0_shunt 51 = .ok (.aload_n 0, 1) := by decide +kernel
theorem dX0_shunt_52 : decode cX0_shunt 52 = .ok (.iconst 1, 1) := by decide +kernel
theorem dX0_shunt_53 : decode cX0_shunt 53 = .ok (.bipush (-3), 2) := by decide +kernel
theorem dX0_shunt_55 : decode cX0_shunt 55 = .ok (.invokevirtual 37, 3) := by decide +kernel
theorem dX0_shunt_58 : decode cX0_shunt 58 = .ok (.ireturn, 1) := by decide +kernel
theorem dX0_shunt_59 : decode cX0_shunt 59 = .ok (.aload_n 0, 1) := by decide +kernel
theorem dX0_shunt_60 : decode cX0_shunt 60 = .ok (.iconst 2, 1) := by decide +kernel
theorem dX0_shunt_61 : decode cX0_shunt 61 = .ok (.aload_n 0, 1) := by decide +kernel
theorem dX0_shunt_62 : decode cX0_shunt 62 = .ok (.iload_n 1, 1) := by decide +kernel
theorem dX0_shunt_63 : decode cX0_shunt 63 = .ok (.iload_n 2, 1) := by decide +kernel
theorem dX0_shunt_64 : decode cX0_shunt 64 = .ok (.iload_n 3, 1) := by decide +kernel
theorem dX0_shunt_65 : decode cX0_shunt 65 = .ok (.invokevirtual 44, 3) := by decide +kernel
theorem dX0_shunt_68 : decode cX0_shunt 68 = .ok (.invokevirtual 37, 3) := by decide +kernel
theorem dX0_shunt_71 : decode cX0_shunt 71 = .ok (.ireturn, 1) := by decide +kernel
set_option maxRecDepth 20000 in
theorem ggX0_sweep_X0_isTrack : GoodIn wsX0_sweep wsX0_isTrack := goodIn_r _ [5] (by decide +kernel) (by decide +kernel)
set_option maxRecDepth 20000 in
theorem gX0_sweep_X0_isTrack : GoodIn wsX0_sweep (va_wsS RX0 19 yX0_isTrack wsX0_isTrack) := goodIn_app (goodIn_of _ (by decide +kernel)) ggX0_sweep_X0_isTrack
set_option maxRecDepth 20000 in
theorem ggX0_sweep_X0_hold : GoodIn wsX0_sweep wsX0_hold := goodIn_r _ [9, 10, 11, 12, 13, 14, 15, 16, 17, 18, 19, 20, 4, 21, 22, 49, 50, 51, 52, 53, 54, 55, 56, 57] (by decide +kernel) (by decide +kernel)
set_option maxRecDepth 20000 in
theorem gX0_sweep_X0_hold : GoodIn wsX0_sweep (wsV RX0 30 RX0 yX0_hold wsX0_hold) := goodIn_app (goodIn_of _ (by decide +kernel)) ggX0_sweep_X0_hold
set_option maxRecDepth 20000 in
theorem ggX0_sweep_X0_sortWagons : GoodIn wsX0_sweep wsX0_sortWagons := goodIn_r _ [26, 27, 1, 28, 29, 30, 4, 31, 32, 33, 34, 35, 36, 37, 38, 39, 6, 7, 8, 9, 10, 11, 12, 13, 14, 15, 16, 17, 18, 19, 20, 21, 22, 40, 41, 42, 43, 44, 45, 46, 47, 48, 49, 50, 51, 52, 53, 54, 55, 56, 57] (by decide +kernel) (by decide +kernel)
set_option maxRecDepth 20000 in
theorem gX0_sweep_X0_sortWagons : GoodIn wsX0_sweep (wsV RX0 48 RX0 yX0_sortWagons wsX0_sortWagons) := goodIn_app (goodIn_of _ (by decide +kernel)) ggX0_sweep_X0_sortWagons
set_option maxRecDepth 20000 in
theorem ggX0_sweep_X0_letGo : GoodIn wsX0_sweep wsX0_letGo := goodIn_r _ [47, 12, 48, 49, 50, 51, 52, 53, 54, 55, 56, 57] (by decide +kernel) (by decide +kernel)
set_option maxRecDepth 20000 in
theorem gX0_sweep_X0_letGo : GoodIn wsX0_sweep (wsV RX0 37 RX0 yX0_letGo wsX0_letGo) := goodIn_app (goodIn_of _ (by decide +kernel)) ggX0_sweep_X0_letGo
theorem dX0_sweep_0 : decode cX0_sweep 0 = .ok (.iload_n 1, 1) := by decide +kernel
theorem dX0_sweep_1 : decode cX0_sweep 1 = .ok (.invokestatic 19, 3) := by decide +kernel
theorem dX0_sweep_4 : decode cX0_sweep 4 = .ok (.ifCond .eq 27, 3) := by decide +kernel
theorem dX0_sweep_7 : decode cX0_sweep 7 = .ok (.iload_n 2, 1) := by decide +kernel
theorem dX0_sweep_8 : decode cX0_sweep 8 = .ok (.invokestatic 19, 3) := by decide +kernel
theorem dX0_sweep_11 : decode cX0_sweep 11 = .ok (.ifCond .eq 20, 3) := by decide +kernel
theorem dX0_sweep_14 : decode cX0_sweep 14 = .ok (.iload_n 3, 1) := by decide +kernel
theorem dX0_sweep_15 : decode cX0_sweep 15 = .ok (.invokestatic 19, 3) := by decide +kernel
theorem dX0_sweep_18 : decode cX0_sweep 18 = .ok (.ifCond .eq 13, 3) := by decide +kernel
theorem dX0_sweep_21 : decode cX0_sweep 21 = .ok (.iload_n 1, 1) := by decide +kernel
theorem dX0_sweep_22 : decode cX0_sweep 22 = .ok (.iload_n 2, 1) := by decide +kernel
theorem dX0_sweep_23 : decode cX0_sweep 23 = .ok (.if_icmp .eq 8, 3) := by decide +kernel
theorem dX0_sweep_26 : decode cX0_sweep 26 = .ok (.iload_n 1, 1) := by decide +kernel
theorem dX0_sweep_27 : decode cX0_sweep 27 = .ok (.iload_n 3, 1) := by decide +kernel
theorem dX0_sweep_28 : decode cX0_sweep 28 = .ok (.if_icmp .ne 6, 3) := by decide +kernel
theorem dX0_sweep_31 : decode cX0_sweep 31 = .ok (.bipush (-2), 2) := by decide +kernel
theorem dX0_sweep_33 : decode cX0_sweep 33 = .ok (.ireturn, 1) := by decide +kernel
theorem dX0_sweep_34 : decode cX0_sweep 34 = .ok (.aload_n 0, 1) := by decide +kernel
theorem dX0_sweep_35 : decode cX0_sweep 35 = .ok (.iconst 0, 1) := by decide +kernel
theorem dX0_sweep_36 : decode cX0_sweep 36 = .ok (.putfield 40, 3) := by decide +kernel
theorem dX0_sweep_39 : decode cX0_sweep 39 = .ok (.aload_n 0, 1) := by decide +kernel
theorem dX0_sweep_40 : decode cX0_sweep 40 = .ok (.iload_n 1, 1) := by decide +kernel
theorem dX0_sweep_41 : decode cX0_sweep 41 = .ok (.invokevirtual 30, 3) := by decide +kernel
theorem dX0_sweep_44 : decode cX0_sweep 44 = .ok (.ifCond .ne 6, 3) := by decide +kernel
theorem dX0_sweep_47 : decode cX0_sweep 47 = .ok (.bipush (-3), 2) := by decide +kernel
theorem dX0_sweep_49 : decode cX0_sweep 49 = .ok (.ireturn, 1) := by decide +kernel
theorem dX0_sweep_50 : decode cX0_sweep 50 = .ok (.aload_n 0, 1) := by decide +kernel
theorem dX0_sweep_51 : decode cX0_sweep 51 = .ok (.iconst 1, 1) := by decide +kernel
theorem dX0_sweep_52 : decode cX0_sweep 52 = .ok (.aload_n 0, 1) := by decide +kernel
theorem dX0_sweep_53 : decode cX0_sweep 53 = .ok (.iload_n 1, 1) := by decide +kernel
theorem dX0_sweep_54 : decode cX0_sweep 54 = .ok (.iload_n 2, 1) := by decide +kernel
theorem dX0_sweep_55 : decode cX0_sweep 55 = .ok (.iload_n 3, 1) := by decide +kernel
theorem dX0_sweep_56 : decode cX0_sweep 56 = .ok (.invokevirtual 48, 3) := by decide +kernel
theorem dX0_sweep_59 : decode cX0_sweep 59 = .ok (.invokevirtual 37, 3) := by decide +kernel
theorem dX0_sweep_62 : decode cX0_sweep 62 = .ok (.ireturn, 1) := by decide +kernel
set_option maxRecDepth 20000 in
theorem ggX0_tour_X0_isRowLength : GoodIn wsX0_tour wsX0_isRowLength := goodIn_r _ [6] (by decide +kernel) (by decide +kernel)
set_option maxRecDepth 20000 in
theorem gX0_tour_X0_isRowLength : GoodIn wsX0_tour (va_wsS RX0 51 yX0_isRowLength wsX0_isRowLength) := goodIn_app (goodIn_of _ (by decide +kernel)) ggX0_tour_X0_isRowLength
set_option maxRecDepth 20000 in
theorem ggX0_tour_X0_trackOfRow : GoodIn wsX0_tour wsX0_trackOfRow := goodIn_r _ [9] (by decide +kernel) (by decide +kernel)
set_option maxRecDepth 20000 in
theorem gX0_tour_X0_trackOfRow : GoodIn wsX0_tour (va_wsS RX0 54 yX0_trackOfRow wsX0_trackOfRow) := goodIn_app (goodIn_of _ (by decide +kernel)) ggX0_tour_X0_trackOfRow
set_option maxRecDepth 20000 in
theorem ggX0_tour_X0_hold : GoodIn wsX0_tour wsX0_hold := goodIn_r _ [13, 14, 15, 16, 17, 18, 19, 20, 21, 22, 23, 24, 5, 25, 26, 48, 49, 50, 51, 52, 53, 54, 55, 56] (by decide +kernel) (by decide +kernel)
set_option maxRecDepth 20000 in
theorem gX0_tour_X0_hold : GoodIn wsX0_tour (wsV RX0 30 RX0 yX0_hold wsX0_hold) := goodIn_app (goodIn_of _ (by decide +kernel)) ggX0_tour_X0_hold
set_option maxRecDepth 20000 in
theorem ggX0_tour_X0_takeOnTour : GoodIn wsX0_tour wsX0_takeOnTour := goodIn_r _ [30, 1, 31, 32, 33, 5, 34, 2, 35, 36, 37, 38, 39, 40, 41, 42, 26, 48, 49, 50, 51, 52, 53, 54, 55, 56] (by decide +kernel) (by decide +kernel)
set_option maxRecDepth 20000 in
theorem gX0_tour_X0_takeOnTour : GoodIn wsX0_tour (wsV RX0 58 RX0 yX0_takeOnTour wsX0_takeOnTour) := goodIn_app (goodIn_of _ (by decide +kernel)) ggX0_tour_X0_takeOnTour
set_option maxRecDepth 20000 in
theorem ggX0_tour_X0_letGo : GoodIn wsX0_tour wsX0_letGo := goodIn_r _ [46, 16, 47, 48, 49, 50, 51, 52, 53, 54, 55, 56] (by decide +kernel) (by decide +kernel)
set_option maxRecDepth 20000 in
theorem gX0_tour_X0_letGo : GoodIn wsX0_tour (wsV RX0 37 RX0 yX0_letGo wsX0_letGo) := goodIn_app (goodIn_of _ (by decide +kernel)) ggX0_tour_X0_letGo
theorem dX0_tour_0 : decode cX0_tour 0 = .ok (.iload_n 3, 1) := by decide +kernel
theorem dX0_tour_1 : decode cX0_tour 1 = .ok (.invokestatic 51, 3) := by decide +kernel
theorem dX0_tour_4 : decode cX0_tour 4 = .ok (.ifCond .ne 6, 3) := by decide +kernel
theorem dX0_tour_7 : decode cX0_tour 7 = .ok (.bipush (-2), 2) := by decide +kernel
theorem dX0_tour_9 : decode cX0_tour 9 = .ok (.ireturn, 1) := by decide +kernel
theorem dX0_tour_10 : decode cX0_tour 10 = .ok (.aload_n 0, 1) := by decide +kernel
theorem dX0_tour_11 : decode cX0_tour 11 = .ok (.iconst 0, 1) := by decide +kernel
theorem dX0_tour_12 : decode cX0_tour 12 = .ok (.putfield 40, 3) := by decide +kernel
theorem dX0_tour_15 : decode cX0_tour 15 = .ok (.iconst 0, 1) := by decide +kernel
theorem dX0_tour_16 : decode cX0_tour 16 = .ok (.istore 4, 2) := by decide +kernel
theorem dX0_tour_18 : decode cX0_tour 18 = .ok (.iconst 0, 1) := by decide +kernel
theorem dX0_tour_19 : decode cX0_tour 19 = .ok (.istore 5, 2) := by decide +kernel
theorem dX0_tour_21 : decode cX0_tour 21 = .ok (.iload 5, 2) := by decide +kernel
theorem dX0_tour_23 : decode cX0_tour 23 = .ok (.iload_n 3, 1) := by decide +kernel
theorem dX0_tour_24 : decode cX0_tour 24 = .ok (.if_icmp .ge 77, 3) := by decide +kernel
theorem dX0_tour_27 : decode cX0_tour 27 = .ok (.lload_n 1, 1) := by decide +kernel
theorem dX0_tour_28 : decode cX0_tour 28 = .ok (.iload 5, 2) := by decide +kernel
theorem dX0_tour_30 : decode cX0_tour 30 = .ok (.invokestatic 54, 3) := by decide +kernel
theorem dX0_tour_33 : decode cX0_tour 33 = .ok (.istore 6, 2) := by decide +kernel
theorem dX0_tour_35 : decode cX0_tour 35 = .ok (.aload_n 0, 1) := by decide +kernel
theorem dX0_tour_36 : decode cX0_tour 36 = .ok (.iload 6, 2) := by decide +kernel
theorem dX0_tour_38 : decode cX0_tour 38 = .ok (.invokevirtual 30, 3) := by decide +kernel
theorem dX0_tour_41 : decode cX0_tour 41 = .ok (.ifCond .ne 6, 3) := by decide +kernel
theorem dX0_tour_44 : decode cX0_tour 44 = .ok (.bipush (-3), 2) := by decide +kernel
theorem dX0_tour_46 : decode cX0_tour 46 = .ok (.ireturn, 1) := by decide +kernel
theorem dX0_tour_47 : decode cX0_tour 47 = .ok (.aload_n 0, 1) := by decide +kernel
theorem dX0_tour_48 : decode cX0_tour 48 = .ok (.getfield 13, 3) := by decide +kernel
theorem dX0_tour_51 : decode cX0_tour 51 = .ok (.iload 6, 2) := by decide +kernel
theorem dX0_tour_53 : decode cX0_tour 53 = .ok (.iaload, 1) := by decide +kernel
theorem dX0_tour_54 : decode cX0_tour 54 = .ok (.ifCond .ne 7, 3) := by decide +kernel
theorem dX0_tour_57 : decode cX0_tour 57 = .ok (.iconst 1, 1) := by decide +kernel
theorem dX0_tour_58 : decode cX0_tour 58 = .ok (.goto 4, 3) := by decide +kernel
theorem dX0_tour_61 : decode cX0_tour 61 = .ok (.iconst 0, 1) := by decide +kernel
theorem dX0_tour_62 : decode cX0_tour 62 = .ok (.istore 7, 2) := by decide +kernel
theorem dX0_tour_64 : decode cX0_tour 64 = .ok (.iload 7, 2) := by decide +kernel
theorem dX0_tour_66 : decode cX0_tour 66 = .ok (.ifCond .ne 14, 3) := by decide +kernel
theorem dX0_tour_69 : decode cX0_tour 69 = .ok (.iload 4, 2) := by decide +kernel
theorem dX0_tour_71 : decode cX0_tour 71 = .ok (.aload_n 0, 1) := by decide +kernel
theorem dX0_tour_72 : decode cX0_tour 72 = .ok (.iload 6, 2) := by decide +kernel
theorem dX0_tour_74 : decode cX0_tour 74 = .ok (.invokevirtual 58, 3) := by decide +kernel
theorem dX0_tour_77 : decode cX0_tour 77 = .ok (.iadd, 1) := by decide +kernel
theorem dX0_tour_78 : decode cX0_tour 78 = .ok (.istore 4, 2) := by decide +kernel
theorem dX0_tour_80 : decode cX0_tour 80 = .ok (.aload_n 0, 1) := by decide +kernel
theorem dX0_tour_81 : decode cX0_tour 81 = .ok (.iconst 1, 1) := by decide +kernel
theorem dX0_tour_82 : decode cX0_tour 82 = .ok (.iconst 0, 1) := by decide +kernel
theorem dX0_tour_83 : decode cX0_tour 83 = .ok (.invokevirtual 37, 3) := by decide +kernel
theorem dX0_tour_86 : decode cX0_tour 86 = .ok (.pop, 1) := by decide +kernel
theorem dX0_tour_87 : decode cX0_tour 87 = .ok (.iload 7, 2) := by decide +kernel
theorem dX0_tour_89 : decode cX0_tour 89 = .ok (.ifCond .eq 6, 3) := by decide +kernel
theorem dX0_tour_92 : decode cX0_tour 92 = .ok (.goto 9, 3) := by decide +kernel
theorem dX0_tour_95 : decode cX0_tour 95 = .ok (.iinc 5 1, 3) := by decide +kernel
theorem dX0_tour_98 : decode cX0_tour 98 = .ok (.goto (-77), 3) := by decide +kernel
theorem dX0_tour_101 : decode cX0_tour 101 = .ok (.iload 4, 2) := by decide +kernel
theorem dX0_tour_103 : decode cX0_tour 103 = .ok (.ireturn, 1) := by decide +kernel
set_option maxRecDepth 20000 in
theorem ggX0_chain_X0_isRowLength : GoodIn wsX0_chain wsX0_isRowLength := goodIn_r _ [5] (by decide +kernel) (by decide +kernel)
set_option maxRecDepth 20000 in
theorem gX0_chain_X0_isRowLength : GoodIn wsX0_chain (va_wsS RX0 51 yX0_isRowLength wsX0_isRowLength) := goodIn_app (goodIn_of _ (by decide +kernel)) ggX0_chain_X0_isRowLength
set_option maxRecDepth 20000 in
theorem ggX0_chain_X0_trackOfRow : GoodIn wsX0_chain wsX0_trackOfRow := goodIn_r _ [8] (by decide +kernel) (by decide +kernel)
set_option maxRecDepth 20000 in
theorem gX0_chain_X0_trackOfRow : GoodIn wsX0_chain (va_wsS RX0 54 yX0_trackOfRow wsX0_trackOfRow) := goodIn_app (goodIn_of _ (by decide +kernel)) ggX0_chain_X0_trackOfRow
set_option maxRecDepth 20000 in
theorem ggX0_chain_X0_hold : GoodIn wsX0_chain wsX0_hold := goodIn_r _ [12, 13, 14, 15, 16, 17, 18, 19, 20, 21, 22, 23, 4, 24, 25, 31, 32, 33, 34, 35, 36, 37, 38, 39] (by decide +kernel) (by decide +kernel)
set_option maxRecDepth 20000 in
theorem gX0_chain_X0_hold : GoodIn wsX0_chain (wsV RX0 30 RX0 yX0_hold wsX0_hold) := goodIn_app (goodIn_of _ (by decide +kernel)) ggX0_chain_X0_hold
set_option maxRecDepth 20000 in
theorem ggX0_chain_X0_letGo : GoodIn wsX0_chain wsX0_letGo := goodIn_r _ [29, 15, 30, 31, 32, 33, 34, 35, 36, 37, 38, 39] (by decide +kernel) (by decide +kernel)
set_option maxRecDepth 20000 in
theorem gX0_chain_X0_letGo : GoodIn wsX0_chain (wsV RX0 37 RX0 yX0_letGo wsX0_letGo) := goodIn_app (goodIn_of _ (by decide +kernel)) ggX0_chain_X0_letGo
theorem dX0_chain_0 : decode cX0_chain 0 = .ok (.iload_n 3, 1) := by decide +kernel
theorem dX0_chain_1 : decode cX0_chain 1 = .ok (.invokestatic 51, 3) := by decide +kernel
theorem dX0_chain_4 : decode cX0_chain 4 = .ok (.ifCond .ne 6, 3) := by decide +kernel
theorem dX0_chain_7 : decode cX0_chain 7 = .ok (.bipush (-2), 2) := by decide +kernel
theorem dX0_chain_9 : decode cX0_chain 9 = .ok (.ireturn, 1) := by decide +kernel
theorem dX0_chain_10 : decode cX0_chain 10 = .ok (.iconst 0, 1) := by decide +kernel
theorem dX0_chain_11 : decode cX0_chain 11 = .ok (.istore 4, 2) := by decide +kernel
theorem dX0_chain_13 : decode cX0_chain 13 = .ok (.iconst 0, 1) := by decide +kernel
theorem dX0_chain_14 : decode cX0_chain 14 = .ok (.istore 5, 2) := by decide +kernel
theorem dX0_chain_16 : decode cX0_chain 16 = .ok (.iload 5, 2) := by decide +kernel
theorem dX0_chain_18 : decode cX0_chain 18 = .ok (.iload_n 3, 1) := by decide +kernel
theorem dX0_chain_19 : decode cX0_chain 19 = .ok (.if_icmp .ge 47, 3) := by decide +kernel
theorem dX0_chain_22 : decode cX0_chain 22 = .ok (.lload_n 1, 1) := by decide +kernel
theorem dX0_chain_23 : decode cX0_chain 23 = .ok (.iload 5, 2) := by decide +kernel
theorem dX0_chain_25 : decode cX0_chain 25 = .ok (.invokestatic 54, 3) := by decide +kernel
theorem dX0_chain_28 : decode cX0_chain 28 = .ok (.istore 6, 2) := by decide +kernel
theorem dX0_chain_30 : decode cX0_chain 30 = .ok (.aload_n 0, 1) := by decide +kernel
theorem dX0_chain_31 : decode cX0_chain 31 = .ok (.iload 6, 2) := by decide +kernel
theorem dX0_chain_33 : decode cX0_chain 33 = .ok (.invokevirtual 30, 3) := by decide +kernel
theorem dX0_chain_36 : decode cX0_chain 36 = .ok (.ifCond .ne 12, 3) := by decide +kernel
theorem dX0_chain_39 : decode cX0_chain 39 = .ok (.aload_n 0, 1) := by decide +kernel
theorem dX0_chain_40 : decode cX0_chain 40 = .ok (.iload 5, 2) := by decide +kernel
theorem dX0_chain_42 : decode cX0_chain 42 = .ok (.bipush (-3), 2) := by decide +kernel
theorem dX0_chain_44 : decode cX0_chain 44 = .ok (.invokevirtual 37, 3) := by decide +kernel
theorem dX0_chain_47 : decode cX0_chain 47 = .ok (.ireturn, 1) := by decide +kernel
theorem dX0_chain_48 : decode cX0_chain 48 = .ok (.iload 4, 2) := by decide +kernel
theorem dX0_chain_50 : decode cX0_chain 50 = .ok (.aload_n 0, 1) := by decide +kernel
theorem dX0_chain_51 : decode cX0_chain 51 = .ok (.getfield 13, 3) := by decide +kernel
theorem dX0_chain_54 : decode cX0_chain 54 = .ok (.iload 6, 2) := by decide +kernel
theorem dX0_chain_56 : decode cX0_chain 56 = .ok (.iaload, 1) := by decide +kernel
theorem dX0_chain_57 : decode cX0_chain 57 = .ok (.iadd, 1) := by decide +kernel
theorem dX0_chain_58 : decode cX0_chain 58 = .ok (.istore 4, 2) := by decide +kernel
theorem dX0_chain_60 : decode cX0_chain 60 = .ok (.iinc 5 1, 3) := by decide +kernel
theorem dX0_chain_63 : decode cX0_chain 63 = .ok (.goto (-47), 3) := by decide +kernel
theorem dX0_chain_66 : decode cX0_chain 66 = .ok (.aload_n 0, 1) := by decide +kernel
theorem dX0_chain_67 : decode cX0_chain 67 = .ok (.iload_n 3, 1) := by decide +kernel
theorem dX0_chain_68 : decode cX0_chain 68 = .ok (.iload 4, 2) := by decide +kernel
theorem dX0_chain_70 : decode cX0_chain 70 = .ok (.invokevirtual 37, 3) := by decide +kernel
theorem dX0_chain_73 : decode cX0_chain 73 = .ok (.ireturn, 1) := by decide +kernel
set_option maxRecDepth 20000 in
theorem ggX0_survey_X0_isRowLength : GoodIn wsX0_survey wsX0_isRowLength := goodIn_r _ [5] (by decide +kernel) (by decide +kernel)
set_option maxRecDepth 20000 in
theorem gX0_survey_X0_isRowLength : GoodIn wsX0_survey (va_wsS RX0 51 yX0_isRowLength wsX0_isRowLength) := goodIn_app (goodIn_of _ (by decide +kernel)) ggX0_survey_X0_isRowLength
set_option maxRecDepth 20000 in
theorem ggX0_survey_X0_trackOfRow : GoodIn wsX0_survey wsX0_trackOfRow := goodIn_r _ [8] (by decide +kernel) (by decide +kernel)
set_option maxRecDepth 20000 in
theorem gX0_survey_X0_trackOfRow : GoodIn wsX0_survey (va_wsS RX0 54 yX0_trackOfRow wsX0_trackOfRow) := goodIn_app (goodIn_of _ (by decide +kernel)) ggX0_survey_X0_trackOfRow
set_option maxRecDepth 20000 in
theorem ggX0_survey_X0_hold : GoodIn wsX0_survey wsX0_hold := goodIn_r _ [12, 13, 14, 15, 16, 17, 18, 19, 20, 21, 22, 23, 4, 24, 25, 31, 32, 33, 34, 35, 36, 37, 38, 39] (by decide +kernel) (by decide +kernel)
set_option maxRecDepth 20000 in
theorem gX0_survey_X0_hold : GoodIn wsX0_survey (wsV RX0 30 RX0 yX0_hold wsX0_hold) := goodIn_app (goodIn_of _ (by decide +kernel)) ggX0_survey_X0_hold
set_option maxRecDepth 20000 in
theorem ggX0_survey_X0_letGo : GoodIn wsX0_survey wsX0_letGo := goodIn_r _ [29, 15, 30, 31, 32, 33, 34, 35, 36, 37, 38, 39] (by decide +kernel) (by decide +kernel)
set_option maxRecDepth 20000 in
theorem gX0_survey_X0_letGo : GoodIn wsX0_survey (wsV RX0 37 RX0 yX0_letGo wsX0_letGo) := goodIn_app (goodIn_of _ (by decide +kernel)) ggX0_survey_X0_letGo
theorem dX0_survey_0 : decode cX0_survey 0 = .ok (.iload_n 3, 1) := by decide +kernel
theorem dX0_survey_1 : decode cX0_survey 1 = .ok (.invokestatic 51, 3) := by decide +kernel
theorem dX0_survey_4 : decode cX0_survey 4 = .ok (.ifCond .ne 6, 3) := by decide +kernel
theorem dX0_survey_7 : decode cX0_survey 7 = .ok (.bipush (-2), 2) := by decide +kernel
theorem dX0_survey_9 : decode cX0_survey 9 = .ok (.ireturn, 1) := by decide +kernel
theorem dX0_survey_10 : decode cX0_survey 10 = .ok (.iconst 0, 1) := by decide +kernel
theorem dX0_survey_11 : decode cX0_survey 11 = .ok (.istore 4, 2) := by decide +kernel
theorem dX0_survey_13 : decode cX0_survey 13 = .ok (.iconst 0, 1) := by decide +kernel
theorem dX0_survey_14 : decode cX0_survey 14 = .ok (.istore 5, 2) := by decide +kernel
theorem dX0_survey_16 : decode cX0_survey 16 = .ok (.iload 5, 2) := by decide +kernel
theorem dX0_survey_18 : decode cX0_survey 18 = .ok (.iload_n 3, 1) := by decide +kernel
theorem dX0_survey_19 : decode cX0_survey 19 = .ok (.if_icmp .ge 43, 3) := by decide +kernel
theorem dX0_survey_22 : decode cX0_survey 22 = .ok (.lload_n 1, 1) := by decide +kernel
theorem dX0_survey_23 : decode cX0_survey 23 = .ok (.iload 5, 2) := by decide +kernel
theorem dX0_survey_25 : decode cX0_survey 25 = .ok (.invokestatic 54, 3) := by decide +kernel
theorem dX0_survey_28 : decode cX0_survey 28 = .ok (.istore 6, 2) := by decide +kernel
theorem dX0_survey_30 : decode cX0_survey 30 = .ok (.aload_n 0, 1) := by decide +kernel
theorem dX0_survey_31 : decode cX0_survey 31 = .ok (.iload 6, 2) := by decide +kernel
theorem dX0_survey_33 : decode cX0_survey 33 = .ok (.invokevirtual 30, 3) := by decide +kernel
theorem dX0_survey_36 : decode cX0_survey 36 = .ok (.ifCond .eq 20, 3) := by decide +kernel
theorem dX0_survey_39 : decode cX0_survey 39 = .ok (.iload 4, 2) := by decide +kernel
theorem dX0_survey_41 : decode cX0_survey 41 = .ok (.aload_n 0, 1) := by decide +kernel
theorem dX0_survey_42 : decode cX0_survey 42 = .ok (.iconst 1, 1) := by decide +kernel
theorem dX0_survey_43 : decode cX0_survey 43 = .ok (.aload_n 0, 1) := by decide +kernel
theorem dX0_survey_44 : decode cX0_survey 44 = .ok (.getfield 13, 3) := by decide +kernel
theorem dX0_survey_47 : decode cX0_survey 47 = .ok (.iload 6, 2) := by decide +kernel
theorem dX0_survey_49 : decode cX0_survey 49 = .ok (.iaload, 1) := by decide +kernel
theorem dX0_survey_50 : decode cX0_survey 50 = .ok (.invokevirtual 37, 3) := by decide +kernel
theorem dX0_survey_53 : decode cX0_survey 53 = .ok (.iadd, 1) := by decide +kernel
theorem dX0_survey_54 : decode cX0_survey 54 = .ok (.istore 4, 2) := by decide +kernel
theorem dX0_survey_56 : decode cX0_survey 56 = .ok (.iinc 5 1, 3) := by decide +kernel
theorem dX0_survey_59 : decode cX0_survey 59 = .ok (.goto (-43), 3) := by decide +kernel
theorem dX0_survey_62 : decode cX0_survey 62 = .ok (.iload 4, 2) := by decide +kernel
theorem dX0_survey_64 : decode cX0_survey 64 = .ok (.ireturn, 1) := by decide +kernel
set_option maxRecDepth 20000 in
theorem ggX0_turn_X0_isTrack : GoodIn wsX0_turn wsX0_isTrack := goodIn_r _ [5] (by decide +kernel) (by decide +kernel)
set_option maxRecDepth 20000 in
theorem gX0_turn_X0_isTrack : GoodIn wsX0_turn (va_wsS RX0 19 yX0_isTrack wsX0_isTrack) := goodIn_app (goodIn_of _ (by decide +kernel)) ggX0_turn_X0_isTrack
set_option maxRecDepth 20000 in
theorem ggX0_turn_X0_hold : GoodIn wsX0_turn wsX0_hold := goodIn_r _ [9, 10, 11, 12, 13, 14, 15, 16, 17, 18, 19, 20, 4, 21, 22, 36, 37, 38, 39, 40, 41, 42, 43, 44] (by decide +kernel) (by decide +kernel)
set_option maxRecDepth 20000 in
theorem gX0_turn_X0_hold : GoodIn wsX0_turn (wsV RX0 30 RX0 yX0_hold wsX0_hold) := goodIn_app (goodIn_of _ (by decide +kernel)) ggX0_turn_X0_hold
set_option maxRecDepth 20000 in
theorem ggX0_turn_X0_place : GoodIn wsX0_turn wsX0_place := goodIn_r _ [25] (by decide +kernel) (by decide +kernel)
set_option maxRecDepth 20000 in
theorem gX0_turn_X0_place : GoodIn wsX0_turn (va_wsS RX0 61 yX0_place wsX0_place) := goodIn_app (goodIn_of _ (by decide +kernel)) ggX0_turn_X0_place
set_option maxRecDepth 20000 in
theorem ggX0_turn_X0_exchangePlaces : GoodIn wsX0_turn wsX0_exchangePlaces := goodIn_r _ [29, 30, 36, 37, 38, 39, 40, 41, 42, 43, 44] (by decide +kernel) (by decide +kernel)
set_option maxRecDepth 20000 in
theorem gX0_turn_X0_exchangePlaces : GoodIn wsX0_turn (wsV RX0 64 RX0 yX0_exchangePlaces wsX0_exchangePlaces) := goodIn_app (goodIn_of _ (by decide +kernel)) ggX0_turn_X0_exchangePlaces
set_option maxRecDepth 20000 in
theorem ggX0_turn_X0_letGo : GoodIn wsX0_turn wsX0_letGo := goodIn_r _ [34, 12, 35, 36, 37, 38, 39, 40, 41, 42, 43, 44] (by decide +kernel) (by decide +kernel)
set_option maxRecDepth 20000 in
theorem gX0_turn_X0_letGo : GoodIn wsX0_turn (wsV RX0 37 RX0 yX0_letGo wsX0_letGo) := goodIn_app (goodIn_of _ (by decide +kernel)) ggX0_turn_X0_letGo
theorem dX0_turn_0 : decode cX0_turn 0 = .ok (.iload_n 1, 1) := by decide +kernel
theorem dX0_turn_1 : decode cX0_turn 1 = .ok (.invokestatic 19, 3) := by decide +kernel
theorem dX0_turn_4 : decode cX0_turn 4 = .ok (.ifCond .ne 6, 3) := by decide +kernel
theorem dX0_turn_7 : decode cX0_turn 7 = .ok (.bipush (-2), 2) := by decide +kernel
theorem dX0_turn_9 : decode cX0_turn 9 = .ok (.ireturn, 1) := by decide +kernel
theorem dX0_turn_10 : decode cX0_turn 10 = .ok (.aload_n 0, 1) := by decide +kernel
theorem dX0_turn_11 : decode cX0_turn 11 = .ok (.iload_n 1, 1) := by decide +kernel
theorem dX0_turn_12 : decode cX0_turn 12 = .ok (.invokevirtual 30, 3) := by decide +kernel
theorem dX0_turn_15 : decode cX0_turn 15 = .ok (.ifCond .ne 6, 3) := by decide +kernel
theorem dX0_turn_18 : decode cX0_turn 18 = .ok (.bipush (-3), 2) := by decide +kernel
theorem dX0_turn_20 : decode cX0_turn 20 = .ok (.ireturn, 1) := by decide +kernel
theorem dX0_turn_21 : decode cX0_turn 21 = .ok (.aload_n 0, 1) := by decide +kernel
theorem dX0_turn_22 : decode cX0_turn 22 = .ok (.getfield 13, 3) := by decide +kernel
theorem dX0_turn_25 : decode cX0_turn 25 = .ok (.iload_n 1, 1) := by decide +kernel
theorem dX0_turn_26 : decode cX0_turn 26 = .ok (.iaload, 1) := by decide +kernel
theorem dX0_turn_27 : decode cX0_turn 27 = .ok (.istore_n 2, 1) := by decide +kernel
theorem dX0_turn_28 : decode cX0_turn 28 = .ok (.iconst 0, 1) := by decide +kernel
theorem dX0_turn_29 : decode cX0_turn 29 = .ok (.istore_n 3, 1) := by decide +kernel
theorem dX0_turn_30 : decode cX0_turn 30 = .ok (.iload_n 3, 1) := by decide +kernel
theorem dX0_turn_31 : decode cX0_turn 31 = .ok (.iload_n 2, 1) := by decide +kernel
theorem dX0_turn_32 : decode cX0_turn 32 = .ok (.iconst 2, 1) := by decide +kernel
theorem dX0_turn_33 : decode cX0_turn 33 = .ok (.idiv, 1) := by decide +kernel
theorem dX0_turn_34 : decode cX0_turn 34 = .ok (.if_icmp .ge 40, 3) := by decide +kernel
theorem dX0_turn_37 : decode cX0_turn 37 = .ok (.aload_n 0, 1) := by decide +kernel
theorem dX0_turn_38 : decode cX0_turn 38 = .ok (.iload_n 1, 1) := by decide +kernel
theorem dX0_turn_39 : decode cX0_turn 39 = .ok (.invokevirtual 30, 3) := by decide +kernel
theorem dX0_turn_42 : decode cX0_turn 42 = .ok (.pop, 1) := by decide +kernel
theorem dX0_turn_43 : decode cX0_turn 43 = .ok (.aload_n 0, 1) := by decide +kernel
theorem dX0_turn_44 : decode cX0_turn 44 = .ok (.iload_n 1, 1) := by decide +kernel
theorem dX0_turn_45 : decode cX0_turn 45 = .ok (.iload_n 3, 1) := by decide +kernel
theorem dX0_turn_46 : decode cX0_turn 46 = .ok (.invokestatic 61, 3) := by decide +kernel
theorem dX0_turn_49 : decode cX0_turn 49 = .ok (.iload_n 1, 1) := by decide +kernel
theorem dX0_turn_50 : decode cX0_turn 50 = .ok (.iload_n 2, 1) := by decide +kernel
theorem dX0_turn_51 : decode cX0_turn 51 = .ok (.iconst 1, 1) := by decide +kernel
theorem dX0_turn_52 : decode cX0_turn 52 = .ok (.isub, 1) := by decide +kernel
theorem dX0_turn_53 : decode cX0_turn 53 = .ok (.iload_n 3, 1) := by decide +kernel
theorem dX0_turn_54 : decode cX0_turn 54 = .ok (.isub, 1) := by decide +kernel
theorem dX0_turn_55 : decode cX0_turn 55 = .ok (.invokestatic 61, 3) := by decide +kernel
theorem dX0_turn_58 : decode cX0_turn 58 = .ok (.invokevirtual 64, 3) := by decide +kernel
theorem dX0_turn_61 : decode cX0_turn 61 = .ok (.aload_n 0, 1) := by decide +kernel
theorem dX0_turn_62 : decode cX0_turn 62 = .ok (.iconst 1, 1) := by decide +kernel
theorem dX0_turn_63 : decode cX0_turn 63 = .ok (.iconst 0, 1) := by decide +kernel
theorem dX0_turn_64 : decode cX0_turn 64 = .ok (.invokevirtual 37, 3) := by decide +kernel
theorem dX0_turn_67 : decode cX0_turn 67 = .ok (.pop, 1) := by decide +kernel
theorem dX0_turn_68 : decode cX0_turn 68 = .ok (.iinc 3 1, 3) := by decide +kernel
theorem dX0_turn_71 : decode cX0_turn 71 = .ok (.goto (-41), 3) := by decide +kernel
theorem dX0_turn_74 : decode cX0_turn 74 = .ok (.aload_n 0, 1) := by decide +kernel
theorem dX0_turn_75 : decode cX0_turn 75 = .ok (.iconst 1, 1) := by decide +kernel
theorem dX0_turn_76 : decode cX0_turn 76 = .ok (.iload_n 2, 1) := by decide +kernel
theorem dX0_turn_77 : decode cX0_turn 77 = .ok (.invokevirtual 37, 3) := by decide +kernel
theorem dX0_turn_80 : decode cX0_turn 80 = .ok (.ireturn, 1) := by decide +kernel
set_option maxRecDepth 20000 in
theorem ggX0_swap_X0_isTrack : GoodIn wsX0_swap wsX0_isTrack := goodIn_r _ [4] (by decide +kernel) (by decide +kernel)
set_option maxRecDepth 20000 in
theorem gX0_swap_X0_isTrack : GoodIn wsX0_swap (va_wsS RX0 19 yX0_isTrack wsX0_isTrack) := goodIn_app (goodIn_of _ (by decide +kernel)) ggX0_swap_X0_isTrack
set_option maxRecDepth 20000 in
theorem ggX0_swap_X0_hold : GoodIn wsX0_swap wsX0_hold := goodIn_r _ [8, 9, 10, 11, 12, 13, 14, 15, 16, 17, 18, 19, 3, 20, 21, 40, 41, 42, 43, 44, 45, 46, 47, 48] (by decide +kernel) (by decide +kernel)
set_option maxRecDepth 20000 in
theorem gX0_swap_X0_hold : GoodIn wsX0_swap (wsV RX0 30 RX0 yX0_hold wsX0_hold) := goodIn_app (goodIn_of _ (by decide +kernel)) ggX0_swap_X0_hold
set_option maxRecDepth 20000 in
theorem ggX0_swap_X0_letGo : GoodIn wsX0_swap wsX0_letGo := goodIn_r _ [25, 11, 26, 40, 41, 42, 43, 44, 45, 46, 47, 48] (by decide +kernel) (by decide +kernel)
set_option maxRecDepth 20000 in
theorem gX0_swap_X0_letGo : GoodIn wsX0_swap (wsV RX0 37 RX0 yX0_letGo wsX0_letGo) := goodIn_app (goodIn_of _ (by decide +kernel)) ggX0_swap_X0_letGo
set_option maxRecDepth 20000 in
theorem ggX0_swap_X0_exchangeRows : GoodIn wsX0_swap wsX0_exchangeRows := goodIn_r _ [30, 31, 21, 32, 33, 3, 34, 35, 36, 37, 38, 39, 40, 41, 42, 43, 44, 45, 46, 47, 48] (by decide +kernel) (by decide +kernel)
set_option maxRecDepth 20000 in
theorem gX0_swap_X0_exchangeRows : GoodIn wsX0_swap (wsV RX0 68 RX0 yX0_exchangeRows wsX0_exchangeRows) := goodIn_app (goodIn_of _ (by decide +kernel)) ggX0_swap_X0_exchangeRows
theorem dX0_swap_0 : decode cX0_swap 0 = .ok (.iload_n 1, 1) := by decide +kernel
theorem dX0_swap_1 : decode cX0_swap 1 = .ok (.invokestatic 19, 3) := by decide +kernel
theorem dX0_swap_4 : decode cX0_swap 4 = .ok (.ifCond .eq 10, 3) := by decide +kernel
theorem dX0_swap_7 : decode cX0_swap 7 = .ok (.iload_n 2, 1) := by decide +kernel
theorem dX0_swap_8 : decode cX0_swap 8 = .ok (.invokestatic 19, 3) := by decide +kernel
theorem dX0_swap_11 : decode cX0_swap 11 = .ok (.ifCond .ne 6, 3) := by decide +kernel
theorem dX0_swap_14 : decode cX0_swap 14 = .ok (.bipush (-2), 2) := by decide +kernel
theorem dX0_swap_16 : decode cX0_swap 16 = .ok (.ireturn, 1) := by decide +kernel
theorem dX0_swap_17 : decode cX0_swap 17 = .ok (.aload_n 0, 1) := by decide +kernel
theorem dX0_swap_18 : decode cX0_swap 18 = .ok (.iload_n 1, 1) := by decide +kernel
theorem dX0_swap_19 : decode cX0_swap 19 = .ok (.invokevirtual 30, 3) := by decide +kernel
theorem dX0_swap_22 : decode cX0_swap 22 = .ok (.ifCond .ne 6, 3) := by decide +kernel
theorem dX0_swap_25 : decode cX0_swap 25 = .ok (.bipush (-3), 2) := by decide +kernel
theorem dX0_swap_27 : decode cX0_swap 27 = .ok (.ireturn, 1) := by decide +kernel
theorem dX0_swap_28 : decode cX0_swap 28 = .ok (.aload_n 0, 1) := by decide +kernel
theorem dX0_swap_29 : decode cX0_swap 29 = .ok (.iload_n 2, 1) := by decide +kernel
theorem dX0_swap_30 : decode cX0_swap 30 = .ok (.invokevirtual 30, 3) := by decide +kernel
theorem dX0_swap_33 : decode cX0_swap 33 = .ok (.ifCond .ne 11, 3) := by decide +kernel
theorem dX0_swap_36 : decode cX0_swap 36 = .ok (.aload_n 0, 1) := by decide +kernel
theorem dX0_swap_37 : decode cX0_swap 37 = .ok (.iconst 1, 1) := by decide +kernel
theorem dX0_swap_38 : decode cX0_swap 38 = .ok (.bipush (-3), 2) := by decide +kernel
theorem dX0_swap_40 : decode cX0_swap 40 = .ok (.invokevirtual 37, 3) := by decide +kernel
theorem dX0_swap_43 : decode cX0_swap 43 = .ok (.ireturn, 1) := by decide +kernel
theorem dX0_swap_44 : decode cX0_swap 44 = .ok (.aload_n 0, 1) := by decide +kernel
theorem dX0_swap_45 : decode cX0_swap 45 = .ok (.iload_n 1, 1) := by decide +kernel
theorem dX0_swap_46 : decode cX0_swap 46 = .ok (.invokevirtual 30, 3) := by decide +kernel
theorem dX0_swap_49 : decode cX0_swap 49 = .ok (.pop, 1) := by decide +kernel
theorem dX0_swap_50 : decode cX0_swap 50 = .ok (.aload_n 0, 1) := by decide +kernel
theorem dX0_swap_51 : decode cX0_swap 51 = .ok (.iconst 3, 1) := by decide +kernel
theorem dX0_swap_52 : decode cX0_swap 52 = .ok (.aload_n 0, 1) := by decide +kernel
theorem dX0_swap_53 : decode cX0_swap 53 = .ok (.iload_n 1, 1) := by decide +kernel
theorem dX0_swap_54 : decode cX0_swap 54 = .ok (.iload_n 2, 1) := by decide +kernel
theorem dX0_swap_55 : decode cX0_swap 55 = .ok (.invokevirtual 68, 3) := by decide +kernel
theorem dX0_swap_58 : decode cX0_swap 58 = .ok (.invokevirtual 37, 3) := by decide +kernel
theorem dX0_swap_61 : decode cX0_swap 61 = .ok (.ireturn, 1) := by decide +kernel
set_option maxRecDepth 20000 in
theorem ggX0_wagon_X0_isTrack : GoodIn wsX0_wagon wsX0_isTrack := goodIn_r _ [6] (by decide +kernel) (by decide +kernel)
set_option maxRecDepth 20000 in
theorem gX0_wagon_X0_isTrack : GoodIn wsX0_wagon (va_wsS RX0 19 yX0_isTrack wsX0_isTrack) := goodIn_app (goodIn_of _ (by decide +kernel)) ggX0_wagon_X0_isTrack
set_option maxRecDepth 20000 in
theorem ggX0_wagon_X0_place : GoodIn wsX0_wagon wsX0_place := goodIn_r _ [9] (by decide +kernel) (by decide +kernel)
set_option maxRecDepth 20000 in
theorem gX0_wagon_X0_place : GoodIn wsX0_wagon (va_wsS RX0 61 yX0_place wsX0_place) := goodIn_app (goodIn_of _ (by decide +kernel)) ggX0_wagon_X0_place
theorem dX0_wagon_0 : decode cX0_wagon 0 = .ok (.iload_n 1, 1) := by decide +kernel
theorem dX0_wagon_1 : decode cX0_wagon 1 = .ok (.invokestatic 19, 3) := by decide +kernel
theorem dX0_wagon_4 : decode cX0_wagon 4 = .ok (.ifCond .ne 6, 3) := by decide +kernel
theorem dX0_wagon_7 : decode cX0_wagon 7 = .ok (.bipush (-2), 2) := by decide +kernel
theorem dX0_wagon_9 : decode cX0_wagon 9 = .ok (.ireturn, 1) := by decide +kernel
theorem dX0_wagon_10 : decode cX0_wagon 10 = .ok (.iload_n 2, 1) := by decide +kernel
theorem dX0_wagon_11 : decode cX0_wagon 11 = .ok (.ifCond .lt 13, 3) := by decide +kernel
theorem dX0_wagon_14 : decode cX0_wagon 14 = .ok (.iload_n 2, 1) := by decide +kernel
theorem dX0_wagon_15 : decode cX0_wagon 15 = .ok (.aload_n 0, 1) := by decide +kernel
theorem dX0_wagon_16 : decode cX0_wagon 16 = .ok (.getfield 13, 3) := by decide +kernel
theorem dX0_wagon_19 : decode cX0_wagon 19 = .ok (.iload_n 1, 1) := by decide +kernel
theorem dX0_wagon_20 : decode cX0_wagon 20 = .ok (.iaload, 1) := by decide +kernel
theorem dX0_wagon_21 : decode cX0_wagon 21 = .ok (.if_icmp .lt 5, 3) := by decide +kernel
theorem dX0_wagon_24 : decode cX0_wagon 24 = .ok (.iconst 0, 1) := by decide +kernel
theorem dX0_wagon_25 : decode cX0_wagon 25 = .ok (.ireturn, 1) := by decide +kernel
theorem dX0_wagon_26 : decode cX0_wagon 26 = .ok (.aload_n 0, 1) := by decide +kernel
theorem dX0_wagon_27 : decode cX0_wagon 27 = .ok (.getfield 16, 3) := by decide +kernel
theorem dX0_wagon_30 : decode cX0_wagon 30 = .ok (.iload_n 1, 1) := by decide +kernel
theorem dX0_wagon_31 : decode cX0_wagon 31 = .ok (.iload_n 2, 1) := by decide +kernel
theorem dX0_wagon_32 : decode cX0_wagon 32 = .ok (.invokestatic 61, 3) := by decide +kernel
theorem dX0_wagon_35 : decode cX0_wagon 35 = .ok (.iaload, 1) := by decide +kernel
theorem dX0_wagon_36 : decode cX0_wagon 36 = .ok (.ireturn, 1) := by decide +kernel
set_option maxRecDepth 20000 in
theorem ggX0_told_X0_tracksThere : GoodIn wsX0_told wsX0_tracksThere := goodIn_r _ [11, 12, 13, 14, 10, 15, 16, 17, 18, 19, 20, 21, 22, 23, 24, 25] (by decide +kernel) (by decide +kernel)
set_option maxRecDepth 20000 in
theorem gX0_told_X0_tracksThere : GoodIn wsX0_told (wsV RX0 86 RX0 yX0_tracksThere wsX0_tracksThere) := goodIn_app (goodIn_of _ (by decide +kernel)) ggX0_told_X0_tracksThere
theorem dX0_told_0 : decode cX0_told 0 = .ok (.iload_n 1, 1) := by decide +kernel
theorem dX0_told_1 : decode cX0_told 1 = .ok (.tableswitch 78 0 6 #[43, 48, 53, 58, 63, 68, 73], 43) := by decide +kernel
theorem dX0_told_44 : decode cX0_told 44 = .ok (.aload_n 0, 1) := by decide +kernel
theorem dX0_told_45 : decode cX0_told 45 = .ok (.getfield 71, 3) := by decide +kernel
theorem dX0_told_48 : decode cX0_told 48 = .ok (.ireturn, 1) := by decide +kernel
theorem dX0_told_49 : decode cX0_told 49 = .ok (.aload_n 0, 1) := by decide +kernel
theorem dX0_told_50 : decode cX0_told 50 = .ok (.getfield 74, 3) := by decide +kernel
theorem dX0_told_53 : decode cX0_told 53 = .ok (.ireturn, 1) := by decide +kernel
theorem dX0_told_54 : decode cX0_told 54 = .ok (.aload_n 0, 1) := by decide +kernel
theorem dX0_told_55 : decode cX0_told 55 = .ok (.getfield 77, 3) := by decide +kernel
theorem dX0_told_58 : decode cX0_told 58 = .ok (.ireturn, 1) := by decide +kernel
theorem dX0_told_59 : decode cX0_told 59 = .ok (.aload_n 0, 1) := by decide +kernel
theorem dX0_told_60 : decode cX0_told 60 = .ok (.getfield 80, 3) := by decide +kernel
theorem dX0_told_63 : decode cX0_told 63 = .ok (.ireturn, 1) := by decide +kernel
theorem dX0_told_64 : decode cX0_told 64 = .ok (.aload_n 0, 1) := by decide +kernel
theorem dX0_told_65 : decode cX0_told 65 = .ok (.getfield 83, 3) := by decide +kernel
theorem dX0_told_68 : decode cX0_told 68 = .ok (.ireturn, 1) := by decide +kernel
theorem dX0_told_69 : decode cX0_told 69 = .ok (.aload_n 0, 1) := by decide +kernel
theorem dX0_told_70 : decode cX0_told 70 = .ok (.getfield 40, 3) := by decide +kernel
theorem dX0_told_73 : decode cX0_told 73 = .ok (.ireturn, 1) := by decide +kernel
theorem dX0_told_74 : decode cX0_told 74 = .ok (.aload_n 0, 1) := by decide +kernel
theorem dX0_told_75 : decode cX0_told 75 = .ok (.invokevirtual 86, 3) := by decide +kernel
theorem dX0_told_78 : decode cX0_told 78 = .ok (.ireturn, 1) := by decide +kernel
theorem dX0_told_79 : decode cX0_told 79 = .ok (.bipush (-2), 2) := by decide +kernel
theorem dX0_told_81 : decode cX0_told 81 = .ok (.ireturn, 1) := by decide +kernel
theorem dX0_isTrack_0 : decode cX0_isTrack 0 = .ok (.iload_n 0, 1) := by decide +kernel
theorem dX0_isTrack_1 : decode cX0_isTrack 1 = .ok (.ifCond .lt 13, 3) := by decide +kernel
theorem dX0_isTrack_4 : decode cX0_isTrack 4 = .ok (.iload_n 0, 1) := by decide +kernel
theorem dX0_isTrack_5 : decode cX0_isTrack 5 = .ok (.bipush 8, 2) := by decide +kernel
theorem dX0_isTrack_7 : decode cX0_isTrack 7 = .ok (.if_icmp .ge 7, 3) := by decide +kernel
theorem dX0_isTrack_10 : decode cX0_isTrack 10 = .ok (.iconst 1, 1) := by decide +kernel
theorem dX0_isTrack_11 : decode cX0_isTrack 11 = .ok (.goto 4, 3) := by decide +kernel
theorem dX0_isTrack_14 : decode cX0_isTrack 14 = .ok (.iconst 0, 1) := by decide +kernel
theorem dX0_isTrack_15 : decode cX0_isTrack 15 = .ok (.ireturn, 1) := by decide +kernel
theorem dX0_isRowLength_0 : decode cX0_isRowLength 0 = .ok (.iload_n 0, 1) := by decide +kernel
theorem dX0_isRowLength_1 : decode cX0_isRowLength 1 = .ok (.iconst 1, 1) := by decide +kernel
theorem dX0_isRowLength_2 : decode cX0_isRowLength 2 = .ok (.if_icmp .lt 13, 3) := by decide +kernel
theorem dX0_isRowLength_5 : decode cX0_isRowLength 5 = .ok (.iload_n 0, 1) := by decide +kernel
theorem dX0_isRowLength_6 : decode cX0_isRowLength 6 = .ok (.bipush 16, 2) := by decide +kernel
theorem dX0_isRowLength_8 : decode cX0_isRowLength 8 = .ok (.if_icmp .gt 7, 3) := by decide +kernel
theorem dX0_isRowLength_11 : decode cX0_isRowLength 11 = .ok (.iconst 1, 1) := by decide +kernel
theorem dX0_isRowLength_12 : decode cX0_isRowLength 12 = .ok (.goto 4, 3) := by decide +kernel
theorem dX0_isRowLength_15 : decode cX0_isRowLength 15 = .ok (.iconst 0, 1) := by decide +kernel
theorem dX0_isRowLength_16 : decode cX0_isRowLength 16 = .ok (.ireturn, 1) := by decide +kernel
theorem dX0_trackOfRow_0 : decode cX0_trackOfRow 0 = .ok (.lload_n 0, 1) := by decide +kernel
theorem dX0_trackOfRow_1 : decode cX0_trackOfRow 1 = .ok (.iconst 3, 1) := by decide +kernel
theorem dX0_trackOfRow_2 : decode cX0_trackOfRow 2 = .ok (.iload_n 2, 1) := by decide +kernel
theorem dX0_trackOfRow_3 : decode cX0_trackOfRow 3 = .ok (.imul, 1) := by decide +kernel
theorem dX0_trackOfRow_4 : decode cX0_trackOfRow 4 = .ok (.lushr, 1) := by decide +kernel
theorem dX0_trackOfRow_5 : decode cX0_trackOfRow 5 = .ok (.l2i, 1) := by decide +kernel
theorem dX0_trackOfRow_6 : decode cX0_trackOfRow 6 = .ok (.bipush 7, 2) := by decide +kernel
theorem dX0_trackOfRow_8 : decode cX0_trackOfRow 8 = .ok (.iand, 1) := by decide +kernel
theorem dX0_trackOfRow_9 : decode cX0_trackOfRow 9 = .ok (.ireturn, 1) := by decide +kernel
theorem dX0_place_0 : decode cX0_place 0 = .ok (.iload_n 0, 1) := by decide +kernel
theorem dX0_place_1 : decode cX0_place 1 = .ok (.bipush 12, 2) := by decide +kernel
theorem dX0_place_3 : decode cX0_place 3 = .ok (.imul, 1) := by decide +kernel
theorem dX0_place_4 : decode cX0_place 4 = .ok (.iload_n 1, 1) := by decide +kernel
theorem dX0_place_5 : decode cX0_place 5 = .ok (.iadd, 1) := by decide +kernel
theorem dX0_place_6 : decode cX0_place 6 = .ok (.ireturn, 1) := by decide +kernel
theorem dX0_isThere_0 : decode cX0_isThere 0 = .ok (.aload_n 0, 1) := by decide +kernel
theorem dX0_isThere_1 : decode cX0_isThere 1 = .ok (.getfield 9, 3) := by decide +kernel
theorem dX0_isThere_4 : decode cX0_isThere 4 = .ok (.iload_n 1, 1) := by decide +kernel
theorem dX0_isThere_5 : decode cX0_isThere 5 = .ok (.iaload, 1) := by decide +kernel
theorem dX0_isThere_6 : decode cX0_isThere 6 = .ok (.ifCond .le 7, 3) := by decide +kernel
theorem dX0_isThere_9 : decode cX0_isThere 9 = .ok (.iconst 1, 1) := by decide +kernel
theorem dX0_isThere_10 : decode cX0_isThere 10 = .ok (.goto 4, 3) := by decide +kernel
theorem dX0_isThere_13 : decode cX0_isThere 13 = .ok (.iconst 0, 1) := by decide +kernel
theorem dX0_isThere_14 : decode cX0_isThere 14 = .ok (.ireturn, 1) := by decide +kernel
set_option maxRecDepth 20000 in
theorem ggX0_tracksThere_X0_isThere : GoodIn wsX0_tracksThere wsX0_isThere := goodIn_r _ [5, 6, 7, 8, 9, 10, 11, 12, 13, 14, 15] (by decide +kernel) (by decide +kernel)
set_option maxRecDepth 20000 in
theorem gX0_tracksThere_X0_isThere : GoodIn wsX0_tracksThere (wsV RX0 23 RX0 yX0_isThere wsX0_isThere) := goodIn_app (goodIn_of _ (by decide +kernel)) ggX0_tracksThere_X0_isThere
theorem dX0_tracksThere_0 : decode cX0_tracksThere 0 = .ok (.iconst 0, 1) := by decide +kernel
theorem dX0_tracksThere_1 : decode cX0_tracksThere 1 = .ok (.istore_n 1, 1) := by decide +kernel
theorem dX0_tracksThere_2 : decode cX0_tracksThere 2 = .ok (.iconst 0, 1) := by decide +kernel
theorem dX0_tracksThere_3 : decode cX0_tracksThere 3 = .ok (.istore_n 2, 1) := by decide +kernel
theorem dX0_tracksThere_4 : decode cX0_tracksThere 4 = .ok (.iload_n 2, 1) := by decide +kernel
theorem dX0_tracksThere_5 : decode cX0_tracksThere 5 = .ok (.bipush 8, 2) := by decide +kernel
theorem dX0_tracksThere_7 : decode cX0_tracksThere 7 = .ok (.if_icmp .ge 20, 3) := by decide +kernel
theorem dX0_tracksThere_10 : decode cX0_tracksThere 10 = .ok (.aload_n 0, 1) := by decide +kernel
theorem dX0_tracksThere_11 : decode cX0_tracksThere 11 = .ok (.iload_n 2, 1) := by decide +kernel
theorem dX0_tracksThere_12 : decode cX0_tracksThere 12 = .ok (.invokevirtual 23, 3) := by decide +kernel
theorem dX0_tracksThere_15 : decode cX0_tracksThere 15 = .ok (.ifCond .eq 6, 3) := by decide +kernel
theorem dX0_tracksThere_18 : decode cX0_tracksThere 18 = .ok (.iinc 1 1, 3) := by decide +kernel
theorem dX0_tracksThere_21 : decode cX0_tracksThere 21 = .ok (.iinc 2 1, 3) := by decide +kernel
theorem dX0_tracksThere_24 : decode cX0_tracksThere 24 = .ok (.goto (-20), 3) := by decide +kernel
theorem dX0_tracksThere_27 : decode cX0_tracksThere 27 = .ok (.iload_n 1, 1) := by decide +kernel
theorem dX0_tracksThere_28 : decode cX0_tracksThere 28 = .ok (.ireturn, 1) := by decide +kernel
set_option maxRecDepth 20000 in
theorem ggX0_hold_X0_isThere : GoodIn wsX0_hold wsX0_isThere := goodIn_r _ [13, 14, 15, 16, 17, 18, 19, 20, 21, 22, 23] (by decide +kernel) (by decide +kernel)
set_option maxRecDepth 20000 in
theorem gX0_hold_X0_isThere : GoodIn wsX0_hold (wsV RX0 23 RX0 yX0_isThere wsX0_isThere) := goodIn_app (goodIn_of _ (by decide +kernel)) ggX0_hold_X0_isThere
theorem dX0_hold_0 : decode cX0_hold 0 = .ok (.aload_n 0, 1) := by decide +kernel
theorem dX0_hold_1 : decode cX0_hold 1 = .ok (.dup, 1) := by decide +kernel
theorem dX0_hold_2 : decode cX0_hold 2 = .ok (.getfield 71, 3) := by decide +kernel
theorem dX0_hold_5 : decode cX0_hold 5 = .ok (.iconst 1, 1) := by decide +kernel
theorem dX0_hold_6 : decode cX0_hold 6 = .ok (.iadd, 1) := by decide +kernel
theorem dX0_hold_7 : decode cX0_hold 7 = .ok (.putfield 71, 3) := by decide +kernel
theorem dX0_hold_10 : decode cX0_hold 10 = .ok (.aload_n 0, 1) := by decide +kernel
theorem dX0_hold_11 : decode cX0_hold 11 = .ok (.iload_n 1, 1) := by decide +kernel
theorem dX0_hold_12 : decode cX0_hold 12 = .ok (.invokevirtual 23, 3) := by decide +kernel
theorem dX0_hold_15 : decode cX0_hold 15 = .ok (.ifCond .ne 5, 3) := by decide +kernel
theorem dX0_hold_18 : decode cX0_hold 18 = .ok (.iconst 0, 1) := by decide +kernel
theorem dX0_hold_19 : decode cX0_hold 19 = .ok (.ireturn, 1) := by decide +kernel
theorem dX0_hold_20 : decode cX0_hold 20 = .ok (.aload_n 0, 1) := by decide +kernel
theorem dX0_hold_21 : decode cX0_hold 21 = .ok (.dup, 1) := by decide +kernel
theorem dX0_hold_22 : decode cX0_hold 22 = .ok (.getfield 74, 3) := by decide +kernel
theorem dX0_hold_25 : decode cX0_hold 25 = .ok (.iconst 1, 1) := by decide +kernel
theorem dX0_hold_26 : decode cX0_hold 26 = .ok (.iadd, 1) := by decide +kernel
theorem dX0_hold_27 : decode cX0_hold 27 = .ok (.putfield 74, 3) := by decide +kernel
theorem dX0_hold_30 : decode cX0_hold 30 = .ok (.aload_n 0, 1) := by decide +kernel
theorem dX0_hold_31 : decode cX0_hold 31 = .ok (.dup, 1) := by decide +kernel
theorem dX0_hold_32 : decode cX0_hold 32 = .ok (.getfield 80, 3) := by decide +kernel
theorem dX0_hold_35 : decode cX0_hold 35 = .ok (.iconst 1, 1) := by decide +kernel
theorem dX0_hold_36 : decode cX0_hold 36 = .ok (.iadd, 1) := by decide +kernel
theorem dX0_hold_37 : decode cX0_hold 37 = .ok (.putfield 80, 3) := by decide +kernel
theorem dX0_hold_40 : decode cX0_hold 40 = .ok (.aload_n 0, 1) := by decide +kernel
theorem dX0_hold_41 : decode cX0_hold 41 = .ok (.aload_n 0, 1) := by decide +kernel
theorem dX0_hold_42 : decode cX0_hold 42 = .ok (.getfield 83, 3) := by decide +kernel
theorem dX0_hold_45 : decode cX0_hold 45 = .ok (.aload_n 0, 1) := by decide +kernel
theorem dX0_hold_46 : decode cX0_hold 46 = .ok (.getfield 80, 3) := by decide +kernel
theorem dX0_hold_49 : decode cX0_hold 49 = .ok (.invokestatic 90, 3) := by decide +kernel
theorem dX0_hold_52 : decode cX0_hold 52 = .ok (.putfield 83, 3) := by decide +kernel
theorem dX0_hold_55 : decode cX0_hold 55 = .ok (.iconst 1, 1) := by decide +kernel
theorem dX0_hold_56 : decode cX0_hold 56 = .ok (.ireturn, 1) := by decide +kernel
theorem dX0_letGo_0 : decode cX0_letGo 0 = .ok (.aload_n 0, 1) := by decide +kernel
theorem dX0_letGo_1 : decode cX0_letGo 1 = .ok (.dup, 1) := by decide +kernel
theorem dX0_letGo_2 : decode cX0_letGo 2 = .ok (.getfield 80, 3) := by decide +kernel
theorem dX0_letGo_5 : decode cX0_letGo 5 = .ok (.iload_n 1, 1) := by decide +kernel
theorem dX0_letGo_6 : decode cX0_letGo 6 = .ok (.isub, 1) := by decide +kernel
theorem dX0_letGo_7 : decode cX0_letGo 7 = .ok (.putfield 80, 3) := by decide +kernel
theorem dX0_letGo_10 : decode cX0_letGo 10 = .ok (.iload_n 2, 1) := by decide +kernel
theorem dX0_letGo_11 : decode cX0_letGo 11 = .ok (.ifCond .ge 13, 3) := by decide +kernel
theorem dX0_letGo_14 : decode cX0_letGo 14 = .ok (.aload_n 0, 1) := by decide +kernel
theorem dX0_letGo_15 : decode cX0_letGo 15 = .ok (.dup, 1) := by decide +kernel
theorem dX0_letGo_16 : decode cX0_letGo 16 = .ok (.getfield 77, 3) := by decide +kernel
theorem dX0_letGo_19 : decode cX0_letGo 19 = .ok (.iload_n 1, 1) := by decide +kernel
theorem dX0_letGo_20 : decode cX0_letGo 20 = .ok (.iadd, 1) := by decide +kernel
theorem dX0_letGo_21 : decode cX0_letGo 21 = .ok (.putfield 77, 3) := by decide +kernel
theorem dX0_letGo_24 : decode cX0_letGo 24 = .ok (.iload_n 2, 1) := by decide +kernel
theorem dX0_letGo_25 : decode cX0_letGo 25 = .ok (.ireturn, 1) := by decide +kernel
set_option maxRecDepth 20000 in
theorem ggX0_holdAndCome_X0_hold : GoodIn wsX0_holdAndCome wsX0_hold := goodIn_r _ [5, 6, 7, 8, 9, 10, 11, 12, 13, 14, 15, 16, 4, 17, 18, 33, 34, 35, 36, 37, 38, 39, 40, 41] (by decide +kernel) (by decide +kernel)
set_option maxRecDepth 20000 in
theorem gX0_holdAndCome_X0_hold : GoodIn wsX0_holdAndCome (wsV RX0 30 RX0 yX0_hold wsX0_hold) := goodIn_app (goodIn_of _ (by decide +kernel)) ggX0_holdAndCome_X0_hold
set_option maxRecDepth 20000 in
theorem ggX0_holdAndCome_X0_come : GoodIn wsX0_holdAndCome wsX0_come := goodIn_r _ [22, 23, 18, 24, 25, 26, 4, 27, 33, 34, 35, 36, 37, 38, 39, 40, 41] (by decide +kernel) (by decide +kernel)
set_option maxRecDepth 20000 in
theorem gX0_holdAndCome_X0_come : GoodIn wsX0_holdAndCome (wsV RX0 95 RX0 yX0_come wsX0_come) := goodIn_app (goodIn_of _ (by decide +kernel)) ggX0_holdAndCome_X0_come
set_option maxRecDepth 20000 in
theorem ggX0_holdAndCome_X0_letGo : GoodIn wsX0_holdAndCome wsX0_letGo := goodIn_r _ [31, 8, 32, 33, 34, 35, 36, 37, 38, 39, 40, 41] (by decide +kernel) (by decide +kernel)
set_option maxRecDepth 20000 in
theorem gX0_holdAndCome_X0_letGo : GoodIn wsX0_holdAndCome (wsV RX0 37 RX0 yX0_letGo wsX0_letGo) := goodIn_app (goodIn_of _ (by decide +kernel)) ggX0_holdAndCome_X0_letGo
theorem dX0_holdAndCome_0 : decode cX0_holdAndCome 0 = .ok (.aload_n 0, 1) := by decide +kernel
theorem dX0_holdAndCome_1 : decode cX0_holdAndCome 1 = .ok (.iload_n 1, 1) := by decide +kernel
theorem dX0_holdAndCome_2 : decode cX0_holdAndCome 2 = .ok (.invokevirtual 30, 3) := by decide +kernel
theorem dX0_holdAndCome_5 : decode cX0_holdAndCome 5 = .ok (.ifCond .ne 6, 3) := by decide +kernel
theorem dX0_holdAndCome_8 : decode cX0_holdAndCome 8 = .ok (.bipush (-3), 2) := by decide +kernel
theorem dX0_holdAndCome_10 : decode cX0_holdAndCome 10 = .ok (.ireturn, 1) := by decide +kernel
theorem dX0_holdAndCome_11 : decode cX0_holdAndCome 11 = .ok (.aload_n 0, 1) := by decide +kernel
theorem dX0_holdAndCome_12 : decode cX0_holdAndCome 12 = .ok (.iconst 1, 1) := by decide +kernel
theorem dX0_holdAndCome_13 : decode cX0_holdAndCome 13 = .ok (.aload_n 0, 1) := by decide +kernel
theorem dX0_holdAndCome_14 : decode cX0_holdAndCome 14 = .ok (.iload_n 1, 1) := by decide +kernel
theorem dX0_holdAndCome_15 : decode cX0_holdAndCome 15 = .ok (.iload_n 2, 1) := by decide +kernel
theorem dX0_holdAndCome_16 : decode cX0_holdAndCome 16 = .ok (.invokevirtual 95, 3) := by decide +kernel
theorem dX0_holdAndCome_19 : decode cX0_holdAndCome 19 = .ok (.invokevirtual 37, 3) := by decide +kernel
theorem dX0_holdAndCome_22 : decode cX0_holdAndCome 22 = .ok (.ireturn, 1) := by decide +kernel
set_option maxRecDepth 20000 in
theorem ggX0_come_X0_place : GoodIn wsX0_come wsX0_place := goodIn_r _ [7] (by decide +kernel) (by decide +kernel)
set_option maxRecDepth 20000 in
theorem gX0_come_X0_place : GoodIn wsX0_come (va_wsS RX0 61 yX0_place wsX0_place) := goodIn_app (goodIn_of _ (by decide +kernel)) ggX0_come_X0_place
theorem dX0_come_0 : decode cX0_come 0 = .ok (.aload_n 0, 1) := by decide +kernel
theorem dX0_come_1 : decode cX0_come 1 = .ok (.getfield 13, 3) := by decide +kernel
theorem dX0_come_4 : decode cX0_come 4 = .ok (.iload_n 1, 1) := by decide +kernel
theorem dX0_come_5 : decode cX0_come 5 = .ok (.iaload, 1) := by decide +kernel
theorem dX0_come_6 : decode cX0_come 6 = .ok (.istore_n 3, 1) := by decide +kernel
theorem dX0_come_7 : decode cX0_come 7 = .ok (.iload_n 3, 1) := by decide +kernel
theorem dX0_come_8 : decode cX0_come 8 = .ok (.aload_n 0, 1) := by decide +kernel
theorem dX0_come_9 : decode cX0_come 9 = .ok (.getfield 9, 3) := by decide +kernel
theorem dX0_come_12 : decode cX0_come 12 = .ok (.iload_n 1, 1) := by decide +kernel
theorem dX0_come_13 : decode cX0_come 13 = .ok (.iaload, 1) := by decide +kernel
theorem dX0_come_14 : decode cX0_come 14 = .ok (.if_icmp .lt 6, 3) := by decide +kernel
theorem dX0_come_17 : decode cX0_come 17 = .ok (.bipush (-4), 2) := by decide +kernel
theorem dX0_come_19 : decode cX0_come 19 = .ok (.ireturn, 1) := by decide +kernel
theorem dX0_come_20 : decode cX0_come 20 = .ok (.aload_n 0, 1) := by decide +kernel
theorem dX0_come_21 : decode cX0_come 21 = .ok (.getfield 16, 3) := by decide +kernel
theorem dX0_come_24 : decode cX0_come 24 = .ok (.iload_n 1, 1) := by decide +kernel
theorem dX0_come_25 : decode cX0_come 25 = .ok (.iload_n 3, 1) := by decide +kernel
theorem dX0_come_26 : decode cX0_come 26 = .ok (.invokestatic 61, 3) := by decide +kernel
theorem dX0_come_29 : decode cX0_come 29 = .ok (.iload_n 2, 1) := by decide +kernel
theorem dX0_come_30 : decode cX0_come 30 = .ok (.iastore, 1) := by decide +kernel
theorem dX0_come_31 : decode cX0_come 31 = .ok (.aload_n 0, 1) := by decide +kernel
theorem dX0_come_32 : decode cX0_come 32 = .ok (.getfield 13, 3) := by decide +kernel
theorem dX0_come_35 : decode cX0_come 35 = .ok (.iload_n 1, 1) := by decide +kernel
theorem dX0_come_36 : decode cX0_come 36 = .ok (.iload_n 3, 1) := by decide +kernel
theorem dX0_come_37 : decode cX0_come 37 = .ok (.iconst 1, 1) := by decide +kernel
theorem dX0_come_38 : decode cX0_come 38 = .ok (.iadd, 1) := by decide +kernel
theorem dX0_come_39 : decode cX0_come 39 = .ok (.iastore, 1) := by decide +kernel
theorem dX0_come_40 : decode cX0_come 40 = .ok (.iload_n 3, 1) := by decide +kernel
theorem dX0_come_41 : decode cX0_come 41 = .ok (.iconst 1, 1) := by decide +kernel
theorem dX0_come_42 : decode cX0_come 42 = .ok (.iadd, 1) := by decide +kernel
theorem dX0_come_43 : decode cX0_come 43 = .ok (.ireturn, 1) := by decide +kernel
set_option maxRecDepth 20000 in
theorem ggX0_go_X0_place : GoodIn wsX0_go wsX0_place := goodIn_r _ [6] (by decide +kernel) (by decide +kernel)
set_option maxRecDepth 20000 in
theorem gX0_go_X0_place : GoodIn wsX0_go (va_wsS RX0 61 yX0_place wsX0_place) := goodIn_app (goodIn_of _ (by decide +kernel)) ggX0_go_X0_place
theorem dX0_go_0 : decode cX0_go 0 = .ok (.aload_n 0, 1) := by decide +kernel
theorem dX0_go_1 : decode cX0_go 1 = .ok (.getfield 13, 3) := by decide +kernel
theorem dX0_go_4 : decode cX0_go 4 = .ok (.iload_n 1, 1) := by decide +kernel
theorem dX0_go_5 : decode cX0_go 5 = .ok (.iaload, 1) := by decide +kernel
theorem dX0_go_6 : decode cX0_go 6 = .ok (.istore_n 2, 1) := by decide +kernel
theorem dX0_go_7 : decode cX0_go 7 = .ok (.iload_n 2, 1) := by decide +kernel
theorem dX0_go_8 : decode cX0_go 8 = .ok (.ifCond .ne 6, 3) := by decide +kernel
theorem dX0_go_11 : decode cX0_go 11 = .ok (.bipush (-5), 2) := by decide +kernel
theorem dX0_go_13 : decode cX0_go 13 = .ok (.ireturn, 1) := by decide +kernel
theorem dX0_go_14 : decode cX0_go 14 = .ok (.aload_n 0, 1) := by decide +kernel
theorem dX0_go_15 : decode cX0_go 15 = .ok (.getfield 13, 3) := by decide +kernel
theorem dX0_go_18 : decode cX0_go 18 = .ok (.iload_n 1, 1) := by decide +kernel
theorem dX0_go_19 : decode cX0_go 19 = .ok (.iload_n 2, 1) := by decide +kernel
theorem dX0_go_20 : decode cX0_go 20 = .ok (.iconst 1, 1) := by decide +kernel
theorem dX0_go_21 : decode cX0_go 21 = .ok (.isub, 1) := by decide +kernel
theorem dX0_go_22 : decode cX0_go 22 = .ok (.iastore, 1) := by decide +kernel
theorem dX0_go_23 : decode cX0_go 23 = .ok (.aload_n 0, 1) := by decide +kernel
theorem dX0_go_24 : decode cX0_go 24 = .ok (.getfield 16, 3) := by decide +kernel
theorem dX0_go_27 : decode cX0_go 27 = .ok (.iload_n 1, 1) := by decide +kernel
theorem dX0_go_28 : decode cX0_go 28 = .ok (.iload_n 2, 1) := by decide +kernel
theorem dX0_go_29 : decode cX0_go 29 = .ok (.iconst 1, 1) := by decide +kernel
theorem dX0_go_30 : decode cX0_go 30 = .ok (.isub, 1) := by decide +kernel
theorem dX0_go_31 : decode cX0_go 31 = .ok (.invokestatic 61, 3) := by decide +kernel
theorem dX0_go_34 : decode cX0_go 34 = .ok (.iaload, 1) := by decide +kernel
theorem dX0_go_35 : decode cX0_go 35 = .ok (.ireturn, 1) := by decide +kernel
set_option maxRecDepth 20000 in
theorem ggX0_moveWagons_X0_go : GoodIn wsX0_moveWagons wsX0_go := goodIn_r _ [6, 7, 8, 9, 10, 5, 11, 17, 18, 19, 20, 21, 22, 23, 24, 25] (by decide +kernel) (by decide +kernel)
set_option maxRecDepth 20000 in
theorem gX0_moveWagons_X0_go : GoodIn wsX0_moveWagons (wsV RX0 33 RX0 yX0_go wsX0_go) := goodIn_app (goodIn_of _ (by decide +kernel)) ggX0_moveWagons_X0_go
set_option maxRecDepth 20000 in
theorem ggX0_moveWagons_X0_come : GoodIn wsX0_moveWagons wsX0_come := goodIn_r _ [15, 7, 16, 8, 9, 10, 5, 11, 17, 18, 19, 20, 21, 22, 23, 24, 25] (by decide +kernel) (by decide +kernel)
set_option maxRecDepth 20000 in
theorem gX0_moveWagons_X0_come : GoodIn wsX0_moveWagons (wsV RX0 95 RX0 yX0_come wsX0_come) := goodIn_app (goodIn_of _ (by decide +kernel)) ggX0_moveWagons_X0_come
theorem dX0_moveWagons_0 : decode cX0_moveWagons 0 = .ok (.iconst 0, 1) := by decide +kernel
theorem dX0_moveWagons_1 : decode cX0_moveWagons 1 = .ok (.istore 4, 2) := by decide +kernel
theorem dX0_moveWagons_3 : decode cX0_moveWagons 3 = .ok (.iload 4, 2) := by decide +kernel
theorem dX0_moveWagons_5 : decode cX0_moveWagons 5 = .ok (.iload_n 3, 1) := by decide +kernel
theorem dX0_moveWagons_6 : decode cX0_moveWagons 6 = .ok (.if_icmp .ge 59, 3) := by decide +kernel
theorem dX0_moveWagons_9 : decode cX0_moveWagons 9 = .ok (.aload_n 0, 1) := by decide +kernel
theorem dX0_moveWagons_10 : decode cX0_moveWagons 10 = .ok (.iload_n 1, 1) := by decide +kernel
theorem dX0_moveWagons_11 : decode cX0_moveWagons 11 = .ok (.invokevirtual 33, 3) := by decide +kernel
theorem dX0_moveWagons_14 : decode cX0_moveWagons 14 = .ok (.istore 5, 2) := by decide +kernel
theorem dX0_moveWagons_16 : decode cX0_moveWagons 16 = .ok (.iload 5, 2) := by decide +kernel
theorem dX0_moveWagons_18 : decode cX0_moveWagons 18 = .ok (.bipush (-5), 2) := by decide +kernel
theorem dX0_moveWagons_20 : decode cX0_moveWagons 20 = .ok (.if_icmp .ne 6, 3) := by decide +kernel
theorem dX0_moveWagons_23 : decode cX0_moveWagons 23 = .ok (.bipush (-5), 2) := by decide +kernel
theorem dX0_moveWagons_25 : decode cX0_moveWagons 25 = .ok (.ireturn, 1) := by decide +kernel
theorem dX0_moveWagons_26 : decode cX0_moveWagons 26 = .ok (.aload_n 0, 1) := by decide +kernel
theorem dX0_moveWagons_27 : decode cX0_moveWagons 27 = .ok (.iload_n 2, 1) := by decide +kernel
theorem dX0_moveWagons_28 : decode cX0_moveWagons 28 = .ok (.iload 5, 2) := by decide +kernel
theorem dX0_moveWagons_30 : decode cX0_moveWagons 30 = .ok (.invokevirtual 95, 3) := by decide +kernel
theorem dX0_moveWagons_33 : decode cX0_moveWagons 33 = .ok (.bipush (-4), 2) := by decide +kernel
theorem dX0_moveWagons_35 : decode cX0_moveWagons 35 = .ok (.if_icmp .ne 14, 3) := by decide +kernel
theorem dX0_moveWagons_38 : decode cX0_moveWagons 38 = .ok (.aload_n 0, 1) := by decide +kernel
theorem dX0_moveWagons_39 : decode cX0_moveWagons 39 = .ok (.iload_n 1, 1) := by decide +kernel
theorem dX0_moveWagons_40 : decode cX0_moveWagons 40 = .ok (.iload 5, 2) := by decide +kernel
theorem dX0_moveWagons_42 : decode cX0_moveWagons 42 = .ok (.invokevirtual 95, 3) := by decide +kernel
theorem dX0_moveWagons_45 : decode cX0_moveWagons 45 = .ok (.pop, 1) := by decide +kernel
theorem dX0_moveWagons_46 : decode cX0_moveWagons 46 = .ok (.bipush (-4), 2) := by decide +kernel
theorem dX0_moveWagons_48 : decode cX0_moveWagons 48 = .ok (.ireturn, 1) := by decide +kernel
theorem dX0_moveWagons_49 : decode cX0_moveWagons 49 = .ok (.aload_n 0, 1) := by decide +kernel
theorem dX0_moveWagons_50 : decode cX0_moveWagons 50 = .ok (.dup, 1) := by decide +kernel
theorem dX0_moveWagons_51 : decode cX0_moveWagons 51 = .ok (.getfield 40, 3) := by decide +kernel
theorem dX0_moveWagons_54 : decode cX0_moveWagons 54 = .ok (.iconst 1, 1) := by decide +kernel
theorem dX0_moveWagons_55 : decode cX0_moveWagons 55 = .ok (.iadd, 1) := by decide +kernel
theorem dX0_moveWagons_56 : decode cX0_moveWagons 56 = .ok (.putfield 40, 3) := by decide +kernel
theorem dX0_moveWagons_59 : decode cX0_moveWagons 59 = .ok (.iinc 4 1, 3) := by decide +kernel
theorem dX0_moveWagons_62 : decode cX0_moveWagons 62 = .ok (.goto (-59), 3) := by decide +kernel
theorem dX0_moveWagons_65 : decode cX0_moveWagons 65 = .ok (.iload_n 3, 1) := by decide +kernel
theorem dX0_moveWagons_66 : decode cX0_moveWagons 66 = .ok (.ireturn, 1) := by decide +kernel
set_option maxRecDepth 20000 in
theorem ggX0_sortWagons_X0_go : GoodIn wsX0_sortWagons wsX0_go := goodIn_r _ [7, 1, 8, 9, 10, 6, 11, 42, 43, 44, 45, 46, 47, 48, 49, 50] (by decide +kernel) (by decide +kernel)
set_option maxRecDepth 20000 in
theorem gX0_sortWagons_X0_go : GoodIn wsX0_sortWagons (wsV RX0 33 RX0 yX0_go wsX0_go) := goodIn_app (goodIn_of _ (by decide +kernel)) ggX0_sortWagons_X0_go
set_option maxRecDepth 20000 in
theorem ggX0_sortWagons_X0_holdAndCome : GoodIn wsX0_sortWagons wsX0_holdAndCome := goodIn_r _ [15, 16, 17, 18, 6, 19, 20, 21, 22, 23, 24, 25, 26, 27, 28, 29, 30, 31, 32, 33, 34, 35, 36, 1, 8, 9, 10, 11, 37, 38, 39, 40, 41, 42, 43, 44, 45, 46, 47, 48, 49, 50] (by decide +kernel) (by decide +kernel)
set_option maxRecDepth 20000 in
theorem gX0_sortWagons_X0_holdAndCome : GoodIn wsX0_sortWagons (wsV RX0 26 RX0 yX0_holdAndCome wsX0_holdAndCome) := goodIn_app (goodIn_of _ (by decide +kernel)) ggX0_sortWagons_X0_holdAndCome
set_option maxRecDepth 20000 in
theorem ggX0_sortWagons_X0_come : GoodIn wsX0_sortWagons wsX0_come := goodIn_r _ [36, 1, 32, 8, 9, 10, 6, 11, 42, 43, 44, 45, 46, 47, 48, 49, 50] (by decide +kernel) (by decide +kernel)
set_option maxRecDepth 20000 in
theorem gX0_sortWagons_X0_come : GoodIn wsX0_sortWagons (wsV RX0 95 RX0 yX0_come wsX0_come) := goodIn_app (goodIn_of _ (by decide +kernel)) ggX0_sortWagons_X0_come
theorem dX0_sortWagons_0 : decode cX0_sortWagons 0 = .ok (.aload_n 0, 1) := by decide +kernel
theorem dX0_sortWagons_1 : decode cX0_sortWagons 1 = .ok (.getfield 13, 3) := by decide +kernel
theorem dX0_sortWagons_4 : decode cX0_sortWagons 4 = .ok (.iload_n 1, 1) := by decide +kernel
theorem dX0_sortWagons_5 : decode cX0_sortWagons 5 = .ok (.iaload, 1) := by decide +kernel
theorem dX0_sortWagons_6 : decode cX0_sortWagons 6 = .ok (.istore 4, 2) := by decide +kernel
theorem dX0_sortWagons_8 : decode cX0_sortWagons 8 = .ok (.iload 4, 2) := by decide +kernel
theorem dX0_sortWagons_10 : decode cX0_sortWagons 10 = .ok (.ifCond .le 88, 3) := by decide +kernel
theorem dX0_sortWagons_13 : decode cX0_sortWagons 13 = .ok (.aload_n 0, 1) := by decide +kernel
theorem dX0_sortWagons_14 : decode cX0_sortWagons 14 = .ok (.iload_n 1, 1) := by decide +kernel
theorem dX0_sortWagons_15 : decode cX0_sortWagons 15 = .ok (.invokevirtual 33, 3) := by decide +kernel
theorem dX0_sortWagons_18 : decode cX0_sortWagons 18 = .ok (.istore 5, 2) := by decide +kernel
theorem dX0_sortWagons_20 : decode cX0_sortWagons 20 = .ok (.iload 5, 2) := by decide +kernel
theorem dX0_sortWagons_22 : decode cX0_sortWagons 22 = .ok (.bipush 10, 2) := by decide +kernel
theorem dX0_sortWagons_24 : decode cX0_sortWagons 24 = .ok (.irem, 1) := by decide +kernel
theorem dX0_sortWagons_25 : decode cX0_sortWagons 25 = .ok (.istore 6, 2) := by decide +kernel
theorem dX0_sortWagons_27 : decode cX0_sortWagons 27 = .ok (.iload 6, 2) := by decide +kernel
theorem dX0_sortWagons_29 : decode cX0_sortWagons 29 = .ok (.ifCond .ne 6, 3) := by decide +kernel
theorem dX0_sortWagons_32 : decode cX0_sortWagons 32 = .ok (.goto 66, 3) := by decide +kernel
theorem dX0_sortWagons_35 : decode cX0_sortWagons 35 = .ok (.iload 6, 2) := by decide +kernel
theorem dX0_sortWagons_37 : decode cX0_sortWagons 37 = .ok (.bipush 9, 2) := by decide +kernel
theorem dX0_sortWagons_39 : decode cX0_sortWagons 39 = .ok (.if_icmp .ne 6, 3) := by decide +kernel
theorem dX0_sortWagons_42 : decode cX0_sortWagons 42 = .ok (.goto 50, 3) := by decide +kernel
theorem dX0_sortWagons_45 : decode cX0_sortWagons 45 = .ok (.aload_n 0, 1) := by decide +kernel
theorem dX0_sortWagons_46 : decode cX0_sortWagons 46 = .ok (.iload 6, 2) := by decide +kernel
theorem dX0_sortWagons_48 : decode cX0_sortWagons 48 = .ok (.iconst 2, 1) := by decide +kernel
theorem dX0_sortWagons_49 : decode cX0_sortWagons 49 = .ok (.irem, 1) := by decide +kernel
theorem dX0_sortWagons_50 : decode cX0_sortWagons 50 = .ok (.iconst 1, 1) := by decide +kernel
theorem dX0_sortWagons_51 : decode cX0_sortWagons 51 = .ok (.if_icmp .ne 7, 3) := by decide +kernel
theorem dX0_sortWagons_54 : decode cX0_sortWagons 54 = .ok (.iload_n 2, 1) := by decide +kernel
theorem dX0_sortWagons_55 : decode cX0_sortWagons 55 = .ok (.goto 4, 3) := by decide +kernel
theorem dX0_sortWagons_58 : decode cX0_sortWagons 58 = .ok (.iload_n 3, 1) := by decide +kernel
theorem dX0_sortWagons_59 : decode cX0_sortWagons 59 = .ok (.iload 5, 2) := by decide +kernel
theorem dX0_sortWagons_61 : decode cX0_sortWagons 61 = .ok (.invokevirtual 26, 3) := by decide +kernel
theorem dX0_sortWagons_64 : decode cX0_sortWagons 64 = .ok (.istore 7, 2) := by decide +kernel
theorem dX0_sortWagons_66 : decode cX0_sortWagons 66 = .ok (.iload 7, 2) := by decide +kernel
theorem dX0_sortWagons_68 : decode cX0_sortWagons 68 = .ok (.ifCond .ge 14, 3) := by decide +kernel
theorem dX0_sortWagons_71 : decode cX0_sortWagons 71 = .ok (.aload_n 0, 1) := by decide +kernel
theorem dX0_sortWagons_72 : decode cX0_sortWagons 72 = .ok (.iload_n 1, 1) := by decide +kernel
theorem dX0_sortWagons_73 : decode cX0_sortWagons 73 = .ok (.iload 5, 2) := by decide +kernel
theorem dX0_sortWagons_75 : decode cX0_sortWagons 75 = .ok (.invokevirtual 95, 3) := by decide +kernel
theorem dX0_sortWagons_78 : decode cX0_sortWagons 78 = .ok (.pop, 1) := by decide +kernel
theorem dX0_sortWagons_79 : decode cX0_sortWagons 79 = .ok (.iload 7, 2) := by decide +kernel
theorem dX0_sortWagons_81 : decode cX0_sortWagons 81 = .ok (.ireturn, 1) := by decide +kernel
theorem dX0_sortWagons_82 : decode cX0_sortWagons 82 = .ok (.aload_n 0, 1) := by decide +kernel
theorem dX0_sortWagons_83 : decode cX0_sortWagons 83 = .ok (.dup, 1) := by decide +kernel
theorem dX0_sortWagons_84 : decode cX0_sortWagons 84 = .ok (.getfield 40, 3) := by decide +kernel
theorem dX0_sortWagons_87 : decode cX0_sortWagons 87 = .ok (.iconst 1, 1) := by decide +kernel
theorem dX0_sortWagons_88 : decode cX0_sortWagons 88 = .ok (.iadd, 1) := by decide +kernel
theorem dX0_sortWagons_89 : decode cX0_sortWagons 89 = .ok (.putfield 40, 3) := by decide +kernel
theorem dX0_sortWagons_92 : decode cX0_sortWagons 92 = .ok (.iinc 4 (-1), 3) := by decide +kernel
theorem dX0_sortWagons_95 : decode cX0_sortWagons 95 = .ok (.goto (-87), 3) := by decide +kernel
theorem dX0_sortWagons_98 : decode cX0_sortWagons 98 = .ok (.aload_n 0, 1) := by decide +kernel
theorem dX0_sortWagons_99 : decode cX0_sortWagons 99 = .ok (.getfield 40, 3) := by decide +kernel
theorem dX0_sortWagons_102 : decode cX0_sortWagons 102 = .ok (.ireturn, 1) := by decide +kernel
set_option maxRecDepth 20000 in
theorem ggX0_takeOnTour_X0_go : GoodIn wsX0_takeOnTour wsX0_go := goodIn_r _ [6, 7, 8, 9, 10, 5, 11, 17, 18, 19, 20, 21, 22, 23, 24, 25] (by decide +kernel) (by decide +kernel)
set_option maxRecDepth 20000 in
theorem gX0_takeOnTour_X0_go : GoodIn wsX0_takeOnTour (wsV RX0 33 RX0 yX0_go wsX0_go) := goodIn_app (goodIn_of _ (by decide +kernel)) ggX0_takeOnTour_X0_go
set_option maxRecDepth 20000 in
theorem ggX0_takeOnTour_X0_come : GoodIn wsX0_takeOnTour wsX0_come := goodIn_r _ [15, 7, 16, 8, 9, 10, 5, 11, 17, 18, 19, 20, 21, 22, 23, 24, 25] (by decide +kernel) (by decide +kernel)
set_option maxRecDepth 20000 in
theorem gX0_takeOnTour_X0_come : GoodIn wsX0_takeOnTour (wsV RX0 95 RX0 yX0_come wsX0_come) := goodIn_app (goodIn_of _ (by decide +kernel)) ggX0_takeOnTour_X0_come
theorem dX0_takeOnTour_0 : decode cX0_takeOnTour 0 = .ok (.aload_n 0, 1) := by decide +kernel
theorem dX0_takeOnTour_1 : decode cX0_takeOnTour 1 = .ok (.iload_n 1, 1) := by decide +kernel
theorem dX0_takeOnTour_2 : decode cX0_takeOnTour 2 = .ok (.invokevirtual 33, 3) := by decide +kernel
theorem dX0_takeOnTour_5 : decode cX0_takeOnTour 5 = .ok (.istore_n 2, 1) := by decide +kernel
theorem dX0_takeOnTour_6 : decode cX0_takeOnTour 6 = .ok (.iload_n 2, 1) := by decide +kernel
theorem dX0_takeOnTour_7 : decode cX0_takeOnTour 7 = .ok (.bipush 10, 2) := by decide +kernel
theorem dX0_takeOnTour_9 : decode cX0_takeOnTour 9 = .ok (.irem, 1) := by decide +kernel
theorem dX0_takeOnTour_10 : decode cX0_takeOnTour 10 = .ok (.bipush 9, 2) := by decide +kernel
theorem dX0_takeOnTour_12 : decode cX0_takeOnTour 12 = .ok (.if_icmp .ne 12, 3) := by decide +kernel
theorem dX0_takeOnTour_15 : decode cX0_takeOnTour 15 = .ok (.aload_n 0, 1) := by decide +kernel
theorem dX0_takeOnTour_16 : decode cX0_takeOnTour 16 = .ok (.iload_n 1, 1) := by decide +kernel
theorem dX0_takeOnTour_17 : decode cX0_takeOnTour 17 = .ok (.iload_n 2, 1) := by decide +kernel
theorem dX0_takeOnTour_18 : decode cX0_takeOnTour 18 = .ok (.invokevirtual 95, 3) := by decide +kernel
theorem dX0_takeOnTour_21 : decode cX0_takeOnTour 21 = .ok (.pop, 1) := by decide +kernel
theorem dX0_takeOnTour_22 : decode cX0_takeOnTour 22 = .ok (.iconst 0, 1) := by decide +kernel
theorem dX0_takeOnTour_23 : decode cX0_takeOnTour 23 = .ok (.ireturn, 1) := by decide +kernel
theorem dX0_takeOnTour_24 : decode cX0_takeOnTour 24 = .ok (.aload_n 0, 1) := by decide +kernel
theorem dX0_takeOnTour_25 : decode cX0_takeOnTour 25 = .ok (.dup, 1) := by decide +kernel
theorem dX0_takeOnTour_26 : decode cX0_takeOnTour 26 = .ok (.getfield 40, 3) := by decide +kernel
theorem dX0_takeOnTour_29 : decode cX0_takeOnTour 29 = .ok (.iconst 1, 1) := by decide +kernel
theorem dX0_takeOnTour_30 : decode cX0_takeOnTour 30 = .ok (.iadd, 1) := by decide +kernel
theorem dX0_takeOnTour_31 : decode cX0_takeOnTour 31 = .ok (.putfield 40, 3) := by decide +kernel
theorem dX0_takeOnTour_34 : decode cX0_takeOnTour 34 = .ok (.iload_n 2, 1) := by decide +kernel
theorem dX0_takeOnTour_35 : decode cX0_takeOnTour 35 = .ok (.ireturn, 1) := by decide +kernel
theorem dX0_exchangePlaces_0 : decode cX0_exchangePlaces 0 = .ok (.aload_n 0, 1) := by decide +kernel
theorem dX0_exchangePlaces_1 : decode cX0_exchangePlaces 1 = .ok (.getfield 16, 3) := by decide +kernel
theorem dX0_exchangePlaces_4 : decode cX0_exchangePlaces 4 = .ok (.iload_n 1, 1) := by decide +kernel
theorem dX0_exchangePlaces_5 : decode cX0_exchangePlaces 5 = .ok (.iaload, 1) := by decide +kernel
theorem dX0_exchangePlaces_6 : decode cX0_exchangePlaces 6 = .ok (.istore_n 3, 1) := by decide +kernel
theorem dX0_exchangePlaces_7 : decode cX0_exchangePlaces 7 = .ok (.aload_n 0, 1) := by decide +kernel
theorem dX0_exchangePlaces_8 : decode cX0_exchangePlaces 8 = .ok (.getfield 16, 3) := by decide +kernel
theorem dX0_exchangePlaces_11 : decode cX0_exchangePlaces 11 = .ok (.iload_n 1, 1) := by decide +kernel
theorem dX0_exchangePlaces_12 : decode cX0_exchangePlaces 12 = .ok (.aload_n 0, 1) := by decide +kernel
theorem dX0_exchangePlaces_13 : decode cX0_exchangePlaces 13 = .ok (.getfield 16, 3) := by decide +kernel
theorem dX0_exchangePlaces_16 : decode cX0_exchangePlaces 16 = .ok (.iload_n 2, 1) := by decide +kernel
theorem dX0_exchangePlaces_17 : decode cX0_exchangePlaces 17 = .ok (.iaload, 1) := by decide +kernel
theorem dX0_exchangePlaces_18 : decode cX0_exchangePlaces 18 = .ok (.iastore, 1) := by decide +kernel
theorem dX0_exchangePlaces_19 : decode cX0_exchangePlaces 19 = .ok (.aload_n 0, 1) := by decide +kernel
theorem dX0_exchangePlaces_20 : decode cX0_exchangePlaces 20 = .ok (.getfield 16, 3) := by decide +kernel
theorem dX0_exchangePlaces_23 : decode cX0_exchangePlaces 23 = .ok (.iload_n 2, 1) := by decide +kernel
theorem dX0_exchangePlaces_24 : decode cX0_exchangePlaces 24 = .ok (.iload_n 3, 1) := by decide +kernel
theorem dX0_exchangePlaces_25 : decode cX0_exchangePlaces 25 = .ok (.iastore, 1) := by decide +kernel
theorem dX0_exchangePlaces_26 : decode cX0_exchangePlaces 26 = .ok (.return_, 1) := by decide +kernel
set_option maxRecDepth 20000 in
theorem ggX0_exchangeRows_X0_place : GoodIn wsX0_exchangeRows wsX0_place := goodIn_r _ [6] (by decide +kernel) (by decide +kernel)
set_option maxRecDepth 20000 in
theorem gX0_exchangeRows_X0_place : GoodIn wsX0_exchangeRows (va_wsS RX0 61 yX0_place wsX0_place) := goodIn_app (goodIn_of _ (by decide +kernel)) ggX0_exchangeRows_X0_place
set_option maxRecDepth 20000 in
theorem ggX0_exchangeRows_X0_exchangePlaces : GoodIn wsX0_exchangeRows wsX0_exchangePlaces := goodIn_r _ [10, 11, 12, 13, 14, 15, 16, 17, 18, 19, 20] (by decide +kernel) (by decide +kernel)
set_option maxRecDepth 20000 in
theorem gX0_exchangeRows_X0_exchangePlaces : GoodIn wsX0_exchangeRows (wsV RX0 64 RX0 yX0_exchangePlaces wsX0_exchangePlaces) := goodIn_app (goodIn_of _ (by decide +kernel)) ggX0_exchangeRows_X0_exchangePlaces
theorem dX0_exchangeRows_0 : decode cX0_exchangeRows 0 = .ok (.aload_n 0, 1) := by decide +kernel
theorem dX0_exchangeRows_1 : decode cX0_exchangeRows 1 = .ok (.getfield 13, 3) := by decide +kernel
theorem dX0_exchangeRows_4 : decode cX0_exchangeRows 4 = .ok (.iload_n 1, 1) := by decide +kernel
theorem dX0_exchangeRows_5 : decode cX0_exchangeRows 5 = .ok (.iaload, 1) := by decide +kernel
theorem dX0_exchangeRows_6 : decode cX0_exchangeRows 6 = .ok (.istore_n 3, 1) := by decide +kernel
theorem dX0_exchangeRows_7 : decode cX0_exchangeRows 7 = .ok (.aload_n 0, 1) := by decide +kernel
theorem dX0_exchangeRows_8 : decode cX0_exchangeRows 8 = .ok (.getfield 13, 3) := by decide +kernel
theorem dX0_exchangeRows_11 : decode cX0_exchangeRows 11 = .ok (.iload_n 2, 1) := by decide +kernel
theorem dX0_exchangeRows_12 : decode cX0_exchangeRows 12 = .ok (.iaload, 1) := by decide +kernel
theorem dX0_exchangeRows_13 : decode cX0_exchangeRows 13 = .ok (.istore 4, 2) := by decide +kernel
theorem dX0_exchangeRows_15 : decode cX0_exchangeRows 15 = .ok (.iload_n 3, 1) := by decide +kernel
theorem dX0_exchangeRows_16 : decode cX0_exchangeRows 16 = .ok (.aload_n 0, 1) := by decide +kernel
theorem dX0_exchangeRows_17 : decode cX0_exchangeRows 17 = .ok (.getfield 9, 3) := by decide +kernel
theorem dX0_exchangeRows_20 : decode cX0_exchangeRows 20 = .ok (.iload_n 2, 1) := by decide +kernel
theorem dX0_exchangeRows_21 : decode cX0_exchangeRows 21 = .ok (.iaload, 1) := by decide +kernel
theorem dX0_exchangeRows_22 : decode cX0_exchangeRows 22 = .ok (.if_icmp .gt 14, 3) := by decide +kernel
theorem dX0_exchangeRows_25 : decode cX0_exchangeRows 25 = .ok (.iload 4, 2) := by decide +kernel
theorem dX0_exchangeRows_27 : decode cX0_exchangeRows 27 = .ok (.aload_n 0, 1) := by decide +kernel
theorem dX0_exchangeRows_28 : decode cX0_exchangeRows 28 = .ok (.getfield 9, 3) := by decide +kernel
theorem dX0_exchangeRows_31 : decode cX0_exchangeRows 31 = .ok (.iload_n 1, 1) := by decide +kernel
theorem dX0_exchangeRows_32 : decode cX0_exchangeRows 32 = .ok (.iaload, 1) := by decide +kernel
theorem dX0_exchangeRows_33 : decode cX0_exchangeRows 33 = .ok (.if_icmp .le 6, 3) := by decide +kernel
theorem dX0_exchangeRows_36 : decode cX0_exchangeRows 36 = .ok (.bipush (-4), 2) := by decide +kernel
theorem dX0_exchangeRows_38 : decode cX0_exchangeRows 38 = .ok (.ireturn, 1) := by decide +kernel
theorem dX0_exchangeRows_39 : decode cX0_exchangeRows 39 = .ok (.iconst 0, 1) := by decide +kernel
theorem dX0_exchangeRows_40 : decode cX0_exchangeRows 40 = .ok (.istore 5, 2) := by decide +kernel
theorem dX0_exchangeRows_42 : decode cX0_exchangeRows 42 = .ok (.iload 5, 2) := by decide +kernel
theorem dX0_exchangeRows_44 : decode cX0_exchangeRows 44 = .ok (.bipush 12, 2) := by decide +kernel
theorem dX0_exchangeRows_46 : decode cX0_exchangeRows 46 = .ok (.if_icmp .ge 25, 3) := by decide +kernel
theorem dX0_exchangeRows_49 : decode cX0_exchangeRows 49 = .ok (.aload_n 0, 1) := by decide +kernel
theorem dX0_exchangeRows_50 : decode cX0_exchangeRows 50 = .ok (.iload_n 1, 1) := by decide +kernel
theorem dX0_exchangeRows_51 : decode cX0_exchangeRows 51 = .ok (.iload 5, 2) := by decide +kernel
theorem dX0_exchangeRows_53 : decode cX0_exchangeRows 53 = .ok (.invokestatic 61, 3) := by decide +kernel
theorem dX0_exchangeRows_56 : decode cX0_exchangeRows 56 = .ok (.iload_n 2, 1) := by decide +kernel
theorem dX0_exchangeRows_57 : decode cX0_exchangeRows 57 = .ok (.iload 5, 2) := by decide +kernel
theorem dX0_exchangeRows_59 : decode cX0_exchangeRows 59 = .ok (.invokestatic 61, 3) := by decide +kernel
theorem dX0_exchangeRows_62 : decode cX0_exchangeRows 62 = .ok (.invokevirtual 64, 3) := by decide +kernel
theorem dX0_exchangeRows_65 : decode cX0_exchangeRows 65 = .ok (.iinc 5 1, 3) := by decide +kernel
theorem dX0_exchangeRows_68 : decode cX0_exchangeRows 68 = .ok (.goto (-26), 3) := by decide +kernel
theorem dX0_exchangeRows_71 : decode cX0_exchangeRows 71 = .ok (.aload_n 0, 1) := by decide +kernel
theorem dX0_exchangeRows_72 : decode cX0_exchangeRows 72 = .ok (.getfield 13, 3) := by decide +kernel
theorem dX0_exchangeRows_75 : decode cX0_exchangeRows 75 = .ok (.iload_n 1, 1) := by decide +kernel
theorem dX0_exchangeRows_76 : decode cX0_exchangeRows 76 = .ok (.iload 4, 2) := by decide +kernel
theorem dX0_exchangeRows_78 : decode cX0_exchangeRows 78 = .ok (.iastore, 1) := by decide +kernel
theorem dX0_exchangeRows_79 : decode cX0_exchangeRows 79 = .ok (.aload_n 0, 1) := by decide +kernel
theorem dX0_exchangeRows_80 : decode cX0_exchangeRows 80 = .ok (.getfield 13, 3) := by decide +kernel
theorem dX0_exchangeRows_83 : decode cX0_exchangeRows 83 = .ok (.iload_n 2, 1) := by decide +kernel
theorem dX0_exchangeRows_84 : decode cX0_exchangeRows 84 = .ok (.iload_n 3, 1) := by decide +kernel
theorem dX0_exchangeRows_85 : decode cX0_exchangeRows 85 = .ok (.iastore, 1) := by decide +kernel
theorem dX0_exchangeRows_86 : decode cX0_exchangeRows 86 = .ok (.iload 4, 2) := by decide +kernel
theorem dX0_exchangeRows_88 : decode cX0_exchangeRows 88 = .ok (.ireturn, 1) := by decide +kernel
end
section
theorem dX1_init_0 : decode cX1_init 0 = .ok (.aload_n 0, 1) := by decide +kernel
theorem dX1_init_1 : decode cX1_init 1 = .ok (.invokespecial 1, 3) := by decide +kernel
theorem dX1_init_4 : decode cX1_init 4 = .ok (.aload_n 0, 1) := by decide +kernel
theorem dX1_init_5 : decode cX1_init 5 = .ok (.bipush 8, 2) := by decide +kernel
theorem dX1_init_7 : decode cX1_init 7 = .ok (.newarray .int, 2) := by decide +kernel
theorem dX1_init_9 : decode cX1_init 9 = .ok (.putfield 9, 3) := by decide +kernel
theorem dX1_init_12 : decode cX1_init 12 = .ok (.aload_n 0, 1) := by decide +kernel
theorem dX1_init_13 : decode cX1_init 13 = .ok (.bipush 8, 2) := by decide +kernel
theorem dX1_init_15 : decode cX1_init 15 = .ok (.newarray .int, 2) := by decide +kernel
theorem dX1_init_17 : decode cX1_init 17 = .ok (.putfield 13, 3) := by decide +kernel
theorem dX1_init_20 : decode cX1_init 20 = .ok (.aload_n 0, 1) := by decide +kernel
theorem dX1_init_21 : decode cX1_init 21 = .ok (.bipush 96, 2) := by decide +kernel
theorem dX1_init_23 : decode cX1_init 23 = .ok (.newarray .int, 2) := by decide +kernel
theorem dX1_init_25 : decode cX1_init 25 = .ok (.putfield 16, 3) := by decide +kernel
theorem dX1_init_28 : decode cX1_init 28 = .ok (.return_, 1) := by decide +kernel
theorem dX1_in_0 : decode cX1_in 0 = .ok (.iload_n 0, 1) := by decide +kernel
theorem dX1_in_1 : decode cX1_in 1 = .ok (.iload_n 1, 1) := by decide +kernel
theorem dX1_in_2 : decode cX1_in 2 = .ok (.if_icmp .lt 12, 3) := by decide +kernel
theorem dX1_in_5 : decode cX1_in 5 = .ok (.iload_n 0, 1) := by decide +kernel
theorem dX1_in_6 : decode cX1_in 6 = .ok (.iload_n 2, 1) := by decide +kernel
theorem dX1_in_7 : decode cX1_in 7 = .ok (.if_icmp .gt 7, 3) := by decide +kernel
theorem dX1_in_10 : decode cX1_in 10 = .ok (.iconst 1, 1) := by decide +kernel
theorem dX1_in_11 : decode cX1_in 11 = .ok (.goto 4, 3) := by decide +kernel
theorem dX1_in_14 : decode cX1_in 14 = .ok (.iconst 0, 1) := by decide +kernel
theorem dX1_in_15 : decode cX1_in 15 = .ok (.ireturn, 1) := by decide +kernel
set_option maxRecDepth 20000 in
theorem ggX1_isTrack_X1_in : GoodIn wsX1_isTrack wsX1_in := goodIn_r _ [4] (by decide +kernel) (by decide +kernel)
set_option maxRecDepth 20000 in
theorem gX1_isTrack_X1_in : GoodIn wsX1_isTrack (va_wsS RX1 19 yX1_in wsX1_in) := goodIn_app (goodIn_of _ (by decide +kernel)) ggX1_isTrack_X1_in
theorem dX1_isTrack_0 : decode cX1_isTrack 0 = .ok (.iload_n 0, 1) := by decide +kernel
theorem dX1_isTrack_1 : decode cX1_isTrack 1 = .ok (.iconst 0, 1) := by decide +kernel
theorem dX1_isTrack_2 : decode cX1_isTrack 2 = .ok (.bipush 7, 2) := by decide +kernel
theorem dX1_isTrack_4 : decode cX1_isTrack 4 = .ok (.invokestatic 19, 3) := by decide +kernel
theorem dX1_isTrack_7 : decode cX1_isTrack 7 = .ok (.ireturn, 1) := by decide +kernel
theorem dX1_holds_0 : decode cX1_holds 0 = .ok (.aload_n 0, 1) := by decide +kernel
theorem dX1_holds_1 : decode cX1_holds 1 = .ok (.dup, 1) := by decide +kernel
theorem dX1_holds_2 : decode cX1_holds 2 = .ok (.getfield 23, 3) := by decide +kernel
theorem dX1_holds_5 : decode cX1_holds 5 = .ok (.iconst 1, 1) := by decide +kernel
theorem dX1_holds_6 : decode cX1_holds 6 = .ok (.iadd, 1) := by decide +kernel
theorem dX1_holds_7 : decode cX1_holds 7 = .ok (.putfield 23, 3) := by decide +kernel
theorem dX1_holds_10 : decode cX1_holds 10 = .ok (.aload_n 0, 1) := by decide +kernel
theorem dX1_holds_11 : decode cX1_holds 11 = .ok (.getfield 9, 3) := by decide +kernel
theorem dX1_holds_14 : decode cX1_holds 14 = .ok (.iload_n 1, 1) := by decide +kernel
theorem dX1_holds_15 : decode cX1_holds 15 = .ok (.iaload, 1) := by decide +kernel
theorem dX1_holds_16 : decode cX1_holds 16 = .ok (.ifCond .ne 5, 3) := by decide +kernel
theorem dX1_holds_19 : decode cX1_holds 19 = .ok (.iconst 0, 1) := by decide +kernel
theorem dX1_holds_20 : decode cX1_holds 20 = .ok (.ireturn, 1) := by decide +kernel
theorem dX1_holds_21 : decode cX1_holds 21 = .ok (.aload_n 0, 1) := by decide +kernel
theorem dX1_holds_22 : decode cX1_holds 22 = .ok (.dup, 1) := by decide +kernel
theorem dX1_holds_23 : decode cX1_holds 23 = .ok (.getfield 27, 3) := by decide +kernel
theorem dX1_holds_26 : decode cX1_holds 26 = .ok (.iconst 1, 1) := by decide +kernel
theorem dX1_holds_27 : decode cX1_holds 27 = .ok (.iadd, 1) := by decide +kernel
theorem dX1_holds_28 : decode cX1_holds 28 = .ok (.putfield 27, 3) := by decide +kernel
theorem dX1_holds_31 : decode cX1_holds 31 = .ok (.aload_n 0, 1) := by decide +kernel
theorem dX1_holds_32 : decode cX1_holds 32 = .ok (.dup, 1) := by decide +kernel
theorem dX1_holds_33 : decode cX1_holds 33 = .ok (.getfield 30, 3) := by decide +kernel
theorem dX1_holds_36 : decode cX1_holds 36 = .ok (.iconst 1, 1) := by decide +kernel
theorem dX1_holds_37 : decode cX1_holds 37 = .ok (.iadd, 1) := by decide +kernel
theorem dX1_holds_38 : decode cX1_holds 38 = .ok (.putfield 30, 3) := by decide +kernel
theorem dX1_holds_41 : decode cX1_holds 41 = .ok (.aload_n 0, 1) := by decide +kernel
theorem dX1_holds_42 : decode cX1_holds 42 = .ok (.aload_n 0, 1) := by decide +kernel
theorem dX1_holds_43 : decode cX1_holds 43 = .ok (.getfield 30, 3) := by decide +kernel
theorem dX1_holds_46 : decode cX1_holds 46 = .ok (.aload_n 0, 1) := by decide +kernel
theorem dX1_holds_47 : decode cX1_holds 47 = .ok (.getfield 33, 3) := by decide +kernel
theorem dX1_holds_50 : decode cX1_holds 50 = .ok (.if_icmp .le 10, 3) := by decide +kernel
theorem dX1_holds_53 : decode cX1_holds 53 = .ok (.aload_n 0, 1) := by decide +kernel
theorem dX1_holds_54 : decode cX1_holds 54 = .ok (.getfield 30, 3) := by decide +kernel
theorem dX1_holds_57 : decode cX1_holds 57 = .ok (.goto 7, 3) := by decide +kernel
theorem dX1_holds_60 : decode cX1_holds 60 = .ok (.aload_n 0, 1) := by decide +kernel
theorem dX1_holds_61 : decode cX1_holds 61 = .ok (.getfield 33, 3) := by decide +kernel
theorem dX1_holds_64 : decode cX1_holds 64 = .ok (.putfield 33, 3) := by decide +kernel
theorem dX1_holds_67 : decode cX1_holds 67 = .ok (.iconst 1, 1) := by decide +kernel
theorem dX1_holds_68 : decode cX1_holds 68 = .ok (.ireturn, 1) := by decide +kernel
theorem dX1_goes_0 : decode cX1_goes 0 = .ok (.aload_n 0, 1) := by decide +kernel
theorem dX1_goes_1 : decode cX1_goes 1 = .ok (.dup, 1) := by decide +kernel
theorem dX1_goes_2 : decode cX1_goes 2 = .ok (.getfield 30, 3) := by decide +kernel
theorem dX1_goes_5 : decode cX1_goes 5 = .ok (.iload_n 1, 1) := by decide +kernel
theorem dX1_goes_6 : decode cX1_goes 6 = .ok (.isub, 1) := by decide +kernel
theorem dX1_goes_7 : decode cX1_goes 7 = .ok (.putfield 30, 3) := by decide +kernel
theorem dX1_goes_10 : decode cX1_goes 10 = .ok (.iload_n 2, 1) := by decide +kernel
theorem dX1_goes_11 : decode cX1_goes 11 = .ok (.ifCond .ge 13, 3) := by decide +kernel
theorem dX1_goes_14 : decode cX1_goes 14 = .ok (.aload_n 0, 1) := by decide +kernel
theorem dX1_goes_15 : decode cX1_goes 15 = .ok (.dup, 1) := by decide +kernel
theorem dX1_goes_16 : decode cX1_goes 16 = .ok (.getfield 36, 3) := by decide +kernel
theorem dX1_goes_19 : decode cX1_goes 19 = .ok (.iload_n 1, 1) := by decide +kernel
theorem dX1_goes_20 : decode cX1_goes 20 = .ok (.iadd, 1) := by decide +kernel
theorem dX1_goes_21 : decode cX1_goes 21 = .ok (.putfield 36, 3) := by decide +kernel
theorem dX1_goes_24 : decode cX1_goes 24 = .ok (.iload_n 2, 1) := by decide +kernel
theorem dX1_goes_25 : decode cX1_goes 25 = .ok (.ireturn, 1) := by decide +kernel
theorem dX1_last_0 : decode cX1_last 0 = .ok (.aload_n 0, 1) := by decide +kernel
theorem dX1_last_1 : decode cX1_last 1 = .ok (.getfield 16, 3) := by decide +kernel
theorem dX1_last_4 : decode cX1_last 4 = .ok (.bipush 12, 2) := by decide +kernel
theorem dX1_last_6 : decode cX1_last 6 = .ok (.iload_n 1, 1) := by decide +kernel
theorem dX1_last_7 : decode cX1_last 7 = .ok (.imul, 1) := by decide +kernel
theorem dX1_last_8 : decode cX1_last 8 = .ok (.aload_n 0, 1) := by decide +kernel
theorem dX1_last_9 : decode cX1_last 9 = .ok (.getfield 13, 3) := by decide +kernel
theorem dX1_last_12 : decode cX1_last 12 = .ok (.iload_n 1, 1) := by decide +kernel
theorem dX1_last_13 : decode cX1_last 13 = .ok (.iaload, 1) := by decide +kernel
theorem dX1_last_14 : decode cX1_last 14 = .ok (.iadd, 1) := by decide +kernel
theorem dX1_last_15 : decode cX1_last 15 = .ok (.iconst 1, 1) := by decide +kernel
theorem dX1_last_16 : decode cX1_last 16 = .ok (.isub, 1) := by decide +kernel
theorem dX1_last_17 : decode cX1_last 17 = .ok (.iaload, 1) := by decide +kernel
theorem dX1_last_18 : decode cX1_last 18 = .ok (.ireturn, 1) := by decide +kernel
theorem dX1_come_0 : decode cX1_come 0 = .ok (.aload_n 0, 1) := by decide +kernel
theorem dX1_come_1 : decode cX1_come 1 = .ok (.getfield 16, 3) := by decide +kernel
theorem dX1_come_4 : decode cX1_come 4 = .ok (.bipush 12, 2) := by decide +kernel
theorem dX1_come_6 : decode cX1_come 6 = .ok (.iload_n 1, 1) := by decide +kernel
theorem dX1_come_7 : decode cX1_come 7 = .ok (.imul, 1) := by decide +kernel
theorem dX1_come_8 : decode cX1_come 8 = .ok (.aload_n 0, 1) := by decide +kernel
theorem dX1_come_9 : decode cX1_come 9 = .ok (.getfield 13, 3) := by decide +kernel
theorem dX1_come_12 : decode cX1_come 12 = .ok (.iload_n 1, 1) := by decide +kernel
theorem dX1_come_13 : decode cX1_come 13 = .ok (.iaload, 1) := by decide +kernel
theorem dX1_come_14 : decode cX1_come 14 = .ok (.iadd, 1) := by decide +kernel
theorem dX1_come_15 : decode cX1_come 15 = .ok (.iload_n 2, 1) := by decide +kernel
theorem dX1_come_16 : decode cX1_come 16 = .ok (.iastore, 1) := by decide +kernel
theorem dX1_come_17 : decode cX1_come 17 = .ok (.aload_n 0, 1) := by decide +kernel
theorem dX1_come_18 : decode cX1_come 18 = .ok (.getfield 13, 3) := by decide +kernel
theorem dX1_come_21 : decode cX1_come 21 = .ok (.iload_n 1, 1) := by decide +kernel
theorem dX1_come_22 : decode cX1_come 22 = .ok (.dup2, 1) := by decide +kernel
theorem dX1_come_23 : decode cX1_come 23 = .ok (.iaload, 1) := by decide +kernel
theorem dX1_come_24 : decode cX1_come 24 = .ok (.iconst 1, 1) := by decide +kernel
theorem dX1_come_25 : decode cX1_come 25 = .ok (.iadd, 1) := by decide +kernel
theorem dX1_come_26 : decode cX1_come 26 = .ok (.iastore, 1) := by decide +kernel
theorem dX1_come_27 : decode cX1_come 27 = .ok (.return_, 1) := by decide +kernel
theorem dX1_isFull_0 : decode cX1_isFull 0 = .ok (.aload_n 0, 1) := by decide +kernel
theorem dX1_isFull_1 : decode cX1_isFull 1 = .ok (.getfield 13, 3) := by decide +kernel
theorem dX1_isFull_4 : decode cX1_isFull 4 = .ok (.iload_n 1, 1) := by decide +kernel
theorem dX1_isFull_5 : decode cX1_isFull 5 = .ok (.iaload, 1) := by decide +kernel
theorem dX1_isFull_6 : decode cX1_isFull 6 = .ok (.aload_n 0, 1) := by decide +kernel
theorem dX1_isFull_7 : decode cX1_isFull 7 = .ok (.getfield 9, 3) := by decide +kernel
theorem dX1_isFull_10 : decode cX1_isFull 10 = .ok (.iload_n 1, 1) := by decide +kernel
theorem dX1_isFull_11 : decode cX1_isFull 11 = .ok (.iaload, 1) := by decide +kernel
theorem dX1_isFull_12 : decode cX1_isFull 12 = .ok (.if_icmp .ne 7, 3) := by decide +kernel
theorem dX1_isFull_15 : decode cX1_isFull 15 = .ok (.iconst 1, 1) := by decide +kernel
theorem dX1_isFull_16 : decode cX1_isFull 16 = .ok (.goto 4, 3) := by decide +kernel
theorem dX1_isFull_19 : decode cX1_isFull 19 = .ok (.iconst 0, 1) := by decide +kernel
theorem dX1_isFull_20 : decode cX1_isFull 20 = .ok (.ireturn, 1) := by decide +kernel
theorem dX1_trackOf_0 : decode cX1_trackOf 0 = .ok (.lload_n 0, 1) := by decide +kernel
theorem dX1_trackOf_1 : decode cX1_trackOf 1 = .ok (.iconst 3, 1) := by decide +kernel
theorem dX1_trackOf_2 : decode cX1_trackOf 2 = .ok (.iload_n 2, 1) := by decide +kernel
theorem dX1_trackOf_3 : decode cX1_trackOf 3 = .ok (.imul, 1) := by decide +kernel
theorem dX1_trackOf_4 : decode cX1_trackOf 4 = .ok (.lshr, 1) := by decide +kernel
theorem dX1_trackOf_5 : decode cX1_trackOf 5 = .ok (.l2i, 1) := by decide +kernel
theorem dX1_trackOf_6 : decode cX1_trackOf 6 = .ok (.bipush 7, 2) := by decide +kernel
theorem dX1_trackOf_8 : decode cX1_trackOf 8 = .ok (.iand, 1) := by decide +kernel
theorem dX1_trackOf_9 : decode cX1_trackOf 9 = .ok (.ireturn, 1) := by decide +kernel
set_option maxRecDepth 20000 in
theorem ggX1_lay_X1_isTrack : GoodIn wsX1_lay wsX1_isTrack := goodIn_r _ [6, 7, 8, 5, 9] (by decide +kernel) (by decide +kernel)
set_option maxRecDepth 20000 in
theorem gX1_lay_X1_isTrack : GoodIn wsX1_lay (va_wsS RX1 39 yX1_isTrack wsX1_isTrack) := goodIn_app (goodIn_of _ (by decide +kernel)) ggX1_lay_X1_isTrack
set_option maxRecDepth 20000 in
theorem ggX1_lay_X1_in : GoodIn wsX1_lay wsX1_in := goodIn_r _ [9] (by decide +kernel) (by decide +kernel)
set_option maxRecDepth 20000 in
theorem gX1_lay_X1_in : GoodIn wsX1_lay (va_wsS RX1 19 yX1_in wsX1_in) := goodIn_app (goodIn_of _ (by decide +kernel)) ggX1_lay_X1_in
theorem dX1_lay_0 : decode cX1_lay 0 = .ok (.iload_n 1, 1) := by decide +kernel
theorem dX1_lay_1 : decode cX1_lay 1 = .ok (.invokestatic 39, 3) := by decide +kernel
theorem dX1_lay_4 : decode cX1_lay 4 = .ok (.ifCond .eq 13, 3) := by decide +kernel
theorem dX1_lay_7 : decode cX1_lay 7 = .ok (.iload_n 2, 1) := by decide +kernel
theorem dX1_lay_8 : decode cX1_lay 8 = .ok (.iconst 1, 1) := by decide +kernel
theorem dX1_lay_9 : decode cX1_lay 9 = .ok (.bipush 12, 2) := by decide +kernel
theorem dX1_lay_11 : decode cX1_lay 11 = .ok (.invokestatic 19, 3) := by decide +kernel
theorem dX1_lay_14 : decode cX1_lay 14 = .ok (.ifCond .ne 6, 3) := by decide +kernel
theorem dX1_lay_17 : decode cX1_lay 17 = .ok (.bipush (-2), 2) := by decide +kernel
theorem dX1_lay_19 : decode cX1_lay 19 = .ok (.ireturn, 1) := by decide +kernel
theorem dX1_lay_20 : decode cX1_lay 20 = .ok (.aload_n 0, 1) := by decide +kernel
theorem dX1_lay_21 : decode cX1_lay 21 = .ok (.getfield 9, 3) := by decide +kernel
theorem dX1_lay_24 : decode cX1_lay 24 = .ok (.iload_n 1, 1) := by decide +kernel
theorem dX1_lay_25 : decode cX1_lay 25 = .ok (.iaload, 1) := by decide +kernel
theorem dX1_lay_26 : decode cX1_lay 26 = .ok (.ifCond .le 5, 3) := by decide +kernel
theorem dX1_lay_29 : decode cX1_lay 29 = .ok (.iconst 0, 1) := by decide +kernel
theorem dX1_lay_30 : decode cX1_lay 30 = .ok (.ireturn, 1) := by decide +kernel
theorem dX1_lay_31 : decode cX1_lay 31 = .ok (.aload_n 0, 1) := by decide +kernel
theorem dX1_lay_32 : decode cX1_lay 32 = .ok (.getfield 9, 3) := by decide +kernel
theorem dX1_lay_35 : decode cX1_lay 35 = .ok (.iload_n 1, 1) := by decide +kernel
theorem dX1_lay_36 : decode cX1_lay 36 = .ok (.iload_n 2, 1) := by decide +kernel
theorem dX1_lay_37 : decode cX1_lay 37 = .ok (.iastore, 1) := by decide +kernel
theorem dX1_lay_38 : decode cX1_lay 38 = .ok (.aload_n 0, 1) := by decide +kernel
theorem dX1_lay_39 : decode cX1_lay 39 = .ok (.getfield 13, 3) := by decide +kernel
theorem dX1_lay_42 : decode cX1_lay 42 = .ok (.iload_n 1, 1) := by decide +kernel
theorem dX1_lay_43 : decode cX1_lay 43 = .ok (.iconst 0, 1) := by decide +kernel
theorem dX1_lay_44 : decode cX1_lay 44 = .ok (.iastore, 1) := by decide +kernel
theorem dX1_lay_45 : decode cX1_lay 45 = .ok (.iconst 1, 1) := by decide +kernel
theorem dX1_lay_46 : decode cX1_lay 46 = .ok (.ireturn, 1) := by decide +kernel
set_option maxRecDepth 20000 in
theorem ggX1_lift_X1_isTrack : GoodIn wsX1_lift wsX1_isTrack := goodIn_r _ [6, 7, 8, 5, 9] (by decide +kernel) (by decide +kernel)
set_option maxRecDepth 20000 in
theorem gX1_lift_X1_isTrack : GoodIn wsX1_lift (va_wsS RX1 39 yX1_isTrack wsX1_isTrack) := goodIn_app (goodIn_of _ (by decide +kernel)) ggX1_lift_X1_isTrack
theorem dX1_lift_0 : decode cX1_lift 0 = .ok (.iload_n 1, 1) := by decide +kernel
theorem dX1_lift_1 : decode cX1_lift 1 = .ok (.invokestatic 39, 3) := by decide +kernel
theorem dX1_lift_4 : decode cX1_lift 4 = .ok (.ifCond .ne 6, 3) := by decide +kernel
theorem dX1_lift_7 : decode cX1_lift 7 = .ok (.bipush (-2), 2) := by decide +kernel
theorem dX1_lift_9 : decode cX1_lift 9 = .ok (.ireturn, 1) := by decide +kernel
theorem dX1_lift_10 : decode cX1_lift 10 = .ok (.aload_n 0, 1) := by decide +kernel
theorem dX1_lift_11 : decode cX1_lift 11 = .ok (.getfield 9, 3) := by decide +kernel
theorem dX1_lift_14 : decode cX1_lift 14 = .ok (.iload_n 1, 1) := by decide +kernel
theorem dX1_lift_15 : decode cX1_lift 15 = .ok (.iaload, 1) := by decide +kernel
theorem dX1_lift_16 : decode cX1_lift 16 = .ok (.ifCond .ne 6, 3) := by decide +kernel
theorem dX1_lift_19 : decode cX1_lift 19 = .ok (.bipush (-3), 2) := by decide +kernel
theorem dX1_lift_21 : decode cX1_lift 21 = .ok (.ireturn, 1) := by decide +kernel
theorem dX1_lift_22 : decode cX1_lift 22 = .ok (.aload_n 0, 1) := by decide +kernel
theorem dX1_lift_23 : decode cX1_lift 23 = .ok (.getfield 13, 3) := by decide +kernel
theorem dX1_lift_26 : decode cX1_lift 26 = .ok (.iload_n 1, 1) := by decide +kernel
theorem dX1_lift_27 : decode cX1_lift 27 = .ok (.iaload, 1) := by decide +kernel
theorem dX1_lift_28 : decode cX1_lift 28 = .ok (.istore_n 2, 1) := by decide +kernel
theorem dX1_lift_29 : decode cX1_lift 29 = .ok (.aload_n 0, 1) := by decide +kernel
theorem dX1_lift_30 : decode cX1_lift 30 = .ok (.getfield 9, 3) := by decide +kernel
theorem dX1_lift_33 : decode cX1_lift 33 = .ok (.iload_n 1, 1) := by decide +kernel
theorem dX1_lift_34 : decode cX1_lift 34 = .ok (.iconst 0, 1) := by decide +kernel
theorem dX1_lift_35 : decode cX1_lift 35 = .ok (.iastore, 1) := by decide +kernel
theorem dX1_lift_36 : decode cX1_lift 36 = .ok (.aload_n 0, 1) := by decide +kernel
theorem dX1_lift_37 : decode cX1_lift 37 = .ok (.getfield 13, 3) := by decide +kernel
theorem dX1_lift_40 : decode cX1_lift 40 = .ok (.iload_n 1, 1) := by decide +kernel
theorem dX1_lift_41 : decode cX1_lift 41 = .ok (.iconst 0, 1) := by decide +kernel
theorem dX1_lift_42 : decode cX1_lift 42 = .ok (.iastore, 1) := by decide +kernel
theorem dX1_lift_43 : decode cX1_lift 43 = .ok (.iload_n 2, 1) := by decide +kernel
theorem dX1_lift_44 : decode cX1_lift 44 = .ok (.ireturn, 1) := by decide +kernel
set_option maxRecDepth 20000 in
theorem ggX1_couple_X1_isTrack : GoodIn wsX1_couple wsX1_isTrack := goodIn_r _ [5, 6, 7, 4, 8] (by decide +kernel) (by decide +kernel)
set_option maxRecDepth 20000 in
theorem gX1_couple_X1_isTrack : GoodIn wsX1_couple (va_wsS RX1 39 yX1_isTrack wsX1_isTrack) := goodIn_app (goodIn_of _ (by decide +kernel)) ggX1_couple_X1_isTrack
set_option maxRecDepth 20000 in
theorem ggX1_couple_X1_in : GoodIn wsX1_couple wsX1_in := goodIn_r _ [8] (by decide +kernel) (by decide +kernel)
set_option maxRecDepth 20000 in
theorem gX1_couple_X1_in : GoodIn wsX1_couple (va_wsS RX1 19 yX1_in wsX1_in) := goodIn_app (goodIn_of _ (by decide +kernel)) ggX1_couple_X1_in
set_option maxRecDepth 20000 in
theorem ggX1_couple_X1_holds : GoodIn wsX1_couple wsX1_holds := goodIn_r _ [12, 13, 14, 15, 16, 17, 32, 33, 34, 35, 36, 37, 38, 39, 40] (by decide +kernel) (by decide +kernel)
set_option maxRecDepth 20000 in
theorem gX1_couple_X1_holds : GoodIn wsX1_couple (wsV RX1 43 RX1 yX1_holds wsX1_holds) := goodIn_app (goodIn_of _ (by decide +kernel)) ggX1_couple_X1_holds
set_option maxRecDepth 20000 in
theorem ggX1_couple_X1_isFull : GoodIn wsX1_couple wsX1_isFull := goodIn_r _ [21, 1, 14, 32, 33, 34, 35, 36, 37, 38, 39, 40] (by decide +kernel) (by decide +kernel)
set_option maxRecDepth 20000 in
theorem gX1_couple_X1_isFull : GoodIn wsX1_couple (wsV RX1 46 RX1 yX1_isFull wsX1_isFull) := goodIn_app (goodIn_of _ (by decide +kernel)) ggX1_couple_X1_isFull
set_option maxRecDepth 20000 in
theorem ggX1_couple_X1_goes : GoodIn wsX1_couple wsX1_goes := goodIn_r _ [25, 16, 26, 32, 33, 34, 35, 36, 37, 38, 39, 40] (by decide +kernel) (by decide +kernel)
set_option maxRecDepth 20000 in
theorem gX1_couple_X1_goes : GoodIn wsX1_couple (wsV RX1 49 RX1 yX1_goes wsX1_goes) := goodIn_app (goodIn_of _ (by decide +kernel)) ggX1_couple_X1_goes
set_option maxRecDepth 20000 in
theorem ggX1_couple_X1_come : GoodIn wsX1_couple wsX1_come := goodIn_r _ [30, 31, 1, 32, 33, 34, 35, 36, 37, 38, 39, 40] (by decide +kernel) (by decide +kernel)
set_option maxRecDepth 20000 in
theorem gX1_couple_X1_come : GoodIn wsX1_couple (wsV RX1 53 RX1 yX1_come wsX1_come) := goodIn_app (goodIn_of _ (by decide +kernel)) ggX1_couple_X1_come
theorem dX1_couple_0 : decode cX1_couple 0 = .ok (.iload_n 1, 1) := by decide +kernel
theorem dX1_couple_1 : decode cX1_couple 1 = .ok (.invokestatic 39, 3) := by decide +kernel
theorem dX1_couple_4 : decode cX1_couple 4 = .ok (.ifCond .eq 14, 3) := by decide +kernel
theorem dX1_couple_7 : decode cX1_couple 7 = .ok (.iload_n 2, 1) := by decide +kernel
theorem dX1_couple_8 : decode cX1_couple 8 = .ok (.iconst 1, 1) := by decide +kernel
theorem dX1_couple_9 : decode cX1_couple 9 = .ok (.sipush 999, 3) := by decide +kernel
theorem dX1_couple_12 : decode cX1_couple 12 = .ok (.invokestatic 19, 3) := by decide +kernel
theorem dX1_couple_15 : decode cX1_couple 15 = .ok (.ifCond .ne 6, 3) := by decide +kernel
theorem dX1_couple_18 : decode cX1_couple 18 = .ok (.bipush (-2), 2) := by decide +kernel
theorem dX1_couple_20 : decode cX1_couple 20 = .ok (.ireturn, 1) := by decide +kernel
theorem dX1_couple_21 : decode cX1_couple 21 = .ok (.aload_n 0, 1) := by decide +kernel
theorem dX1_couple_22 : decode cX1_couple 22 = .ok (.iload_n 1, 1) := by decide +kernel
theorem dX1_couple_23 : decode cX1_couple 23 = .ok (.invokevirtual 43, 3) := by decide +kernel
theorem dX1_couple_26 : decode cX1_couple 26 = .ok (.ifCond .ne 6, 3) := by decide +kernel
theorem dX1_couple_29 : decode cX1_couple 29 = .ok (.bipush (-3), 2) := by decide +kernel
theorem dX1_couple_31 : decode cX1_couple 31 = .ok (.ireturn, 1) := by decide +kernel
theorem dX1_couple_32 : decode cX1_couple 32 = .ok (.aload_n 0, 1) := by decide +kernel
theorem dX1_couple_33 : decode cX1_couple 33 = .ok (.iload_n 1, 1) := by decide +kernel
theorem dX1_couple_34 : decode cX1_couple 34 = .ok (.invokevirtual 46, 3) := by decide +kernel
theorem dX1_couple_37 : decode cX1_couple 37 = .ok (.ifCond .eq 11, 3) := by decide +kernel
theorem dX1_couple_40 : decode cX1_couple 40 = .ok (.aload_n 0, 1) := by decide +kernel
theorem dX1_couple_41 : decode cX1_couple 41 = .ok (.iconst 1, 1) := by decide +kernel
theorem dX1_couple_42 : decode cX1_couple 42 = .ok (.bipush (-4), 2) := by decide +kernel
theorem dX1_couple_44 : decode cX1_couple 44 = .ok (.invokevirtual 49, 3) := by decide +kernel
theorem dX1_couple_47 : decode cX1_couple 47 = .ok (.ireturn, 1) := by decide +kernel
theorem dX1_couple_48 : decode cX1_couple 48 = .ok (.aload_n 0, 1) := by decide +kernel
theorem dX1_couple_49 : decode cX1_couple 49 = .ok (.iload_n 1, 1) := by decide +kernel
theorem dX1_couple_50 : decode cX1_couple 50 = .ok (.iload_n 2, 1) := by decide +kernel
theorem dX1_couple_51 : decode cX1_couple 51 = .ok (.invokevirtual 53, 3) := by decide +kernel
theorem dX1_couple_54 : decode cX1_couple 54 = .ok (.aload_n 0, 1) := by decide +kernel
theorem dX1_couple_55 : decode cX1_couple 55 = .ok (.iconst 1, 1) := by decide +kernel
theorem dX1_couple_56 : decode cX1_couple 56 = .ok (.aload_n 0, 1) := by decide +kernel
theorem dX1_couple_57 : decode cX1_couple 57 = .ok (.getfield 13, 3) := by decide +kernel
theorem dX1_couple_60 : decode cX1_couple 60 = .ok (.iload_n 1, 1) := by decide +kernel
theorem dX1_couple_61 : decode cX1_couple 61 = .ok (.iaload, 1) := by decide +kernel
theorem dX1_couple_62 : decode cX1_couple 62 = .ok (.invokevirtual 49, 3) := by decide +kernel
theorem dX1_couple_65 : decode cX1_couple 65 = .ok (.ireturn, 1) := by decide +kernel
set_option maxRecDepth 20000 in
theorem ggX1_uncouple_X1_isTrack : GoodIn wsX1_uncouple wsX1_isTrack := goodIn_r _ [5, 6, 7, 4, 8] (by decide +kernel) (by decide +kernel)
set_option maxRecDepth 20000 in
theorem gX1_uncouple_X1_isTrack : GoodIn wsX1_uncouple (va_wsS RX1 39 yX1_isTrack wsX1_isTrack) := goodIn_app (goodIn_of _ (by decide +kernel)) ggX1_uncouple_X1_isTrack
set_option maxRecDepth 20000 in
theorem ggX1_uncouple_X1_holds : GoodIn wsX1_uncouple wsX1_holds := goodIn_r _ [12, 13, 14, 15, 16, 17, 28, 29, 30, 31, 32, 33, 34, 35, 36] (by decide +kernel) (by decide +kernel)
set_option maxRecDepth 20000 in
theorem gX1_uncouple_X1_holds : GoodIn wsX1_uncouple (wsV RX1 43 RX1 yX1_holds wsX1_holds) := goodIn_app (goodIn_of _ (by decide +kernel)) ggX1_uncouple_X1_holds
set_option maxRecDepth 20000 in
theorem ggX1_uncouple_X1_goes : GoodIn wsX1_uncouple wsX1_goes := goodIn_r _ [21, 16, 22, 28, 29, 30, 31, 32, 33, 34, 35, 36] (by decide +kernel) (by decide +kernel)
set_option maxRecDepth 20000 in
theorem gX1_uncouple_X1_goes : GoodIn wsX1_uncouple (wsV RX1 49 RX1 yX1_goes wsX1_goes) := goodIn_app (goodIn_of _ (by decide +kernel)) ggX1_uncouple_X1_goes
set_option maxRecDepth 20000 in
theorem ggX1_uncouple_X1_last : GoodIn wsX1_uncouple wsX1_last := goodIn_r _ [26, 27, 1, 28, 29, 30, 31, 32, 33, 34, 35, 36] (by decide +kernel) (by decide +kernel)
set_option maxRecDepth 20000 in
theorem gX1_uncouple_X1_last : GoodIn wsX1_uncouple (wsV RX1 57 RX1 yX1_last wsX1_last) := goodIn_app (goodIn_of _ (by decide +kernel)) ggX1_uncouple_X1_last
theorem dX1_uncouple_0 : decode cX1_uncouple 0 = .ok (.iload_n 1, 1) := by decide +kernel
theorem dX1_uncouple_1 : decode cX1_uncouple 1 = .ok (.invokestatic 39, 3) := by decide +kernel
theorem dX1_uncouple_4 : decode cX1_uncouple 4 = .ok (.ifCond .ne 6, 3) := by decide +kernel
theorem dX1_uncouple_7 : decode cX1_uncouple 7 = .ok (.bipush (-2), 2) := by decide +kernel
theorem dX1_uncouple_9 : decode cX1_uncouple 9 = .ok (.ireturn, 1) := by decide +kernel
theorem dX1_uncouple_10 : decode cX1_uncouple 10 = .ok (.aload_n 0, 1) := by decide +kernel
theorem dX1_uncouple_11 : decode cX1_uncouple 11 = .ok (.iload_n 1, 1) := by decide +kernel
theorem dX1_uncouple_12 : decode cX1_uncouple 12 = .ok (.invokevirtual 43, 3) := by decide +kernel
theorem dX1_uncouple_15 : decode cX1_uncouple 15 = .ok (.ifCond .ne 6, 3) := by decide +kernel
theorem dX1_uncouple_18 : decode cX1_uncouple 18 = .ok (.bipush (-3), 2) := by decide +kernel
theorem dX1_uncouple_20 : decode cX1_uncouple 20 = .ok (.ireturn, 1) := by decide +kernel
theorem dX1_uncouple_21 : decode cX1_uncouple 21 = .ok (.aload_n 0, 1) := by decide +kernel
theorem dX1_uncouple_22 : decode cX1_uncouple 22 = .ok (.getfield 13, 3) := by decide +kernel
theorem dX1_uncouple_25 : decode cX1_uncouple 25 = .ok (.iload_n 1, 1) := by decide +kernel
theorem dX1_uncouple_26 : decode cX1_uncouple 26 = .ok (.iaload, 1) := by decide +kernel
theorem dX1_uncouple_27 : decode cX1_uncouple 27 = .ok (.ifCond .ne 11, 3) := by decide +kernel
theorem dX1_uncouple_30 : decode cX1_uncouple 30 = .ok (.aload_n 0, 1) := by decide +kernel
theorem dX1_uncouple_31 : decode cX1_uncouple 31 = .ok (.iconst 1, 1) := by decide +kernel
theorem dX1_uncouple_32 : decode cX1_uncouple 32 = .ok (.bipush (-5), 2) := by decide +kernel
theorem dX1_uncouple_34 : decode cX1_uncouple 34 = .ok (.invokevirtual 49, 3) := by decide +kernel
theorem dX1_uncouple_37 : decode cX1_uncouple 37 = .ok (.ireturn, 1) := by decide +kernel
theorem dX1_uncouple_38 : decode cX1_uncouple 38 = .ok (.aload_n 0, 1) := by decide +kernel
theorem dX1_uncouple_39 : decode cX1_uncouple 39 = .ok (.iload_n 1, 1) := by decide +kernel
theorem dX1_uncouple_40 : decode cX1_uncouple 40 = .ok (.invokevirtual 57, 3) := by decide +kernel
theorem dX1_uncouple_43 : decode cX1_uncouple 43 = .ok (.istore_n 2, 1) := by decide +kernel
theorem dX1_uncouple_44 : decode cX1_uncouple 44 = .ok (.aload_n 0, 1) := by decide +kernel
theorem dX1_uncouple_45 : decode cX1_uncouple 45 = .ok (.getfield 13, 3) := by decide +kernel
theorem dX1_uncouple_48 : decode cX1_uncouple 48 = .ok (.iload_n 1, 1) := by decide +kernel
theorem dX1_uncouple_49 : decode cX1_uncouple 49 = .ok (.dup2, 1) := by decide +kernel
theorem dX1_uncouple_50 : decode cX1_uncouple 50 = .ok (.iaload, 1) := by decide +kernel
theorem dX1_uncouple_51 : decode cX1_uncouple 51 = .ok (.iconst 1, 1) := by decide +kernel
theorem dX1_uncouple_52 : decode cX1_uncouple 52 = .ok (.isub, 1) := by decide +kernel
theorem dX1_uncouple_53 : decode cX1_uncouple 53 = .ok (.iastore, 1) := by decide +kernel
theorem dX1_uncouple_54 : decode cX1_uncouple 54 = .ok (.aload_n 0, 1) := by decide +kernel
theorem dX1_uncouple_55 : decode cX1_uncouple 55 = .ok (.iconst 1, 1) := by decide +kernel
theorem dX1_uncouple_56 : decode cX1_uncouple 56 = .ok (.iload_n 2, 1) := by decide +kernel
theorem dX1_uncouple_57 : decode cX1_uncouple 57 = .ok (.invokevirtual 49, 3) := by decide +kernel
theorem dX1_uncouple_60 : decode cX1_uncouple 60 = .ok (.ireturn, 1) := by decide +kernel
set_option maxRecDepth 20000 in
theorem ggX1_shunt_X1_isTrack : GoodIn wsX1_shunt wsX1_isTrack := goodIn_r _ [6, 7, 8, 5, 9] (by decide +kernel) (by decide +kernel)
set_option maxRecDepth 20000 in
theorem gX1_shunt_X1_isTrack : GoodIn wsX1_shunt (va_wsS RX1 39 yX1_isTrack wsX1_isTrack) := goodIn_app (goodIn_of _ (by decide +kernel)) ggX1_shunt_X1_isTrack
set_option maxRecDepth 20000 in
theorem ggX1_shunt_X1_in : GoodIn wsX1_shunt wsX1_in := goodIn_r _ [9] (by decide +kernel) (by decide +kernel)
set_option maxRecDepth 20000 in
theorem gX1_shunt_X1_in : GoodIn wsX1_shunt (va_wsS RX1 19 yX1_in wsX1_in) := goodIn_app (goodIn_of _ (by decide +kernel)) ggX1_shunt_X1_in
set_option maxRecDepth 20000 in
theorem ggX1_shunt_X1_holds : GoodIn wsX1_shunt wsX1_holds := goodIn_r _ [13, 14, 15, 16, 17, 18, 37, 38, 39, 40, 41, 42, 43, 44, 45] (by decide +kernel) (by decide +kernel)
set_option maxRecDepth 20000 in
theorem gX1_shunt_X1_holds : GoodIn wsX1_shunt (wsV RX1 43 RX1 yX1_holds wsX1_holds) := goodIn_app (goodIn_of _ (by decide +kernel)) ggX1_shunt_X1_holds
set_option maxRecDepth 20000 in
theorem ggX1_shunt_X1_goes : GoodIn wsX1_shunt wsX1_goes := goodIn_r _ [22, 17, 23, 37, 38, 39, 40, 41, 42, 43, 44, 45] (by decide +kernel) (by decide +kernel)
set_option maxRecDepth 20000 in
theorem gX1_shunt_X1_goes : GoodIn wsX1_shunt (wsV RX1 49 RX1 yX1_goes wsX1_goes) := goodIn_app (goodIn_of _ (by decide +kernel)) ggX1_shunt_X1_goes
set_option maxRecDepth 20000 in
theorem ggX1_shunt_X1_last : GoodIn wsX1_shunt wsX1_last := goodIn_r _ [27, 28, 2, 37, 38, 39, 40, 41, 42, 43, 44, 45] (by decide +kernel) (by decide +kernel)
set_option maxRecDepth 20000 in
theorem gX1_shunt_X1_last : GoodIn wsX1_shunt (wsV RX1 57 RX1 yX1_last wsX1_last) := goodIn_app (goodIn_of _ (by decide +kernel)) ggX1_shunt_X1_last
set_option maxRecDepth 20000 in
theorem ggX1_shunt_X1_isFull : GoodIn wsX1_shunt wsX1_isFull := goodIn_r _ [32, 2, 15, 37, 38, 39, 40, 41, 42, 43, 44, 45] (by decide +kernel) (by decide +kernel)
set_option maxRecDepth 20000 in
theorem gX1_shunt_X1_isFull : GoodIn wsX1_shunt (wsV RX1 46 RX1 yX1_isFull wsX1_isFull) := goodIn_app (goodIn_of _ (by decide +kernel)) ggX1_shunt_X1_isFull
set_option maxRecDepth 20000 in
theorem ggX1_shunt_X1_come : GoodIn wsX1_shunt wsX1_come := goodIn_r _ [36, 28, 2, 37, 38, 39, 40, 41, 42, 43, 44, 45] (by decide +kernel) (by decide +kernel)
set_option maxRecDepth 20000 in
theorem gX1_shunt_X1_come : GoodIn wsX1_shunt (wsV RX1 53 RX1 yX1_come wsX1_come) := goodIn_app (goodIn_of _ (by decide +kernel)) ggX1_shunt_X1_come
theorem dX1_shunt_0 : decode cX1_shunt 0 = .ok (.iload_n 1, 1) := by decide +kernel
theorem dX1_shunt_1 : decode cX1_shunt 1 = .ok (.invokestatic 39, 3) := by decide +kernel
theorem dX1_shunt_4 : decode cX1_shunt 4 = .ok (.ifCond .eq 20, 3) := by decide +kernel
theorem dX1_shunt_7 : decode cX1_shunt 7 = .ok (.iload_n 2, 1) := by decide +kernel
theorem dX1_shunt_8 : decode cX1_shunt 8 = .ok (.invokestatic 39, 3) := by decide +kernel
theorem dX1_shunt_11 : decode cX1_shunt 11 = .ok (.ifCond .eq 13, 3) := by decide +kernel
theorem dX1_shunt_14 : decode cX1_shunt 14 = .ok (.iload_n 3, 1) := by decide +kernel
theorem dX1_shunt_15 : decode cX1_shunt 15 = .ok (.iconst 0, 1) := by decide +kernel
theorem dX1_shunt_16 : decode cX1_shunt 16 = .ok (.bipush 20, 2) := by decide +kernel
theorem dX1_shunt_18 : decode cX1_shunt 18 = .ok (.invokestatic 19, 3) := by decide +kernel
theorem dX1_shunt_21 : decode cX1_shunt 21 = .ok (.ifCond .ne 6, 3) := by decide +kernel
theorem dX1_shunt_24 : decode cX1_shunt 24 = .ok (.bipush (-2), 2) := by decide +kernel
theorem dX1_shunt_26 : decode cX1_shunt 26 = .ok (.ireturn, 1) := by decide +kernel
theorem dX1_shunt_27 : decode cX1_shunt 27 = .ok (.aload_n 0, 1) := by decide +kernel
theorem dX1_shunt_28 : decode cX1_shunt 28 = .ok (.iconst 0, 1) := by decide +kernel
theorem dX1_shunt_29 : decode cX1_shunt 29 = .ok (.putfield 61, 3) := by decide +kernel
theorem dX1_shunt_32 : decode cX1_shunt 32 = .ok (.aload_n 0, 1) := by decide +kernel
theorem dX1_shunt_33 : decode cX1_shunt 33 = .ok (.iload_n 1, 1) := by decide +kernel
theorem dX1_shunt_34 : decode cX1_shunt 34 = .ok (.invokevirtual 43, 3) := by decide +kernel
theorem dX1_shunt_37 : decode cX1_shunt 37 = .ok (.ifCond .ne 6, 3) := by decide +kernel
theorem dX1_shunt_40 : decode cX1_shunt 40 = .ok (.bipush (-3), 2) := by decide +kernel
theorem dX1_shunt_42 : decode cX1_shunt 42 = .ok (.ireturn, 1) := by decide +kernel
theorem dX1_shunt_43 : decode cX1_shunt 43 = .ok (.aload_n 0, 1) := by decide +kernel
theorem dX1_shunt_44 : decode cX1_shunt 44 = .ok (.iload_n 2, 1) := by decide +kernel
theorem dX1_shunt_45 : decode cX1_shunt 45 = .ok (.invokevirtual 43, 3) := by decide +kernel
theorem dX1_shunt_48 : decode cX1_shunt 48 = .ok (.ifCond .ne 11, 3) := by decide +kernel
theorem dX1_shunt_51 : decode cX1_shunt 51 = .ok (.aload_n 0, 1) := by decide +kernel
theorem dX1_shunt_52 : decode cX1_shunt 52 = .ok (.iconst 1, 1) := by decide +kernel
theorem dX1_shunt_53 : decode cX1_shunt 53 = .ok (.bipush (-3), 2) := by decide +kernel
theorem dX1_shunt_55 : decode cX1_shunt 55 = .ok (.invokevirtual 49, 3) := by decide +kernel
theorem dX1_shunt_58 : decode cX1_shunt 58 = .ok (.ireturn, 1) := by decide +kernel
theorem dX1_shunt_59 : decode cX1_shunt 59 = .ok (.iload_n 3, 1) := by decide +kernel
theorem dX1_shunt_60 : decode cX1_shunt 60 = .ok (.istore 4, 2) := by decide +kernel
theorem dX1_shunt_62 : decode cX1_shunt 62 = .ok (.iconst 0, 1) := by decide +kernel
theorem dX1_shunt_63 : decode cX1_shunt 63 = .ok (.istore 5, 2) := by decide +kernel
theorem dX1_shunt_65 : decode cX1_shunt 65 = .ok (.iload 5, 2) := by decide +kernel
theorem dX1_shunt_67 : decode cX1_shunt 67 = .ok (.iload_n 3, 1) := by decide +kernel
theorem dX1_shunt_68 : decode cX1_shunt 68 = .ok (.if_icmp .ge 86, 3) := by decide +kernel
theorem dX1_shunt_71 : decode cX1_shunt 71 = .ok (.iload 4, 2) := by decide +kernel
theorem dX1_shunt_73 : decode cX1_shunt 73 = .ok (.ifCond .lt 81, 3) := by decide +kernel
theorem dX1_shunt_76 : decode cX1_shunt 76 = .ok (.aload_n 0, 1) := by decide +kernel
theorem dX1_shunt_77 : decode cX1_shunt 77 = .ok (.getfield 13, 3) := by decide +kernel
theorem dX1_shunt_80 : decode cX1_shunt 80 = .ok (.iload_n 1, 1) := by decide +kernel
theorem dX1_shunt_81 : decode cX1_shunt 81 = .ok (.iaload, 1) := by decide +kernel
theorem dX1_shunt_82 : decode cX1_shunt 82 = .ok (.ifCond .ne 10, 3) := by decide +kernel
theorem dX1_shunt_85 : decode cX1_shunt 85 = .ok (.bipush (-5), 2) := by decide +kernel
theorem dX1_shunt_87 : decode cX1_shunt 87 = .ok (.istore 4, 2) := by decide +kernel
theorem dX1_shunt_89 : decode cX1_shunt 89 = .ok (.goto 59, 3) := by decide +kernel
theorem dX1_shunt_92 : decode cX1_shunt 92 = .ok (.aload_n 0, 1) := by decide +kernel
theorem dX1_shunt_93 : decode cX1_shunt 93 = .ok (.iload_n 1, 1) := by decide +kernel
theorem dX1_shunt_94 : decode cX1_shunt 94 = .ok (.invokevirtual 57, 3) := by decide +kernel
theorem dX1_shunt_97 : decode cX1_shunt 97 = .ok (.istore 6, 2) := by decide +kernel
theorem dX1_shunt_99 : decode cX1_shunt 99 = .ok (.aload_n 0, 1) := by decide +kernel
theorem dX1_shunt_100 : decode cX1_shunt 100 = .ok (.getfield 13, 3) := by decide +kernel
theorem dX1_shunt_103 : decode cX1_shunt 103 = .ok (.iload_n 1, 1) := by decide +kernel
theorem dX1_shunt_104 : decode cX1_shunt 104 = .ok (.dup2, 1) := by decide +kernel
theorem dX1_shunt_105 : decode cX1_shunt 105 = .ok (.iaload, 1) := by decide +kernel
theorem dX1_shunt_106 : decode cX1_shunt 106 = .ok (.iconst 1, 1) := by decide +kernel
theorem dX1_shunt_107 : decode cX1_shunt 107 = .ok (.isub, 1) := by decide +kernel
theorem dX1_shunt_108 : decode cX1_shunt 108 = .ok (.iastore, 1) := by decide +kernel
theorem dX1_shunt_109 : decode cX1_shunt 109 = .ok (.aload_n 0, 1) := by decide +kernel
theorem dX1_shunt_110 : decode cX1_shunt 110 = .ok (.iload_n 2, 1) := by decide +kernel
theorem dX1_shunt_111 : decode cX1_shunt 111 = .ok (.invokevirtual 46, 3) := by decide +kernel
theorem dX1_shunt_114 : decode cX1_shunt 114 = .ok (.ifCond .eq 17, 3) := by decide +kernel
theorem dX1_shunt_117 : decode cX1_shunt 117 = .ok (.aload_n 0, 1) := by decide +kernel
theorem dX1_shunt_118 : decode cX1_shunt 118 = .ok (.iload_n 1, 1) := by decide +kernel
theorem dX1_shunt_119 : decode cX1_shunt 119 = .ok (.iload 6, 2) := by decide +kernel
theorem dX1_shunt_121 : decode cX1_shunt 121 = .ok (.invokevirtual 53, 3) := by decide +kernel
theorem dX1_shunt_124 : decode cX1_shunt 124 = .ok (.bipush (-4), 2) := by decide +kernel
theorem dX1_shunt_126 : decode cX1_shunt 126 = .ok (.istore 4, 2) := by decide +kernel
theorem dX1_shunt_128 : decode cX1_shunt 128 = .ok (.goto 20, 3) := by decide +kernel
theorem dX1_shunt_131 : decode cX1_shunt 131 = .ok (.aload_n 0, 1) := by decide +kernel
theorem dX1_shunt_132 : decode cX1_shunt 132 = .ok (.iload_n 2, 1) := by decide +kernel
theorem dX1_shunt_133 : decode cX1_shunt 133 = .ok (.iload 6, 2) := by decide +kernel
theorem dX1_shunt_135 : decode cX1_shunt 135 = .ok (.invokevirtual 53, 3) := by decide +kernel
theorem dX1_shunt_138 : decode cX1_shunt 138 = .ok (.aload_n 0, 1) := by decide +kernel
theorem dX1_shunt_139 : decode cX1_shunt 139 = .ok (.dup, 1) := by decide +kernel
theorem dX1_shunt_140 : decode cX1_shunt 140 = .ok (.getfield 61, 3) := by decide +kernel
theorem dX1_shunt_143 : decode cX1_shunt 143 = .ok (.iconst 1, 1) := by decide +kernel
theorem dX1_shunt_144 : decode cX1_shunt 144 = .ok (.iadd, 1) := by decide +kernel
theorem dX1_shunt_145 : decode cX1_shunt 145 = .ok (.putfield 61, 3) := by decide +kernel
theorem dX1_shunt_148 : decode cX1_shunt 148 = .ok (.iinc 5 1, 3) := by decide +kernel
theorem dX1_shunt_151 : decode cX1_shunt 151 = .ok (.goto (-86), 3) := by decide +kernel
theorem dX1_shunt_154 : decode cX1_shunt 154 = .ok (.aload_n 0, 1) := by decide +kernel
theorem dX1_shunt_155 : decode cX1_shunt 155 = .ok (.iconst 2, 1) := by decide +kernel
theorem dX1_shunt_156 : decode cX1_shunt 156 = .ok (.iload 4, 2) := by decide +kernel
theorem dX1_shunt_158 : decode cX1_shunt 158 = .ok (.invokevirtual 49, 3) := by decide +kernel
theorem dX1_shunt_161 : decode cX1_shunt 161 = .ok (.ireturn, 1) := by decide +kernel
set_option maxRecDepth 20000 in
theorem ggX1_sweep_X1_isTrack : GoodIn wsX1_sweep wsX1_isTrack := goodIn_r _ [6, 7, 8, 5, 9] (by decide +kernel) (by decide +kernel)
set_option maxRecDepth 20000 in
theorem gX1_sweep_X1_isTrack : GoodIn wsX1_sweep (va_wsS RX1 39 yX1_isTrack wsX1_isTrack) := goodIn_app (goodIn_of _ (by decide +kernel)) ggX1_sweep_X1_isTrack
set_option maxRecDepth 20000 in
theorem ggX1_sweep_X1_holds : GoodIn wsX1_sweep wsX1_holds := goodIn_r _ [13, 14, 15, 16, 17, 18, 37, 38, 39, 40, 41, 42, 43, 44, 45] (by decide +kernel) (by decide +kernel)
set_option maxRecDepth 20000 in
theorem gX1_sweep_X1_holds : GoodIn wsX1_sweep (wsV RX1 43 RX1 yX1_holds wsX1_holds) := goodIn_app (goodIn_of _ (by decide +kernel)) ggX1_sweep_X1_holds
set_option maxRecDepth 20000 in
theorem ggX1_sweep_X1_last : GoodIn wsX1_sweep wsX1_last := goodIn_r _ [22, 23, 2, 37, 38, 39, 40, 41, 42, 43, 44, 45] (by decide +kernel) (by decide +kernel)
set_option maxRecDepth 20000 in
theorem gX1_sweep_X1_last : GoodIn wsX1_sweep (wsV RX1 57 RX1 yX1_last wsX1_last) := goodIn_app (goodIn_of _ (by decide +kernel)) ggX1_sweep_X1_last
set_option maxRecDepth 20000 in
theorem ggX1_sweep_X1_come : GoodIn wsX1_sweep wsX1_come := goodIn_r _ [27, 23, 2, 37, 38, 39, 40, 41, 42, 43, 44, 45] (by decide +kernel) (by decide +kernel)
set_option maxRecDepth 20000 in
theorem gX1_sweep_X1_come : GoodIn wsX1_sweep (wsV RX1 53 RX1 yX1_come wsX1_come) := goodIn_app (goodIn_of _ (by decide +kernel)) ggX1_sweep_X1_come
set_option maxRecDepth 20000 in
theorem ggX1_sweep_X1_goes : GoodIn wsX1_sweep wsX1_goes := goodIn_r _ [31, 17, 32, 37, 38, 39, 40, 41, 42, 43, 44, 45] (by decide +kernel) (by decide +kernel)
set_option maxRecDepth 20000 in
theorem gX1_sweep_X1_goes : GoodIn wsX1_sweep (wsV RX1 49 RX1 yX1_goes wsX1_goes) := goodIn_app (goodIn_of _ (by decide +kernel)) ggX1_sweep_X1_goes
set_option maxRecDepth 20000 in
theorem ggX1_sweep_X1_isFull : GoodIn wsX1_sweep wsX1_isFull := goodIn_r _ [36, 2, 15, 37, 38, 39, 40, 41, 42, 43, 44, 45] (by decide +kernel) (by decide +kernel)
set_option maxRecDepth 20000 in
theorem gX1_sweep_X1_isFull : GoodIn wsX1_sweep (wsV RX1 46 RX1 yX1_isFull wsX1_isFull) := goodIn_app (goodIn_of _ (by decide +kernel)) ggX1_sweep_X1_isFull
theorem dX1_sweep_0 : decode cX1_sweep 0 = .ok (.iload_n 1, 1) := by decide +kernel
theorem dX1_sweep_1 : decode cX1_sweep 1 = .ok (.invokestatic 39, 3) := by decide +kernel
theorem dX1_sweep_4 : decode cX1_sweep 4 = .ok (.ifCond .eq 27, 3) := by decide +kernel
theorem dX1_sweep_7 : decode cX1_sweep 7 = .ok (.iload_n 2, 1) := by decide +kernel
theorem dX1_sweep_8 : decode cX1_sweep 8 = .ok (.invokestatic 39, 3) := by decide +kernel
theorem dX1_sweep_11 : decode cX1_sweep 11 = .ok (.ifCond .eq 20, 3) := by decide +kernel
theorem dX1_sweep_14 : decode cX1_sweep 14 = .ok (.iload_n 3, 1) := by decide +kernel
theorem dX1_sweep_15 : decode cX1_sweep 15 = .ok (.invokestatic 39, 3) := by decide +kernel
theorem dX1_sweep_18 : decode cX1_sweep 18 = .ok (.ifCond .eq 13, 3) := by decide +kernel
theorem dX1_sweep_21 : decode cX1_sweep 21 = .ok (.iload_n 1, 1) := by decide +kernel
theorem dX1_sweep_22 : decode cX1_sweep 22 = .ok (.iload_n 2, 1) := by decide +kernel
theorem dX1_sweep_23 : decode cX1_sweep 23 = .ok (.if_icmp .eq 8, 3) := by decide +kernel
theorem dX1_sweep_26 : decode cX1_sweep 26 = .ok (.iload_n 1, 1) := by decide +kernel
theorem dX1_sweep_27 : decode cX1_sweep 27 = .ok (.iload_n 3, 1) := by decide +kernel
theorem dX1_sweep_28 : decode cX1_sweep 28 = .ok (.if_icmp .ne 6, 3) := by decide +kernel
theorem dX1_sweep_31 : decode cX1_sweep 31 = .ok (.bipush (-2), 2) := by decide +kernel
theorem dX1_sweep_33 : decode cX1_sweep 33 = .ok (.ireturn, 1) := by decide +kernel
theorem dX1_sweep_34 : decode cX1_sweep 34 = .ok (.aload_n 0, 1) := by decide +kernel
theorem dX1_sweep_35 : decode cX1_sweep 35 = .ok (.iconst 0, 1) := by decide +kernel
theorem dX1_sweep_36 : decode cX1_sweep 36 = .ok (.putfield 61, 3) := by decide +kernel
theorem dX1_sweep_39 : decode cX1_sweep 39 = .ok (.aload_n 0, 1) := by decide +kernel
theorem dX1_sweep_40 : decode cX1_sweep 40 = .ok (.iload_n 1, 1) := by decide +kernel
theorem dX1_sweep_41 : decode cX1_sweep 41 = .ok (.invokevirtual 43, 3) := by decide +kernel
theorem dX1_sweep_44 : decode cX1_sweep 44 = .ok (.ifCond .ne 6, 3) := by decide +kernel
theorem dX1_sweep_47 : decode cX1_sweep 47 = .ok (.bipush (-3), 2) := by decide +kernel
theorem dX1_sweep_49 : decode cX1_sweep 49 = .ok (.ireturn, 1) := by decide +kernel
theorem dX1_sweep_50 : decode cX1_sweep 50 = .ok (.iconst 1, 1) := by decide +kernel
theorem dX1_sweep_51 : decode cX1_sweep 51 = .ok (.istore 4, 2) := by decide +kernel
theorem dX1_sweep_53 : decode cX1_sweep 53 = .ok (.iload 4, 2) := by decide +kernel
theorem dX1_sweep_55 : decode cX1_sweep 55 = .ok (.ifCond .eq 145, 3) := by decide +kernel
theorem dX1_sweep_58 : decode cX1_sweep 58 = .ok (.aload_n 0, 1) := by decide +kernel
theorem dX1_sweep_59 : decode cX1_sweep 59 = .ok (.getfield 13, 3) := by decide +kernel
theorem dX1_sweep_62 : decode cX1_sweep 62 = .ok (.iload_n 1, 1) := by decide +kernel
theorem dX1_sweep_63 : decode cX1_sweep 63 = .ok (.iaload, 1) := by decide +kernel
theorem dX1_sweep_64 : decode cX1_sweep 64 = .ok (.ifCond .le 136, 3) := by decide +kernel
theorem dX1_sweep_67 : decode cX1_sweep 67 = .ok (.aload_n 0, 1) := by decide +kernel
theorem dX1_sweep_68 : decode cX1_sweep 68 = .ok (.iload_n 1, 1) := by decide +kernel
theorem dX1_sweep_69 : decode cX1_sweep 69 = .ok (.invokevirtual 57, 3) := by decide +kernel
theorem dX1_sweep_72 : decode cX1_sweep 72 = .ok (.istore 5, 2) := by decide +kernel
theorem dX1_sweep_74 : decode cX1_sweep 74 = .ok (.aload_n 0, 1) := by decide +kernel
theorem dX1_sweep_75 : decode cX1_sweep 75 = .ok (.getfield 13, 3) := by decide +kernel
theorem dX1_sweep_78 : decode cX1_sweep 78 = .ok (.iload_n 1, 1) := by decide +kernel
theorem dX1_sweep_79 : decode cX1_sweep 79 = .ok (.dup2, 1) := by decide +kernel
theorem dX1_sweep_80 : decode cX1_sweep 80 = .ok (.iaload, 1) := by decide +kernel
theorem dX1_sweep_81 : decode cX1_sweep 81 = .ok (.iconst 1, 1) := by decide +kernel
theorem dX1_sweep_82 : decode cX1_sweep 82 = .ok (.isub, 1) := by decide +kernel
theorem dX1_sweep_83 : decode cX1_sweep 83 = .ok (.iastore, 1) := by decide +kernel
theorem dX1_sweep_84 : decode cX1_sweep 84 = .ok (.iload 5, 2) := by decide +kernel
theorem dX1_sweep_86 : decode cX1_sweep 86 = .ok (.bipush 10, 2) := by decide +kernel
theorem dX1_sweep_88 : decode cX1_sweep 88 = .ok (.irem, 1) := by decide +kernel
theorem dX1_sweep_89 : decode cX1_sweep 89 = .ok (.ifCond .ne 9, 3) := by decide +kernel
theorem dX1_sweep_92 : decode cX1_sweep 92 = .ok (.iconst 0, 1) := by decide +kernel
theorem dX1_sweep_93 : decode cX1_sweep 93 = .ok (.istore 4, 2) := by decide +kernel
theorem dX1_sweep_95 : decode cX1_sweep 95 = .ok (.goto 102, 3) := by decide +kernel
theorem dX1_sweep_98 : decode cX1_sweep 98 = .ok (.iload 5, 2) := by decide +kernel
theorem dX1_sweep_100 : decode cX1_sweep 100 = .ok (.bipush 10, 2) := by decide +kernel
theorem dX1_sweep_102 : decode cX1_sweep 102 = .ok (.irem, 1) := by decide +kernel
theorem dX1_sweep_103 : decode cX1_sweep 103 = .ok (.bipush 9, 2) := by decide +kernel
theorem dX1_sweep_105 : decode cX1_sweep 105 = .ok (.if_icmp .eq 92, 3) := by decide +kernel
theorem dX1_sweep_108 : decode cX1_sweep 108 = .ok (.iload 5, 2) := by decide +kernel
theorem dX1_sweep_110 : decode cX1_sweep 110 = .ok (.iconst 2, 1) := by decide +kernel
theorem dX1_sweep_111 : decode cX1_sweep 111 = .ok (.irem, 1) := by decide +kernel
theorem dX1_sweep_112 : decode cX1_sweep 112 = .ok (.iconst 1, 1) := by decide +kernel
theorem dX1_sweep_113 : decode cX1_sweep 113 = .ok (.if_icmp .ne 7, 3) := by decide +kernel
theorem dX1_sweep_116 : decode cX1_sweep 116 = .ok (.iload_n 2, 1) := by decide +kernel
theorem dX1_sweep_117 : decode cX1_sweep 117 = .ok (.goto 4, 3) := by decide +kernel
theorem dX1_sweep_120 : decode cX1_sweep 120 = .ok (.iload_n 3, 1) := by decide +kernel
theorem dX1_sweep_121 : decode cX1_sweep 121 = .ok (.istore 6, 2) := by decide +kernel
theorem dX1_sweep_123 : decode cX1_sweep 123 = .ok (.aload_n 0, 1) := by decide +kernel
theorem dX1_sweep_124 : decode cX1_sweep 124 = .ok (.iload 6, 2) := by decide +kernel
theorem dX1_sweep_126 : decode cX1_sweep 126 = .ok (.invokevirtual 43, 3) := by decide +kernel
theorem dX1_sweep_129 : decode cX1_sweep 129 = .ok (.ifCond .ne 18, 3) := by decide +kernel
theorem dX1_sweep_132 : decode cX1_sweep 132 = .ok (.aload_n 0, 1) := by decide +kernel
theorem dX1_sweep_133 : decode cX1_sweep 133 = .ok (.iload_n 1, 1) := by decide +kernel
theorem dX1_sweep_134 : decode cX1_sweep 134 = .ok (.iload 5, 2) := by decide +kernel
theorem dX1_sweep_136 : decode cX1_sweep 136 = .ok (.invokevirtual 53, 3) := by decide +kernel
theorem dX1_sweep_139 : decode cX1_sweep 139 = .ok (.aload_n 0, 1) := by decide +kernel
theorem dX1_sweep_140 : decode cX1_sweep 140 = .ok (.iconst 1, 1) := by decide +kernel
theorem dX1_sweep_141 : decode cX1_sweep 141 = .ok (.bipush (-3), 2) := by decide +kernel
theorem dX1_sweep_143 : decode cX1_sweep 143 = .ok (.invokevirtual 49, 3) := by decide +kernel
theorem dX1_sweep_146 : decode cX1_sweep 146 = .ok (.ireturn, 1) := by decide +kernel
theorem dX1_sweep_147 : decode cX1_sweep 147 = .ok (.aload_n 0, 1) := by decide +kernel
theorem dX1_sweep_148 : decode cX1_sweep 148 = .ok (.iload 6, 2) := by decide +kernel
theorem dX1_sweep_150 : decode cX1_sweep 150 = .ok (.invokevirtual 46, 3) := by decide +kernel
theorem dX1_sweep_153 : decode cX1_sweep 153 = .ok (.ifCond .eq 18, 3) := by decide +kernel
theorem dX1_sweep_156 : decode cX1_sweep 156 = .ok (.aload_n 0, 1) := by decide +kernel
theorem dX1_sweep_157 : decode cX1_sweep 157 = .ok (.iload_n 1, 1) := by decide +kernel
theorem dX1_sweep_158 : decode cX1_sweep 158 = .ok (.iload 5, 2) := by decide +kernel
theorem dX1_sweep_160 : decode cX1_sweep 160 = .ok (.invokevirtual 53, 3) := by decide +kernel
theorem dX1_sweep_163 : decode cX1_sweep 163 = .ok (.aload_n 0, 1) := by decide +kernel
theorem dX1_sweep_164 : decode cX1_sweep 164 = .ok (.iconst 2, 1) := by decide +kernel
theorem dX1_sweep_165 : decode cX1_sweep 165 = .ok (.bipush (-4), 2) := by decide +kernel
theorem dX1_sweep_167 : decode cX1_sweep 167 = .ok (.invokevirtual 49, 3) := by decide +kernel
theorem dX1_sweep_170 : decode cX1_sweep 170 = .ok (.ireturn, 1) := by decide +kernel
theorem dX1_sweep_171 : decode cX1_sweep 171 = .ok (.aload_n 0, 1) := by decide +kernel
theorem dX1_sweep_172 : decode cX1_sweep 172 = .ok (.iload 6, 2) := by decide +kernel
theorem dX1_sweep_174 : decode cX1_sweep 174 = .ok (.iload 5, 2) := by decide +kernel
theorem dX1_sweep_176 : decode cX1_sweep 176 = .ok (.invokevirtual 53, 3) := by decide +kernel
theorem dX1_sweep_179 : decode cX1_sweep 179 = .ok (.aload_n 0, 1) := by decide +kernel
theorem dX1_sweep_180 : decode cX1_sweep 180 = .ok (.dup, 1) := by decide +kernel
theorem dX1_sweep_181 : decode cX1_sweep 181 = .ok (.getfield 61, 3) := by decide +kernel
theorem dX1_sweep_184 : decode cX1_sweep 184 = .ok (.iconst 1, 1) := by decide +kernel
theorem dX1_sweep_185 : decode cX1_sweep 185 = .ok (.iadd, 1) := by decide +kernel
theorem dX1_sweep_186 : decode cX1_sweep 186 = .ok (.putfield 61, 3) := by decide +kernel
theorem dX1_sweep_189 : decode cX1_sweep 189 = .ok (.aload_n 0, 1) := by decide +kernel
theorem dX1_sweep_190 : decode cX1_sweep 190 = .ok (.iconst 1, 1) := by decide +kernel
theorem dX1_sweep_191 : decode cX1_sweep 191 = .ok (.iconst 0, 1) := by decide +kernel
theorem dX1_sweep_192 : decode cX1_sweep 192 = .ok (.invokevirtual 49, 3) := by decide +kernel
theorem dX1_sweep_195 : decode cX1_sweep 195 = .ok (.istore 7, 2) := by decide +kernel
theorem dX1_sweep_197 : decode cX1_sweep 197 = .ok (.goto (-144), 3) := by decide +kernel
theorem dX1_sweep_200 : decode cX1_sweep 200 = .ok (.aload_n 0, 1) := by decide +kernel
theorem dX1_sweep_201 : decode cX1_sweep 201 = .ok (.iconst 1, 1) := by decide +kernel
theorem dX1_sweep_202 : decode cX1_sweep 202 = .ok (.aload_n 0, 1) := by decide +kernel
theorem dX1_sweep_203 : decode cX1_sweep 203 = .ok (.getfield 61, 3) := by decide +kernel
theorem dX1_sweep_206 : decode cX1_sweep 206 = .ok (.invokevirtual 49, 3) := by decide +kernel
theorem dX1_sweep_209 : decode cX1_sweep 209 = .ok (.ireturn, 1) := by decide +kernel
set_option maxRecDepth 20000 in
theorem ggX1_tour_X1_in : GoodIn wsX1_tour wsX1_in := goodIn_r _ [6] (by decide +kernel) (by decide +kernel)
set_option maxRecDepth 20000 in
theorem gX1_tour_X1_in : GoodIn wsX1_tour (va_wsS RX1 19 yX1_in wsX1_in) := goodIn_app (goodIn_of _ (by decide +kernel)) ggX1_tour_X1_in
set_option maxRecDepth 20000 in
theorem ggX1_tour_X1_trackOf : GoodIn wsX1_tour wsX1_trackOf := goodIn_r _ [9] (by decide +kernel) (by decide +kernel)
set_option maxRecDepth 20000 in
theorem gX1_tour_X1_trackOf : GoodIn wsX1_tour (va_wsS RX1 64 yX1_trackOf wsX1_trackOf) := goodIn_app (goodIn_of _ (by decide +kernel)) ggX1_tour_X1_trackOf
set_option maxRecDepth 20000 in
theorem ggX1_tour_X1_holds : GoodIn wsX1_tour wsX1_holds := goodIn_r _ [13, 14, 15, 16, 17, 18, 29, 30, 31, 32, 33, 34, 35, 36, 37] (by decide +kernel) (by decide +kernel)
set_option maxRecDepth 20000 in
theorem gX1_tour_X1_holds : GoodIn wsX1_tour (wsV RX1 43 RX1 yX1_holds wsX1_holds) := goodIn_app (goodIn_of _ (by decide +kernel)) ggX1_tour_X1_holds
set_option maxRecDepth 20000 in
theorem ggX1_tour_X1_last : GoodIn wsX1_tour wsX1_last := goodIn_r _ [22, 23, 2, 29, 30, 31, 32, 33, 34, 35, 36, 37] (by decide +kernel) (by decide +kernel)
set_option maxRecDepth 20000 in
theorem gX1_tour_X1_last : GoodIn wsX1_tour (wsV RX1 57 RX1 yX1_last wsX1_last) := goodIn_app (goodIn_of _ (by decide +kernel)) ggX1_tour_X1_last
set_option maxRecDepth 20000 in
theorem ggX1_tour_X1_goes : GoodIn wsX1_tour wsX1_goes := goodIn_r _ [27, 17, 28, 29, 30, 31, 32, 33, 34, 35, 36, 37] (by decide +kernel) (by decide +kernel)
set_option maxRecDepth 20000 in
theorem gX1_tour_X1_goes : GoodIn wsX1_tour (wsV RX1 49 RX1 yX1_goes wsX1_goes) := goodIn_app (goodIn_of _ (by decide +kernel)) ggX1_tour_X1_goes
theorem dX1_tour_0 : decode cX1_tour 0 = .ok (.iload_n 3, 1) := by decide +kernel
theorem dX1_tour_1 : decode cX1_tour 1 = .ok (.iconst 1, 1) := by decide +kernel
theorem dX1_tour_2 : decode cX1_tour 2 = .ok (.bipush 16, 2) := by decide +kernel
theorem dX1_tour_4 : decode cX1_tour 4 = .ok (.invokestatic 19, 3) := by decide +kernel
theorem dX1_tour_7 : decode cX1_tour 7 = .ok (.ifCond .ne 6, 3) := by decide +kernel
theorem dX1_tour_10 : decode cX1_tour 10 = .ok (.bipush (-2), 2) := by decide +kernel
theorem dX1_tour_12 : decode cX1_tour 12 = .ok (.ireturn, 1) := by decide +kernel
theorem dX1_tour_13 : decode cX1_tour 13 = .ok (.aload_n 0, 1) := by decide +kernel
theorem dX1_tour_14 : decode cX1_tour 14 = .ok (.iconst 0, 1) := by decide +kernel
theorem dX1_tour_15 : decode cX1_tour 15 = .ok (.putfield 61, 3) := by decide +kernel
theorem dX1_tour_18 : decode cX1_tour 18 = .ok (.iconst 0, 1) := by decide +kernel
theorem dX1_tour_19 : decode cX1_tour 19 = .ok (.istore 4, 2) := by decide +kernel
theorem dX1_tour_21 : decode cX1_tour 21 = .ok (.iconst 1, 1) := by decide +kernel
theorem dX1_tour_22 : decode cX1_tour 22 = .ok (.istore 5, 2) := by decide +kernel
theorem dX1_tour_24 : decode cX1_tour 24 = .ok (.iconst 0, 1) := by decide +kernel
theorem dX1_tour_25 : decode cX1_tour 25 = .ok (.istore 6, 2) := by decide +kernel
theorem dX1_tour_27 : decode cX1_tour 27 = .ok (.iload 6, 2) := by decide +kernel
theorem dX1_tour_29 : decode cX1_tour 29 = .ok (.iload_n 3, 1) := by decide +kernel
theorem dX1_tour_30 : decode cX1_tour 30 = .ok (.if_icmp .ge 104, 3) := by decide +kernel
theorem dX1_tour_33 : decode cX1_tour 33 = .ok (.iload 5, 2) := by decide +kernel
theorem dX1_tour_35 : decode cX1_tour 35 = .ok (.ifCond .eq 99, 3) := by decide +kernel
theorem dX1_tour_38 : decode cX1_tour 38 = .ok (.lload_n 1, 1) := by decide +kernel
theorem dX1_tour_39 : decode cX1_tour 39 = .ok (.iload 6, 2) := by decide +kernel
theorem dX1_tour_41 : decode cX1_tour 41 = .ok (.invokestatic 64, 3) := by decide +kernel
theorem dX1_tour_44 : decode cX1_tour 44 = .ok (.istore 7, 2) := by decide +kernel
theorem dX1_tour_46 : decode cX1_tour 46 = .ok (.aload_n 0, 1) := by decide +kernel
theorem dX1_tour_47 : decode cX1_tour 47 = .ok (.iload 7, 2) := by decide +kernel
theorem dX1_tour_49 : decode cX1_tour 49 = .ok (.invokevirtual 43, 3) := by decide +kernel
theorem dX1_tour_52 : decode cX1_tour 52 = .ok (.ifCond .ne 6, 3) := by decide +kernel
theorem dX1_tour_55 : decode cX1_tour 55 = .ok (.bipush (-3), 2) := by decide +kernel
theorem dX1_tour_57 : decode cX1_tour 57 = .ok (.ireturn, 1) := by decide +kernel
theorem dX1_tour_58 : decode cX1_tour 58 = .ok (.aload_n 0, 1) := by decide +kernel
theorem dX1_tour_59 : decode cX1_tour 59 = .ok (.getfield 13, 3) := by decide +kernel
theorem dX1_tour_62 : decode cX1_tour 62 = .ok (.iload 7, 2) := by decide +kernel
theorem dX1_tour_64 : decode cX1_tour 64 = .ok (.iaload, 1) := by decide +kernel
theorem dX1_tour_65 : decode cX1_tour 65 = .ok (.ifCond .ne 9, 3) := by decide +kernel
theorem dX1_tour_68 : decode cX1_tour 68 = .ok (.iconst 0, 1) := by decide +kernel
theorem dX1_tour_69 : decode cX1_tour 69 = .ok (.istore 5, 2) := by decide +kernel
theorem dX1_tour_71 : decode cX1_tour 71 = .ok (.goto 49, 3) := by decide +kernel
theorem dX1_tour_74 : decode cX1_tour 74 = .ok (.aload_n 0, 1) := by decide +kernel
theorem dX1_tour_75 : decode cX1_tour 75 = .ok (.iload 7, 2) := by decide +kernel
theorem dX1_tour_77 : decode cX1_tour 77 = .ok (.invokevirtual 57, 3) := by decide +kernel
theorem dX1_tour_80 : decode cX1_tour 80 = .ok (.bipush 10, 2) := by decide +kernel
theorem dX1_tour_82 : decode cX1_tour 82 = .ok (.irem, 1) := by decide +kernel
theorem dX1_tour_83 : decode cX1_tour 83 = .ok (.bipush 9, 2) := by decide +kernel
theorem dX1_tour_85 : decode cX1_tour 85 = .ok (.if_icmp .eq 35, 3) := by decide +kernel
theorem dX1_tour_88 : decode cX1_tour 88 = .ok (.iload 4, 2) := by decide +kernel
theorem dX1_tour_90 : decode cX1_tour 90 = .ok (.aload_n 0, 1) := by decide +kernel
theorem dX1_tour_91 : decode cX1_tour 91 = .ok (.iload 7, 2) := by decide +kernel
theorem dX1_tour_93 : decode cX1_tour 93 = .ok (.invokevirtual 57, 3) := by decide +kernel
theorem dX1_tour_96 : decode cX1_tour 96 = .ok (.iadd, 1) := by decide +kernel
theorem dX1_tour_97 : decode cX1_tour 97 = .ok (.istore 4, 2) := by decide +kernel
theorem dX1_tour_99 : decode cX1_tour 99 = .ok (.aload_n 0, 1) := by decide +kernel
theorem dX1_tour_100 : decode cX1_tour 100 = .ok (.getfield 13, 3) := by decide +kernel
theorem dX1_tour_103 : decode cX1_tour 103 = .ok (.iload 7, 2) := by decide +kernel
theorem dX1_tour_105 : decode cX1_tour 105 = .ok (.dup2, 1) := by decide +kernel
theorem dX1_tour_106 : decode cX1_tour 106 = .ok (.iaload, 1) := by decide +kernel
theorem dX1_tour_107 : decode cX1_tour 107 = .ok (.iconst 1, 1) := by decide +kernel
theorem dX1_tour_108 : decode cX1_tour 108 = .ok (.isub, 1) := by decide +kernel
theorem dX1_tour_109 : decode cX1_tour 109 = .ok (.iastore, 1) := by decide +kernel
theorem dX1_tour_110 : decode cX1_tour 110 = .ok (.aload_n 0, 1) := by decide +kernel
theorem dX1_tour_111 : decode cX1_tour 111 = .ok (.dup, 1) := by decide +kernel
theorem dX1_tour_112 : decode cX1_tour 112 = .ok (.getfield 61, 3) := by decide +kernel
theorem dX1_tour_115 : decode cX1_tour 115 = .ok (.iconst 1, 1) := by decide +kernel
theorem dX1_tour_116 : decode cX1_tour 116 = .ok (.iadd, 1) := by decide +kernel
theorem dX1_tour_117 : decode cX1_tour 117 = .ok (.putfield 61, 3) := by decide +kernel
theorem dX1_tour_120 : decode cX1_tour 120 = .ok (.aload_n 0, 1) := by decide +kernel
theorem dX1_tour_121 : decode cX1_tour 121 = .ok (.iconst 1, 1) := by decide +kernel
theorem dX1_tour_122 : decode cX1_tour 122 = .ok (.iconst 0, 1) := by decide +kernel
theorem dX1_tour_123 : decode cX1_tour 123 = .ok (.invokevirtual 49, 3) := by decide +kernel
theorem dX1_tour_126 : decode cX1_tour 126 = .ok (.istore 8, 2) := by decide +kernel
theorem dX1_tour_128 : decode cX1_tour 128 = .ok (.iinc 6 1, 3) := by decide +kernel
theorem dX1_tour_131 : decode cX1_tour 131 = .ok (.goto (-104), 3) := by decide +kernel
theorem dX1_tour_134 : decode cX1_tour 134 = .ok (.iload 4, 2) := by decide +kernel
theorem dX1_tour_136 : decode cX1_tour 136 = .ok (.ireturn, 1) := by decide +kernel
set_option maxRecDepth 20000 in
theorem ggX1_chain_X1_in : GoodIn wsX1_chain wsX1_in := goodIn_r _ [5] (by decide +kernel) (by decide +kernel)
set_option maxRecDepth 20000 in
theorem gX1_chain_X1_in : GoodIn wsX1_chain (va_wsS RX1 19 yX1_in wsX1_in) := goodIn_app (goodIn_of _ (by decide +kernel)) ggX1_chain_X1_in
set_option maxRecDepth 20000 in
theorem ggX1_chain_X1_trackOf : GoodIn wsX1_chain wsX1_trackOf := goodIn_r _ [8] (by decide +kernel) (by decide +kernel)
set_option maxRecDepth 20000 in
theorem gX1_chain_X1_trackOf : GoodIn wsX1_chain (va_wsS RX1 64 yX1_trackOf wsX1_trackOf) := goodIn_app (goodIn_of _ (by decide +kernel)) ggX1_chain_X1_trackOf
set_option maxRecDepth 20000 in
theorem ggX1_chain_X1_holds : GoodIn wsX1_chain wsX1_holds := goodIn_r _ [12, 13, 14, 15, 16, 17, 23, 24, 25, 26, 27, 28, 29, 30, 31] (by decide +kernel) (by decide +kernel)
set_option maxRecDepth 20000 in
theorem gX1_chain_X1_holds : GoodIn wsX1_chain (wsV RX1 43 RX1 yX1_holds wsX1_holds) := goodIn_app (goodIn_of _ (by decide +kernel)) ggX1_chain_X1_holds
set_option maxRecDepth 20000 in
theorem ggX1_chain_X1_goes : GoodIn wsX1_chain wsX1_goes := goodIn_r _ [21, 16, 22, 23, 24, 25, 26, 27, 28, 29, 30, 31] (by decide +kernel) (by decide +kernel)
set_option maxRecDepth 20000 in
theorem gX1_chain_X1_goes : GoodIn wsX1_chain (wsV RX1 49 RX1 yX1_goes wsX1_goes) := goodIn_app (goodIn_of _ (by decide +kernel)) ggX1_chain_X1_goes
theorem dX1_chain_0 : decode cX1_chain 0 = .ok (.iload_n 3, 1) := by decide +kernel
theorem dX1_chain_1 : decode cX1_chain 1 = .ok (.iconst 1, 1) := by decide +kernel
theorem dX1_chain_2 : decode cX1_chain 2 = .ok (.bipush 16, 2) := by decide +kernel
theorem dX1_chain_4 : decode cX1_chain 4 = .ok (.invokestatic 19, 3) := by decide +kernel
theorem dX1_chain_7 : decode cX1_chain 7 = .ok (.ifCond .ne 6, 3) := by decide +kernel
theorem dX1_chain_10 : decode cX1_chain 10 = .ok (.bipush (-2), 2) := by decide +kernel
theorem dX1_chain_12 : decode cX1_chain 12 = .ok (.ireturn, 1) := by decide +kernel
theorem dX1_chain_13 : decode cX1_chain 13 = .ok (.iconst 0, 1) := by decide +kernel
theorem dX1_chain_14 : decode cX1_chain 14 = .ok (.istore 4, 2) := by decide +kernel
theorem dX1_chain_16 : decode cX1_chain 16 = .ok (.iconst 0, 1) := by decide +kernel
theorem dX1_chain_17 : decode cX1_chain 17 = .ok (.istore 5, 2) := by decide +kernel
theorem dX1_chain_19 : decode cX1_chain 19 = .ok (.iload 5, 2) := by decide +kernel
theorem dX1_chain_21 : decode cX1_chain 21 = .ok (.iload_n 3, 1) := by decide +kernel
theorem dX1_chain_22 : decode cX1_chain 22 = .ok (.if_icmp .ge 47, 3) := by decide +kernel
theorem dX1_chain_25 : decode cX1_chain 25 = .ok (.lload_n 1, 1) := by decide +kernel
theorem dX1_chain_26 : decode cX1_chain 26 = .ok (.iload 5, 2) := by decide +kernel
theorem dX1_chain_28 : decode cX1_chain 28 = .ok (.invokestatic 64, 3) := by decide +kernel
theorem dX1_chain_31 : decode cX1_chain 31 = .ok (.istore 6, 2) := by decide +kernel
theorem dX1_chain_33 : decode cX1_chain 33 = .ok (.aload_n 0, 1) := by decide +kernel
theorem dX1_chain_34 : decode cX1_chain 34 = .ok (.iload 6, 2) := by decide +kernel
theorem dX1_chain_36 : decode cX1_chain 36 = .ok (.invokevirtual 43, 3) := by decide +kernel
theorem dX1_chain_39 : decode cX1_chain 39 = .ok (.ifCond .ne 12, 3) := by decide +kernel
theorem dX1_chain_42 : decode cX1_chain 42 = .ok (.aload_n 0, 1) := by decide +kernel
theorem dX1_chain_43 : decode cX1_chain 43 = .ok (.iload 5, 2) := by decide +kernel
theorem dX1_chain_45 : decode cX1_chain 45 = .ok (.bipush (-3), 2) := by decide +kernel
theorem dX1_chain_47 : decode cX1_chain 47 = .ok (.invokevirtual 49, 3) := by decide +kernel
theorem dX1_chain_50 : decode cX1_chain 50 = .ok (.ireturn, 1) := by decide +kernel
theorem dX1_chain_51 : decode cX1_chain 51 = .ok (.iload 4, 2) := by decide +kernel
theorem dX1_chain_53 : decode cX1_chain 53 = .ok (.aload_n 0, 1) := by decide +kernel
theorem dX1_chain_54 : decode cX1_chain 54 = .ok (.getfield 13, 3) := by decide +kernel
theorem dX1_chain_57 : decode cX1_chain 57 = .ok (.iload 6, 2) := by decide +kernel
theorem dX1_chain_59 : decode cX1_chain 59 = .ok (.iaload, 1) := by decide +kernel
theorem dX1_chain_60 : decode cX1_chain 60 = .ok (.iadd, 1) := by decide +kernel
theorem dX1_chain_61 : decode cX1_chain 61 = .ok (.istore 4, 2) := by decide +kernel
theorem dX1_chain_63 : decode cX1_chain 63 = .ok (.iinc 5 1, 3) := by decide +kernel
theorem dX1_chain_66 : decode cX1_chain 66 = .ok (.goto (-47), 3) := by decide +kernel
theorem dX1_chain_69 : decode cX1_chain 69 = .ok (.aload_n 0, 1) := by decide +kernel
theorem dX1_chain_70 : decode cX1_chain 70 = .ok (.iload_n 3, 1) := by decide +kernel
theorem dX1_chain_71 : decode cX1_chain 71 = .ok (.iload 4, 2) := by decide +kernel
theorem dX1_chain_73 : decode cX1_chain 73 = .ok (.invokevirtual 49, 3) := by decide +kernel
theorem dX1_chain_76 : decode cX1_chain 76 = .ok (.ireturn, 1) := by decide +kernel
set_option maxRecDepth 20000 in
theorem ggX1_survey_X1_in : GoodIn wsX1_survey wsX1_in := goodIn_r _ [5] (by decide +kernel) (by decide +kernel)
set_option maxRecDepth 20000 in
theorem gX1_survey_X1_in : GoodIn wsX1_survey (va_wsS RX1 19 yX1_in wsX1_in) := goodIn_app (goodIn_of _ (by decide +kernel)) ggX1_survey_X1_in
set_option maxRecDepth 20000 in
theorem ggX1_survey_X1_trackOf : GoodIn wsX1_survey wsX1_trackOf := goodIn_r _ [8] (by decide +kernel) (by decide +kernel)
set_option maxRecDepth 20000 in
theorem gX1_survey_X1_trackOf : GoodIn wsX1_survey (va_wsS RX1 64 yX1_trackOf wsX1_trackOf) := goodIn_app (goodIn_of _ (by decide +kernel)) ggX1_survey_X1_trackOf
set_option maxRecDepth 20000 in
theorem ggX1_survey_X1_holds : GoodIn wsX1_survey wsX1_holds := goodIn_r _ [12, 13, 14, 15, 16, 17, 23, 24, 25, 26, 27, 28, 29, 30, 31] (by decide +kernel) (by decide +kernel)
set_option maxRecDepth 20000 in
theorem gX1_survey_X1_holds : GoodIn wsX1_survey (wsV RX1 43 RX1 yX1_holds wsX1_holds) := goodIn_app (goodIn_of _ (by decide +kernel)) ggX1_survey_X1_holds
set_option maxRecDepth 20000 in
theorem ggX1_survey_X1_goes : GoodIn wsX1_survey wsX1_goes := goodIn_r _ [21, 16, 22, 23, 24, 25, 26, 27, 28, 29, 30, 31] (by decide +kernel) (by decide +kernel)
set_option maxRecDepth 20000 in
theorem gX1_survey_X1_goes : GoodIn wsX1_survey (wsV RX1 49 RX1 yX1_goes wsX1_goes) := goodIn_app (goodIn_of _ (by decide +kernel)) ggX1_survey_X1_goes
theorem dX1_survey_0 : decode cX1_survey 0 = .ok (.iload_n 3, 1) := by decide +kernel
theorem dX1_survey_1 : decode cX1_survey 1 = .ok (.iconst 1, 1) := by decide +kernel
theorem dX1_survey_2 : decode cX1_survey 2 = .ok (.bipush 16, 2) := by decide +kernel
theorem dX1_survey_4 : decode cX1_survey 4 = .ok (.invokestatic 19, 3) := by decide +kernel
theorem dX1_survey_7 : decode cX1_survey 7 = .ok (.ifCond .ne 6, 3) := by decide +kernel
theorem dX1_survey_10 : decode cX1_survey 10 = .ok (.bipush (-2), 2) := by decide +kernel
theorem dX1_survey_12 : decode cX1_survey 12 = .ok (.ireturn, 1) := by decide +kernel
theorem dX1_survey_13 : decode cX1_survey 13 = .ok (.iconst 0, 1) := by decide +kernel
theorem dX1_survey_14 : decode cX1_survey 14 = .ok (.istore 4, 2) := by decide +kernel
theorem dX1_survey_16 : decode cX1_survey 16 = .ok (.iconst 0, 1) := by decide +kernel
theorem dX1_survey_17 : decode cX1_survey 17 = .ok (.istore 5, 2) := by decide +kernel
theorem dX1_survey_19 : decode cX1_survey 19 = .ok (.iload 5, 2) := by decide +kernel
theorem dX1_survey_21 : decode cX1_survey 21 = .ok (.iload_n 3, 1) := by decide +kernel
theorem dX1_survey_22 : decode cX1_survey 22 = .ok (.if_icmp .ge 43, 3) := by decide +kernel
theorem dX1_survey_25 : decode cX1_survey 25 = .ok (.lload_n 1, 1) := by decide +kernel
theorem dX1_survey_26 : decode cX1_survey 26 = .ok (.iload 5, 2) := by decide +kernel
theorem dX1_survey_28 : decode cX1_survey 28 = .ok (.invokestatic 64, 3) := by decide +kernel
theorem dX1_survey_31 : decode cX1_survey 31 = .ok (.istore 6, 2) := by decide +kernel
theorem dX1_survey_33 : decode cX1_survey 33 = .ok (.aload_n 0, 1) := by decide +kernel
theorem dX1_survey_34 : decode cX1_survey 34 = .ok (.iload 6, 2) := by decide +kernel
theorem dX1_survey_36 : decode cX1_survey 36 = .ok (.invokevirtual 43, 3) := by decide +kernel
theorem dX1_survey_39 : decode cX1_survey 39 = .ok (.ifCond .eq 20, 3) := by decide +kernel
theorem dX1_survey_42 : decode cX1_survey 42 = .ok (.iload 4, 2) := by decide +kernel
theorem dX1_survey_44 : decode cX1_survey 44 = .ok (.aload_n 0, 1) := by decide +kernel
theorem dX1_survey_45 : decode cX1_survey 45 = .ok (.iconst 1, 1) := by decide +kernel
theorem dX1_survey_46 : decode cX1_survey 46 = .ok (.aload_n 0, 1) := by decide +kernel
theorem dX1_survey_47 : decode cX1_survey 47 = .ok (.getfield 13, 3) := by decide +kernel
theorem dX1_survey_50 : decode cX1_survey 50 = .ok (.iload 6, 2) := by decide +kernel
theorem dX1_survey_52 : decode cX1_survey 52 = .ok (.iaload, 1) := by decide +kernel
theorem dX1_survey_53 : decode cX1_survey 53 = .ok (.invokevirtual 49, 3) := by decide +kernel
theorem dX1_survey_56 : decode cX1_survey 56 = .ok (.iadd, 1) := by decide +kernel
theorem dX1_survey_57 : decode cX1_survey 57 = .ok (.istore 4, 2) := by decide +kernel
theorem dX1_survey_59 : decode cX1_survey 59 = .ok (.iinc 5 1, 3) := by decide +kernel
theorem dX1_survey_62 : decode cX1_survey 62 = .ok (.goto (-43), 3) := by decide +kernel
theorem dX1_survey_65 : decode cX1_survey 65 = .ok (.iload 4, 2) := by decide +kernel
theorem dX1_survey_67 : decode cX1_survey 67 = .ok (.ireturn, 1) := by decide +kernel
set_option maxRecDepth 20000 in
theorem ggX1_turn_X1_isTrack : GoodIn wsX1_turn wsX1_isTrack := goodIn_r _ [6, 7, 8, 5, 9] (by decide +kernel) (by decide +kernel)
set_option maxRecDepth 20000 in
theorem gX1_turn_X1_isTrack : GoodIn wsX1_turn (va_wsS RX1 39 yX1_isTrack wsX1_isTrack) := goodIn_app (goodIn_of _ (by decide +kernel)) ggX1_turn_X1_isTrack
set_option maxRecDepth 20000 in
theorem ggX1_turn_X1_holds : GoodIn wsX1_turn wsX1_holds := goodIn_r _ [13, 14, 15, 16, 17, 18, 24, 25, 26, 27, 28, 29, 30, 31, 32] (by decide +kernel) (by decide +kernel)
set_option maxRecDepth 20000 in
theorem gX1_turn_X1_holds : GoodIn wsX1_turn (wsV RX1 43 RX1 yX1_holds wsX1_holds) := goodIn_app (goodIn_of _ (by decide +kernel)) ggX1_turn_X1_holds
set_option maxRecDepth 20000 in
theorem ggX1_turn_X1_goes : GoodIn wsX1_turn wsX1_goes := goodIn_r _ [22, 17, 23, 24, 25, 26, 27, 28, 29, 30, 31, 32] (by decide +kernel) (by decide +kernel)
set_option maxRecDepth 20000 in
theorem gX1_turn_X1_goes : GoodIn wsX1_turn (wsV RX1 49 RX1 yX1_goes wsX1_goes) := goodIn_app (goodIn_of _ (by decide +kernel)) ggX1_turn_X1_goes
theorem dX1_turn_0 : decode cX1_turn 0 = .ok (.iload_n 1, 1) := by decide +kernel
theorem dX1_turn_1 : decode cX1_turn 1 = .ok (.invokestatic 39, 3) := by decide +kernel
theorem dX1_turn_4 : decode cX1_turn 4 = .ok (.ifCond .ne 6, 3) := by decide +kernel
theorem dX1_turn_7 : decode cX1_turn 7 = .ok (.bipush (-2), 2) := by decide +kernel
theorem dX1_turn_9 : decode cX1_turn 9 = .ok (.ireturn, 1) := by decide +kernel
theorem dX1_turn_10 : decode cX1_turn 10 = .ok (.aload_n 0, 1) := by decide +kernel
theorem dX1_turn_11 : decode cX1_turn 11 = .ok (.iload_n 1, 1) := by decide +kernel
theorem dX1_turn_12 : decode cX1_turn 12 = .ok (.invokevirtual 43, 3) := by decide +kernel
theorem dX1_turn_15 : decode cX1_turn 15 = .ok (.ifCond .ne 6, 3) := by decide +kernel
theorem dX1_turn_18 : decode cX1_turn 18 = .ok (.bipush (-3), 2) := by decide +kernel
theorem dX1_turn_20 : decode cX1_turn 20 = .ok (.ireturn, 1) := by decide +kernel
theorem dX1_turn_21 : decode cX1_turn 21 = .ok (.aload_n 0, 1) := by decide +kernel
theorem dX1_turn_22 : decode cX1_turn 22 = .ok (.getfield 13, 3) := by decide +kernel
theorem dX1_turn_25 : decode cX1_turn 25 = .ok (.iload_n 1, 1) := by decide +kernel
theorem dX1_turn_26 : decode cX1_turn 26 = .ok (.iaload, 1) := by decide +kernel
theorem dX1_turn_27 : decode cX1_turn 27 = .ok (.istore_n 2, 1) := by decide +kernel
theorem dX1_turn_28 : decode cX1_turn 28 = .ok (.iconst 0, 1) := by decide +kernel
theorem dX1_turn_29 : decode cX1_turn 29 = .ok (.istore_n 3, 1) := by decide +kernel
theorem dX1_turn_30 : decode cX1_turn 30 = .ok (.iload_n 3, 1) := by decide +kernel
theorem dX1_turn_31 : decode cX1_turn 31 = .ok (.iload_n 2, 1) := by decide +kernel
theorem dX1_turn_32 : decode cX1_turn 32 = .ok (.iconst 2, 1) := by decide +kernel
theorem dX1_turn_33 : decode cX1_turn 33 = .ok (.idiv, 1) := by decide +kernel
theorem dX1_turn_34 : decode cX1_turn 34 = .ok (.if_icmp .ge 77, 3) := by decide +kernel
theorem dX1_turn_37 : decode cX1_turn 37 = .ok (.aload_n 0, 1) := by decide +kernel
theorem dX1_turn_38 : decode cX1_turn 38 = .ok (.iload_n 1, 1) := by decide +kernel
theorem dX1_turn_39 : decode cX1_turn 39 = .ok (.invokevirtual 43, 3) := by decide +kernel
theorem dX1_turn_42 : decode cX1_turn 42 = .ok (.ifCond .eq 63, 3) := by decide +kernel
theorem dX1_turn_45 : decode cX1_turn 45 = .ok (.bipush 12, 2) := by decide +kernel
theorem dX1_turn_47 : decode cX1_turn 47 = .ok (.iload_n 1, 1) := by decide +kernel
theorem dX1_turn_48 : decode cX1_turn 48 = .ok (.imul, 1) := by decide +kernel
theorem dX1_turn_49 : decode cX1_turn 49 = .ok (.iload_n 3, 1) := by decide +kernel
theorem dX1_turn_50 : decode cX1_turn 50 = .ok (.iadd, 1) := by decide +kernel
theorem dX1_turn_51 : decode cX1_turn 51 = .ok (.istore 4, 2) := by decide +kernel
theorem dX1_turn_53 : decode cX1_turn 53 = .ok (.bipush 12, 2) := by decide +kernel
theorem dX1_turn_55 : decode cX1_turn 55 = .ok (.iload_n 1, 1) := by decide +kernel
theorem dX1_turn_56 : decode cX1_turn 56 = .ok (.imul, 1) := by decide +kernel
theorem dX1_turn_57 : decode cX1_turn 57 = .ok (.iload_n 2, 1) := by decide +kernel
theorem dX1_turn_58 : decode cX1_turn 58 = .ok (.iadd, 1) := by decide +kernel
theorem dX1_turn_59 : decode cX1_turn 59 = .ok (.iconst 1, 1) := by decide +kernel
theorem dX1_turn_60 : decode cX1_turn 60 = .ok (.isub, 1) := by decide +kernel
theorem dX1_turn_61 : decode cX1_turn 61 = .ok (.iload_n 3, 1) := by decide +kernel
theorem dX1_turn_62 : decode cX1_turn 62 = .ok (.isub, 1) := by decide +kernel
theorem dX1_turn_63 : decode cX1_turn 63 = .ok (.istore 5, 2) := by decide +kernel
theorem dX1_turn_65 : decode cX1_turn 65 = .ok (.aload_n 0, 1) := by decide +kernel
theorem dX1_turn_66 : decode cX1_turn 66 = .ok (.getfield 16, 3) := by decide +kernel
theorem dX1_turn_69 : decode cX1_turn 69 = .ok (.iload 4, 2) := by decide +kernel
theorem dX1_turn_71 : decode cX1_turn 71 = .ok (.iaload, 1) := by decide +kernel
theorem dX1_turn_72 : decode cX1_turn 72 = .ok (.istore 6, 2) := by decide +kernel
theorem dX1_turn_74 : decode cX1_turn 74 = .ok (.aload_n 0, 1) := by decide +kernel
theorem dX1_turn_75 : decode cX1_turn 75 = .ok (.getfield 16, 3) := by decide +kernel
theorem dX1_turn_78 : decode cX1_turn 78 = .ok (.iload 4, 2) := by decide +kernel
theorem dX1_turn_80 : decode cX1_turn 80 = .ok (.aload_n 0, 1) := by decide +kernel
theorem dX1_turn_81 : decode cX1_turn 81 = .ok (.getfield 16, 3) := by decide +kernel
theorem dX1_turn_84 : decode cX1_turn 84 = .ok (.iload 5, 2) := by decide +kernel
theorem dX1_turn_86 : decode cX1_turn 86 = .ok (.iaload, 1) := by decide +kernel
theorem dX1_turn_87 : decode cX1_turn 87 = .ok (.iastore, 1) := by decide +kernel
theorem dX1_turn_88 : decode cX1_turn 88 = .ok (.aload_n 0, 1) := by decide +kernel
theorem dX1_turn_89 : decode cX1_turn 89 = .ok (.getfield 16, 3) := by decide +kernel
theorem dX1_turn_92 : decode cX1_turn 92 = .ok (.iload 5, 2) := by decide +kernel
theorem dX1_turn_94 : decode cX1_turn 94 = .ok (.iload 6, 2) := by decide +kernel
theorem dX1_turn_96 : decode cX1_turn 96 = .ok (.iastore, 1) := by decide +kernel
theorem dX1_turn_97 : decode cX1_turn 97 = .ok (.aload_n 0, 1) := by decide +kernel
theorem dX1_turn_98 : decode cX1_turn 98 = .ok (.iconst 1, 1) := by decide +kernel
theorem dX1_turn_99 : decode cX1_turn 99 = .ok (.iconst 0, 1) := by decide +kernel
theorem dX1_turn_100 : decode cX1_turn 100 = .ok (.invokevirtual 49, 3) := by decide +kernel
theorem dX1_turn_103 : decode cX1_turn 103 = .ok (.istore 7, 2) := by decide +kernel
theorem dX1_turn_105 : decode cX1_turn 105 = .ok (.iinc 3 1, 3) := by decide +kernel
theorem dX1_turn_108 : decode cX1_turn 108 = .ok (.goto (-78), 3) := by decide +kernel
theorem dX1_turn_111 : decode cX1_turn 111 = .ok (.aload_n 0, 1) := by decide +kernel
theorem dX1_turn_112 : decode cX1_turn 112 = .ok (.iconst 1, 1) := by decide +kernel
theorem dX1_turn_113 : decode cX1_turn 113 = .ok (.iload_n 2, 1) := by decide +kernel
theorem dX1_turn_114 : decode cX1_turn 114 = .ok (.invokevirtual 49, 3) := by decide +kernel
theorem dX1_turn_117 : decode cX1_turn 117 = .ok (.ireturn, 1) := by decide +kernel
set_option maxRecDepth 20000 in
theorem ggX1_swap_X1_isTrack : GoodIn wsX1_swap wsX1_isTrack := goodIn_r _ [7, 8, 9, 6, 10] (by decide +kernel) (by decide +kernel)
set_option maxRecDepth 20000 in
theorem gX1_swap_X1_isTrack : GoodIn wsX1_swap (va_wsS RX1 39 yX1_isTrack wsX1_isTrack) := goodIn_app (goodIn_of _ (by decide +kernel)) ggX1_swap_X1_isTrack
set_option maxRecDepth 20000 in
theorem ggX1_swap_X1_holds : GoodIn wsX1_swap wsX1_holds := goodIn_r _ [14, 15, 2, 16, 17, 18, 24, 25, 26, 27, 28, 29, 30, 31, 32] (by decide +kernel) (by decide +kernel)
set_option maxRecDepth 20000 in
theorem gX1_swap_X1_holds : GoodIn wsX1_swap (wsV RX1 43 RX1 yX1_holds wsX1_holds) := goodIn_app (goodIn_of _ (by decide +kernel)) ggX1_swap_X1_holds
set_option maxRecDepth 20000 in
theorem ggX1_swap_X1_goes : GoodIn wsX1_swap wsX1_goes := goodIn_r _ [22, 17, 23, 24, 25, 26, 27, 28, 29, 30, 31, 32] (by decide +kernel) (by decide +kernel)
set_option maxRecDepth 20000 in
theorem gX1_swap_X1_goes : GoodIn wsX1_swap (wsV RX1 49 RX1 yX1_goes wsX1_goes) := goodIn_app (goodIn_of _ (by decide +kernel)) ggX1_swap_X1_goes
theorem dX1_swap_0 : decode cX1_swap 0 = .ok (.iload_n 1, 1) := by decide +kernel
theorem dX1_swap_1 : decode cX1_swap 1 = .ok (.invokestatic 39, 3) := by decide +kernel
theorem dX1_swap_4 : decode cX1_swap 4 = .ok (.ifCond .eq 10, 3) := by decide +kernel
theorem dX1_swap_7 : decode cX1_swap 7 = .ok (.iload_n 2, 1) := by decide +kernel
theorem dX1_swap_8 : decode cX1_swap 8 = .ok (.invokestatic 39, 3) := by decide +kernel
theorem dX1_swap_11 : decode cX1_swap 11 = .ok (.ifCond .ne 6, 3) := by decide +kernel
theorem dX1_swap_14 : decode cX1_swap 14 = .ok (.bipush (-2), 2) := by decide +kernel
theorem dX1_swap_16 : decode cX1_swap 16 = .ok (.ireturn, 1) := by decide +kernel
theorem dX1_swap_17 : decode cX1_swap 17 = .ok (.aload_n 0, 1) := by decide +kernel
theorem dX1_swap_18 : decode cX1_swap 18 = .ok (.iload_n 1, 1) := by decide +kernel
theorem dX1_swap_19 : decode cX1_swap 19 = .ok (.invokevirtual 43, 3) := by decide +kernel
theorem dX1_swap_22 : decode cX1_swap 22 = .ok (.ifCond .ne 6, 3) := by decide +kernel
theorem dX1_swap_25 : decode cX1_swap 25 = .ok (.bipush (-3), 2) := by decide +kernel
theorem dX1_swap_27 : decode cX1_swap 27 = .ok (.ireturn, 1) := by decide +kernel
theorem dX1_swap_28 : decode cX1_swap 28 = .ok (.aload_n 0, 1) := by decide +kernel
theorem dX1_swap_29 : decode cX1_swap 29 = .ok (.iload_n 2, 1) := by decide +kernel
theorem dX1_swap_30 : decode cX1_swap 30 = .ok (.invokevirtual 43, 3) := by decide +kernel
theorem dX1_swap_33 : decode cX1_swap 33 = .ok (.ifCond .ne 11, 3) := by decide +kernel
theorem dX1_swap_36 : decode cX1_swap 36 = .ok (.aload_n 0, 1) := by decide +kernel
theorem dX1_swap_37 : decode cX1_swap 37 = .ok (.iconst 1, 1) := by decide +kernel
theorem dX1_swap_38 : decode cX1_swap 38 = .ok (.bipush (-3), 2) := by decide +kernel
theorem dX1_swap_40 : decode cX1_swap 40 = .ok (.invokevirtual 49, 3) := by decide +kernel
theorem dX1_swap_43 : decode cX1_swap 43 = .ok (.ireturn, 1) := by decide +kernel
theorem dX1_swap_44 : decode cX1_swap 44 = .ok (.aload_n 0, 1) := by decide +kernel
theorem dX1_swap_45 : decode cX1_swap 45 = .ok (.iload_n 1, 1) := by decide +kernel
theorem dX1_swap_46 : decode cX1_swap 46 = .ok (.invokevirtual 43, 3) := by decide +kernel
theorem dX1_swap_49 : decode cX1_swap 49 = .ok (.ifCond .eq 33, 3) := by decide +kernel
theorem dX1_swap_52 : decode cX1_swap 52 = .ok (.aload_n 0, 1) := by decide +kernel
theorem dX1_swap_53 : decode cX1_swap 53 = .ok (.getfield 13, 3) := by decide +kernel
theorem dX1_swap_56 : decode cX1_swap 56 = .ok (.iload_n 1, 1) := by decide +kernel
theorem dX1_swap_57 : decode cX1_swap 57 = .ok (.iaload, 1) := by decide +kernel
theorem dX1_swap_58 : decode cX1_swap 58 = .ok (.aload_n 0, 1) := by decide +kernel
theorem dX1_swap_59 : decode cX1_swap 59 = .ok (.getfield 9, 3) := by decide +kernel
theorem dX1_swap_62 : decode cX1_swap 62 = .ok (.iload_n 2, 1) := by decide +kernel
theorem dX1_swap_63 : decode cX1_swap 63 = .ok (.iaload, 1) := by decide +kernel
theorem dX1_swap_64 : decode cX1_swap 64 = .ok (.if_icmp .gt 18, 3) := by decide +kernel
theorem dX1_swap_67 : decode cX1_swap 67 = .ok (.aload_n 0, 1) := by decide +kernel
theorem dX1_swap_68 : decode cX1_swap 68 = .ok (.getfield 13, 3) := by decide +kernel
theorem dX1_swap_71 : decode cX1_swap 71 = .ok (.iload_n 2, 1) := by decide +kernel
theorem dX1_swap_72 : decode cX1_swap 72 = .ok (.iaload, 1) := by decide +kernel
theorem dX1_swap_73 : decode cX1_swap 73 = .ok (.aload_n 0, 1) := by decide +kernel
theorem dX1_swap_74 : decode cX1_swap 74 = .ok (.getfield 9, 3) := by decide +kernel
theorem dX1_swap_77 : decode cX1_swap 77 = .ok (.iload_n 1, 1) := by decide +kernel
theorem dX1_swap_78 : decode cX1_swap 78 = .ok (.iaload, 1) := by decide +kernel
theorem dX1_swap_79 : decode cX1_swap 79 = .ok (.if_icmp .le 11, 3) := by decide +kernel
theorem dX1_swap_82 : decode cX1_swap 82 = .ok (.aload_n 0, 1) := by decide +kernel
theorem dX1_swap_83 : decode cX1_swap 83 = .ok (.iconst 3, 1) := by decide +kernel
theorem dX1_swap_84 : decode cX1_swap 84 = .ok (.bipush (-4), 2) := by decide +kernel
theorem dX1_swap_86 : decode cX1_swap 86 = .ok (.invokevirtual 49, 3) := by decide +kernel
theorem dX1_swap_89 : decode cX1_swap 89 = .ok (.ireturn, 1) := by decide +kernel
theorem dX1_swap_90 : decode cX1_swap 90 = .ok (.iconst 0, 1) := by decide +kernel
theorem dX1_swap_91 : decode cX1_swap 91 = .ok (.istore_n 3, 1) := by decide +kernel
theorem dX1_swap_92 : decode cX1_swap 92 = .ok (.iload_n 3, 1) := by decide +kernel
theorem dX1_swap_93 : decode cX1_swap 93 = .ok (.bipush 12, 2) := by decide +kernel
theorem dX1_swap_95 : decode cX1_swap 95 = .ok (.if_icmp .ge 57, 3) := by decide +kernel
theorem dX1_swap_98 : decode cX1_swap 98 = .ok (.aload_n 0, 1) := by decide +kernel
theorem dX1_swap_99 : decode cX1_swap 99 = .ok (.getfield 16, 3) := by decide +kernel
theorem dX1_swap_102 : decode cX1_swap 102 = .ok (.bipush 12, 2) := by decide +kernel
theorem dX1_swap_104 : decode cX1_swap 104 = .ok (.iload_n 1, 1) := by decide +kernel
theorem dX1_swap_105 : decode cX1_swap 105 = .ok (.imul, 1) := by decide +kernel
theorem dX1_swap_106 : decode cX1_swap 106 = .ok (.iload_n 3, 1) := by decide +kernel
theorem dX1_swap_107 : decode cX1_swap 107 = .ok (.iadd, 1) := by decide +kernel
theorem dX1_swap_108 : decode cX1_swap 108 = .ok (.iaload, 1) := by decide +kernel
theorem dX1_swap_109 : decode cX1_swap 109 = .ok (.istore 4, 2) := by decide +kernel
theorem dX1_swap_111 : decode cX1_swap 111 = .ok (.aload_n 0, 1) := by decide +kernel
theorem dX1_swap_112 : decode cX1_swap 112 = .ok (.getfield 16, 3) := by decide +kernel
theorem dX1_swap_115 : decode cX1_swap 115 = .ok (.bipush 12, 2) := by decide +kernel
theorem dX1_swap_117 : decode cX1_swap 117 = .ok (.iload_n 1, 1) := by decide +kernel
theorem dX1_swap_118 : decode cX1_swap 118 = .ok (.imul, 1) := by decide +kernel
theorem dX1_swap_119 : decode cX1_swap 119 = .ok (.iload_n 3, 1) := by decide +kernel
theorem dX1_swap_120 : decode cX1_swap 120 = .ok (.iadd, 1) := by decide +kernel
theorem dX1_swap_121 : decode cX1_swap 121 = .ok (.aload_n 0, 1) := by decide +kernel
theorem dX1_swap_122 : decode cX1_swap 122 = .ok (.getfield 16, 3) := by decide +kernel
theorem dX1_swap_125 : decode cX1_swap 125 = .ok (.bipush 12, 2) := by decide +kernel
theorem dX1_swap_127 : decode cX1_swap 127 = .ok (.iload_n 2, 1) := by decide +kernel
theorem dX1_swap_128 : decode cX1_swap 128 = .ok (.imul, 1) := by decide +kernel
theorem dX1_swap_129 : decode cX1_swap 129 = .ok (.iload_n 3, 1) := by decide +kernel
theorem dX1_swap_130 : decode cX1_swap 130 = .ok (.iadd, 1) := by decide +kernel
theorem dX1_swap_131 : decode cX1_swap 131 = .ok (.iaload, 1) := by decide +kernel
theorem dX1_swap_132 : decode cX1_swap 132 = .ok (.iastore, 1) := by decide +kernel
theorem dX1_swap_133 : decode cX1_swap 133 = .ok (.aload_n 0, 1) := by decide +kernel
theorem dX1_swap_134 : decode cX1_swap 134 = .ok (.getfield 16, 3) := by decide +kernel
theorem dX1_swap_137 : decode cX1_swap 137 = .ok (.bipush 12, 2) := by decide +kernel
theorem dX1_swap_139 : decode cX1_swap 139 = .ok (.iload_n 2, 1) := by decide +kernel
theorem dX1_swap_140 : decode cX1_swap 140 = .ok (.imul, 1) := by decide +kernel
theorem dX1_swap_141 : decode cX1_swap 141 = .ok (.iload_n 3, 1) := by decide +kernel
theorem dX1_swap_142 : decode cX1_swap 142 = .ok (.iadd, 1) := by decide +kernel
theorem dX1_swap_143 : decode cX1_swap 143 = .ok (.iload 4, 2) := by decide +kernel
theorem dX1_swap_145 : decode cX1_swap 145 = .ok (.iastore, 1) := by decide +kernel
theorem dX1_swap_146 : decode cX1_swap 146 = .ok (.iinc 3 1, 3) := by decide +kernel
theorem dX1_swap_149 : decode cX1_swap 149 = .ok (.goto (-57), 3) := by decide +kernel
theorem dX1_swap_152 : decode cX1_swap 152 = .ok (.aload_n 0, 1) := by decide +kernel
theorem dX1_swap_153 : decode cX1_swap 153 = .ok (.getfield 13, 3) := by decide +kernel
theorem dX1_swap_156 : decode cX1_swap 156 = .ok (.iload_n 1, 1) := by decide +kernel
theorem dX1_swap_157 : decode cX1_swap 157 = .ok (.iaload, 1) := by decide +kernel
theorem dX1_swap_158 : decode cX1_swap 158 = .ok (.istore_n 3, 1) := by decide +kernel
theorem dX1_swap_159 : decode cX1_swap 159 = .ok (.aload_n 0, 1) := by decide +kernel
theorem dX1_swap_160 : decode cX1_swap 160 = .ok (.getfield 13, 3) := by decide +kernel
theorem dX1_swap_163 : decode cX1_swap 163 = .ok (.iload_n 1, 1) := by decide +kernel
theorem dX1_swap_164 : decode cX1_swap 164 = .ok (.aload_n 0, 1) := by decide +kernel
theorem dX1_swap_165 : decode cX1_swap 165 = .ok (.getfield 13, 3) := by decide +kernel
theorem dX1_swap_168 : decode cX1_swap 168 = .ok (.iload_n 2, 1) := by decide +kernel
theorem dX1_swap_169 : decode cX1_swap 169 = .ok (.iaload, 1) := by decide +kernel
theorem dX1_swap_170 : decode cX1_swap 170 = .ok (.iastore, 1) := by decide +kernel
theorem dX1_swap_171 : decode cX1_swap 171 = .ok (.aload_n 0, 1) := by decide +kernel
theorem dX1_swap_172 : decode cX1_swap 172 = .ok (.getfield 13, 3) := by decide +kernel
theorem dX1_swap_175 : decode cX1_swap 175 = .ok (.iload_n 2, 1) := by decide +kernel
theorem dX1_swap_176 : decode cX1_swap 176 = .ok (.iload_n 3, 1) := by decide +kernel
theorem dX1_swap_177 : decode cX1_swap 177 = .ok (.iastore, 1) := by decide +kernel
theorem dX1_swap_178 : decode cX1_swap 178 = .ok (.aload_n 0, 1) := by decide +kernel
theorem dX1_swap_179 : decode cX1_swap 179 = .ok (.iconst 3, 1) := by decide +kernel
theorem dX1_swap_180 : decode cX1_swap 180 = .ok (.aload_n 0, 1) := by decide +kernel
theorem dX1_swap_181 : decode cX1_swap 181 = .ok (.getfield 13, 3) := by decide +kernel
theorem dX1_swap_184 : decode cX1_swap 184 = .ok (.iload_n 1, 1) := by decide +kernel
theorem dX1_swap_185 : decode cX1_swap 185 = .ok (.iaload, 1) := by decide +kernel
theorem dX1_swap_186 : decode cX1_swap 186 = .ok (.invokevirtual 49, 3) := by decide +kernel
theorem dX1_swap_189 : decode cX1_swap 189 = .ok (.ireturn, 1) := by decide +kernel
set_option maxRecDepth 20000 in
theorem ggX1_wagon_X1_isTrack : GoodIn wsX1_wagon wsX1_isTrack := goodIn_r _ [6, 7, 8, 5, 9] (by decide +kernel) (by decide +kernel)
set_option maxRecDepth 20000 in
theorem gX1_wagon_X1_isTrack : GoodIn wsX1_wagon (va_wsS RX1 39 yX1_isTrack wsX1_isTrack) := goodIn_app (goodIn_of _ (by decide +kernel)) ggX1_wagon_X1_isTrack
set_option maxRecDepth 20000 in
theorem ggX1_wagon_X1_in : GoodIn wsX1_wagon wsX1_in := goodIn_r _ [9] (by decide +kernel) (by decide +kernel)
set_option maxRecDepth 20000 in
theorem gX1_wagon_X1_in : GoodIn wsX1_wagon (va_wsS RX1 19 yX1_in wsX1_in) := goodIn_app (goodIn_of _ (by decide +kernel)) ggX1_wagon_X1_in
theorem dX1_wagon_0 : decode cX1_wagon 0 = .ok (.iload_n 1, 1) := by decide +kernel
theorem dX1_wagon_1 : decode cX1_wagon 1 = .ok (.invokestatic 39, 3) := by decide +kernel
theorem dX1_wagon_4 : decode cX1_wagon 4 = .ok (.ifCond .ne 6, 3) := by decide +kernel
theorem dX1_wagon_7 : decode cX1_wagon 7 = .ok (.bipush (-2), 2) := by decide +kernel
theorem dX1_wagon_9 : decode cX1_wagon 9 = .ok (.ireturn, 1) := by decide +kernel
theorem dX1_wagon_10 : decode cX1_wagon 10 = .ok (.iload_n 2, 1) := by decide +kernel
theorem dX1_wagon_11 : decode cX1_wagon 11 = .ok (.iconst 0, 1) := by decide +kernel
theorem dX1_wagon_12 : decode cX1_wagon 12 = .ok (.aload_n 0, 1) := by decide +kernel
theorem dX1_wagon_13 : decode cX1_wagon 13 = .ok (.getfield 13, 3) := by decide +kernel
theorem dX1_wagon_16 : decode cX1_wagon 16 = .ok (.iload_n 1, 1) := by decide +kernel
theorem dX1_wagon_17 : decode cX1_wagon 17 = .ok (.iaload, 1) := by decide +kernel
theorem dX1_wagon_18 : decode cX1_wagon 18 = .ok (.iconst 1, 1) := by decide +kernel
theorem dX1_wagon_19 : decode cX1_wagon 19 = .ok (.isub, 1) := by decide +kernel
theorem dX1_wagon_20 : decode cX1_wagon 20 = .ok (.invokestatic 19, 3) := by decide +kernel
theorem dX1_wagon_23 : decode cX1_wagon 23 = .ok (.ifCond .eq 17, 3) := by decide +kernel
theorem dX1_wagon_26 : decode cX1_wagon 26 = .ok (.aload_n 0, 1) := by decide +kernel
theorem dX1_wagon_27 : decode cX1_wagon 27 = .ok (.getfield 16, 3) := by decide +kernel
theorem dX1_wagon_30 : decode cX1_wagon 30 = .ok (.bipush 12, 2) := by decide +kernel
theorem dX1_wagon_32 : decode cX1_wagon 32 = .ok (.iload_n 1, 1) := by decide +kernel
theorem dX1_wagon_33 : decode cX1_wagon 33 = .ok (.imul, 1) := by decide +kernel
theorem dX1_wagon_34 : decode cX1_wagon 34 = .ok (.iload_n 2, 1) := by decide +kernel
theorem dX1_wagon_35 : decode cX1_wagon 35 = .ok (.iadd, 1) := by decide +kernel
theorem dX1_wagon_36 : decode cX1_wagon 36 = .ok (.iaload, 1) := by decide +kernel
theorem dX1_wagon_37 : decode cX1_wagon 37 = .ok (.goto 4, 3) := by decide +kernel
theorem dX1_wagon_40 : decode cX1_wagon 40 = .ok (.iconst 0, 1) := by decide +kernel
theorem dX1_wagon_41 : decode cX1_wagon 41 = .ok (.ireturn, 1) := by decide +kernel
theorem dX1_told_0 : decode cX1_told 0 = .ok (.iconst 0, 1) := by decide +kernel
theorem dX1_told_1 : decode cX1_told 1 = .ok (.istore_n 2, 1) := by decide +kernel
theorem dX1_told_2 : decode cX1_told 2 = .ok (.iconst 0, 1) := by decide +kernel
theorem dX1_told_3 : decode cX1_told 3 = .ok (.istore_n 3, 1) := by decide +kernel
theorem dX1_told_4 : decode cX1_told 4 = .ok (.iload_n 3, 1) := by decide +kernel
theorem dX1_told_5 : decode cX1_told 5 = .ok (.bipush 8, 2) := by decide +kernel
theorem dX1_told_7 : decode cX1_told 7 = .ok (.if_icmp .ge 26, 3) := by decide +kernel
theorem dX1_told_10 : decode cX1_told 10 = .ok (.iload_n 2, 1) := by decide +kernel
theorem dX1_told_11 : decode cX1_told 11 = .ok (.aload_n 0, 1) := by decide +kernel
theorem dX1_told_12 : decode cX1_told 12 = .ok (.getfield 9, 3) := by decide +kernel
theorem dX1_told_15 : decode cX1_told 15 = .ok (.iload_n 3, 1) := by decide +kernel
theorem dX1_told_16 : decode cX1_told 16 = .ok (.iaload, 1) := by decide +kernel
theorem dX1_told_17 : decode cX1_told 17 = .ok (.ifCond .le 7, 3) := by decide +kernel
theorem dX1_told_20 : decode cX1_told 20 = .ok (.iconst 1, 1) := by decide +kernel
theorem dX1_told_21 : decode cX1_told 21 = .ok (.goto 4, 3) := by decide +kernel
theorem dX1_told_24 : decode cX1_told 24 = .ok (.iconst 0, 1) := by decide +kernel
theorem dX1_told_25 : decode cX1_told 25 = .ok (.iadd, 1) := by decide +kernel
theorem dX1_told_26 : decode cX1_told 26 = .ok (.istore_n 2, 1) := by decide +kernel
theorem dX1_told_27 : decode cX1_told 27 = .ok (.iinc 3 1, 3) := by decide +kernel
theorem dX1_told_30 : decode cX1_told 30 = .ok (.goto (-26), 3) := by decide +kernel
theorem dX1_told_33 : decode cX1_told 33 = .ok (.iload_n 1, 1) := by decide +kernel
theorem dX1_told_34 : decode cX1_told 34 = .ok (.tableswitch 74 0 6 #[42, 47, 52, 57, 62, 67, 72], 42) := by decide +kernel
theorem dX1_told_76 : decode cX1_told 76 = .ok (.aload_n 0, 1) := by decide +kernel
theorem dX1_told_77 : decode cX1_told 77 = .ok (.getfield 23, 3) := by decide +kernel
theorem dX1_told_80 : decode cX1_told 80 = .ok (.ireturn, 1) := by decide +kernel
theorem dX1_told_81 : decode cX1_told 81 = .ok (.aload_n 0, 1) := by decide +kernel
theorem dX1_told_82 : decode cX1_told 82 = .ok (.getfield 27, 3) := by decide +kernel
theorem dX1_told_85 : decode cX1_told 85 = .ok (.ireturn, 1) := by decide +kernel
theorem dX1_told_86 : decode cX1_told 86 = .ok (.aload_n 0, 1) := by decide +kernel
theorem dX1_told_87 : decode cX1_told 87 = .ok (.getfield 36, 3) := by decide +kernel
theorem dX1_told_90 : decode cX1_told 90 = .ok (.ireturn, 1) := by decide +kernel
theorem dX1_told_91 : decode cX1_told 91 = .ok (.aload_n 0, 1) := by decide +kernel
theorem dX1_told_92 : decode cX1_told 92 = .ok (.getfield 30, 3) := by decide +kernel
theorem dX1_told_95 : decode cX1_told 95 = .ok (.ireturn, 1) := by decide +kernel
theorem dX1_told_96 : decode cX1_told 96 = .ok (.aload_n 0, 1) := by decide +kernel
theorem dX1_told_97 : decode cX1_told 97 = .ok (.getfield 33, 3) := by decide +kernel
theorem dX1_told_100 : decode cX1_told 100 = .ok (.ireturn, 1) := by decide +kernel
theorem dX1_told_101 : decode cX1_told 101 = .ok (.aload_n 0, 1) := by decide +kernel
theorem dX1_told_102 : decode cX1_told 102 = .ok (.getfield 61, 3) := by decide +kernel
theorem dX1_told_105 : decode cX1_told 105 = .ok (.ireturn, 1) := by decide +kernel
theorem dX1_told_106 : decode cX1_told 106 = .ok (.iload_n 2, 1) := by decide +kernel
theorem dX1_told_107 : decode cX1_told 107 = .ok (.ireturn, 1) := by decide +kernel
theorem dX1_told_108 : decode cX1_told 108 = .ok (.bipush (-2), 2) := by decide +kernel
theorem dX1_told_110 : decode cX1_told 110 = .ok (.ireturn, 1) := by decide +kernel
theorem dJ9_max_7cf53_0 : decode cJ9_max_7cf53 0 = .ok (.iload_n 0, 1) := by decide +kernel
theorem dJ9_max_7cf53_1 : decode cJ9_max_7cf53 1 = .ok (.iload_n 1, 1) := by decide +kernel
theorem dJ9_max_7cf53_2 : decode cJ9_max_7cf53 2 = .ok (.if_icmp .lt 7, 3) := by decide +kernel
theorem dJ9_max_7cf53_5 : decode cJ9_max_7cf53 5 = .ok (.iload_n 0, 1) := by decide +kernel
theorem dJ9_max_7cf53_6 : decode cJ9_max_7cf53 6 = .ok (.goto 4, 3) := by decide +kernel
theorem dJ9_max_7cf53_9 : decode cJ9_max_7cf53 9 = .ok (.iload_n 1, 1) := by decide +kernel
theorem dJ9_max_7cf53_10 : decode cJ9_max_7cf53 10 = .ok (.ireturn, 1) := by decide +kernel
end
section
set_option maxRecDepth 20000 in
theorem ggL_law_X0_init : GoodIn wsL_law wsX0_init := goodIn_r _ [9, 10, 11, 12, 13, 14, 15, 16, 233, 234, 235, 236, 237, 238, 239, 240, 241] (by decide +kernel) (by decide +kernel)
set_option maxRecDepth 20000 in
theorem gL_law_X0_init : GoodIn wsL_law (wsX0_init) := ggL_law_X0_init
set_option maxRecDepth 20000 in
theorem ggL_law_X1_init : GoodIn wsL_law wsX1_init := goodIn_r _ [19, 20, 11, 12, 13, 21, 22, 23, 242, 243, 244, 245, 246, 247, 248, 249, 250] (by decide +kernel) (by decide +kernel)
set_option maxRecDepth 20000 in
theorem gL_law_X1_init : GoodIn wsL_law (wsX1_init) := ggL_law_X1_init
set_option maxRecDepth 20000 in
theorem ggL_law_X0_lay : GoodIn wsL_law wsX0_lay := goodIn_r _ [27, 14, 28, 29, 2, 30, 31, 32, 33, 34, 233, 234, 235, 236, 237, 238, 239, 240, 241] (by decide +kernel) (by decide +kernel)
set_option maxRecDepth 20000 in
theorem gL_law_X0_lay : GoodIn wsL_law (wsV RL 13 RX0 yX0_lay wsX0_lay) := goodIn_app (goodIn_of _ (by decide +kernel)) ggL_law_X0_lay
set_option maxRecDepth 20000 in
theorem ggL_law_X1_lay : GoodIn wsL_law wsX1_lay := goodIn_r _ [38, 21, 22, 39, 40, 5, 41, 42, 43, 44, 242, 243, 244, 245, 246, 247, 248, 249, 250] (by decide +kernel) (by decide +kernel)
set_option maxRecDepth 20000 in
theorem gL_law_X1_lay : GoodIn wsL_law (wsV RL 17 RX1 yX1_lay wsX1_lay) := goodIn_app (goodIn_of _ (by decide +kernel)) ggL_law_X1_lay
set_option maxRecDepth 20000 in
theorem ggL_law_X0_lift : GoodIn wsL_law wsX0_lift := goodIn_r _ [48, 15, 14, 28, 29, 2, 30, 31, 32, 33, 34, 233, 234, 235, 236, 237, 238, 239, 240, 241] (by decide +kernel) (by decide +kernel)
set_option maxRecDepth 20000 in
theorem gL_law_X0_lift : GoodIn wsL_law (wsV RL 18 RX0 yX0_lift wsX0_lift) := goodIn_app (goodIn_of _ (by decide +kernel)) ggL_law_X0_lift
set_option maxRecDepth 20000 in
theorem ggL_law_X1_lift : GoodIn wsL_law wsX1_lift := goodIn_r _ [52, 21, 22, 39, 40, 5, 41, 42, 43, 44, 242, 243, 244, 245, 246, 247, 248, 249, 250] (by decide +kernel) (by decide +kernel)
set_option maxRecDepth 20000 in
theorem gL_law_X1_lift : GoodIn wsL_law (wsV RL 22 RX1 yX1_lift wsX1_lift) := goodIn_app (goodIn_of _ (by decide +kernel)) ggL_law_X1_lift
set_option maxRecDepth 20000 in
theorem ggL_law_X0_couple : GoodIn wsL_law wsX0_couple := goodIn_r _ [56, 28, 29, 2, 30, 57, 58, 59, 60, 61, 62, 63, 64, 65, 66, 67, 68, 69, 70, 71, 72, 31, 32, 33, 34, 14, 73, 74, 75, 76, 15, 16, 77, 78, 79, 80, 81, 82, 83, 84, 233, 234, 235, 236, 237, 238, 239, 240, 241] (by decide +kernel) (by decide +kernel)
set_option maxRecDepth 20000 in
theorem gL_law_X0_couple : GoodIn wsL_law (wsV RL 23 RX0 yX0_couple wsX0_couple) := goodIn_app (goodIn_of _ (by decide +kernel)) ggL_law_X0_couple
set_option maxRecDepth 20000 in
theorem ggL_law_X1_couple : GoodIn wsL_law wsX1_couple := goodIn_r _ [88, 22, 39, 40, 5, 41, 42, 43, 44, 89, 90, 91, 92, 93, 21, 94, 95, 96, 97, 98, 99, 100, 101, 102, 103, 104, 105, 106, 107, 108, 109, 23, 242, 243, 244, 245, 246, 247, 248, 249, 250] (by decide +kernel) (by decide +kernel)
set_option maxRecDepth 20000 in
theorem gL_law_X1_couple : GoodIn wsL_law (wsV RL 26 RX1 yX1_couple wsX1_couple) := goodIn_app (goodIn_of _ (by decide +kernel)) ggL_law_X1_couple
set_option maxRecDepth 20000 in
theorem ggL_law_X0_uncouple : GoodIn wsL_law wsX0_uncouple := goodIn_r _ [113, 28, 29, 2, 30, 61, 62, 63, 64, 65, 66, 67, 68, 69, 70, 71, 72, 31, 32, 33, 34, 14, 114, 115, 116, 117, 15, 16, 77, 78, 79, 80, 81, 82, 83, 84, 233, 234, 235, 236, 237, 238, 239, 240, 241] (by decide +kernel) (by decide +kernel)
set_option maxRecDepth 20000 in
theorem gL_law_X0_uncouple : GoodIn wsL_law (wsV RL 27 RX0 yX0_uncouple wsX0_uncouple) := goodIn_app (goodIn_of _ (by decide +kernel)) ggL_law_X0_uncouple
set_option maxRecDepth 20000 in
theorem ggL_law_X1_uncouple : GoodIn wsL_law wsX1_uncouple := goodIn_r _ [121, 22, 39, 40, 5, 41, 42, 43, 44, 89, 90, 91, 92, 93, 21, 94, 95, 96, 101, 102, 103, 104, 105, 122, 123, 124, 125, 23, 242, 243, 244, 245, 246, 247, 248, 249, 250] (by decide +kernel) (by decide +kernel)
set_option maxRecDepth 20000 in
theorem gL_law_X1_uncouple : GoodIn wsL_law (wsV RL 30 RX1 yX1_uncouple wsX1_uncouple) := goodIn_app (goodIn_of _ (by decide +kernel)) ggL_law_X1_uncouple
set_option maxRecDepth 20000 in
theorem ggL_law_X0_shunt : GoodIn wsL_law wsX0_shunt := goodIn_r _ [129, 130, 28, 29, 2, 30, 61, 62, 63, 64, 65, 66, 67, 68, 69, 70, 71, 72, 31, 32, 33, 34, 14, 80, 81, 82, 83, 84, 131, 132, 133, 134, 114, 115, 116, 117, 15, 16, 77, 78, 79, 73, 74, 75, 76, 233, 234, 235, 236, 237, 238, 239, 240, 241] (by decide +kernel) (by decide +kernel)
set_option maxRecDepth 20000 in
theorem gL_law_X0_shunt : GoodIn wsL_law (wsV RL 31 RX0 yX0_shunt wsX0_shunt) := goodIn_app (goodIn_of _ (by decide +kernel)) ggL_law_X0_shunt
set_option maxRecDepth 20000 in
theorem ggL_law_X1_shunt : GoodIn wsL_law wsX1_shunt := goodIn_r _ [138, 139, 22, 39, 40, 5, 41, 42, 43, 44, 89, 90, 91, 92, 93, 21, 94, 95, 96, 101, 102, 103, 104, 105, 122, 123, 124, 125, 23, 97, 98, 99, 100, 106, 107, 108, 109, 242, 243, 244, 245, 246, 247, 248, 249, 250] (by decide +kernel) (by decide +kernel)
set_option maxRecDepth 20000 in
theorem gL_law_X1_shunt : GoodIn wsL_law (wsV RL 35 RX1 yX1_shunt wsX1_shunt) := goodIn_app (goodIn_of _ (by decide +kernel)) ggL_law_X1_shunt
set_option maxRecDepth 20000 in
theorem ggL_law_X0_sweep : GoodIn wsL_law wsX0_sweep := goodIn_r _ [143, 130, 28, 29, 2, 30, 61, 62, 63, 64, 65, 66, 67, 68, 69, 70, 71, 72, 31, 32, 33, 34, 14, 144, 145, 146, 147, 15, 114, 115, 116, 117, 16, 77, 78, 79, 57, 58, 59, 60, 73, 74, 75, 76, 80, 81, 82, 83, 84, 233, 234, 235, 236, 237, 238, 239, 240, 241] (by decide +kernel) (by decide +kernel)
set_option maxRecDepth 20000 in
theorem gL_law_X0_sweep : GoodIn wsL_law (wsV RL 36 RX0 yX0_sweep wsX0_sweep) := goodIn_app (goodIn_of _ (by decide +kernel)) ggL_law_X0_sweep
set_option maxRecDepth 20000 in
theorem ggL_law_X1_sweep : GoodIn wsL_law wsX1_sweep := goodIn_r _ [151, 139, 22, 39, 40, 5, 41, 42, 43, 44, 89, 90, 91, 92, 93, 21, 94, 95, 96, 122, 123, 124, 125, 23, 106, 107, 108, 109, 101, 102, 103, 104, 105, 97, 98, 99, 100, 242, 243, 244, 245, 246, 247, 248, 249, 250] (by decide +kernel) (by decide +kernel)
set_option maxRecDepth 20000 in
theorem gL_law_X1_sweep : GoodIn wsL_law (wsV RL 39 RX1 yX1_sweep wsX1_sweep) := goodIn_app (goodIn_of _ (by decide +kernel)) ggL_law_X1_sweep
set_option maxRecDepth 20000 in
theorem ggL_law_X0_tour : GoodIn wsL_law wsX0_tour := goodIn_r _ [155, 130, 15, 156, 157, 2, 158, 159, 160, 161, 61, 62, 63, 64, 65, 66, 67, 68, 69, 70, 71, 72, 31, 32, 33, 34, 14, 162, 163, 164, 165, 114, 115, 116, 117, 16, 77, 78, 79, 73, 74, 75, 76, 80, 81, 82, 83, 84, 233, 234, 235, 236, 237, 238, 239, 240, 241] (by decide +kernel) (by decide +kernel)
set_option maxRecDepth 20000 in
theorem gL_law_X0_tour : GoodIn wsL_law (wsV RL 42 RX0 yX0_tour wsX0_tour) := goodIn_app (goodIn_of _ (by decide +kernel)) ggL_law_X0_tour
set_option maxRecDepth 20000 in
theorem ggL_law_X1_tour : GoodIn wsL_law wsX1_tour := goodIn_r _ [169, 139, 22, 42, 43, 5, 44, 170, 171, 172, 89, 90, 91, 92, 93, 21, 94, 95, 96, 122, 123, 124, 125, 23, 101, 102, 103, 104, 105, 242, 243, 244, 245, 246, 247, 248, 249, 250] (by decide +kernel) (by decide +kernel)
set_option maxRecDepth 20000 in
theorem gL_law_X1_tour : GoodIn wsL_law (wsV RL 46 RX1 yX1_tour wsX1_tour) := goodIn_app (goodIn_of _ (by decide +kernel)) ggL_law_X1_tour
set_option maxRecDepth 20000 in
theorem ggL_law_X0_chain : GoodIn wsL_law wsX0_chain := goodIn_r _ [176, 15, 156, 157, 2, 158, 159, 160, 161, 61, 62, 63, 64, 65, 66, 67, 68, 69, 70, 71, 72, 31, 32, 33, 34, 14, 80, 81, 82, 83, 84, 233, 234, 235, 236, 237, 238, 239, 240, 241] (by decide +kernel) (by decide +kernel)
set_option maxRecDepth 20000 in
theorem gL_law_X0_chain : GoodIn wsL_law (wsV RL 47 RX0 yX0_chain wsX0_chain) := goodIn_app (goodIn_of _ (by decide +kernel)) ggL_law_X0_chain
set_option maxRecDepth 20000 in
theorem ggL_law_X1_chain : GoodIn wsL_law wsX1_chain := goodIn_r _ [180, 22, 42, 43, 5, 44, 170, 171, 172, 89, 90, 91, 92, 93, 21, 94, 95, 96, 101, 102, 103, 104, 105, 242, 243, 244, 245, 246, 247, 248, 249, 250] (by decide +kernel) (by decide +kernel)
set_option maxRecDepth 20000 in
theorem gL_law_X1_chain : GoodIn wsL_law (wsV RL 50 RX1 yX1_chain wsX1_chain) := goodIn_app (goodIn_of _ (by decide +kernel)) ggL_law_X1_chain
set_option maxRecDepth 20000 in
theorem ggL_law_X0_survey : GoodIn wsL_law wsX0_survey := goodIn_r _ [184, 15, 156, 157, 2, 158, 159, 160, 161, 61, 62, 63, 64, 65, 66, 67, 68, 69, 70, 71, 72, 31, 32, 33, 34, 14, 80, 81, 82, 83, 84, 233, 234, 235, 236, 237, 238, 239, 240, 241] (by decide +kernel) (by decide +kernel)
set_option maxRecDepth 20000 in
theorem gL_law_X0_survey : GoodIn wsL_law (wsV RL 51 RX0 yX0_survey wsX0_survey) := goodIn_app (goodIn_of _ (by decide +kernel)) ggL_law_X0_survey
set_option maxRecDepth 20000 in
theorem ggL_law_X1_survey : GoodIn wsL_law wsX1_survey := goodIn_r _ [188, 22, 42, 43, 5, 44, 170, 171, 172, 89, 90, 91, 92, 93, 21, 94, 95, 96, 101, 102, 103, 104, 105, 242, 243, 244, 245, 246, 247, 248, 249, 250] (by decide +kernel) (by decide +kernel)
set_option maxRecDepth 20000 in
theorem gL_law_X1_survey : GoodIn wsL_law (wsV RL 54 RX1 yX1_survey wsX1_survey) := goodIn_app (goodIn_of _ (by decide +kernel)) ggL_law_X1_survey
set_option maxRecDepth 20000 in
theorem ggL_law_X0_turn : GoodIn wsL_law wsX0_turn := goodIn_r _ [192, 15, 28, 29, 2, 30, 61, 62, 63, 64, 65, 66, 67, 68, 69, 70, 71, 72, 31, 32, 33, 34, 14, 77, 78, 79, 193, 194, 195, 196, 16, 80, 81, 82, 83, 84, 233, 234, 235, 236, 237, 238, 239, 240, 241] (by decide +kernel) (by decide +kernel)
set_option maxRecDepth 20000 in
theorem gL_law_X0_turn : GoodIn wsL_law (wsV RL 55 RX0 yX0_turn wsX0_turn) := goodIn_app (goodIn_of _ (by decide +kernel)) ggL_law_X0_turn
set_option maxRecDepth 20000 in
theorem ggL_law_X1_turn : GoodIn wsL_law wsX1_turn := goodIn_r _ [200, 22, 23, 39, 40, 5, 41, 42, 43, 44, 89, 90, 91, 92, 93, 21, 94, 95, 96, 101, 102, 103, 104, 105, 242, 243, 244, 245, 246, 247, 248, 249, 250] (by decide +kernel) (by decide +kernel)
set_option maxRecDepth 20000 in
theorem gL_law_X1_turn : GoodIn wsL_law (wsV RL 58 RX1 yX1_turn wsX1_turn) := goodIn_app (goodIn_of _ (by decide +kernel)) ggL_law_X1_turn
set_option maxRecDepth 20000 in
theorem ggL_law_X0_swap : GoodIn wsL_law wsX0_swap := goodIn_r _ [204, 28, 29, 2, 30, 61, 62, 63, 64, 65, 66, 67, 68, 69, 70, 71, 72, 31, 32, 33, 34, 14, 80, 81, 82, 83, 84, 205, 206, 207, 208, 15, 77, 78, 79, 193, 194, 195, 196, 16, 233, 234, 235, 236, 237, 238, 239, 240, 241] (by decide +kernel) (by decide +kernel)
set_option maxRecDepth 20000 in
theorem gL_law_X0_swap : GoodIn wsL_law (wsV RL 59 RX0 yX0_swap wsX0_swap) := goodIn_app (goodIn_of _ (by decide +kernel)) ggL_law_X0_swap
set_option maxRecDepth 20000 in
theorem ggL_law_X1_swap : GoodIn wsL_law wsX1_swap := goodIn_r _ [212, 22, 21, 23, 39, 40, 5, 41, 42, 43, 44, 89, 90, 91, 92, 93, 94, 95, 96, 101, 102, 103, 104, 105, 242, 243, 244, 245, 246, 247, 248, 249, 250] (by decide +kernel) (by decide +kernel)
set_option maxRecDepth 20000 in
theorem gL_law_X1_swap : GoodIn wsL_law (wsV RL 62 RX1 yX1_swap wsX1_swap) := goodIn_app (goodIn_of _ (by decide +kernel)) ggL_law_X1_swap
set_option maxRecDepth 20000 in
theorem ggL_law_X0_wagon : GoodIn wsL_law wsX0_wagon := goodIn_r _ [216, 15, 16, 28, 29, 2, 30, 77, 78, 79, 233, 234, 235, 236, 237, 238, 239, 240, 241] (by decide +kernel) (by decide +kernel)
set_option maxRecDepth 20000 in
theorem gL_law_X0_wagon : GoodIn wsL_law (wsV RL 63 RX0 yX0_wagon wsX0_wagon) := goodIn_app (goodIn_of _ (by decide +kernel)) ggL_law_X0_wagon
set_option maxRecDepth 20000 in
theorem ggL_law_X1_wagon : GoodIn wsL_law wsX1_wagon := goodIn_r _ [220, 22, 23, 39, 40, 5, 41, 42, 43, 44, 242, 243, 244, 245, 246, 247, 248, 249, 250] (by decide +kernel) (by decide +kernel)
set_option maxRecDepth 20000 in
theorem gL_law_X1_wagon : GoodIn wsL_law (wsV RL 66 RX1 yX1_wagon wsX1_wagon) := goodIn_app (goodIn_of _ (by decide +kernel)) ggL_law_X1_wagon
set_option maxRecDepth 20000 in
theorem ggL_law_X0_told : GoodIn wsL_law wsX0_told := goodIn_r _ [224, 65, 66, 84, 67, 68, 130, 225, 226, 227, 2, 228, 31, 32, 33, 34, 14, 233, 234, 235, 236, 237, 238, 239, 240, 241] (by decide +kernel) (by decide +kernel)
set_option maxRecDepth 20000 in
theorem gL_law_X0_told : GoodIn wsL_law (wsV RL 67 RX0 yX0_told wsX0_told) := goodIn_app (goodIn_of _ (by decide +kernel)) ggL_law_X0_told
set_option maxRecDepth 20000 in
theorem ggL_law_X1_told : GoodIn wsL_law wsX1_told := goodIn_r _ [232, 21, 93, 94, 105, 95, 96, 139, 242, 243, 244, 245, 246, 247, 248, 249, 250] (by decide +kernel) (by decide +kernel)
set_option maxRecDepth 20000 in
theorem gL_law_X1_told : GoodIn wsL_law (wsV RL 70 RX1 yX1_told wsX1_told) := goodIn_app (goodIn_of _ (by decide +kernel)) ggL_law_X1_told
theorem dL_law_0 : decode cL_law 0 = .ok (.new 7, 3) := by decide +kernel
theorem dL_law_3 : decode cL_law 3 = .ok (.dup, 1) := by decide +kernel
theorem dL_law_4 : decode cL_law 4 = .ok (.invokespecial 9, 3) := by decide +kernel
theorem dL_law_7 : decode cL_law 7 = .ok (.astore_n 1, 1) := by decide +kernel
theorem dL_law_8 : decode cL_law 8 = .ok (.new 10, 3) := by decide +kernel
theorem dL_law_11 : decode cL_law 11 = .ok (.dup, 1) := by decide +kernel
theorem dL_law_12 : decode cL_law 12 = .ok (.invokespecial 12, 3) := by decide +kernel
theorem dL_law_15 : decode cL_law 15 = .ok (.astore_n 2, 1) := by decide +kernel
theorem dL_law_16 : decode cL_law 16 = .ok (.iconst 0, 1) := by decide +kernel
theorem dL_law_17 : decode cL_law 17 = .ok (.istore_n 3, 1) := by decide +kernel
theorem dL_law_18 : decode cL_law 18 = .ok (.iload_n 3, 1) := by decide +kernel
theorem dL_law_19 : decode cL_law 19 = .ok (.aload_n 0, 1) := by decide +kernel
theorem dL_law_20 : decode cL_law 20 = .ok (.arraylength, 1) := by decide +kernel
theorem dL_law_21 : decode cL_law 21 = .ok (.iconst 4, 1) := by decide +kernel
theorem dL_law_22 : decode cL_law 22 = .ok (.isub, 1) := by decide +kernel
theorem dL_law_23 : decode cL_law 23 = .ok (.if_icmp .gt 582, 3) := by decide +kernel
theorem dL_law_26 : decode cL_law 26 = .ok (.aload_n 0, 1) := by decide +kernel
theorem dL_law_27 : decode cL_law 27 = .ok (.iload_n 3, 1) := by decide +kernel
theorem dL_law_28 : decode cL_law 28 = .ok (.iaload, 1) := by decide +kernel
theorem dL_law_29 : decode cL_law 29 = .ok (.bipush 15, 2) := by decide +kernel
theorem dL_law_31 : decode cL_law 31 = .ok (.iand, 1) := by decide +kernel
theorem dL_law_32 : decode cL_law 32 = .ok (.tableswitch 567 0 12 #[68, 101, 124, 157, 180, 223, 266, 329, 392, 455, 478, 511, 544], 68) := by decide +kernel
theorem dL_law_100 : decode cL_law 100 = .ok (.aload_n 1, 1) := by decide +kernel
theorem dL_law_101 : decode cL_law 101 = .ok (.aload_n 0, 1) := by decide +kernel
theorem dL_law_102 : decode cL_law 102 = .ok (.iload_n 3, 1) := by decide +kernel
theorem dL_law_103 : decode cL_law 103 = .ok (.iconst 1, 1) := by decide +kernel
theorem dL_law_104 : decode cL_law 104 = .ok (.iadd, 1) := by decide +kernel
theorem dL_law_105 : decode cL_law 105 = .ok (.iaload, 1) := by decide +kernel
theorem dL_law_106 : decode cL_law 106 = .ok (.aload_n 0, 1) := by decide +kernel
theorem dL_law_107 : decode cL_law 107 = .ok (.iload_n 3, 1) := by decide +kernel
theorem dL_law_108 : decode cL_law 108 = .ok (.iconst 2, 1) := by decide +kernel
theorem dL_law_109 : decode cL_law 109 = .ok (.iadd, 1) := by decide +kernel
theorem dL_law_110 : decode cL_law 110 = .ok (.iaload, 1) := by decide +kernel
theorem dL_law_111 : decode cL_law 111 = .ok (.invokevirtual 13, 3) := by decide +kernel
theorem dL_law_114 : decode cL_law 114 = .ok (.aload_n 2, 1) := by decide +kernel
theorem dL_law_115 : decode cL_law 115 = .ok (.aload_n 0, 1) := by decide +kernel
theorem dL_law_116 : decode cL_law 116 = .ok (.iload_n 3, 1) := by decide +kernel
theorem dL_law_117 : decode cL_law 117 = .ok (.iconst 1, 1) := by decide +kernel
theorem dL_law_118 : decode cL_law 118 = .ok (.iadd, 1) := by decide +kernel
theorem dL_law_119 : decode cL_law 119 = .ok (.iaload, 1) := by decide +kernel
theorem dL_law_120 : decode cL_law 120 = .ok (.aload_n 0, 1) := by decide +kernel
theorem dL_law_121 : decode cL_law 121 = .ok (.iload_n 3, 1) := by decide +kernel
theorem dL_law_122 : decode cL_law 122 = .ok (.iconst 2, 1) := by decide +kernel
theorem dL_law_123 : decode cL_law 123 = .ok (.iadd, 1) := by decide +kernel
theorem dL_law_124 : decode cL_law 124 = .ok (.iaload, 1) := by decide +kernel
theorem dL_law_125 : decode cL_law 125 = .ok (.invokevirtual 17, 3) := by decide +kernel
theorem dL_law_128 : decode cL_law 128 = .ok (.if_icmp .eq 471, 3) := by decide +kernel
theorem dL_law_131 : decode cL_law 131 = .ok (.iconst 0, 1) := by decide +kernel
theorem dL_law_132 : decode cL_law 132 = .ok (.ireturn, 1) := by decide +kernel
theorem dL_law_133 : decode cL_law 133 = .ok (.aload_n 1, 1) := by decide +kernel
theorem dL_law_134 : decode cL_law 134 = .ok (.aload_n 0, 1) := by decide +kernel
theorem dL_law_135 : decode cL_law 135 = .ok (.iload_n 3, 1) := by decide +kernel
theorem dL_law_136 : decode cL_law 136 = .ok (.iconst 1, 1) := by decide +kernel
theorem dL_law_137 : decode cL_law 137 = .ok (.iadd, 1) := by decide +kernel
theorem dL_law_138 : decode cL_law 138 = .ok (.iaload, 1) := by decide +kernel
theorem dL_law_139 : decode cL_law 139 = .ok (.invokevirtual 18, 3) := by decide +kernel
theorem dL_law_142 : decode cL_law 142 = .ok (.aload_n 2, 1) := by decide +kernel
theorem dL_law_143 : decode cL_law 143 = .ok (.aload_n 0, 1) := by decide +kernel
theorem dL_law_144 : decode cL_law 144 = .ok (.iload_n 3, 1) := by decide +kernel
theorem dL_law_145 : decode cL_law 145 = .ok (.iconst 1, 1) := by decide +kernel
theorem dL_law_146 : decode cL_law 146 = .ok (.iadd, 1) := by decide +kernel
theorem dL_law_147 : decode cL_law 147 = .ok (.iaload, 1) := by decide +kernel
theorem dL_law_148 : decode cL_law 148 = .ok (.invokevirtual 22, 3) := by decide +kernel
theorem dL_law_151 : decode cL_law 151 = .ok (.if_icmp .eq 448, 3) := by decide +kernel
theorem dL_law_154 : decode cL_law 154 = .ok (.iconst 0, 1) := by decide +kernel
theorem dL_law_155 : decode cL_law 155 = .ok (.ireturn, 1) := by decide +kernel
theorem dL_law_156 : decode cL_law 156 = .ok (.aload_n 1, 1) := by decide +kernel
theorem dL_law_157 : decode cL_law 157 = .ok (.aload_n 0, 1) := by decide +kernel
theorem dL_law_158 : decode cL_law 158 = .ok (.iload_n 3, 1) := by decide +kernel
theorem dL_law_159 : decode cL_law 159 = .ok (.iconst 1, 1) := by decide +kernel
theorem dL_law_160 : decode cL_law 160 = .ok (.iadd, 1) := by decide +kernel
theorem dL_law_161 : decode cL_law 161 = .ok (.iaload, 1) := by decide +kernel
theorem dL_law_162 : decode cL_law 162 = .ok (.aload_n 0, 1) := by decide +kernel
theorem dL_law_163 : decode cL_law 163 = .ok (.iload_n 3, 1) := by decide +kernel
theorem dL_law_164 : decode cL_law 164 = .ok (.iconst 2, 1) := by decide +kernel
theorem dL_law_165 : decode cL_law 165 = .ok (.iadd, 1) := by decide +kernel
theorem dL_law_166 : decode cL_law 166 = .ok (.iaload, 1) := by decide +kernel
theorem dL_law_167 : decode cL_law 167 = .ok (.invokevirtual 23, 3) := by decide +kernel
theorem dL_law_170 : decode cL_law 170 = .ok (.aload_n 2, 1) := by decide +kernel
theorem dL_law_171 : decode cL_law 171 = .ok (.aload_n 0, 1) := by decide +kernel
theorem dL_law_172 : decode cL_law 172 = .ok (.iload_n 3, 1) := by decide +kernel
theorem dL_law_173 : decode cL_law 173 = .ok (.iconst 1, 1) := by decide +kernel
theorem dL_law_174 : decode cL_law 174 = .ok (.iadd, 1) := by decide +kernel
theorem dL_law_175 : decode cL_law 175 = .ok (.iaload, 1) := by decide +kernel
theorem dL_law_176 : decode cL_law 176 = .ok (.aload_n 0, 1) := by decide +kernel
theorem dL_law_177 : decode cL_law 177 = .ok (.iload_n 3, 1) := by decide +kernel
theorem dL_law_178 : decode cL_law 178 = .ok (.iconst 2, 1) := by decide +kernel
theorem dL_law_179 : decode cL_law 179 = .ok (.iadd, 1) := by decide +kernel
theorem dL_law_180 : decode cL_law 180 = .ok (.iaload, 1) := by decide +kernel
theorem dL_law_181 : decode cL_law 181 = .ok (.invokevirtual 26, 3) := by decide +kernel
theorem dL_law_184 : decode cL_law 184 = .ok (.if_icmp .eq 415, 3) := by decide +kernel
theorem dL_law_187 : decode cL_law 187 = .ok (.iconst 0, 1) := by decide +kernel
theorem dL_law_188 : decode cL_law 188 = .ok (.ireturn, 1) := by decide +kernel
theorem dL_law_189 : decode cL_law 189 = .ok (.aload_n 1, 1) := by decide +kernel
theorem dL_law_190 : decode cL_law 190 = .ok (.aload_n 0, 1) := by decide +kernel
theorem dL_law_191 : decode cL_law 191 = .ok (.iload_n 3, 1) := by decide +kernel
theorem dL_law_192 : decode cL_law 192 = .ok (.iconst 1, 1) := by decide +kernel
theorem dL_law_193 : decode cL_law 193 = .ok (.iadd, 1) := by decide +kernel
theorem dL_law_194 : decode cL_law 194 = .ok (.iaload, 1) := by decide +kernel
theorem dL_law_195 : decode cL_law 195 = .ok (.invokevirtual 27, 3) := by decide +kernel
theorem dL_law_198 : decode cL_law 198 = .ok (.aload_n 2, 1) := by decide +kernel
theorem dL_law_199 : decode cL_law 199 = .ok (.aload_n 0, 1) := by decide +kernel
theorem dL_law_200 : decode cL_law 200 = .ok (.iload_n 3, 1) := by decide +kernel
theorem dL_law_201 : decode cL_law 201 = .ok (.iconst 1, 1) := by decide +kernel
theorem dL_law_202 : decode cL_law 202 = .ok (.iadd, 1) := by decide +kernel
theorem dL_law_203 : decode cL_law 203 = .ok (.iaload, 1) := by decide +kernel
theorem dL_law_204 : decode cL_law 204 = .ok (.invokevirtual 30, 3) := by decide +kernel
theorem dL_law_207 : decode cL_law 207 = .ok (.if_icmp .eq 392, 3) := by decide +kernel
theorem dL_law_210 : decode cL_law 210 = .ok (.iconst 0, 1) := by decide +kernel
theorem dL_law_211 : decode cL_law 211 = .ok (.ireturn, 1) := by decide +kernel
theorem dL_law_212 : decode cL_law 212 = .ok (.aload_n 1, 1) := by decide +kernel
theorem dL_law_213 : decode cL_law 213 = .ok (.aload_n 0, 1) := by decide +kernel
theorem dL_law_214 : decode cL_law 214 = .ok (.iload_n 3, 1) := by decide +kernel
theorem dL_law_215 : decode cL_law 215 = .ok (.iconst 1, 1) := by decide +kernel
theorem dL_law_216 : decode cL_law 216 = .ok (.iadd, 1) := by decide +kernel
theorem dL_law_217 : decode cL_law 217 = .ok (.iaload, 1) := by decide +kernel
theorem dL_law_218 : decode cL_law 218 = .ok (.aload_n 0, 1) := by decide +kernel
theorem dL_law_219 : decode cL_law 219 = .ok (.iload_n 3, 1) := by decide +kernel
theorem dL_law_220 : decode cL_law 220 = .ok (.iconst 2, 1) := by decide +kernel
theorem dL_law_221 : decode cL_law 221 = .ok (.iadd, 1) := by decide +kernel
theorem dL_law_222 : decode cL_law 222 = .ok (.iaload, 1) := by decide +kernel
theorem dL_law_223 : decode cL_law 223 = .ok (.aload_n 0, 1) := by decide +kernel
theorem dL_law_224 : decode cL_law 224 = .ok (.iload_n 3, 1) := by decide +kernel
theorem dL_law_225 : decode cL_law 225 = .ok (.iconst 3, 1) := by decide +kernel
theorem dL_law_226 : decode cL_law 226 = .ok (.iadd, 1) := by decide +kernel
theorem dL_law_227 : decode cL_law 227 = .ok (.iaload, 1) := by decide +kernel
theorem dL_law_228 : decode cL_law 228 = .ok (.invokevirtual 31, 3) := by decide +kernel
theorem dL_law_231 : decode cL_law 231 = .ok (.aload_n 2, 1) := by decide +kernel
theorem dL_law_232 : decode cL_law 232 = .ok (.aload_n 0, 1) := by decide +kernel
theorem dL_law_233 : decode cL_law 233 = .ok (.iload_n 3, 1) := by decide +kernel
theorem dL_law_234 : decode cL_law 234 = .ok (.iconst 1, 1) := by decide +kernel
theorem dL_law_235 : decode cL_law 235 = .ok (.iadd, 1) := by decide +kernel
theorem dL_law_236 : decode cL_law 236 = .ok (.iaload, 1) := by decide +kernel
theorem dL_law_237 : decode cL_law 237 = .ok (.aload_n 0, 1) := by decide +kernel
theorem dL_law_238 : decode cL_law 238 = .ok (.iload_n 3, 1) := by decide +kernel
theorem dL_law_239 : decode cL_law 239 = .ok (.iconst 2, 1) := by decide +kernel
theorem dL_law_240 : decode cL_law 240 = .ok (.iadd, 1) := by decide +kernel
theorem dL_law_241 : decode cL_law 241 = .ok (.iaload, 1) := by decide +kernel
theorem dL_law_242 : decode cL_law 242 = .ok (.aload_n 0, 1) := by decide +kernel
theorem dL_law_243 : decode cL_law 243 = .ok (.iload_n 3, 1) := by decide +kernel
theorem dL_law_244 : decode cL_law 244 = .ok (.iconst 3, 1) := by decide +kernel
theorem dL_law_245 : decode cL_law 245 = .ok (.iadd, 1) := by decide +kernel
theorem dL_law_246 : decode cL_law 246 = .ok (.iaload, 1) := by decide +kernel
theorem dL_law_247 : decode cL_law 247 = .ok (.invokevirtual 35, 3) := by decide +kernel
theorem dL_law_250 : decode cL_law 250 = .ok (.if_icmp .eq 349, 3) := by decide +kernel
theorem dL_law_253 : decode cL_law 253 = .ok (.iconst 0, 1) := by decide +kernel
theorem dL_law_254 : decode cL_law 254 = .ok (.ireturn, 1) := by decide +kernel
theorem dL_law_255 : decode cL_law 255 = .ok (.aload_n 1, 1) := by decide +kernel
theorem dL_law_256 : decode cL_law 256 = .ok (.aload_n 0, 1) := by decide +kernel
theorem dL_law_257 : decode cL_law 257 = .ok (.iload_n 3, 1) := by decide +kernel
theorem dL_law_258 : decode cL_law 258 = .ok (.iconst 1, 1) := by decide +kernel
theorem dL_law_259 : decode cL_law 259 = .ok (.iadd, 1) := by decide +kernel
theorem dL_law_260 : decode cL_law 260 = .ok (.iaload, 1) := by decide +kernel
theorem dL_law_261 : decode cL_law 261 = .ok (.aload_n 0, 1) := by decide +kernel
theorem dL_law_262 : decode cL_law 262 = .ok (.iload_n 3, 1) := by decide +kernel
theorem dL_law_263 : decode cL_law 263 = .ok (.iconst 2, 1) := by decide +kernel
theorem dL_law_264 : decode cL_law 264 = .ok (.iadd, 1) := by decide +kernel
theorem dL_law_265 : decode cL_law 265 = .ok (.iaload, 1) := by decide +kernel
theorem dL_law_266 : decode cL_law 266 = .ok (.aload_n 0, 1) := by decide +kernel
theorem dL_law_267 : decode cL_law 267 = .ok (.iload_n 3, 1) := by decide +kernel
theorem dL_law_268 : decode cL_law 268 = .ok (.iconst 3, 1) := by decide +kernel
theorem dL_law_269 : decode cL_law 269 = .ok (.iadd, 1) := by decide +kernel
theorem dL_law_270 : decode cL_law 270 = .ok (.iaload, 1) := by decide +kernel
theorem dL_law_271 : decode cL_law 271 = .ok (.invokevirtual 36, 3) := by decide +kernel
theorem dL_law_274 : decode cL_law 274 = .ok (.aload_n 2, 1) := by decide +kernel
theorem dL_law_275 : decode cL_law 275 = .ok (.aload_n 0, 1) := by decide +kernel
theorem dL_law_276 : decode cL_law 276 = .ok (.iload_n 3, 1) := by decide +kernel
theorem dL_law_277 : decode cL_law 277 = .ok (.iconst 1, 1) := by decide +kernel
theorem dL_law_278 : decode cL_law 278 = .ok (.iadd, 1) := by decide +kernel
theorem dL_law_279 : decode cL_law 279 = .ok (.iaload, 1) := by decide +kernel
theorem dL_law_280 : decode cL_law 280 = .ok (.aload_n 0, 1) := by decide +kernel
theorem dL_law_281 : decode cL_law 281 = .ok (.iload_n 3, 1) := by decide +kernel
theorem dL_law_282 : decode cL_law 282 = .ok (.iconst 2, 1) := by decide +kernel
theorem dL_law_283 : decode cL_law 283 = .ok (.iadd, 1) := by decide +kernel
theorem dL_law_284 : decode cL_law 284 = .ok (.iaload, 1) := by decide +kernel
theorem dL_law_285 : decode cL_law 285 = .ok (.aload_n 0, 1) := by decide +kernel
theorem dL_law_286 : decode cL_law 286 = .ok (.iload_n 3, 1) := by decide +kernel
theorem dL_law_287 : decode cL_law 287 = .ok (.iconst 3, 1) := by decide +kernel
theorem dL_law_288 : decode cL_law 288 = .ok (.iadd, 1) := by decide +kernel
theorem dL_law_289 : decode cL_law 289 = .ok (.iaload, 1) := by decide +kernel
theorem dL_law_290 : decode cL_law 290 = .ok (.invokevirtual 39, 3) := by decide +kernel
theorem dL_law_293 : decode cL_law 293 = .ok (.if_icmp .eq 306, 3) := by decide +kernel
theorem dL_law_296 : decode cL_law 296 = .ok (.iconst 0, 1) := by decide +kernel
theorem dL_law_297 : decode cL_law 297 = .ok (.ireturn, 1) := by decide +kernel
theorem dL_law_298 : decode cL_law 298 = .ok (.aload_n 1, 1) := by decide +kernel
theorem dL_law_299 : decode cL_law 299 = .ok (.aload_n 0, 1) := by decide +kernel
theorem dL_law_300 : decode cL_law 300 = .ok (.iload_n 3, 1) := by decide +kernel
theorem dL_law_301 : decode cL_law 301 = .ok (.iconst 1, 1) := by decide +kernel
theorem dL_law_302 : decode cL_law 302 = .ok (.iadd, 1) := by decide +kernel
theorem dL_law_303 : decode cL_law 303 = .ok (.iaload, 1) := by decide +kernel
theorem dL_law_304 : decode cL_law 304 = .ok (.i2l, 1) := by decide +kernel
theorem dL_law_305 : decode cL_law 305 = .ok (.bipush 32, 2) := by decide +kernel
theorem dL_law_307 : decode cL_law 307 = .ok (.lshl, 1) := by decide +kernel
theorem dL_law_308 : decode cL_law 308 = .ok (.aload_n 0, 1) := by decide +kernel
theorem dL_law_309 : decode cL_law 309 = .ok (.iload_n 3, 1) := by decide +kernel
theorem dL_law_310 : decode cL_law 310 = .ok (.iconst 2, 1) := by decide +kernel
theorem dL_law_311 : decode cL_law 311 = .ok (.iadd, 1) := by decide +kernel
theorem dL_law_312 : decode cL_law 312 = .ok (.iaload, 1) := by decide +kernel
theorem dL_law_313 : decode cL_law 313 = .ok (.i2l, 1) := by decide +kernel
theorem dL_law_314 : decode cL_law 314 = .ok (.ldc2_w 40, 3) := by decide +kernel
theorem dL_law_317 : decode cL_law 317 = .ok (.land, 1) := by decide +kernel
theorem dL_law_318 : decode cL_law 318 = .ok (.lor, 1) := by decide +kernel
theorem dL_law_319 : decode cL_law 319 = .ok (.aload_n 0, 1) := by decide +kernel
theorem dL_law_320 : decode cL_law 320 = .ok (.iload_n 3, 1) := by decide +kernel
theorem dL_law_321 : decode cL_law 321 = .ok (.iconst 3, 1) := by decide +kernel
theorem dL_law_322 : decode cL_law 322 = .ok (.iadd, 1) := by decide +kernel
theorem dL_law_323 : decode cL_law 323 = .ok (.iaload, 1) := by decide +kernel
theorem dL_law_324 : decode cL_law 324 = .ok (.invokevirtual 42, 3) := by decide +kernel
theorem dL_law_327 : decode cL_law 327 = .ok (.aload_n 2, 1) := by decide +kernel
theorem dL_law_328 : decode cL_law 328 = .ok (.aload_n 0, 1) := by decide +kernel
theorem dL_law_329 : decode cL_law 329 = .ok (.iload_n 3, 1) := by decide +kernel
theorem dL_law_330 : decode cL_law 330 = .ok (.iconst 1, 1) := by decide +kernel
theorem dL_law_331 : decode cL_law 331 = .ok (.iadd, 1) := by decide +kernel
theorem dL_law_332 : decode cL_law 332 = .ok (.iaload, 1) := by decide +kernel
theorem dL_law_333 : decode cL_law 333 = .ok (.i2l, 1) := by decide +kernel
theorem dL_law_334 : decode cL_law 334 = .ok (.bipush 32, 2) := by decide +kernel
theorem dL_law_336 : decode cL_law 336 = .ok (.lshl, 1) := by decide +kernel
theorem dL_law_337 : decode cL_law 337 = .ok (.aload_n 0, 1) := by decide +kernel
theorem dL_law_338 : decode cL_law 338 = .ok (.iload_n 3, 1) := by decide +kernel
theorem dL_law_339 : decode cL_law 339 = .ok (.iconst 2, 1) := by decide +kernel
theorem dL_law_340 : decode cL_law 340 = .ok (.iadd, 1) := by decide +kernel
theorem dL_law_341 : decode cL_law 341 = .ok (.iaload, 1) := by decide +kernel
theorem dL_law_342 : decode cL_law 342 = .ok (.i2l, 1) := by decide +kernel
theorem dL_law_343 : decode cL_law 343 = .ok (.ldc2_w 40, 3) := by decide +kernel
theorem dL_law_346 : decode cL_law 346 = .ok (.land, 1) := by decide +kernel
theorem dL_law_347 : decode cL_law 347 = .ok (.lor, 1) := by decide +kernel
theorem dL_law_348 : decode cL_law 348 = .ok (.aload_n 0, 1) := by decide +kernel
theorem dL_law_349 : decode cL_law 349 = .ok (.iload_n 3, 1) := by decide +kernel
theorem dL_law_350 : decode cL_law 350 = .ok (.iconst 3, 1) := by decide +kernel
theorem dL_law_351 : decode cL_law 351 = .ok (.iadd, 1) := by decide +kernel
theorem dL_law_352 : decode cL_law 352 = .ok (.iaload, 1) := by decide +kernel
theorem dL_law_353 : decode cL_law 353 = .ok (.invokevirtual 46, 3) := by decide +kernel
theorem dL_law_356 : decode cL_law 356 = .ok (.if_icmp .eq 243, 3) := by decide +kernel
theorem dL_law_359 : decode cL_law 359 = .ok (.iconst 0, 1) := by decide +kernel
theorem dL_law_360 : decode cL_law 360 = .ok (.ireturn, 1) := by decide +kernel
theorem dL_law_361 : decode cL_law 361 = .ok (.aload_n 1, 1) := by decide +kernel
theorem dL_law_362 : decode cL_law 362 = .ok (.aload_n 0, 1) := by decide +kernel
theorem dL_law_363 : decode cL_law 363 = .ok (.iload_n 3, 1) := by decide +kernel
theorem dL_law_364 : decode cL_law 364 = .ok (.iconst 1, 1) := by decide +kernel
theorem dL_law_365 : decode cL_law 365 = .ok (.iadd, 1) := by decide +kernel
theorem dL_law_366 : decode cL_law 366 = .ok (.iaload, 1) := by decide +kernel
theorem dL_law_367 : decode cL_law 367 = .ok (.i2l, 1) := by decide +kernel
theorem dL_law_368 : decode cL_law 368 = .ok (.bipush 32, 2) := by decide +kernel
theorem dL_law_370 : decode cL_law 370 = .ok (.lshl, 1) := by decide +kernel
theorem dL_law_371 : decode cL_law 371 = .ok (.aload_n 0, 1) := by decide +kernel
theorem dL_law_372 : decode cL_law 372 = .ok (.iload_n 3, 1) := by decide +kernel
theorem dL_law_373 : decode cL_law 373 = .ok (.iconst 2, 1) := by decide +kernel
theorem dL_law_374 : decode cL_law 374 = .ok (.iadd, 1) := by decide +kernel
theorem dL_law_375 : decode cL_law 375 = .ok (.iaload, 1) := by decide +kernel
theorem dL_law_376 : decode cL_law 376 = .ok (.i2l, 1) := by decide +kernel
theorem dL_law_377 : decode cL_law 377 = .ok (.ldc2_w 40, 3) := by decide +kernel
theorem dL_law_380 : decode cL_law 380 = .ok (.land, 1) := by decide +kernel
theorem dL_law_381 : decode cL_law 381 = .ok (.lor, 1) := by decide +kernel
theorem dL_law_382 : decode cL_law 382 = .ok (.aload_n 0, 1) := by decide +kernel
theorem dL_law_383 : decode cL_law 383 = .ok (.iload_n 3, 1) := by decide +kernel
theorem dL_law_384 : decode cL_law 384 = .ok (.iconst 3, 1) := by decide +kernel
theorem dL_law_385 : decode cL_law 385 = .ok (.iadd, 1) := by decide +kernel
theorem dL_law_386 : decode cL_law 386 = .ok (.iaload, 1) := by decide +kernel
theorem dL_law_387 : decode cL_law 387 = .ok (.invokevirtual 47, 3) := by decide +kernel
theorem dL_law_390 : decode cL_law 390 = .ok (.aload_n 2, 1) := by decide +kernel
theorem dL_law_391 : decode cL_law 391 = .ok (.aload_n 0, 1) := by decide +kernel
theorem dL_law_392 : decode cL_law 392 = .ok (.iload_n 3, 1) := by decide +kernel
theorem dL_law_393 : decode cL_law 393 = .ok (.iconst 1, 1) := by decide +kernel
theorem dL_law_394 : decode cL_law 394 = .ok (.iadd, 1) := by decide +kernel
theorem dL_law_395 : decode cL_law 395 = .ok (.iaload, 1) := by decide +kernel
theorem dL_law_396 : decode cL_law 396 = .ok (.i2l, 1) := by decide +kernel
theorem dL_law_397 : decode cL_law 397 = .ok (.bipush 32, 2) := by decide +kernel
theorem dL_law_399 : decode cL_law 399 = .ok (.lshl, 1) := by decide +kernel
theorem dL_law_400 : decode cL_law 400 = .ok (.aload_n 0, 1) := by decide +kernel
theorem dL_law_401 : decode cL_law 401 = .ok (.iload_n 3, 1) := by decide +kernel
theorem dL_law_402 : decode cL_law 402 = .ok (.iconst 2, 1) := by decide +kernel
theorem dL_law_403 : decode cL_law 403 = .ok (.iadd, 1) := by decide +kernel
theorem dL_law_404 : decode cL_law 404 = .ok (.iaload, 1) := by decide +kernel
theorem dL_law_405 : decode cL_law 405 = .ok (.i2l, 1) := by decide +kernel
theorem dL_law_406 : decode cL_law 406 = .ok (.ldc2_w 40, 3) := by decide +kernel
theorem dL_law_409 : decode cL_law 409 = .ok (.land, 1) := by decide +kernel
theorem dL_law_410 : decode cL_law 410 = .ok (.lor, 1) := by decide +kernel
theorem dL_law_411 : decode cL_law 411 = .ok (.aload_n 0, 1) := by decide +kernel
theorem dL_law_412 : decode cL_law 412 = .ok (.iload_n 3, 1) := by decide +kernel
theorem dL_law_413 : decode cL_law 413 = .ok (.iconst 3, 1) := by decide +kernel
theorem dL_law_414 : decode cL_law 414 = .ok (.iadd, 1) := by decide +kernel
theorem dL_law_415 : decode cL_law 415 = .ok (.iaload, 1) := by decide +kernel
theorem dL_law_416 : decode cL_law 416 = .ok (.invokevirtual 50, 3) := by decide +kernel
theorem dL_law_419 : decode cL_law 419 = .ok (.if_icmp .eq 180, 3) := by decide +kernel
theorem dL_law_422 : decode cL_law 422 = .ok (.iconst 0, 1) := by decide +kernel
theorem dL_law_423 : decode cL_law 423 = .ok (.ireturn, 1) := by decide +kernel
theorem dL_law_424 : decode cL_law 424 = .ok (.aload_n 1, 1) := by decide +kernel
theorem dL_law_425 : decode cL_law 425 = .ok (.aload_n 0, 1) := by decide +kernel
theorem dL_law_426 : decode cL_law 426 = .ok (.iload_n 3, 1) := by decide +kernel
theorem dL_law_427 : decode cL_law 427 = .ok (.iconst 1, 1) := by decide +kernel
theorem dL_law_428 : decode cL_law 428 = .ok (.iadd, 1) := by decide +kernel
theorem dL_law_429 : decode cL_law 429 = .ok (.iaload, 1) := by decide +kernel
theorem dL_law_430 : decode cL_law 430 = .ok (.i2l, 1) := by decide +kernel
theorem dL_law_431 : decode cL_law 431 = .ok (.bipush 32, 2) := by decide +kernel
theorem dL_law_433 : decode cL_law 433 = .ok (.lshl, 1) := by decide +kernel
theorem dL_law_434 : decode cL_law 434 = .ok (.aload_n 0, 1) := by decide +kernel
theorem dL_law_435 : decode cL_law 435 = .ok (.iload_n 3, 1) := by decide +kernel
theorem dL_law_436 : decode cL_law 436 = .ok (.iconst 2, 1) := by decide +kernel
theorem dL_law_437 : decode cL_law 437 = .ok (.iadd, 1) := by decide +kernel
theorem dL_law_438 : decode cL_law 438 = .ok (.iaload, 1) := by decide +kernel
theorem dL_law_439 : decode cL_law 439 = .ok (.i2l, 1) := by decide +kernel
theorem dL_law_440 : decode cL_law 440 = .ok (.ldc2_w 40, 3) := by decide +kernel
theorem dL_law_443 : decode cL_law 443 = .ok (.land, 1) := by decide +kernel
theorem dL_law_444 : decode cL_law 444 = .ok (.lor, 1) := by decide +kernel
theorem dL_law_445 : decode cL_law 445 = .ok (.aload_n 0, 1) := by decide +kernel
theorem dL_law_446 : decode cL_law 446 = .ok (.iload_n 3, 1) := by decide +kernel
theorem dL_law_447 : decode cL_law 447 = .ok (.iconst 3, 1) := by decide +kernel
theorem dL_law_448 : decode cL_law 448 = .ok (.iadd, 1) := by decide +kernel
theorem dL_law_449 : decode cL_law 449 = .ok (.iaload, 1) := by decide +kernel
theorem dL_law_450 : decode cL_law 450 = .ok (.invokevirtual 51, 3) := by decide +kernel
theorem dL_law_453 : decode cL_law 453 = .ok (.aload_n 2, 1) := by decide +kernel
theorem dL_law_454 : decode cL_law 454 = .ok (.aload_n 0, 1) := by decide +kernel
theorem dL_law_455 : decode cL_law 455 = .ok (.iload_n 3, 1) := by decide +kernel
theorem dL_law_456 : decode cL_law 456 = .ok (.iconst 1, 1) := by decide +kernel
theorem dL_law_457 : decode cL_law 457 = .ok (.iadd, 1) := by decide +kernel
theorem dL_law_458 : decode cL_law 458 = .ok (.iaload, 1) := by decide +kernel
theorem dL_law_459 : decode cL_law 459 = .ok (.i2l, 1) := by decide +kernel
theorem dL_law_460 : decode cL_law 460 = .ok (.bipush 32, 2) := by decide +kernel
theorem dL_law_462 : decode cL_law 462 = .ok (.lshl, 1) := by decide +kernel
theorem dL_law_463 : decode cL_law 463 = .ok (.aload_n 0, 1) := by decide +kernel
theorem dL_law_464 : decode cL_law 464 = .ok (.iload_n 3, 1) := by decide +kernel
theorem dL_law_465 : decode cL_law 465 = .ok (.iconst 2, 1) := by decide +kernel
theorem dL_law_466 : decode cL_law 466 = .ok (.iadd, 1) := by decide +kernel
theorem dL_law_467 : decode cL_law 467 = .ok (.iaload, 1) := by decide +kernel
theorem dL_law_468 : decode cL_law 468 = .ok (.i2l, 1) := by decide +kernel
theorem dL_law_469 : decode cL_law 469 = .ok (.ldc2_w 40, 3) := by decide +kernel
theorem dL_law_472 : decode cL_law 472 = .ok (.land, 1) := by decide +kernel
theorem dL_law_473 : decode cL_law 473 = .ok (.lor, 1) := by decide +kernel
theorem dL_law_474 : decode cL_law 474 = .ok (.aload_n 0, 1) := by decide +kernel
theorem dL_law_475 : decode cL_law 475 = .ok (.iload_n 3, 1) := by decide +kernel
theorem dL_law_476 : decode cL_law 476 = .ok (.iconst 3, 1) := by decide +kernel
theorem dL_law_477 : decode cL_law 477 = .ok (.iadd, 1) := by decide +kernel
theorem dL_law_478 : decode cL_law 478 = .ok (.iaload, 1) := by decide +kernel
theorem dL_law_479 : decode cL_law 479 = .ok (.invokevirtual 54, 3) := by decide +kernel
theorem dL_law_482 : decode cL_law 482 = .ok (.if_icmp .eq 117, 3) := by decide +kernel
theorem dL_law_485 : decode cL_law 485 = .ok (.iconst 0, 1) := by decide +kernel
theorem dL_law_486 : decode cL_law 486 = .ok (.ireturn, 1) := by decide +kernel
theorem dL_law_487 : decode cL_law 487 = .ok (.aload_n 1, 1) := by decide +kernel
theorem dL_law_488 : decode cL_law 488 = .ok (.aload_n 0, 1) := by decide +kernel
theorem dL_law_489 : decode cL_law 489 = .ok (.iload_n 3, 1) := by decide +kernel
theorem dL_law_490 : decode cL_law 490 = .ok (.iconst 1, 1) := by decide +kernel
theorem dL_law_491 : decode cL_law 491 = .ok (.iadd, 1) := by decide +kernel
theorem dL_law_492 : decode cL_law 492 = .ok (.iaload, 1) := by decide +kernel
theorem dL_law_493 : decode cL_law 493 = .ok (.invokevirtual 55, 3) := by decide +kernel
theorem dL_law_496 : decode cL_law 496 = .ok (.aload_n 2, 1) := by decide +kernel
theorem dL_law_497 : decode cL_law 497 = .ok (.aload_n 0, 1) := by decide +kernel
theorem dL_law_498 : decode cL_law 498 = .ok (.iload_n 3, 1) := by decide +kernel
theorem dL_law_499 : decode cL_law 499 = .ok (.iconst 1, 1) := by decide +kernel
theorem dL_law_500 : decode cL_law 500 = .ok (.iadd, 1) := by decide +kernel
theorem dL_law_501 : decode cL_law 501 = .ok (.iaload, 1) := by decide +kernel
theorem dL_law_502 : decode cL_law 502 = .ok (.invokevirtual 58, 3) := by decide +kernel
theorem dL_law_505 : decode cL_law 505 = .ok (.if_icmp .eq 94, 3) := by decide +kernel
theorem dL_law_508 : decode cL_law 508 = .ok (.iconst 0, 1) := by decide +kernel
theorem dL_law_509 : decode cL_law 509 = .ok (.ireturn, 1) := by decide +kernel
theorem dL_law_510 : decode cL_law 510 = .ok (.aload_n 1, 1) := by decide +kernel
theorem dL_law_511 : decode cL_law 511 = .ok (.aload_n 0, 1) := by decide +kernel
theorem dL_law_512 : decode cL_law 512 = .ok (.iload_n 3, 1) := by decide +kernel
theorem dL_law_513 : decode cL_law 513 = .ok (.iconst 1, 1) := by decide +kernel
theorem dL_law_514 : decode cL_law 514 = .ok (.iadd, 1) := by decide +kernel
theorem dL_law_515 : decode cL_law 515 = .ok (.iaload, 1) := by decide +kernel
theorem dL_law_516 : decode cL_law 516 = .ok (.aload_n 0, 1) := by decide +kernel
theorem dL_law_517 : decode cL_law 517 = .ok (.iload_n 3, 1) := by decide +kernel
theorem dL_law_518 : decode cL_law 518 = .ok (.iconst 2, 1) := by decide +kernel
theorem dL_law_519 : decode cL_law 519 = .ok (.iadd, 1) := by decide +kernel
theorem dL_law_520 : decode cL_law 520 = .ok (.iaload, 1) := by decide +kernel
theorem dL_law_521 : decode cL_law 521 = .ok (.invokevirtual 59, 3) := by decide +kernel
theorem dL_law_524 : decode cL_law 524 = .ok (.aload_n 2, 1) := by decide +kernel
theorem dL_law_525 : decode cL_law 525 = .ok (.aload_n 0, 1) := by decide +kernel
theorem dL_law_526 : decode cL_law 526 = .ok (.iload_n 3, 1) := by decide +kernel
theorem dL_law_527 : decode cL_law 527 = .ok (.iconst 1, 1) := by decide +kernel
theorem dL_law_528 : decode cL_law 528 = .ok (.iadd, 1) := by decide +kernel
theorem dL_law_529 : decode cL_law 529 = .ok (.iaload, 1) := by decide +kernel
theorem dL_law_530 : decode cL_law 530 = .ok (.aload_n 0, 1) := by decide +kernel
theorem dL_law_531 : decode cL_law 531 = .ok (.iload_n 3, 1) := by decide +kernel
theorem dL_law_532 : decode cL_law 532 = .ok (.iconst 2, 1) := by decide +kernel
theorem dL_law_533 : decode cL_law 533 = .ok (.iadd, 1) := by decide +kernel
theorem dL_law_534 : decode cL_law 534 = .ok (.iaload, 1) := by decide +kernel
theorem dL_law_535 : decode cL_law 535 = .ok (.invokevirtual 62, 3) := by decide +kernel
theorem dL_law_538 : decode cL_law 538 = .ok (.if_icmp .eq 61, 3) := by decide +kernel
theorem dL_law_541 : decode cL_law 541 = .ok (.iconst 0, 1) := by decide +kernel
theorem dL_law_542 : decode cL_law 542 = .ok (.ireturn, 1) := by decide +kernel
theorem dL_law_543 : decode cL_law 543 = .ok (.aload_n 1, 1) := by decide +kernel
theorem dL_law_544 : decode cL_law 544 = .ok (.aload_n 0, 1) := by decide +kernel
theorem dL_law_545 : decode cL_law 545 = .ok (.iload_n 3, 1) := by decide +kernel
theorem dL_law_546 : decode cL_law 546 = .ok (.iconst 1, 1) := by decide +kernel
theorem dL_law_547 : decode cL_law 547 = .ok (.iadd, 1) := by decide +kernel
theorem dL_law_548 : decode cL_law 548 = .ok (.iaload, 1) := by decide +kernel
theorem dL_law_549 : decode cL_law 549 = .ok (.aload_n 0, 1) := by decide +kernel
theorem dL_law_550 : decode cL_law 550 = .ok (.iload_n 3, 1) := by decide +kernel
theorem dL_law_551 : decode cL_law 551 = .ok (.iconst 2, 1) := by decide +kernel
theorem dL_law_552 : decode cL_law 552 = .ok (.iadd, 1) := by decide +kernel
theorem dL_law_553 : decode cL_law 553 = .ok (.iaload, 1) := by decide +kernel
theorem dL_law_554 : decode cL_law 554 = .ok (.invokevirtual 63, 3) := by decide +kernel
theorem dL_law_557 : decode cL_law 557 = .ok (.aload_n 2, 1) := by decide +kernel
theorem dL_law_558 : decode cL_law 558 = .ok (.aload_n 0, 1) := by decide +kernel
theorem dL_law_559 : decode cL_law 559 = .ok (.iload_n 3, 1) := by decide +kernel
theorem dL_law_560 : decode cL_law 560 = .ok (.iconst 1, 1) := by decide +kernel
theorem dL_law_561 : decode cL_law 561 = .ok (.iadd, 1) := by decide +kernel
theorem dL_law_562 : decode cL_law 562 = .ok (.iaload, 1) := by decide +kernel
theorem dL_law_563 : decode cL_law 563 = .ok (.aload_n 0, 1) := by decide +kernel
theorem dL_law_564 : decode cL_law 564 = .ok (.iload_n 3, 1) := by decide +kernel
theorem dL_law_565 : decode cL_law 565 = .ok (.iconst 2, 1) := by decide +kernel
theorem dL_law_566 : decode cL_law 566 = .ok (.iadd, 1) := by decide +kernel
theorem dL_law_567 : decode cL_law 567 = .ok (.iaload, 1) := by decide +kernel
theorem dL_law_568 : decode cL_law 568 = .ok (.invokevirtual 66, 3) := by decide +kernel
theorem dL_law_571 : decode cL_law 571 = .ok (.if_icmp .eq 28, 3) := by decide +kernel
theorem dL_law_574 : decode cL_law 574 = .ok (.iconst 0, 1) := by decide +kernel
theorem dL_law_575 : decode cL_law 575 = .ok (.ireturn, 1) := by decide +kernel
theorem dL_law_576 : decode cL_law 576 = .ok (.aload_n 1, 1) := by decide +kernel
theorem dL_law_577 : decode cL_law 577 = .ok (.aload_n 0, 1) := by decide +kernel
theorem dL_law_578 : decode cL_law 578 = .ok (.iload_n 3, 1) := by decide +kernel
theorem dL_law_579 : decode cL_law 579 = .ok (.iconst 1, 1) := by decide +kernel
theorem dL_law_580 : decode cL_law 580 = .ok (.iadd, 1) := by decide +kernel
theorem dL_law_581 : decode cL_law 581 = .ok (.iaload, 1) := by decide +kernel
theorem dL_law_582 : decode cL_law 582 = .ok (.invokevirtual 67, 3) := by decide +kernel
theorem dL_law_585 : decode cL_law 585 = .ok (.aload_n 2, 1) := by decide +kernel
theorem dL_law_586 : decode cL_law 586 = .ok (.aload_n 0, 1) := by decide +kernel
theorem dL_law_587 : decode cL_law 587 = .ok (.iload_n 3, 1) := by decide +kernel
theorem dL_law_588 : decode cL_law 588 = .ok (.iconst 1, 1) := by decide +kernel
theorem dL_law_589 : decode cL_law 589 = .ok (.iadd, 1) := by decide +kernel
theorem dL_law_590 : decode cL_law 590 = .ok (.iaload, 1) := by decide +kernel
theorem dL_law_591 : decode cL_law 591 = .ok (.invokevirtual 70, 3) := by decide +kernel
theorem dL_law_594 : decode cL_law 594 = .ok (.if_icmp .eq 5, 3) := by decide +kernel
theorem dL_law_597 : decode cL_law 597 = .ok (.iconst 0, 1) := by decide +kernel
theorem dL_law_598 : decode cL_law 598 = .ok (.ireturn, 1) := by decide +kernel
theorem dL_law_599 : decode cL_law 599 = .ok (.iinc 3 4, 3) := by decide +kernel
theorem dL_law_602 : decode cL_law 602 = .ok (.goto (-584), 3) := by decide +kernel
theorem dL_law_605 : decode cL_law 605 = .ok (.iconst 1, 1) := by decide +kernel
theorem dL_law_606 : decode cL_law 606 = .ok (.ireturn, 1) := by decide +kernel
abbrev vwCl : List vw_C := [(RX0, TX0, 9), (RX1, TX1, 9)]
end
section
/-! The state of either object (class and reference have the same slots), and the words of the pure programs that are walked. -/
abbrev St : Type := (Nat → Int32) × (Nat → Int32) × (Nat → Int32) × Int32 × Int32 × Int32 × Int32 × Int32 × Int32
def yrd (f : Nat → Int32) (n : Nat) (i : Int32) : Option Int32 := if i < 0 ∨ n ≤ i.toNatClampNeg then none else some (f i.toNatClampNeg)
def ywr (f : Nat → Int32) (n : Nat) (i : Int32) (x : Int32) : Option (Nat → Int32) := if i < 0 ∨ n ≤ i.toNatClampNeg then none else some (upd f i.toNatClampNeg x)
def yG0 (st : St) : Nat → Int32 := st.1
def yS0 (st : St) (v : Nat → Int32) : St := (v, st.2)
def yG1 (st : St) : Nat → Int32 := st.2.1
def yS1 (st : St) (v : Nat → Int32) : St := (st.1, v, st.2.2)
def yG2 (st : St) : Nat → Int32 := st.2.2.1
def yS2 (st : St) (v : Nat → Int32) : St := (st.1, st.2.1, v, st.2.2.2)
def yG3 (st : St) : Int32 := st.2.2.2.1
def yS3 (st : St) (v : Int32) : St := (st.1, st.2.1, st.2.2.1, v, st.2.2.2.2)
def yG4 (st : St) : Int32 := st.2.2.2.2.1
def yS4 (st : St) (v : Int32) : St := (st.1, st.2.1, st.2.2.1, st.2.2.2.1, v, st.2.2.2.2.2)
def yG5 (st : St) : Int32 := st.2.2.2.2.2.1
def yS5 (st : St) (v : Int32) : St := (st.1, st.2.1, st.2.2.1, st.2.2.2.1, st.2.2.2.2.1, v, st.2.2.2.2.2.2)
def yG6 (st : St) : Int32 := st.2.2.2.2.2.2.1
def yS6 (st : St) (v : Int32) : St := (st.1, st.2.1, st.2.2.1, st.2.2.2.1, st.2.2.2.2.1, st.2.2.2.2.2.1, v, st.2.2.2.2.2.2.2)
def yG7 (st : St) : Int32 := st.2.2.2.2.2.2.2.1
def yS7 (st : St) (v : Int32) : St := (st.1, st.2.1, st.2.2.1, st.2.2.2.1, st.2.2.2.2.1, st.2.2.2.2.2.1, st.2.2.2.2.2.2.1, v, st.2.2.2.2.2.2.2.2)
def yG8 (st : St) : Int32 := st.2.2.2.2.2.2.2.2
def yS8 (st : St) (v : Int32) : St := (st.1, st.2.1, st.2.2.1, st.2.2.2.1, st.2.2.2.2.1, st.2.2.2.2.2.1, st.2.2.2.2.2.2.1, st.2.2.2.2.2.2.2.1, v)
def yP3 (st : St) (v : Int32) : Option St := some (yS3 st v)
def yP4 (st : St) (v : Int32) : Option St := some (yS4 st v)
def yP5 (st : St) (v : Int32) : Option St := some (yS5 st v)
def yP6 (st : St) (v : Int32) : Option St := some (yS6 st v)
def yP7 (st : St) (v : Int32) : Option St := some (yS7 st v)
def yP8 (st : St) (v : Int32) : Option St := some (yS8 st v)
def yW0 (st : St) (i x : Int32) : Option St := (ywr (yG0 st) 8 i x).map (yS0 st)
def yW1 (st : St) (i x : Int32) : Option St := (ywr (yG1 st) 8 i x).map (yS1 st)
def yW2 (st : St) (i x : Int32) : Option St := (ywr (yG2 st) 96 i x).map (yS2 st)
def yf (q1 q2 q3 : Nat) (st : St) : List Value := [.ref q1, .ref q2, .ref q3, .int st.2.2.2.1, .int st.2.2.2.2.1, .int st.2.2.2.2.2.1, .int st.2.2.2.2.2.2.1, .int st.2.2.2.2.2.2.2.1, .int st.2.2.2.2.2.2.2.2]
def yw (ci h0 q1 q2 q3 : Nat) (cA : ClassId) (st : St) : va_W := [(h0, .inr (ci, yf q1 q2 q3 st)), (q1, .inl (cA, 8, .inl st.1)), (q2, .inl (cA, 8, .inl st.2.1)), (q3, .inl (cA, 96, .inl st.2.2.1))]
def Wd (D : va_G) (ci h0 q1 q2 q3 : Nat) (cA : ClassId) (A : Nat → Prop) (s : State) (st : St) (H : Heap) (locs : List Loc) : Prop := va_K D vwCl [(cA, .int)] s ∧ va_P D vwCl (yw ci h0 q1 q2 q3 cA st) H ∧ va_D A (yw ci h0 q1 q2 q3 cA st) ∧ va_S A s.heap H locs
def yrm (k : Nat) : Room := { frames := k, cells := 0, slots := 0, locals := 30 * k }
theorem y_ifp {α : Type} {P : Prop} {i : Decidable P} {a b o : α} (h : P) (q : (@ite α P i a b) = o) : a = o := by rw [if_pos h] at q; exact q
theorem y_ifn {α : Type} {P : Prop} {i : Decidable P} {a b o : α} (h : ¬ P) (q : (@ite α P i a b) = o) : b = o := by rw [if_neg h] at q; exact q
theorem y_bd {α β : Type} {o : Option α} {g : α → Option β} {b : β} (q : o.bind g = some b) : ∃ a, o = some a ∧ g a = some b := Option.bind_eq_some_iff.mp q
theorem y_rd {f : Nat → Int32} {n : Nat} {i x : Int32} (h : yrd f n i = some x) : vp_in i n ∧ f i.toNatClampNeg = x := by
  unfold yrd at h
  by_cases q : i < 0 ∨ n ≤ i.toNatClampNeg
  · rw [if_pos q] at h; cases h
  · rw [if_neg q] at h; exact ⟨q, Option.some.inj h⟩
theorem y_wr {f g : Nat → Int32} {n : Nat} {i x : Int32} (h : ywr f n i x = some g) : vp_in i n ∧ upd f i.toNatClampNeg x = g := by
  unfold ywr at h
  by_cases q : i < 0 ∨ n ≤ i.toNatClampNeg
  · rw [if_pos q] at h; cases h
  · rw [if_neg q] at h; exact ⟨q, Option.some.inj h⟩
section YB
variable {p : Program} {l : Launch} {e : Env} {R : Room} {s : State} {m : MethodId} {args : Array Value} {below : List Frame} {meth : Method} {c : Code} {H : Heap} {locs : List Loc} {cells slots : Nat} {Q : State → Prop} {cc : ByteArray} {pc nL : Nat} {ls : Array Slot} {rest : List Value} {Ts : List Cond} {own : String} {D : va_G} {ci h0 q1 q2 q3 : Nat} {cA : ClassId} {A : Nat → Prop} {st : St}
theorem yget0 (F : CallFix p m c cc nL s args Ts RX0) (hin : ∀ w ∈ wsX00, w ∈ Ts) (w : Wd D 0 h0 q1 q2 q3 cA A s st H locs) (k : Nat) (hk : k < 9) {index : Nat} (hl : Cond.fieldLink RX0 index (TX0 k).1 (TX0 k).2.1 (TX0 k).2.2.1 ∈ Ts) {v : Value} (hv : (yf q1 q2 q3 st)[k]? = some v) (hdg : decode cc pc = .ok (.getfield index, 3)) (kk : W p l e R s m args below meth c H locs cells slots Q (F0 m (pc + 3) ls (v :: rest))) : W p l e R s m args below meth c H locs cells slots Q (F0 m pc ls (.ref h0 :: rest)) :=
  va_get (D := D) (ci := 0) (v := v) (C := RX0) (T := TX0) (N := 9) F.1 F.2.1 F.2.2.2.2 hin F.2.2.2.1 w.1 w.2.1 0 rfl rfl k hk (F.2.2.2.2 _ hl) (fun _ h9 => h9) hv hdg kk
theorem yput0_3 (F : CallFix p m c cc nL s args Ts RX0) (hin : ∀ w ∈ wsX00, w ∈ Ts) (w : Wd D 0 h0 q1 q2 q3 cA A s st H locs) {index : Nat} (hl : Cond.fieldLink RX0 index (TX0 3).1 (TX0 3).2.1 (TX0 3).2.2.1 ∈ Ts) {v : Int32} {st1 : St} (hs : yP3 st v = some st1) (hdg : decode cc pc = .ok (.putfield index, 3)) (kk : ∀ (H1 : Heap) (locs1 : List Loc), Wd D 0 h0 q1 q2 q3 cA A s st1 H1 locs1 → W p l e R s m args below meth c H1 locs1 cells slots Q (F0 m (pc + 3) ls rest)) : W p l e R s m args below meth c H locs cells slots Q (F0 m pc ls (.int v :: .ref h0 :: rest)) := by
  obtain rfl := Option.some.inj hs
  exact va_put (D := D) (ci := 0) (v := .int v) (ty := .int) (C := RX0) (T := TX0) (N := 9) F.1 F.2.1 F.2.2.2.2 hin tyX0 tyX0_ok nmX0 F.2.2.2.1 w.1 w.2.1 w.2.2.1 w.2.2.2 0 rfl rfl 3 (by decide) (F.2.2.2.2 _ hl) (fun _ h9 => h9) rfl (by decide +kernel) rfl rfl (Nat.le_of_ble_eq_true rfl) hdg (fun H1 locs1 hP hD hS => kk H1 locs1 ⟨w.1, hP, hD, hS⟩)
theorem yput0_4 (F : CallFix p m c cc nL s args Ts RX0) (hin : ∀ w ∈ wsX00, w ∈ Ts) (w : Wd D 0 h0 q1 q2 q3 cA A s st H locs) {index : Nat} (hl : Cond.fieldLink RX0 index (TX0 4).1 (TX0 4).2.1 (TX0 4).2.2.1 ∈ Ts) {v : Int32} {st1 : St} (hs : yP4 st v = some st1) (hdg : decode cc pc = .ok (.putfield index, 3)) (kk : ∀ (H1 : Heap) (locs1 : List Loc), Wd D 0 h0 q1 q2 q3 cA A s st1 H1 locs1 → W p l e R s m args below meth c H1 locs1 cells slots Q (F0 m (pc + 3) ls rest)) : W p l e R s m args below meth c H locs cells slots Q (F0 m pc ls (.int v :: .ref h0 :: rest)) := by
  obtain rfl := Option.some.inj hs
  exact va_put (D := D) (ci := 0) (v := .int v) (ty := .int) (C := RX0) (T := TX0) (N := 9) F.1 F.2.1 F.2.2.2.2 hin tyX0 tyX0_ok nmX0 F.2.2.2.1 w.1 w.2.1 w.2.2.1 w.2.2.2 0 rfl rfl 4 (by decide) (F.2.2.2.2 _ hl) (fun _ h9 => h9) rfl (by decide +kernel) rfl rfl (Nat.le_of_ble_eq_true rfl) hdg (fun H1 locs1 hP hD hS => kk H1 locs1 ⟨w.1, hP, hD, hS⟩)
theorem yput0_5 (F : CallFix p m c cc nL s args Ts RX0) (hin : ∀ w ∈ wsX00, w ∈ Ts) (w : Wd D 0 h0 q1 q2 q3 cA A s st H locs) {index : Nat} (hl : Cond.fieldLink RX0 index (TX0 5).1 (TX0 5).2.1 (TX0 5).2.2.1 ∈ Ts) {v : Int32} {st1 : St} (hs : yP5 st v = some st1) (hdg : decode cc pc = .ok (.putfield index, 3)) (kk : ∀ (H1 : Heap) (locs1 : List Loc), Wd D 0 h0 q1 q2 q3 cA A s st1 H1 locs1 → W p l e R s m args below meth c H1 locs1 cells slots Q (F0 m (pc + 3) ls rest)) : W p l e R s m args below meth c H locs cells slots Q (F0 m pc ls (.int v :: .ref h0 :: rest)) := by
  obtain rfl := Option.some.inj hs
  exact va_put (D := D) (ci := 0) (v := .int v) (ty := .int) (C := RX0) (T := TX0) (N := 9) F.1 F.2.1 F.2.2.2.2 hin tyX0 tyX0_ok nmX0 F.2.2.2.1 w.1 w.2.1 w.2.2.1 w.2.2.2 0 rfl rfl 5 (by decide) (F.2.2.2.2 _ hl) (fun _ h9 => h9) rfl (by decide +kernel) rfl rfl (Nat.le_of_ble_eq_true rfl) hdg (fun H1 locs1 hP hD hS => kk H1 locs1 ⟨w.1, hP, hD, hS⟩)
theorem yput0_6 (F : CallFix p m c cc nL s args Ts RX0) (hin : ∀ w ∈ wsX00, w ∈ Ts) (w : Wd D 0 h0 q1 q2 q3 cA A s st H locs) {index : Nat} (hl : Cond.fieldLink RX0 index (TX0 6).1 (TX0 6).2.1 (TX0 6).2.2.1 ∈ Ts) {v : Int32} {st1 : St} (hs : yP6 st v = some st1) (hdg : decode cc pc = .ok (.putfield index, 3)) (kk : ∀ (H1 : Heap) (locs1 : List Loc), Wd D 0 h0 q1 q2 q3 cA A s st1 H1 locs1 → W p l e R s m args below meth c H1 locs1 cells slots Q (F0 m (pc + 3) ls rest)) : W p l e R s m args below meth c H locs cells slots Q (F0 m pc ls (.int v :: .ref h0 :: rest)) := by
  obtain rfl := Option.some.inj hs
  exact va_put (D := D) (ci := 0) (v := .int v) (ty := .int) (C := RX0) (T := TX0) (N := 9) F.1 F.2.1 F.2.2.2.2 hin tyX0 tyX0_ok nmX0 F.2.2.2.1 w.1 w.2.1 w.2.2.1 w.2.2.2 0 rfl rfl 6 (by decide) (F.2.2.2.2 _ hl) (fun _ h9 => h9) rfl (by decide +kernel) rfl rfl (Nat.le_of_ble_eq_true rfl) hdg (fun H1 locs1 hP hD hS => kk H1 locs1 ⟨w.1, hP, hD, hS⟩)
theorem yput0_7 (F : CallFix p m c cc nL s args Ts RX0) (hin : ∀ w ∈ wsX00, w ∈ Ts) (w : Wd D 0 h0 q1 q2 q3 cA A s st H locs) {index : Nat} (hl : Cond.fieldLink RX0 index (TX0 7).1 (TX0 7).2.1 (TX0 7).2.2.1 ∈ Ts) {v : Int32} {st1 : St} (hs : yP7 st v = some st1) (hdg : decode cc pc = .ok (.putfield index, 3)) (kk : ∀ (H1 : Heap) (locs1 : List Loc), Wd D 0 h0 q1 q2 q3 cA A s st1 H1 locs1 → W p l e R s m args below meth c H1 locs1 cells slots Q (F0 m (pc + 3) ls rest)) : W p l e R s m args below meth c H locs cells slots Q (F0 m pc ls (.int v :: .ref h0 :: rest)) := by
  obtain rfl := Option.some.inj hs
  exact va_put (D := D) (ci := 0) (v := .int v) (ty := .int) (C := RX0) (T := TX0) (N := 9) F.1 F.2.1 F.2.2.2.2 hin tyX0 tyX0_ok nmX0 F.2.2.2.1 w.1 w.2.1 w.2.2.1 w.2.2.2 0 rfl rfl 7 (by decide) (F.2.2.2.2 _ hl) (fun _ h9 => h9) rfl (by decide +kernel) rfl rfl (Nat.le_of_ble_eq_true rfl) hdg (fun H1 locs1 hP hD hS => kk H1 locs1 ⟨w.1, hP, hD, hS⟩)
theorem yput0_8 (F : CallFix p m c cc nL s args Ts RX0) (hin : ∀ w ∈ wsX00, w ∈ Ts) (w : Wd D 0 h0 q1 q2 q3 cA A s st H locs) {index : Nat} (hl : Cond.fieldLink RX0 index (TX0 8).1 (TX0 8).2.1 (TX0 8).2.2.1 ∈ Ts) {v : Int32} {st1 : St} (hs : yP8 st v = some st1) (hdg : decode cc pc = .ok (.putfield index, 3)) (kk : ∀ (H1 : Heap) (locs1 : List Loc), Wd D 0 h0 q1 q2 q3 cA A s st1 H1 locs1 → W p l e R s m args below meth c H1 locs1 cells slots Q (F0 m (pc + 3) ls rest)) : W p l e R s m args below meth c H locs cells slots Q (F0 m pc ls (.int v :: .ref h0 :: rest)) := by
  obtain rfl := Option.some.inj hs
  exact va_put (D := D) (ci := 0) (v := .int v) (ty := .int) (C := RX0) (T := TX0) (N := 9) F.1 F.2.1 F.2.2.2.2 hin tyX0 tyX0_ok nmX0 F.2.2.2.1 w.1 w.2.1 w.2.2.1 w.2.2.2 0 rfl rfl 8 (by decide) (F.2.2.2.2 _ hl) (fun _ h9 => h9) rfl (by decide +kernel) rfl rfl (Nat.le_of_ble_eq_true rfl) hdg (fun H1 locs1 hP hD hS => kk H1 locs1 ⟨w.1, hP, hD, hS⟩)
theorem yget1 (F : CallFix p m c cc nL s args Ts RX1) (hin : ∀ w ∈ wsX10, w ∈ Ts) (w : Wd D 1 h0 q1 q2 q3 cA A s st H locs) (k : Nat) (hk : k < 9) {index : Nat} (hl : Cond.fieldLink RX1 index (TX1 k).1 (TX1 k).2.1 (TX1 k).2.2.1 ∈ Ts) {v : Value} (hv : (yf q1 q2 q3 st)[k]? = some v) (hdg : decode cc pc = .ok (.getfield index, 3)) (kk : W p l e R s m args below meth c H locs cells slots Q (F0 m (pc + 3) ls (v :: rest))) : W p l e R s m args below meth c H locs cells slots Q (F0 m pc ls (.ref h0 :: rest)) :=
  va_get (D := D) (ci := 1) (v := v) (C := RX1) (T := TX1) (N := 9) F.1 F.2.1 F.2.2.2.2 hin F.2.2.2.1 w.1 w.2.1 0 rfl rfl k hk (F.2.2.2.2 _ hl) (fun _ h9 => h9) hv hdg kk
theorem yput1_3 (F : CallFix p m c cc nL s args Ts RX1) (hin : ∀ w ∈ wsX10, w ∈ Ts) (w : Wd D 1 h0 q1 q2 q3 cA A s st H locs) {index : Nat} (hl : Cond.fieldLink RX1 index (TX1 3).1 (TX1 3).2.1 (TX1 3).2.2.1 ∈ Ts) {v : Int32} {st1 : St} (hs : yP3 st v = some st1) (hdg : decode cc pc = .ok (.putfield index, 3)) (kk : ∀ (H1 : Heap) (locs1 : List Loc), Wd D 1 h0 q1 q2 q3 cA A s st1 H1 locs1 → W p l e R s m args below meth c H1 locs1 cells slots Q (F0 m (pc + 3) ls rest)) : W p l e R s m args below meth c H locs cells slots Q (F0 m pc ls (.int v :: .ref h0 :: rest)) := by
  obtain rfl := Option.some.inj hs
  exact va_put (D := D) (ci := 1) (v := .int v) (ty := .int) (C := RX1) (T := TX1) (N := 9) F.1 F.2.1 F.2.2.2.2 hin tyX1 tyX1_ok nmX1 F.2.2.2.1 w.1 w.2.1 w.2.2.1 w.2.2.2 0 rfl rfl 3 (by decide) (F.2.2.2.2 _ hl) (fun _ h9 => h9) rfl (by decide +kernel) rfl rfl (Nat.le_of_ble_eq_true rfl) hdg (fun H1 locs1 hP hD hS => kk H1 locs1 ⟨w.1, hP, hD, hS⟩)
theorem yput1_4 (F : CallFix p m c cc nL s args Ts RX1) (hin : ∀ w ∈ wsX10, w ∈ Ts) (w : Wd D 1 h0 q1 q2 q3 cA A s st H locs) {index : Nat} (hl : Cond.fieldLink RX1 index (TX1 4).1 (TX1 4).2.1 (TX1 4).2.2.1 ∈ Ts) {v : Int32} {st1 : St} (hs : yP4 st v = some st1) (hdg : decode cc pc = .ok (.putfield index, 3)) (kk : ∀ (H1 : Heap) (locs1 : List Loc), Wd D 1 h0 q1 q2 q3 cA A s st1 H1 locs1 → W p l e R s m args below meth c H1 locs1 cells slots Q (F0 m (pc + 3) ls rest)) : W p l e R s m args below meth c H locs cells slots Q (F0 m pc ls (.int v :: .ref h0 :: rest)) := by
  obtain rfl := Option.some.inj hs
  exact va_put (D := D) (ci := 1) (v := .int v) (ty := .int) (C := RX1) (T := TX1) (N := 9) F.1 F.2.1 F.2.2.2.2 hin tyX1 tyX1_ok nmX1 F.2.2.2.1 w.1 w.2.1 w.2.2.1 w.2.2.2 0 rfl rfl 4 (by decide) (F.2.2.2.2 _ hl) (fun _ h9 => h9) rfl (by decide +kernel) rfl rfl (Nat.le_of_ble_eq_true rfl) hdg (fun H1 locs1 hP hD hS => kk H1 locs1 ⟨w.1, hP, hD, hS⟩)
theorem yput1_5 (F : CallFix p m c cc nL s args Ts RX1) (hin : ∀ w ∈ wsX10, w ∈ Ts) (w : Wd D 1 h0 q1 q2 q3 cA A s st H locs) {index : Nat} (hl : Cond.fieldLink RX1 index (TX1 5).1 (TX1 5).2.1 (TX1 5).2.2.1 ∈ Ts) {v : Int32} {st1 : St} (hs : yP5 st v = some st1) (hdg : decode cc pc = .ok (.putfield index, 3)) (kk : ∀ (H1 : Heap) (locs1 : List Loc), Wd D 1 h0 q1 q2 q3 cA A s st1 H1 locs1 → W p l e R s m args below meth c H1 locs1 cells slots Q (F0 m (pc + 3) ls rest)) : W p l e R s m args below meth c H locs cells slots Q (F0 m pc ls (.int v :: .ref h0 :: rest)) := by
  obtain rfl := Option.some.inj hs
  exact va_put (D := D) (ci := 1) (v := .int v) (ty := .int) (C := RX1) (T := TX1) (N := 9) F.1 F.2.1 F.2.2.2.2 hin tyX1 tyX1_ok nmX1 F.2.2.2.1 w.1 w.2.1 w.2.2.1 w.2.2.2 0 rfl rfl 5 (by decide) (F.2.2.2.2 _ hl) (fun _ h9 => h9) rfl (by decide +kernel) rfl rfl (Nat.le_of_ble_eq_true rfl) hdg (fun H1 locs1 hP hD hS => kk H1 locs1 ⟨w.1, hP, hD, hS⟩)
theorem yput1_6 (F : CallFix p m c cc nL s args Ts RX1) (hin : ∀ w ∈ wsX10, w ∈ Ts) (w : Wd D 1 h0 q1 q2 q3 cA A s st H locs) {index : Nat} (hl : Cond.fieldLink RX1 index (TX1 6).1 (TX1 6).2.1 (TX1 6).2.2.1 ∈ Ts) {v : Int32} {st1 : St} (hs : yP6 st v = some st1) (hdg : decode cc pc = .ok (.putfield index, 3)) (kk : ∀ (H1 : Heap) (locs1 : List Loc), Wd D 1 h0 q1 q2 q3 cA A s st1 H1 locs1 → W p l e R s m args below meth c H1 locs1 cells slots Q (F0 m (pc + 3) ls rest)) : W p l e R s m args below meth c H locs cells slots Q (F0 m pc ls (.int v :: .ref h0 :: rest)) := by
  obtain rfl := Option.some.inj hs
  exact va_put (D := D) (ci := 1) (v := .int v) (ty := .int) (C := RX1) (T := TX1) (N := 9) F.1 F.2.1 F.2.2.2.2 hin tyX1 tyX1_ok nmX1 F.2.2.2.1 w.1 w.2.1 w.2.2.1 w.2.2.2 0 rfl rfl 6 (by decide) (F.2.2.2.2 _ hl) (fun _ h9 => h9) rfl (by decide +kernel) rfl rfl (Nat.le_of_ble_eq_true rfl) hdg (fun H1 locs1 hP hD hS => kk H1 locs1 ⟨w.1, hP, hD, hS⟩)
theorem yput1_7 (F : CallFix p m c cc nL s args Ts RX1) (hin : ∀ w ∈ wsX10, w ∈ Ts) (w : Wd D 1 h0 q1 q2 q3 cA A s st H locs) {index : Nat} (hl : Cond.fieldLink RX1 index (TX1 7).1 (TX1 7).2.1 (TX1 7).2.2.1 ∈ Ts) {v : Int32} {st1 : St} (hs : yP7 st v = some st1) (hdg : decode cc pc = .ok (.putfield index, 3)) (kk : ∀ (H1 : Heap) (locs1 : List Loc), Wd D 1 h0 q1 q2 q3 cA A s st1 H1 locs1 → W p l e R s m args below meth c H1 locs1 cells slots Q (F0 m (pc + 3) ls rest)) : W p l e R s m args below meth c H locs cells slots Q (F0 m pc ls (.int v :: .ref h0 :: rest)) := by
  obtain rfl := Option.some.inj hs
  exact va_put (D := D) (ci := 1) (v := .int v) (ty := .int) (C := RX1) (T := TX1) (N := 9) F.1 F.2.1 F.2.2.2.2 hin tyX1 tyX1_ok nmX1 F.2.2.2.1 w.1 w.2.1 w.2.2.1 w.2.2.2 0 rfl rfl 7 (by decide) (F.2.2.2.2 _ hl) (fun _ h9 => h9) rfl (by decide +kernel) rfl rfl (Nat.le_of_ble_eq_true rfl) hdg (fun H1 locs1 hP hD hS => kk H1 locs1 ⟨w.1, hP, hD, hS⟩)
theorem yput1_8 (F : CallFix p m c cc nL s args Ts RX1) (hin : ∀ w ∈ wsX10, w ∈ Ts) (w : Wd D 1 h0 q1 q2 q3 cA A s st H locs) {index : Nat} (hl : Cond.fieldLink RX1 index (TX1 8).1 (TX1 8).2.1 (TX1 8).2.2.1 ∈ Ts) {v : Int32} {st1 : St} (hs : yP8 st v = some st1) (hdg : decode cc pc = .ok (.putfield index, 3)) (kk : ∀ (H1 : Heap) (locs1 : List Loc), Wd D 1 h0 q1 q2 q3 cA A s st1 H1 locs1 → W p l e R s m args below meth c H1 locs1 cells slots Q (F0 m (pc + 3) ls rest)) : W p l e R s m args below meth c H locs cells slots Q (F0 m pc ls (.int v :: .ref h0 :: rest)) := by
  obtain rfl := Option.some.inj hs
  exact va_put (D := D) (ci := 1) (v := .int v) (ty := .int) (C := RX1) (T := TX1) (N := 9) F.1 F.2.1 F.2.2.2.2 hin tyX1 tyX1_ok nmX1 F.2.2.2.1 w.1 w.2.1 w.2.2.1 w.2.2.2 0 rfl rfl 8 (by decide) (F.2.2.2.2 _ hl) (fun _ h9 => h9) rfl (by decide +kernel) rfl rfl (Nat.le_of_ble_eq_true rfl) hdg (fun H1 locs1 hP hD hS => kk H1 locs1 ⟨w.1, hP, hD, hS⟩)
theorem yald0 (F : CallFix p m c cc nL s args Ts own) (w : Wd D ci h0 q1 q2 q3 cA A s st H locs) {i x : Int32} (hx : yrd (yG0 st) 8 i = some x) (hdg : decode cc pc = .ok (.iaload, 1)) (kk : W p l e R s m args below meth c H locs cells slots Q (F0 m (pc + 1) ls (.int x :: rest))) : W p l e R s m args below meth c H locs cells slots Q (F0 m pc ls (.int i :: .ref q1 :: rest)) := by
  obtain ⟨h1, h2⟩ := y_rd hx
  subst h2
  exact va_iald (f := yG0 st) F.1 F.2.1 w.1 w.2.1 1 0 rfl rfl h1 hdg kk
theorem yast0 (F : CallFix p m c cc nL s args Ts own) (w : Wd D ci h0 q1 q2 q3 cA A s st H locs) {i x : Int32} {st1 : St} (hx : yW0 st i x = some st1) (hdg : decode cc pc = .ok (.iastore, 1)) (kk : ∀ (H1 : Heap) (locs1 : List Loc), Wd D ci h0 q1 q2 q3 cA A s st1 H1 locs1 → W p l e R s m args below meth c H1 locs1 cells slots Q (F0 m (pc + 1) ls rest)) : W p l e R s m args below meth c H locs cells slots Q (F0 m pc ls (.int x :: .int i :: .ref q1 :: rest)) := by
  obtain ⟨g, hg, rfl⟩ := Option.map_eq_some_iff.mp hx
  obtain ⟨h1, h2⟩ := y_wr hg
  subst h2
  exact va_iast (f := yG0 st) F.1 F.2.1 w.1 w.2.1 w.2.2.1 w.2.2.2 1 0 rfl rfl h1 hdg (fun H1 locs1 hP hD hS => kk H1 locs1 ⟨w.1, hP, hD, hS⟩)
theorem yald1 (F : CallFix p m c cc nL s args Ts own) (w : Wd D ci h0 q1 q2 q3 cA A s st H locs) {i x : Int32} (hx : yrd (yG1 st) 8 i = some x) (hdg : decode cc pc = .ok (.iaload, 1)) (kk : W p l e R s m args below meth c H locs cells slots Q (F0 m (pc + 1) ls (.int x :: rest))) : W p l e R s m args below meth c H locs cells slots Q (F0 m pc ls (.int i :: .ref q2 :: rest)) := by
  obtain ⟨h1, h2⟩ := y_rd hx
  subst h2
  exact va_iald (f := yG1 st) F.1 F.2.1 w.1 w.2.1 2 0 rfl rfl h1 hdg kk
theorem yast1 (F : CallFix p m c cc nL s args Ts own) (w : Wd D ci h0 q1 q2 q3 cA A s st H locs) {i x : Int32} {st1 : St} (hx : yW1 st i x = some st1) (hdg : decode cc pc = .ok (.iastore, 1)) (kk : ∀ (H1 : Heap) (locs1 : List Loc), Wd D ci h0 q1 q2 q3 cA A s st1 H1 locs1 → W p l e R s m args below meth c H1 locs1 cells slots Q (F0 m (pc + 1) ls rest)) : W p l e R s m args below meth c H locs cells slots Q (F0 m pc ls (.int x :: .int i :: .ref q2 :: rest)) := by
  obtain ⟨g, hg, rfl⟩ := Option.map_eq_some_iff.mp hx
  obtain ⟨h1, h2⟩ := y_wr hg
  subst h2
  exact va_iast (f := yG1 st) F.1 F.2.1 w.1 w.2.1 w.2.2.1 w.2.2.2 2 0 rfl rfl h1 hdg (fun H1 locs1 hP hD hS => kk H1 locs1 ⟨w.1, hP, hD, hS⟩)
theorem yald2 (F : CallFix p m c cc nL s args Ts own) (w : Wd D ci h0 q1 q2 q3 cA A s st H locs) {i x : Int32} (hx : yrd (yG2 st) 96 i = some x) (hdg : decode cc pc = .ok (.iaload, 1)) (kk : W p l e R s m args below meth c H locs cells slots Q (F0 m (pc + 1) ls (.int x :: rest))) : W p l e R s m args below meth c H locs cells slots Q (F0 m pc ls (.int i :: .ref q3 :: rest)) := by
  obtain ⟨h1, h2⟩ := y_rd hx
  subst h2
  exact va_iald (f := yG2 st) F.1 F.2.1 w.1 w.2.1 3 0 rfl rfl h1 hdg kk
theorem yast2 (F : CallFix p m c cc nL s args Ts own) (w : Wd D ci h0 q1 q2 q3 cA A s st H locs) {i x : Int32} {st1 : St} (hx : yW2 st i x = some st1) (hdg : decode cc pc = .ok (.iastore, 1)) (kk : ∀ (H1 : Heap) (locs1 : List Loc), Wd D ci h0 q1 q2 q3 cA A s st1 H1 locs1 → W p l e R s m args below meth c H1 locs1 cells slots Q (F0 m (pc + 1) ls rest)) : W p l e R s m args below meth c H locs cells slots Q (F0 m pc ls (.int x :: .int i :: .ref q3 :: rest)) := by
  obtain ⟨g, hg, rfl⟩ := Option.map_eq_some_iff.mp hx
  obtain ⟨h1, h2⟩ := y_wr hg
  subst h2
  exact va_iast (f := yG2 st) F.1 F.2.1 w.1 w.2.1 w.2.2.1 w.2.2.2 3 0 rfl rfl h1 hdg (fun H1 locs1 hP hD hS => kk H1 locs1 ⟨w.1, hP, hD, hS⟩)
/-- a contract: where the pure program f answers, the method returns that answer and leaves that state -/
def yMet (l : Launch) (D : va_G) (ci : Nat) (y : MethodName) (ws : List Cond) (k : Nat) (av : List Value) (f : St → Option (Int32 × St)) : Prop :=
  ∀ (h0 q1 q2 q3 : Nat) (cA : ClassId) (sz : Nat) (st st2 : St) (r : Int32), f st = some (r, st2) → Met l y ws (yrm k) (va_Pc (.ref h0 :: av) (fun U => U.heap.size = sz ∧ va_P D vwCl (yw ci h0 q1 q2 q3 cA st) U.heap ∧ va_K D vwCl [(cA, .int)] U ∧ va_D (fun _ => True) (yw ci h0 q1 q2 q3 cA st))) (va_Qi (fun (r2 : Int32) (u : St) => r2 = r ∧ u = st2) (fun u t => va_P D vwCl (yw ci h0 q1 q2 q3 cA u) t.heap ∧ va_K D vwCl [(cA, .int)] t ∧ va_D (va_A (yw ci h0 q1 q2 q3 cA st) sz) (yw ci h0 q1 q2 q3 cA u)) (va_A (yw ci h0 q1 q2 q3 cA st) sz)) 0 0 (va_A (yw ci h0 q1 q2 q3 cA st) sz)
/-- the same of a method that answers nothing -/
def yMetV (l : Launch) (D : va_G) (ci : Nat) (y : MethodName) (ws : List Cond) (k : Nat) (av : List Value) (f : St → Option (Int32 × St)) : Prop :=
  ∀ (h0 q1 q2 q3 : Nat) (cA : ClassId) (sz : Nat) (st st2 : St) (r : Int32), f st = some (r, st2) → Met l y ws (yrm k) (va_Pc (.ref h0 :: av) (fun U => U.heap.size = sz ∧ va_P D vwCl (yw ci h0 q1 q2 q3 cA st) U.heap ∧ va_K D vwCl [(cA, .int)] U ∧ va_D (fun _ => True) (yw ci h0 q1 q2 q3 cA st))) (va_Qv (fun (u : St) => u = st2) (fun u t => va_P D vwCl (yw ci h0 q1 q2 q3 cA u) t.heap ∧ va_K D vwCl [(cA, .int)] t ∧ va_D (va_A (yw ci h0 q1 q2 q3 cA st) sz) (yw ci h0 q1 q2 q3 cA u)) (va_A (yw ci h0 q1 q2 q3 cA st) sz)) 0 0 (va_A (yw ci h0 q1 q2 q3 cA st) sz)
/-- a static method: it answers r, and touches nothing -/
def yMetS (l : Launch) (y : MethodName) (ws : List Cond) (k : Nat) (av : List Value) (f : Option Int32) : Prop :=
  ∀ (r : Int32), f = some r → ∀ sz : Nat, Met l y ws (yrm k) (va_Pc av (fun U => U.heap.size = sz)) (va_Qi (fun (r2 : Int32) (_ : Unit) => r2 = r) (fun _ _ => True) (va_A [] sz)) 0 0 (va_A [] sz)
theorem ycallI {y : MethodName} {ws ws' : List Cond} {k maxL index n : Nat} {ret : Option FieldType} {bytes : ByteArray} {av : List Value} {f : St → Option (Int32 × St)} {C : String} {T : u_T} {N : Nat} {r : Int32} {st2 : St} {stk : List Value} (F : CallFix p m c cc nL s args Ts own) (hA : ∀ q, s.heap.size ≤ q → A q) (hM : yMet l D ci y ws k av f) (hT : GoodIn Ts (wsV own index C y ws)) (hw : ws = Cond.code y bytes maxL ret :: ws') (hd : y.cls = C ∧ y.cls ≠ "java/lang/invoke/MethodHandle" ∧ y.cls ≠ "java/lang/invoke/VarHandle" ∧ (parseMethodDescriptor y.desc).map (fun d => d.parameters.length) = some n) (hcl : vwCl[ci]? = some (C, T, N)) (hR : k + 1 ≤ R.frames ∧ 8 + (maxL + 11) + 30 * k ≤ R.locals) (hn : av.length = n) (hls : ls.size = nL) (w : Wd D ci h0 q1 q2 q3 cA A s st H locs) (hf : f st = some (r, st2)) (hst : stk = av.reverse ++ .ref h0 :: rest) (hroom : (rest.map fun v => v.category).sum ≤ 8) (hcs : cells ≤ R.cells ∧ slots ≤ R.slots) (hdg : decode cc pc = .ok (.invokevirtual index, 3)) (kk : ∀ (H1 : Heap) (locs1 : List Loc), Wd D ci h0 q1 q2 q3 cA A s st2 H1 locs1 → W p l e R s m args below meth c H1 locs1 cells slots Q (F0 m (pc + 3) ls (.int r :: rest))) : W p l e R s m args below meth c H locs cells slots Q (F0 m pc ls stk) := by
  have w0 := w
  obtain ⟨hK, hP, hD, hS⟩ := w
  have hFc : ∀ q, va_A (yw ci h0 q1 q2 q3 cA st) H.size q → A q := va_free hD hS hA [0, 1, 2, 3] rfl
  refine va_calli (va_runV (As := av) (rest := rest) F (hM h0 q1 q2 q3 cA H.size st st2 r hf) (cwV n F.2.2.2.2 hT hw rfl rfl hd hR) ⟨fun a U g mk q => by obtain ⟨q0, q1, qP, qK, qD⟩ := q; exact ⟨q0, q1, qP, va_K.moved (u := U) (U := U.calling g mk a) (Vm.Alike.refl U.vm) qK, qD⟩, va_recv hK hP hcl (q0 := 0) rfl, fun U hU hW => ⟨rfl, by rw [hU], by rw [hU]; exact hP, va_K.moved hW.alike hK, hD.weaken (fun _ _ _ _ => trivial)⟩⟩ rfl hn hls hst (lv_room hroom) hdg ⟨hcs.1, hcs.2⟩) hS (fun q _ h => hFc q h) hFc (fun r2 u t H1 locs1 ht hvm hw hB hz1 hk1 hS => ?_)
  obtain ⟨rfl, rfl⟩ := hw
  obtain ⟨hP1, hK1, hD1⟩ := hB
  rw [ht] at hP1
  obtain ⟨hP, hD⟩ := va_join (wr := []) hP hD [0, 1, 2, 3] [] rfl rfl (by decide) (by decide) hk1 hFc hP1 hD1
  exact kk H1 locs1 ⟨hK, hP, hD, hS⟩
theorem ycallV {y : MethodName} {ws ws' : List Cond} {k maxL index n : Nat} {ret : Option FieldType} {bytes : ByteArray} {av : List Value} {f : St → Option (Int32 × St)} {C : String} {T : u_T} {N : Nat} {r : Int32} {st2 : St} {stk : List Value} (F : CallFix p m c cc nL s args Ts own) (hA : ∀ q, s.heap.size ≤ q → A q) (hM : yMetV l D ci y ws k av f) (hT : GoodIn Ts (wsV own index C y ws)) (hw : ws = Cond.code y bytes maxL ret :: ws') (hd : y.cls = C ∧ y.cls ≠ "java/lang/invoke/MethodHandle" ∧ y.cls ≠ "java/lang/invoke/VarHandle" ∧ (parseMethodDescriptor y.desc).map (fun d => d.parameters.length) = some n) (hcl : vwCl[ci]? = some (C, T, N)) (hR : k + 1 ≤ R.frames ∧ 8 + (maxL + 11) + 30 * k ≤ R.locals) (hn : av.length = n) (hls : ls.size = nL) (w : Wd D ci h0 q1 q2 q3 cA A s st H locs) (hf : f st = some (r, st2)) (hst : stk = av.reverse ++ .ref h0 :: rest) (hroom : (rest.map fun v => v.category).sum ≤ 8) (hcs : cells ≤ R.cells ∧ slots ≤ R.slots) (hdg : decode cc pc = .ok (.invokevirtual index, 3)) (kk : ∀ (H1 : Heap) (locs1 : List Loc), Wd D ci h0 q1 q2 q3 cA A s st2 H1 locs1 → W p l e R s m args below meth c H1 locs1 cells slots Q (F0 m (pc + 3) ls (rest))) : W p l e R s m args below meth c H locs cells slots Q (F0 m pc ls stk) := by
  have w0 := w
  obtain ⟨hK, hP, hD, hS⟩ := w
  have hFc : ∀ q, va_A (yw ci h0 q1 q2 q3 cA st) H.size q → A q := va_free hD hS hA [0, 1, 2, 3] rfl
  refine va_callv (va_runV (As := av) (rest := rest) F (hM h0 q1 q2 q3 cA H.size st st2 r hf) (cwV n F.2.2.2.2 hT hw rfl rfl hd hR) ⟨fun a U g mk q => by obtain ⟨q0, q1, qP, qK, qD⟩ := q; exact ⟨q0, q1, qP, va_K.moved (u := U) (U := U.calling g mk a) (Vm.Alike.refl U.vm) qK, qD⟩, va_recv hK hP hcl (q0 := 0) rfl, fun U hU hW => ⟨rfl, by rw [hU], by rw [hU]; exact hP, va_K.moved hW.alike hK, hD.weaken (fun _ _ _ _ => trivial)⟩⟩ rfl hn hls hst (lv_room hroom) hdg ⟨hcs.1, hcs.2⟩) hS (fun q _ h => hFc q h) hFc (fun u t H1 locs1 ht hvm hw hB hz1 hk1 hS => ?_)
  subst hw
  obtain ⟨hP1, hK1, hD1⟩ := hB
  rw [ht] at hP1
  obtain ⟨hP, hD⟩ := va_join (wr := []) hP hD [0, 1, 2, 3] [] rfl rfl (by decide) (by decide) hk1 hFc hP1 hD1
  exact kk H1 locs1 ⟨hK, hP, hD, hS⟩
theorem ycallS {y : MethodName} {ws ws' : List Cond} {k maxL index n : Nat} {ret : Option FieldType} {bytes : ByteArray} {av : List Value} {f : Option Int32} {r : Int32} {stk : List Value} (F : CallFix p m c cc nL s args Ts own) (hA : ∀ q, s.heap.size ≤ q → A q) (hM : yMetS l y ws k av f) (hT : GoodIn Ts (va_wsS own index y ws)) (hw : ws = Cond.code y bytes maxL ret :: ws') (hd : y.cls ≠ "java/lang/invoke/MethodHandle" ∧ y.cls ≠ "java/lang/invoke/VarHandle" ∧ (parseMethodDescriptor y.desc).map (fun d => d.parameters.length) = some n) (hR : k + 1 ≤ R.frames ∧ 8 + (maxL + 11) + 30 * k ≤ R.locals) (hn : av.length = n) (hls : ls.size = nL) (hS : va_S A s.heap H locs) (hf : f = some r) (hst : stk = av.reverse ++ rest) (hroom : (rest.map fun v => v.category).sum ≤ 8) (hcs : cells ≤ R.cells ∧ slots ≤ R.slots) (hdg : decode cc pc = .ok (.invokestatic index, 3)) (kk : ∀ (H1 : Heap) (locs1 : List Loc), (∀ q, q < H.size → H1[q]? = H[q]?) → va_S A s.heap H1 locs1 → W p l e R s m args below meth c H1 locs1 cells slots Q (F0 m (pc + 3) ls (.int r :: rest))) : W p l e R s m args below meth c H locs cells slots Q (F0 m pc ls stk) := by
  have hFc : ∀ q, va_A [] H.size q → A q := fun q h => by
    rcases h with ⟨k, e, h⟩ | h
    · simp at h
    · exact hA q (Nat.le_trans hS.1 h)
  refine va_calli (va_runS (As := av) (rest := rest) F (hM r hf H.size) (va_cwS n F.2.2.2.2 hT hw rfl rfl hd hR) ⟨fun a U g mk q => q, fun U hU hW => ⟨rfl, congrArg Array.size hU⟩⟩ rfl hn hls hst (lv_room hroom) hdg ⟨hcs.1, hcs.2⟩) hS (fun q _ h => hFc q h) hFc (fun r2 u t H1 locs1 ht hvm hw hB hz1 hk1 hS => ?_)
  subst hw
  refine kk H1 locs1 (fun q hq => hk1 q hq ?_) hS
  intro h
  rcases h with ⟨k, e, h⟩ | h
  · simp at h
  · omega
theorem ycallSW {y : MethodName} {ws ws' : List Cond} {k maxL index n : Nat} {ret : Option FieldType} {bytes : ByteArray} {av : List Value} {f : Option Int32} {r : Int32} {stk : List Value} (F : CallFix p m c cc nL s args Ts own) (hA : ∀ q, s.heap.size ≤ q → A q) (hM : yMetS l y ws k av f) (hT : GoodIn Ts (va_wsS own index y ws)) (hw : ws = Cond.code y bytes maxL ret :: ws') (hd : y.cls ≠ "java/lang/invoke/MethodHandle" ∧ y.cls ≠ "java/lang/invoke/VarHandle" ∧ (parseMethodDescriptor y.desc).map (fun d => d.parameters.length) = some n) (hR : k + 1 ≤ R.frames ∧ 8 + (maxL + 11) + 30 * k ≤ R.locals) (hn : av.length = n) (hls : ls.size = nL) (w : Wd D ci h0 q1 q2 q3 cA A s st H locs) (hf : f = some r) (hst : stk = av.reverse ++ rest) (hroom : (rest.map fun v => v.category).sum ≤ 8) (hcs : cells ≤ R.cells ∧ slots ≤ R.slots) (hdg : decode cc pc = .ok (.invokestatic index, 3)) (kk : ∀ (H1 : Heap) (locs1 : List Loc), Wd D ci h0 q1 q2 q3 cA A s st H1 locs1 → W p l e R s m args below meth c H1 locs1 cells slots Q (F0 m (pc + 3) ls (.int r :: rest))) : W p l e R s m args below meth c H locs cells slots Q (F0 m pc ls stk) := by
  obtain ⟨hK, hP, hD, hS⟩ := w
  exact ycallS F hA hM hT hw hd hR hn hls hS hf hst hroom hcs hdg (fun H1 locs1 hk hS => kk H1 locs1 ⟨hK, hP.kept (fun k q hq => hk q.1 (hP k q hq).lt), hD, hS⟩)
end YB
def yRetI (D : va_G) (ci h0 q1 q2 q3 : Nat) (cA : ClassId) (p : Program) (l : Launch) (e : Env) (k : Nat) (s : State) (m : MethodId) (args : Array Value) (below : List Frame) (meth : Method) (c : Code) (cc : ByteArray) (A : Nat → Prop) (Q : State → Prop) (ret : FieldType) (r : Int32) (st2 : St) : Prop := ∀ (pc : Nat) (ls : Array Slot) (H : Heap) (locs : List Loc), decode cc pc = .ok (.ireturn, 1) → narrow ret (.int r) = .int r → Wd D ci h0 q1 q2 q3 cA A s st2 H locs → W p l e (yrm k) s m args below meth c H locs 0 0 Q (F0 m pc ls [.int r])
theorem yentI {l : Launch} {D : va_G} {ci : Nat} {y : MethodName} {ws ws' : List Cond} {k : Nat} {av : List Value} {f : St → Option (Int32 × St)} {cc : ByteArray} {nL : Nat} {ret : FieldType} (hy : plainName y.cls = true) (hw : ws = Cond.code y cc nL (some ret) :: ws') (hlen : ∀ h0 : Nat, (lg_sl (.ref h0 :: av)).length ≤ nL)
    (body : ∀ (h0 q1 q2 q3 : Nat) (cA : ClassId) (r : Int32) (st2 : St) (p : Program) (e : Env) (s : State) (m : MethodId) (args : Array Value) (below : List Frame) (meth : Method) (c : Code) (A : Nat → Prop) (Q : State → Prop), CallFix p m c cc nL s args ws y.cls → (∀ q, s.heap.size ≤ q → A q) → yRetI D ci h0 q1 q2 q3 cA p l e k s m args below meth c cc A Q ret r st2 → ∀ (st : St), f st = some (r, st2) → ∀ (H : Heap) (locs : List Loc) (ls : Array Slot), Wd D ci h0 q1 q2 q3 cA A s st H locs → lv_has ls nL (lv_args 0 (.ref h0 :: av)) → W p l e (yrm k) s m args below meth c H locs 0 0 Q (F0 m 0 ls [])) : yMet l D ci y ws k av f := by
  intro h0 q1 q2 q3 cA sz st st2 r hf
  refine Met.ofW (cc := cc) (maxL := nL) (ret := some ret) hy hw ?_
  intro p e s m args below meth c s₁ B hml hv
  obtain ⟨rfl, hsz, hP, hK, hD0⟩ := hv
  have hx := B.exec
  have hb := B.bytes
  have hr := B.returns
  have hts := atoms_spec (ws := ws) B.pre
  have hown : s.vm.findClass y.cls = some m.cls := findClass_of_methodNamed B.named
  have hlocks := B.notSynchronized
  subst hsz
  have hD := hD0.self (sz := s.heap.size)
  rw [lg_entry_eq]
  refine body h0 q1 q2 q3 cA r st2 p e s m _ below meth c (va_A (yw ci h0 q1 q2 q3 cA st) s.heap.size) _ ⟨hx, hb, hml, hown, hts⟩ (fun q h => Or.inr h) ?_ st hf s.heap [] _ ⟨hK, hP, hD, va_S.rf⟩ (lv_entry (.ref h0 :: av) (n := nL) (hlen h0))
  intro pc ls H locs hdg hnr w
  exact W.zret (ty := ret) hx hb hr hnr (fun t ht hW => ⟨⟨r, st2, rfl, ⟨rfl, rfl⟩, by rw [ht]; exact w.2.1, va_K.moved hW.alike w.1, w.2.2.1⟩, w.2.2.2.F ht⟩) w.2.2.2.2.2 hdg
def yRetV (D : va_G) (ci h0 q1 q2 q3 : Nat) (cA : ClassId) (p : Program) (l : Launch) (e : Env) (k : Nat) (s : State) (m : MethodId) (args : Array Value) (below : List Frame) (meth : Method) (c : Code) (cc : ByteArray) (A : Nat → Prop) (Q : State → Prop) (r : Int32) (st2 : St) : Prop := ∀ (pc : Nat) (ls : Array Slot) (H : Heap) (locs : List Loc), decode cc pc = .ok (.return_, 1) → Wd D ci h0 q1 q2 q3 cA A s st2 H locs → W p l e (yrm k) s m args below meth c H locs 0 0 Q (F0 m pc ls [])
theorem yentV {l : Launch} {D : va_G} {ci : Nat} {y : MethodName} {ws ws' : List Cond} {k : Nat} {av : List Value} {f : St → Option (Int32 × St)} {cc : ByteArray} {nL : Nat} (hy : plainName y.cls = true) (hw : ws = Cond.code y cc nL (none) :: ws') (hlen : ∀ h0 : Nat, (lg_sl (.ref h0 :: av)).length ≤ nL)
    (body : ∀ (h0 q1 q2 q3 : Nat) (cA : ClassId) (r : Int32) (st2 : St) (p : Program) (e : Env) (s : State) (m : MethodId) (args : Array Value) (below : List Frame) (meth : Method) (c : Code) (A : Nat → Prop) (Q : State → Prop), CallFix p m c cc nL s args ws y.cls → (∀ q, s.heap.size ≤ q → A q) → yRetV D ci h0 q1 q2 q3 cA p l e k s m args below meth c cc A Q r st2 → ∀ (st : St), f st = some (r, st2) → ∀ (H : Heap) (locs : List Loc) (ls : Array Slot), Wd D ci h0 q1 q2 q3 cA A s st H locs → lv_has ls nL (lv_args 0 (.ref h0 :: av)) → W p l e (yrm k) s m args below meth c H locs 0 0 Q (F0 m 0 ls [])) : yMetV l D ci y ws k av f := by
  intro h0 q1 q2 q3 cA sz st st2 r hf
  refine Met.ofW (cc := cc) (maxL := nL) (ret := none) hy hw ?_
  intro p e s m args below meth c s₁ B hml hv
  obtain ⟨rfl, hsz, hP, hK, hD0⟩ := hv
  have hx := B.exec
  have hb := B.bytes
  have hr := B.returns
  have hts := atoms_spec (ws := ws) B.pre
  have hown : s.vm.findClass y.cls = some m.cls := findClass_of_methodNamed B.named
  have hlocks := B.notSynchronized
  subst hsz
  have hD := hD0.self (sz := s.heap.size)
  rw [lg_entry_eq]
  refine body h0 q1 q2 q3 cA r st2 p e s m _ below meth c (va_A (yw ci h0 q1 q2 q3 cA st) s.heap.size) _ ⟨hx, hb, hml, hown, hts⟩ (fun q h => Or.inr h) ?_ st hf s.heap [] _ ⟨hK, hP, hD, va_S.rf⟩ (lv_entry (.ref h0 :: av) (n := nL) (hlen h0))
  intro pc ls H locs hdg w
  exact W.vret hx hb hr (fun t ht hW => ⟨⟨st2, rfl, rfl, by rw [ht]; exact w.2.1, va_K.moved hW.alike w.1, w.2.2.1⟩, w.2.2.2.F ht⟩) w.2.2.2.2.2 hdg
def yRetS (p : Program) (l : Launch) (e : Env) (k : Nat) (s : State) (m : MethodId) (args : Array Value) (below : List Frame) (meth : Method) (c : Code) (cc : ByteArray) (A : Nat → Prop) (Q : State → Prop) (ret : FieldType) (r : Int32) : Prop := ∀ (pc : Nat) (ls : Array Slot) (H : Heap) (locs : List Loc), decode cc pc = .ok (.ireturn, 1) → narrow ret (.int r) = .int r → va_S A s.heap H locs → W p l e (yrm k) s m args below meth c H locs 0 0 Q (F0 m pc ls [.int r])
theorem yentS {l : Launch} {y : MethodName} {ws ws' : List Cond} {k : Nat} {av : List Value} {f : Option Int32} {cc : ByteArray} {nL : Nat} {ret : FieldType} (hy : plainName y.cls = true) (hw : ws = Cond.code y cc nL (some ret) :: ws') (hlen : (lg_sl av).length ≤ nL)
    (body : ∀ (r : Int32) (p : Program) (e : Env) (s : State) (m : MethodId) (args : Array Value) (below : List Frame) (meth : Method) (c : Code) (A : Nat → Prop) (Q : State → Prop), CallFix p m c cc nL s args ws y.cls → (∀ q, s.heap.size ≤ q → A q) → yRetS p l e k s m args below meth c cc A Q ret r → f = some r → ∀ (H : Heap) (locs : List Loc) (ls : Array Slot), va_S A s.heap H locs → lv_has ls nL (lv_args 0 av) → W p l e (yrm k) s m args below meth c H locs 0 0 Q (F0 m 0 ls [])) : yMetS l y ws k av f := by
  intro r hf sz
  refine Met.ofW (cc := cc) (maxL := nL) (ret := some ret) hy hw ?_
  intro p e s m args below meth c s₁ B hml hv
  obtain ⟨rfl, hsz⟩ := hv
  have hx := B.exec
  have hb := B.bytes
  have hr := B.returns
  have hts := atoms_spec (ws := ws) B.pre
  have hown : s.vm.findClass y.cls = some m.cls := findClass_of_methodNamed B.named
  have hlocks := B.notSynchronized
  subst hsz
  rw [lg_entry_eq]
  refine body r p e s m _ below meth c (va_A [] s.heap.size) _ ⟨hx, hb, hml, hown, hts⟩ (fun q h => Or.inr h) ?_ hf s.heap [] _ va_S.rf (lv_entry av (n := nL) hlen)
  intro pc ls H locs hdg hnr hS
  exact W.zret (ty := ret) hx hb hr hnr (fun t ht hW => ⟨⟨r, (), rfl, rfl, trivial⟩, hS.F ht⟩) hS.2.2 hdg
section YR
variable {p : Program} {l : Launch} {e : Env} {k : Nat} {s : State} {m : MethodId} {args : Array Value} {below : List Frame} {meth : Method} {c : Code} {H : Heap} {locs : List Loc} {Q : State → Prop} {cc : ByteArray} {pc : Nat} {ls : Array Slot} {D : va_G} {ci h0 q1 q2 q3 : Nat} {cA : ClassId} {A : Nat → Prop} {st st2 : St} {ret : FieldType} {r v : Int32}
theorem yret (hret : yRetI D ci h0 q1 q2 q3 cA p l e k s m args below meth c cc A Q ret r st2) (hf : some (v, st) = some (r, st2)) (hnr : narrow ret (.int v) = .int v) (w : Wd D ci h0 q1 q2 q3 cA A s st H locs) (hdg : decode cc pc = .ok (.ireturn, 1)) : W p l e (yrm k) s m args below meth c H locs 0 0 Q (F0 m pc ls [.int v]) := by
  obtain ⟨rfl, rfl⟩ := Prod.mk.inj (Option.some.inj hf)
  exact hret pc ls H locs hdg hnr w
theorem yretV (hret : yRetV D ci h0 q1 q2 q3 cA p l e k s m args below meth c cc A Q r st2) (hf : some (v, st) = some (r, st2)) (w : Wd D ci h0 q1 q2 q3 cA A s st H locs) (hdg : decode cc pc = .ok (.return_, 1)) : W p l e (yrm k) s m args below meth c H locs 0 0 Q (F0 m pc ls []) := by
  obtain ⟨rfl, rfl⟩ := Prod.mk.inj (Option.some.inj hf)
  exact hret pc ls H locs hdg w
theorem yretS (hret : yRetS p l e k s m args below meth c cc A Q ret r) (hf : some v = some r) (hnr : narrow ret (.int v) = .int v) (hS : va_S A s.heap H locs) (hdg : decode cc pc = .ok (.ireturn, 1)) : W p l e (yrm k) s m args below meth c H locs 0 0 Q (F0 m pc ls [.int v]) := by
  obtain rfl := Option.some.inj hf
  exact hret pc ls H locs hdg hnr hS
end YR
end
section
def f0_isTrack (a0 : Int32) : Option Int32 := if a0 < 0 then some 0 else if 8 ≤ a0 then some 0 else some 1
def f0_isThere (a1 : Int32) (st : St) : Option (Int32 × St) := (yrd (yG0 st) 8 a1).bind fun x_1 => if x_1 ≤ 0 then some (0, st) else some (1, st)
def f0_lay (a1 : Int32) (a2 : Int32) (st : St) : Option (Int32 × St) := (f0_isTrack a1).bind fun u_1 => if u_1 = 0 then some ((-2), st) else if a2 < 1 then some ((-2), st) else if a2 ≤ 12 then (f0_isThere a1 st).bind fun u_5 => if u_5.1 = 0 then (yW0 u_5.2 a1 a2).bind fun st_7 => some (1, st_7) else some (0, u_5.2) else some ((-2), st)
def f0_lift (a1 : Int32) (st : St) : Option (Int32 × St) := (f0_isTrack a1).bind fun u_1 => if u_1 = 0 then some ((-2), st) else (f0_isThere a1 st).bind fun u_3 => if u_3.1 = 0 then some ((-3), u_3.2) else (yrd (yG1 u_3.2) 8 a1).bind fun x_5 => (yW0 u_3.2 a1 0).bind fun st_6 => (yW1 st_6 a1 0).bind fun st_7 => some (x_5, st_7)
def f0_hold (a1 : Int32) (st : St) : Option (Int32 × St) := (yP3 st ((yG3 st) + 1)).bind fun st_1 => (f0_isThere a1 st_1).bind fun u_2 => if u_2.1 = 0 then some (0, u_2.2) else (yP4 u_2.2 ((yG4 u_2.2) + 1)).bind fun st_4 => (yP6 st_4 ((yG6 st_4) + 1)).bind fun st_5 => (yP7 st_5 (if (yG7 st_5) < (yG6 st_5) then (yG6 st_5) else (yG7 st_5))).bind fun st_6 => some (1, st_6)
def f0_place (a0 : Int32) (a1 : Int32) : Option Int32 := some ((a0 * 12) + a1)
def f0_come (a1 : Int32) (a2 : Int32) (st : St) : Option (Int32 × St) := (yrd (yG1 st) 8 a1).bind fun x_1 => (yrd (yG0 st) 8 a1).bind fun x_2 => if x_1 < x_2 then (f0_place a1 x_1).bind fun u_4 => (yW2 st u_4 a2).bind fun st_5 => (yW1 st_5 a1 (x_1 + 1)).bind fun st_6 => some ((x_1 + 1), st_6) else some ((-4), st)
def f0_letGo (a1 : Int32) (a2 : Int32) (st : St) : Option (Int32 × St) := (yP6 st ((yG6 st) - a1)).bind fun st_1 => if 0 ≤ a2 then some (a2, st_1) else (yP5 st_1 ((yG5 st_1) + a1)).bind fun st_3 => some (a2, st_3)
def f0_holdAndCome (a1 : Int32) (a2 : Int32) (st : St) : Option (Int32 × St) := (f0_hold a1 st).bind fun u_1 => if u_1.1 = 0 then some ((-3), u_1.2) else (f0_come a1 a2 u_1.2).bind fun u_3 => (f0_letGo 1 u_3.1 u_3.2).bind fun u_4 => some (u_4.1, u_4.2)
def f0_couple (a1 : Int32) (a2 : Int32) (st : St) : Option (Int32 × St) := (f0_isTrack a1).bind fun u_1 => if u_1 = 0 then some ((-2), st) else if a2 < 1 then some ((-2), st) else if a2 ≤ 999 then (f0_holdAndCome a1 a2 st).bind fun u_5 => some (u_5.1, u_5.2) else some ((-2), st)
def f0_go (a1 : Int32) (st : St) : Option (Int32 × St) := (yrd (yG1 st) 8 a1).bind fun x_1 => if x_1 = 0 then some ((-5), st) else (yW1 st a1 (x_1 - 1)).bind fun st_3 => (f0_place a1 (x_1 - 1)).bind fun u_4 => (yrd (yG2 st_3) 96 u_4).bind fun x_5 => some (x_5, st_3)
def f0_uncouple (a1 : Int32) (st : St) : Option (Int32 × St) := (f0_isTrack a1).bind fun u_1 => if u_1 = 0 then some ((-2), st) else (f0_hold a1 st).bind fun u_3 => if u_3.1 = 0 then some ((-3), u_3.2) else (f0_go a1 u_3.2).bind fun u_5 => (f0_letGo 1 u_5.1 u_5.2).bind fun u_6 => some (u_6.1, u_6.2)
def f0_moveWagons_L3 : Nat → Int32 → Int32 → Int32 → Int32 → St → Option (Int32 × St)
  | 0, _, _, _, _, _ => none
  | n + 1, v1, v2, v3, v4, st => if v3 ≤ v4 then some (v3, st) else (f0_go v1 st).bind fun u_2 => if u_2.1 = (-5) then some ((-5), u_2.2) else (f0_come v2 u_2.1 u_2.2).bind fun u_4 => if u_4.1 = (-4) then (f0_come v1 u_2.1 u_4.2).bind fun u_7 => some ((-4), u_7.2) else (yP8 u_4.2 ((yG8 u_4.2) + 1)).bind fun st_6 => f0_moveWagons_L3 n v1 v2 v3 (v4 + 1) st_6
def f0_moveWagons (a1 : Int32) (a2 : Int32) (a3 : Int32) (st : St) : Option (Int32 × St) := f0_moveWagons_L3 40 a1 a2 a3 0 st
def f0_shunt (a1 : Int32) (a2 : Int32) (a3 : Int32) (st : St) : Option (Int32 × St) := (f0_isTrack a1).bind fun u_1 => if u_1 = 0 then some ((-2), st) else (f0_isTrack a2).bind fun u_3 => if u_3 = 0 then some ((-2), st) else if a3 < 0 then some ((-2), st) else if a3 ≤ 20 then (yP8 st 0).bind fun st_7 => (f0_hold a1 st_7).bind fun u_8 => if u_8.1 = 0 then some ((-3), u_8.2) else (f0_hold a2 u_8.2).bind fun u_10 => if u_10.1 = 0 then (f0_letGo 1 (-3) u_10.2).bind fun u_14 => some (u_14.1, u_14.2) else (f0_moveWagons a1 a2 a3 u_10.2).bind fun u_12 => (f0_letGo 2 u_12.1 u_12.2).bind fun u_13 => some (u_13.1, u_13.2) else some ((-2), st)
def f0_sortWagons_L8 : Nat → Int32 → Int32 → Int32 → Int32 → St → Option (Int32 × St)
  | 0, _, _, _, _, _ => none
  | n + 1, v1, v2, v3, v4, st => if v4 ≤ 0 then some ((yG8 st), st) else (f0_go v1 st).bind fun u_3 => if (u_3.1 - u_3.1 / 10 * 10) = 0 then some ((yG8 u_3.2), u_3.2) else if (u_3.1 - u_3.1 / 10 * 10) = 9 then f0_sortWagons_L8 n v1 v2 v3 (v4 + (-1)) u_3.2 else if ((u_3.1 - u_3.1 / 10 * 10) - (u_3.1 - u_3.1 / 10 * 10) / 2 * 2) = 1 then (f0_holdAndCome v2 u_3.1 u_3.2).bind fun u_11 => if 0 ≤ u_11.1 then (yP8 u_11.2 ((yG8 u_11.2) + 1)).bind fun st_13 => f0_sortWagons_L8 n v1 v2 v3 (v4 + (-1)) st_13 else (f0_come v1 u_3.1 u_11.2).bind fun u_14 => some (u_11.1, u_14.2) else (f0_holdAndCome v3 u_3.1 u_3.2).bind fun u_7 => if 0 ≤ u_7.1 then (yP8 u_7.2 ((yG8 u_7.2) + 1)).bind fun st_9 => f0_sortWagons_L8 n v1 v2 v3 (v4 + (-1)) st_9 else (f0_come v1 u_3.1 u_7.2).bind fun u_10 => some (u_7.1, u_10.2)
def f0_sortWagons (a1 : Int32) (a2 : Int32) (a3 : Int32) (st : St) : Option (Int32 × St) := (yrd (yG1 st) 8 a1).bind fun x_1 => f0_sortWagons_L8 40 a1 a2 a3 x_1 st
def f0_sweep (a1 : Int32) (a2 : Int32) (a3 : Int32) (st : St) : Option (Int32 × St) := (f0_isTrack a1).bind fun u_1 => if u_1 = 0 then some ((-2), st) else (f0_isTrack a2).bind fun u_3 => if u_3 = 0 then some ((-2), st) else (f0_isTrack a3).bind fun u_5 => if u_5 = 0 then some ((-2), st) else if a1 = a2 then some ((-2), st) else if a1 = a3 then some ((-2), st) else (yP8 st 0).bind fun st_9 => (f0_hold a1 st_9).bind fun u_10 => if u_10.1 = 0 then some ((-3), u_10.2) else (f0_sortWagons a1 a2 a3 u_10.2).bind fun u_12 => (f0_letGo 1 u_12.1 u_12.2).bind fun u_13 => some (u_13.1, u_13.2)
def f0_isRowLength (a0 : Int32) : Option Int32 := if a0 < 1 then some 0 else if 16 < a0 then some 0 else some 1
def f0_trackOfRow (a0 : Int64) (a2 : Int32) : Option Int32 := some ((((a0.toUInt64 >>> ((3 * a2).toInt64.toUInt64 &&& Int64.toUInt64 63)).toInt64).toInt32) &&& 7)
def f0_takeOnTour (a1 : Int32) (st : St) : Option (Int32 × St) := (f0_go a1 st).bind fun u_1 => if (u_1.1 - u_1.1 / 10 * 10) = 9 then (f0_come a1 u_1.1 u_1.2).bind fun u_4 => some (0, u_4.2) else (yP8 u_1.2 ((yG8 u_1.2) + 1)).bind fun st_3 => some (u_1.1, st_3)
def f0_tour_L21 : Nat → Int64 → Int32 → Int32 → Int32 → St → Option (Int32 × St)
  | 0, _, _, _, _, _ => none
  | n + 1, v1, v3, v4, v5, st => if v3 ≤ v5 then some (v4, st) else (f0_trackOfRow v1 v5).bind fun u_5 => (f0_hold u_5 st).bind fun u_6 => if u_6.1 = 0 then some ((-3), u_6.2) else (yrd (yG1 u_6.2) 8 u_5).bind fun x_8 => if x_8 = 0 then (f0_letGo 1 0 u_6.2).bind fun u_15 => some (v4, u_15.2) else (f0_takeOnTour u_5 u_6.2).bind fun u_11 => (f0_letGo 1 0 u_11.2).bind fun u_12 => f0_tour_L21 n v1 v3 (v4 + u_11.1) (v5 + 1) u_12.2
def f0_tour (a1 : Int64) (a3 : Int32) (st : St) : Option (Int32 × St) := (f0_isRowLength a3).bind fun u_1 => if u_1 = 0 then some ((-2), st) else (yP8 st 0).bind fun st_3 => f0_tour_L21 40 a1 a3 0 0 st_3
def f0_chain_L16 : Nat → Int64 → Int32 → Int32 → Int32 → St → Option (Int32 × St)
  | 0, _, _, _, _, _ => none
  | n + 1, v1, v3, v4, v5, st => if v3 ≤ v5 then (f0_letGo v3 v4 st).bind fun u_4 => some (u_4.1, u_4.2) else (f0_trackOfRow v1 v5).bind fun u_5 => (f0_hold u_5 st).bind fun u_6 => if u_6.1 = 0 then (f0_letGo v5 (-3) u_6.2).bind fun u_9 => some (u_9.1, u_9.2) else (yrd (yG1 u_6.2) 8 u_5).bind fun x_8 => f0_chain_L16 n v1 v3 (v4 + x_8) (v5 + 1) u_6.2
def f0_chain (a1 : Int64) (a3 : Int32) (st : St) : Option (Int32 × St) := (f0_isRowLength a3).bind fun u_1 => if u_1 = 0 then some ((-2), st) else f0_chain_L16 40 a1 a3 0 0 st
def f0_survey_L16 : Nat → Int64 → Int32 → Int32 → Int32 → St → Option (Int32 × St)
  | 0, _, _, _, _, _ => none
  | n + 1, v1, v3, v4, v5, st => if v3 ≤ v5 then some (v4, st) else (f0_trackOfRow v1 v5).bind fun u_4 => (f0_hold u_4 st).bind fun u_5 => if u_5.1 = 0 then f0_survey_L16 n v1 v3 v4 (v5 + 1) u_5.2 else (yrd (yG1 u_5.2) 8 u_4).bind fun x_7 => (f0_letGo 1 x_7 u_5.2).bind fun u_8 => f0_survey_L16 n v1 v3 (v4 + u_8.1) (v5 + 1) u_8.2
def f0_survey (a1 : Int64) (a3 : Int32) (st : St) : Option (Int32 × St) := (f0_isRowLength a3).bind fun u_1 => if u_1 = 0 then some ((-2), st) else f0_survey_L16 40 a1 a3 0 0 st
def f0_exchangePlaces (a1 : Int32) (a2 : Int32) (st : St) : Option (Int32 × St) := (yrd (yG2 st) 96 a1).bind fun x_1 => (yrd (yG2 st) 96 a2).bind fun x_2 => (yW2 st a1 x_2).bind fun st_3 => (yW2 st_3 a2 x_1).bind fun st_4 => some (0, st_4)
def f0_turn_L30 : Nat → Int32 → Int32 → Int32 → St → Option (Int32 × St)
  | 0, _, _, _, _ => none
  | n + 1, v1, v2, v3, st => if (v2 / 2) ≤ v3 then (f0_letGo 1 v2 st).bind fun u_7 => some (u_7.1, u_7.2) else (f0_hold v1 st).bind fun u_8 => (f0_place v1 v3).bind fun u_9 => (f0_place v1 ((v2 - 1) - v3)).bind fun u_10 => (f0_exchangePlaces u_9 u_10 u_8.2).bind fun u_11 => (f0_letGo 1 0 u_11.2).bind fun u_12 => f0_turn_L30 n v1 v2 (v3 + 1) u_12.2
def f0_turn (a1 : Int32) (st : St) : Option (Int32 × St) := (f0_isTrack a1).bind fun u_1 => if u_1 = 0 then some ((-2), st) else (f0_hold a1 st).bind fun u_3 => if u_3.1 = 0 then some ((-3), u_3.2) else (yrd (yG1 u_3.2) 8 a1).bind fun x_5 => f0_turn_L30 40 a1 x_5 0 u_3.2
def f0_exchangeRows_L42 : Nat → Int32 → Int32 → Int32 → Int32 → Int32 → St → Option (Int32 × St)
  | 0, _, _, _, _, _, _ => none
  | n + 1, v1, v2, v3, v4, v5, st => if 12 ≤ v5 then (yW1 st v1 v4).bind fun st_8 => (yW1 st_8 v2 v3).bind fun st_9 => some (v4, st_9) else (f0_place v1 v5).bind fun u_10 => (f0_place v2 v5).bind fun u_11 => (f0_exchangePlaces u_10 u_11 st).bind fun u_12 => f0_exchangeRows_L42 n v1 v2 v3 v4 (v5 + 1) u_12.2
def f0_exchangeRows (a1 : Int32) (a2 : Int32) (st : St) : Option (Int32 × St) := (yrd (yG1 st) 8 a1).bind fun x_1 => (yrd (yG1 st) 8 a2).bind fun x_2 => (yrd (yG0 st) 8 a2).bind fun x_3 => if x_3 < x_1 then some ((-4), st) else (yrd (yG0 st) 8 a1).bind fun x_5 => if x_2 ≤ x_5 then f0_exchangeRows_L42 40 a1 a2 x_1 x_2 0 st else some ((-4), st)
def f0_swap (a1 : Int32) (a2 : Int32) (st : St) : Option (Int32 × St) := (f0_isTrack a1).bind fun u_1 => if u_1 = 0 then some ((-2), st) else (f0_isTrack a2).bind fun u_3 => if u_3 = 0 then some ((-2), st) else (f0_hold a1 st).bind fun u_5 => if u_5.1 = 0 then some ((-3), u_5.2) else (f0_hold a2 u_5.2).bind fun u_7 => if u_7.1 = 0 then (f0_letGo 1 (-3) u_7.2).bind fun u_12 => some (u_12.1, u_12.2) else (f0_hold a1 u_7.2).bind fun u_9 => (f0_exchangeRows a1 a2 u_9.2).bind fun u_10 => (f0_letGo 3 u_10.1 u_10.2).bind fun u_11 => some (u_11.1, u_11.2)
def f0_wagon (a1 : Int32) (a2 : Int32) (st : St) : Option (Int32 × St) := (f0_isTrack a1).bind fun u_1 => if u_1 = 0 then some ((-2), st) else if a2 < 0 then some (0, st) else (yrd (yG1 st) 8 a1).bind fun x_4 => if a2 < x_4 then (f0_place a1 a2).bind fun u_6 => (yrd (yG2 st) 96 u_6).bind fun x_7 => some (x_7, st) else some (0, st)
def f0_tracksThere_L4 : Nat → Int32 → Int32 → St → Option (Int32 × St)
  | 0, _, _, _ => none
  | n + 1, v1, v2, st => if 8 ≤ v2 then some (v1, st) else (f0_isThere v2 st).bind fun u_2 => if u_2.1 = 0 then f0_tracksThere_L4 n v1 (v2 + 1) u_2.2 else f0_tracksThere_L4 n (v1 + 1) (v2 + 1) u_2.2
def f0_tracksThere (st : St) : Option (Int32 × St) := f0_tracksThere_L4 40 0 0 st
def f0_told (a1 : Int32) (st : St) : Option (Int32 × St) := if a1 = 0 then some ((yG3 st), st) else if a1 = 1 then some ((yG4 st), st) else if a1 = 2 then some ((yG5 st), st) else if a1 = 3 then some ((yG6 st), st) else if a1 = 4 then some ((yG7 st), st) else if a1 = 5 then some ((yG8 st), st) else if a1 = 6 then (f0_tracksThere st).bind fun u_8 => some (u_8.1, u_8.2) else some ((-2), st)
end
section
def f1_in (a0 : Int32) (a1 : Int32) (a2 : Int32) : Option Int32 := if a0 < a1 then some 0 else if a2 < a0 then some 0 else some 1
def f1_isTrack (a0 : Int32) : Option Int32 := (f1_in a0 0 7).bind fun u_1 => some u_1
def f1_holds (a1 : Int32) (st : St) : Option (Int32 × St) := (yP3 st ((yG3 st) + 1)).bind fun st_1 => (yrd (yG0 st_1) 8 a1).bind fun x_2 => if x_2 = 0 then some (0, st_1) else (yP4 st_1 ((yG4 st_1) + 1)).bind fun st_4 => (yP6 st_4 ((yG6 st_4) + 1)).bind fun st_5 => if (yG6 st_5) ≤ (yG7 st_5) then (yP7 st_5 (yG7 st_5)).bind fun st_7 => some (1, st_7) else (yP7 st_5 (yG6 st_5)).bind fun st_8 => some (1, st_8)
def f1_goes (a1 : Int32) (a2 : Int32) (st : St) : Option (Int32 × St) := (yP6 st ((yG6 st) - a1)).bind fun st_1 => if 0 ≤ a2 then some (a2, st_1) else (yP5 st_1 ((yG5 st_1) + a1)).bind fun st_3 => some (a2, st_3)
def f1_last (a1 : Int32) (st : St) : Option (Int32 × St) := (yrd (yG1 st) 8 a1).bind fun x_1 => (yrd (yG2 st) 96 (((12 * a1) + x_1) - 1)).bind fun x_2 => some (x_2, st)
def f1_come (a1 : Int32) (a2 : Int32) (st : St) : Option (Int32 × St) := (yrd (yG1 st) 8 a1).bind fun x_1 => (yW2 st ((12 * a1) + x_1) a2).bind fun st_2 => (yrd (yG1 st_2) 8 a1).bind fun x_3 => (yW1 st_2 a1 (x_3 + 1)).bind fun st_4 => some (0, st_4)
def f1_isFull (a1 : Int32) (st : St) : Option (Int32 × St) := (yrd (yG1 st) 8 a1).bind fun x_1 => (yrd (yG0 st) 8 a1).bind fun x_2 => if x_1 = x_2 then some (1, st) else some (0, st)
def f1_trackOf (a0 : Int64) (a2 : Int32) : Option Int32 := some (((a0 >>> ((3 * a2).toInt64 &&& 63)).toInt32) &&& 7)
def f1_lay (a1 : Int32) (a2 : Int32) (st : St) : Option (Int32 × St) := (f1_isTrack a1).bind fun u_1 => if u_1 = 0 then some ((-2), st) else (f1_in a2 1 12).bind fun u_3 => if u_3 = 0 then some ((-2), st) else (yrd (yG0 st) 8 a1).bind fun x_5 => if x_5 ≤ 0 then (yW0 st a1 a2).bind fun st_7 => (yW1 st_7 a1 0).bind fun st_8 => some (1, st_8) else some (0, st)
def f1_lift (a1 : Int32) (st : St) : Option (Int32 × St) := (f1_isTrack a1).bind fun u_1 => if u_1 = 0 then some ((-2), st) else (yrd (yG0 st) 8 a1).bind fun x_3 => if x_3 = 0 then some ((-3), st) else (yrd (yG1 st) 8 a1).bind fun x_5 => (yW0 st a1 0).bind fun st_6 => (yW1 st_6 a1 0).bind fun st_7 => some (x_5, st_7)
def f1_couple (a1 : Int32) (a2 : Int32) (st : St) : Option (Int32 × St) := (f1_isTrack a1).bind fun u_1 => if u_1 = 0 then some ((-2), st) else (f1_in a2 1 999).bind fun u_3 => if u_3 = 0 then some ((-2), st) else (f1_holds a1 st).bind fun u_5 => if u_5.1 = 0 then some ((-3), u_5.2) else (f1_isFull a1 u_5.2).bind fun u_7 => if u_7.1 = 0 then (f1_come a1 a2 u_7.2).bind fun u_9 => (yrd (yG1 u_9.2) 8 a1).bind fun x_10 => (f1_goes 1 x_10 u_9.2).bind fun u_11 => some (u_11.1, u_11.2) else (f1_goes 1 (-4) u_7.2).bind fun u_12 => some (u_12.1, u_12.2)
def f1_uncouple (a1 : Int32) (st : St) : Option (Int32 × St) := (f1_isTrack a1).bind fun u_1 => if u_1 = 0 then some ((-2), st) else (f1_holds a1 st).bind fun u_3 => if u_3.1 = 0 then some ((-3), u_3.2) else (yrd (yG1 u_3.2) 8 a1).bind fun x_5 => if x_5 = 0 then (f1_goes 1 (-5) u_3.2).bind fun u_11 => some (u_11.1, u_11.2) else (f1_last a1 u_3.2).bind fun u_7 => (yrd (yG1 u_7.2) 8 a1).bind fun x_8 => (yW1 u_7.2 a1 (x_8 - 1)).bind fun st_9 => (f1_goes 1 u_7.1 st_9).bind fun u_10 => some (u_10.1, u_10.2)
def f1_shunt_L65 : Nat → Int32 → Int32 → Int32 → Int32 → Int32 → St → Option (Int32 × St)
  | 0, _, _, _, _, _, _ => none
  | n + 1, v1, v2, v3, v4, v5, st => if v3 ≤ v5 then (f1_goes 2 v4 st).bind fun u_13 => some (u_13.1, u_13.2) else if v4 < 0 then (f1_goes 2 v4 st).bind fun u_15 => some (u_15.1, u_15.2) else (yrd (yG1 st) 8 v1).bind fun x_16 => if x_16 = 0 then f1_shunt_L65 n v1 v2 v3 (-5) (v5 + 1) st else (f1_last v1 st).bind fun u_18 => (yrd (yG1 u_18.2) 8 v1).bind fun x_19 => (yW1 u_18.2 v1 (x_19 - 1)).bind fun st_20 => (f1_isFull v2 st_20).bind fun u_21 => if u_21.1 = 0 then (f1_come v2 u_18.1 u_21.2).bind fun u_23 => (yP8 u_23.2 ((yG8 u_23.2) + 1)).bind fun st_24 => f1_shunt_L65 n v1 v2 v3 v4 (v5 + 1) st_24 else (f1_come v1 u_18.1 u_21.2).bind fun u_25 => f1_shunt_L65 n v1 v2 v3 (-4) (v5 + 1) u_25.2
def f1_shunt (a1 : Int32) (a2 : Int32) (a3 : Int32) (st : St) : Option (Int32 × St) := (f1_isTrack a1).bind fun u_1 => if u_1 = 0 then some ((-2), st) else (f1_isTrack a2).bind fun u_3 => if u_3 = 0 then some ((-2), st) else (f1_in a3 0 20).bind fun u_5 => if u_5 = 0 then some ((-2), st) else (yP8 st 0).bind fun st_7 => (f1_holds a1 st_7).bind fun u_8 => if u_8.1 = 0 then some ((-3), u_8.2) else (f1_holds a2 u_8.2).bind fun u_10 => if u_10.1 = 0 then (f1_goes 1 (-3) u_10.2).bind fun u_26 => some (u_26.1, u_26.2) else f1_shunt_L65 40 a1 a2 a3 a3 0 u_10.2
def f1_sweep_L53 : Nat → Int32 → Int32 → Int32 → Int32 → St → Option (Int32 × St)
  | 0, _, _, _, _, _ => none
  | n + 1, v1, v2, v3, v4, st => if v4 = 0 then (f1_goes 1 (yG8 st) st).bind fun u_13 => some (u_13.1, u_13.2) else (yrd (yG1 st) 8 v1).bind fun x_14 => if x_14 ≤ 0 then (f1_goes 1 (yG8 st) st).bind fun u_16 => some (u_16.1, u_16.2) else (f1_last v1 st).bind fun u_17 => (yrd (yG1 u_17.2) 8 v1).bind fun x_18 => (yW1 u_17.2 v1 (x_18 - 1)).bind fun st_19 => if (u_17.1 - u_17.1 / 10 * 10) = 0 then f1_sweep_L53 n v1 v2 v3 0 st_19 else if (u_17.1 - u_17.1 / 10 * 10) = 9 then f1_sweep_L53 n v1 v2 v3 v4 st_19 else if (u_17.1 - u_17.1 / 2 * 2) = 1 then (f1_holds v2 st_19).bind fun u_34 => if u_34.1 = 0 then (f1_come v1 u_17.1 u_34.2).bind fun u_43 => (f1_goes 1 (-3) u_43.2).bind fun u_44 => some (u_44.1, u_44.2) else (f1_isFull v2 u_34.2).bind fun u_36 => if u_36.1 = 0 then (f1_come v2 u_17.1 u_36.2).bind fun u_38 => (yP8 u_38.2 ((yG8 u_38.2) + 1)).bind fun st_39 => (f1_goes 1 0 st_39).bind fun u_40 => f1_sweep_L53 n v1 v2 v3 v4 u_40.2 else (f1_come v1 u_17.1 u_36.2).bind fun u_41 => (f1_goes 2 (-4) u_41.2).bind fun u_42 => some (u_42.1, u_42.2) else (f1_holds v3 st_19).bind fun u_23 => if u_23.1 = 0 then (f1_come v1 u_17.1 u_23.2).bind fun u_32 => (f1_goes 1 (-3) u_32.2).bind fun u_33 => some (u_33.1, u_33.2) else (f1_isFull v3 u_23.2).bind fun u_25 => if u_25.1 = 0 then (f1_come v3 u_17.1 u_25.2).bind fun u_27 => (yP8 u_27.2 ((yG8 u_27.2) + 1)).bind fun st_28 => (f1_goes 1 0 st_28).bind fun u_29 => f1_sweep_L53 n v1 v2 v3 v4 u_29.2 else (f1_come v1 u_17.1 u_25.2).bind fun u_30 => (f1_goes 2 (-4) u_30.2).bind fun u_31 => some (u_31.1, u_31.2)
def f1_sweep (a1 : Int32) (a2 : Int32) (a3 : Int32) (st : St) : Option (Int32 × St) := (f1_isTrack a1).bind fun u_1 => if u_1 = 0 then some ((-2), st) else (f1_isTrack a2).bind fun u_3 => if u_3 = 0 then some ((-2), st) else (f1_isTrack a3).bind fun u_5 => if u_5 = 0 then some ((-2), st) else if a1 = a2 then some ((-2), st) else if a1 = a3 then some ((-2), st) else (yP8 st 0).bind fun st_9 => (f1_holds a1 st_9).bind fun u_10 => if u_10.1 = 0 then some ((-3), u_10.2) else f1_sweep_L53 40 a1 a2 a3 1 u_10.2
def f1_tour_L27 : Nat → Int64 → Int32 → Int32 → Int32 → Int32 → St → Option (Int32 × St)
  | 0, _, _, _, _, _, _ => none
  | n + 1, v1, v3, v4, v5, v6, st => if v3 ≤ v6 then some (v4, st) else if v5 = 0 then some (v4, st) else (f1_trackOf v1 v6).bind fun u_6 => (f1_holds u_6 st).bind fun u_7 => if u_7.1 = 0 then some ((-3), u_7.2) else (yrd (yG1 u_7.2) 8 u_6).bind fun x_9 => if x_9 = 0 then (f1_goes 1 0 u_7.2).bind fun u_19 => f1_tour_L27 n v1 v3 v4 0 (v6 + 1) u_19.2 else (f1_last u_6 u_7.2).bind fun u_11 => if (u_11.1 - u_11.1 / 10 * 10) = 9 then (f1_goes 1 0 u_11.2).bind fun u_13 => f1_tour_L27 n v1 v3 v4 v5 (v6 + 1) u_13.2 else (f1_last u_6 u_11.2).bind fun u_14 => (yrd (yG1 u_14.2) 8 u_6).bind fun x_15 => (yW1 u_14.2 u_6 (x_15 - 1)).bind fun st_16 => (yP8 st_16 ((yG8 st_16) + 1)).bind fun st_17 => (f1_goes 1 0 st_17).bind fun u_18 => f1_tour_L27 n v1 v3 (v4 + u_14.1) v5 (v6 + 1) u_18.2
def f1_tour (a1 : Int64) (a3 : Int32) (st : St) : Option (Int32 × St) := (f1_in a3 1 16).bind fun u_1 => if u_1 = 0 then some ((-2), st) else (yP8 st 0).bind fun st_3 => f1_tour_L27 40 a1 a3 0 1 0 st_3
def f1_chain_L19 : Nat → Int64 → Int32 → Int32 → Int32 → St → Option (Int32 × St)
  | 0, _, _, _, _, _ => none
  | n + 1, v1, v3, v4, v5, st => if v3 ≤ v5 then (f1_goes v3 v4 st).bind fun u_4 => some (u_4.1, u_4.2) else (f1_trackOf v1 v5).bind fun u_5 => (f1_holds u_5 st).bind fun u_6 => if u_6.1 = 0 then (f1_goes v5 (-3) u_6.2).bind fun u_9 => some (u_9.1, u_9.2) else (yrd (yG1 u_6.2) 8 u_5).bind fun x_8 => f1_chain_L19 n v1 v3 (v4 + x_8) (v5 + 1) u_6.2
def f1_chain (a1 : Int64) (a3 : Int32) (st : St) : Option (Int32 × St) := (f1_in a3 1 16).bind fun u_1 => if u_1 = 0 then some ((-2), st) else f1_chain_L19 40 a1 a3 0 0 st
def f1_survey_L19 : Nat → Int64 → Int32 → Int32 → Int32 → St → Option (Int32 × St)
  | 0, _, _, _, _, _ => none
  | n + 1, v1, v3, v4, v5, st => if v3 ≤ v5 then some (v4, st) else (f1_trackOf v1 v5).bind fun u_4 => (f1_holds u_4 st).bind fun u_5 => if u_5.1 = 0 then f1_survey_L19 n v1 v3 v4 (v5 + 1) u_5.2 else (yrd (yG1 u_5.2) 8 u_4).bind fun x_7 => (f1_goes 1 x_7 u_5.2).bind fun u_8 => f1_survey_L19 n v1 v3 (v4 + u_8.1) (v5 + 1) u_8.2
def f1_survey (a1 : Int64) (a3 : Int32) (st : St) : Option (Int32 × St) := (f1_in a3 1 16).bind fun u_1 => if u_1 = 0 then some ((-2), st) else f1_survey_L19 40 a1 a3 0 0 st
def f1_turn_L30 : Nat → Int32 → Int32 → Int32 → St → Option (Int32 × St)
  | 0, _, _, _, _ => none
  | n + 1, v1, v2, v3, st => if (v2 / 2) ≤ v3 then (f1_goes 1 v2 st).bind fun u_7 => some (u_7.1, u_7.2) else (f1_holds v1 st).bind fun u_8 => if u_8.1 = 0 then f1_turn_L30 n v1 v2 (v3 + 1) u_8.2 else (yrd (yG2 u_8.2) 96 ((12 * v1) + v3)).bind fun x_10 => (yrd (yG2 u_8.2) 96 ((((12 * v1) + v2) - 1) - v3)).bind fun x_11 => (yW2 u_8.2 ((12 * v1) + v3) x_11).bind fun st_12 => (yW2 st_12 ((((12 * v1) + v2) - 1) - v3) x_10).bind fun st_13 => (f1_goes 1 0 st_13).bind fun u_14 => f1_turn_L30 n v1 v2 (v3 + 1) u_14.2
def f1_turn (a1 : Int32) (st : St) : Option (Int32 × St) := (f1_isTrack a1).bind fun u_1 => if u_1 = 0 then some ((-2), st) else (f1_holds a1 st).bind fun u_3 => if u_3.1 = 0 then some ((-3), u_3.2) else (yrd (yG1 u_3.2) 8 a1).bind fun x_5 => f1_turn_L30 40 a1 x_5 0 u_3.2
def f1_swap_L92 : Nat → Int32 → Int32 → Int32 → St → Option (Int32 × St)
  | 0, _, _, _, _ => none
  | n + 1, v1, v2, v3, st => if 12 ≤ v3 then (yrd (yG1 st) 8 v1).bind fun x_20 => (yrd (yG1 st) 8 v2).bind fun x_21 => (yW1 st v1 x_21).bind fun st_22 => (yW1 st_22 v2 x_20).bind fun st_23 => (yrd (yG1 st_23) 8 v1).bind fun x_24 => (f1_goes 3 x_24 st_23).bind fun u_25 => some (u_25.1, u_25.2) else (yrd (yG2 st) 96 ((12 * v1) + v3)).bind fun x_26 => (yrd (yG2 st) 96 ((12 * v2) + v3)).bind fun x_27 => (yW2 st ((12 * v1) + v3) x_27).bind fun st_28 => (yW2 st_28 ((12 * v2) + v3) x_26).bind fun st_29 => f1_swap_L92 n v1 v2 (v3 + 1) st_29
def f1_swap (a1 : Int32) (a2 : Int32) (st : St) : Option (Int32 × St) := (f1_isTrack a1).bind fun u_1 => if u_1 = 0 then some ((-2), st) else (f1_isTrack a2).bind fun u_3 => if u_3 = 0 then some ((-2), st) else (f1_holds a1 st).bind fun u_5 => if u_5.1 = 0 then some ((-3), u_5.2) else (f1_holds a2 u_5.2).bind fun u_7 => if u_7.1 = 0 then (f1_goes 1 (-3) u_7.2).bind fun u_31 => some (u_31.1, u_31.2) else (f1_holds a1 u_7.2).bind fun u_9 => if u_9.1 = 0 then (f1_goes 3 (-4) u_9.2).bind fun u_11 => some (u_11.1, u_11.2) else (yrd (yG1 u_9.2) 8 a1).bind fun x_12 => (yrd (yG0 u_9.2) 8 a2).bind fun x_13 => if x_13 < x_12 then (f1_goes 3 (-4) u_9.2).bind fun u_15 => some (u_15.1, u_15.2) else (yrd (yG1 u_9.2) 8 a2).bind fun x_16 => (yrd (yG0 u_9.2) 8 a1).bind fun x_17 => if x_16 ≤ x_17 then f1_swap_L92 40 a1 a2 0 u_9.2 else (f1_goes 3 (-4) u_9.2).bind fun u_30 => some (u_30.1, u_30.2)
def f1_wagon (a1 : Int32) (a2 : Int32) (st : St) : Option (Int32 × St) := (f1_isTrack a1).bind fun u_1 => if u_1 = 0 then some ((-2), st) else (yrd (yG1 st) 8 a1).bind fun x_3 => (f1_in a2 0 (x_3 - 1)).bind fun u_4 => if u_4 = 0 then some (0, st) else (yrd (yG2 st) 96 ((12 * a1) + a2)).bind fun x_6 => some (x_6, st)
def f1_told_L4 : Nat → Int32 → Int32 → Int32 → St → Option (Int32 × St)
  | 0, _, _, _, _ => none
  | n + 1, v1, v2, v3, st => if 8 ≤ v3 then if v1 = 0 then some ((yG3 st), st) else if v1 = 1 then some ((yG4 st), st) else if v1 = 2 then some ((yG5 st), st) else if v1 = 3 then some ((yG6 st), st) else if v1 = 4 then some ((yG7 st), st) else if v1 = 5 then some ((yG8 st), st) else if v1 = 6 then some (v2, st) else some ((-2), st) else (yrd (yG0 st) 8 v3).bind fun x_9 => if x_9 ≤ 0 then f1_told_L4 n v1 (v2 + 0) (v3 + 1) st else f1_told_L4 n v1 (v2 + 1) (v3 + 1) st
def f1_told (a1 : Int32) (st : St) : Option (Int32 × St) := f1_told_L4 40 a1 0 0 st
end
section
set_option maxHeartbeats 4000000 in
set_option maxRecDepth 100000 in
theorem c0_isTrack (l : Launch) (a0 : Int32) : yMetS l yX0_isTrack wsX0_isTrack 0 [.int a0] (f0_isTrack a0) := by
  refine yentS (cc := cX0_isTrack) (nL := 1) (ret := .boolean) (by decide) rfl (Nat.le_of_ble_eq_true rfl) ?_
  intro r p e s m args below meth c A Q F hA hret hf H locs ls hS hl
  have F : CallFix p m c cX0_isTrack 1 s args wsX0_isTrack RX0 := F
  have hx := F.1
  have hb := F.2.1
  have hl : lv_has ls 1 [(0, .int a0)] := hl
  unfold f0_isTrack at hf
  refine lv_iload_n hx hb dX0_isTrack_0 rfl (lv_at hl 0 rfl) ?_
  refine lv_if_lt (tgt := 14) hx hb dX0_isTrack_1 (by decide) (fun k_1 => ?_) (fun k_1 => ?_)
  · have hf := y_ifp k_1 hf
    refine lv_iconst (v := 0) hx hb dX0_isTrack_14 (by decide) ?_
    exact yretS hret hf rfl hS dX0_isTrack_15
  · have hf := y_ifn k_1 hf
    refine lv_iload_n hx hb dX0_isTrack_4 rfl (lv_at hl 0 rfl) ?_
    refine lv_bipush (v := 8) hx hb dX0_isTrack_5 (by decide) ?_
    refine lv_icmp_ge (tgt := 14) hx hb dX0_isTrack_7 (by decide) (fun k_2 => ?_) (fun k_2 => ?_)
    · have hf := y_ifp k_2 hf
      refine lv_iconst (v := 0) hx hb dX0_isTrack_14 (by decide) ?_
      exact yretS hret hf rfl hS dX0_isTrack_15
    · have hf := y_ifn k_2 hf
      refine lv_iconst (v := 1) hx hb dX0_isTrack_10 (by decide) ?_
      refine lv_goto (tgt := 15) hx hb dX0_isTrack_11 (by decide) ?_
      exact yretS hret hf rfl hS dX0_isTrack_15
theorem hin0_isThere : ∀ w ∈ wsX00, w ∈ wsX0_isThere := by decide +kernel
set_option maxHeartbeats 4000000 in
set_option maxRecDepth 100000 in
theorem c0_isThere (l : Launch) (D : va_G) (a1 : Int32) : yMet l D 0 yX0_isThere wsX0_isThere 0 [.int a1] (f0_isThere a1) := by
  refine yentI (cc := cX0_isThere) (nL := 2) (ret := .boolean) (by decide) rfl (fun _ => Nat.le_of_ble_eq_true rfl) ?_
  intro h0 q1 q2 q3 cA r st2 p e s m args below meth c A Q F hA hret st hf H locs ls w hl
  have F : CallFix p m c cX0_isThere 2 s args wsX0_isThere RX0 := F
  have hx := F.1
  have hb := F.2.1
  have hl : lv_has ls 2 [(0, .ref h0), (1, .int a1)] := hl
  unfold f0_isThere at hf
  refine lv_aload_n hx hb dX0_isThere_0 rfl (lv_at hl 0 rfl) ?_
  refine yget0 F hin0_isThere w 0 (by decide) (by decide +kernel) (v := .ref q1) rfl dX0_isThere_1 ?_
  refine lv_iload_n hx hb dX0_isThere_4 rfl (lv_at hl 1 rfl) ?_
  obtain ⟨x_1, hx_1, hf⟩ := y_bd hf
  refine yald0 F w hx_1 dX0_isThere_5 ?_
  refine lv_if_le (tgt := 13) hx hb dX0_isThere_6 (by decide) (fun k_2 => ?_) (fun k_2 => ?_)
  · have hf := y_ifp k_2 hf
    refine lv_iconst (v := 0) hx hb dX0_isThere_13 (by decide) ?_
    exact yret hret hf rfl w dX0_isThere_14
  · have hf := y_ifn k_2 hf
    refine lv_iconst (v := 1) hx hb dX0_isThere_9 (by decide) ?_
    refine lv_goto (tgt := 14) hx hb dX0_isThere_10 (by decide) ?_
    exact yret hret hf rfl w dX0_isThere_14
theorem hin0_hold : ∀ w ∈ wsX00, w ∈ wsX0_hold := by decide +kernel
set_option maxHeartbeats 4000000 in
set_option maxRecDepth 100000 in
theorem c0_hold (l : Launch) (D : va_G) (a1 : Int32) : yMet l D 0 yX0_hold wsX0_hold 1 [.int a1] (f0_hold a1) := by
  refine yentI (cc := cX0_hold) (nL := 2) (ret := .boolean) (by decide) rfl (fun _ => Nat.le_of_ble_eq_true rfl) ?_
  intro h0 q1 q2 q3 cA r st2 p e s m args below meth c A Q F hA hret st hf H locs ls w hl
  have F : CallFix p m c cX0_hold 2 s args wsX0_hold RX0 := F
  have hx := F.1
  have hb := F.2.1
  have hl : lv_has ls 2 [(0, .ref h0), (1, .int a1)] := hl
  unfold f0_hold at hf
  refine lv_aload_n hx hb dX0_hold_0 rfl (lv_at hl 0 rfl) ?_
  refine lv_dup hx hb dX0_hold_1 rfl ?_
  refine yget0 F hin0_hold w 3 (by decide) (by decide +kernel) (v := .int (yG3 st)) rfl dX0_hold_2 ?_
  refine lv_iconst (v := 1) hx hb dX0_hold_5 (by decide) ?_
  refine lv_iadd hx hb dX0_hold_6 ?_
  obtain ⟨st_1, hst_1, hf⟩ := y_bd hf
  refine yput0_3 F hin0_hold w (by decide +kernel) hst_1 dX0_hold_7 (fun H locs w => ?_)
  refine lv_aload_n hx hb dX0_hold_10 rfl (lv_at hl 0 rfl) ?_
  refine lv_iload_n hx hb dX0_hold_11 rfl (lv_at hl 1 rfl) ?_
  obtain ⟨u_2, hu_2, hf⟩ := y_bd hf
  refine ycallI (n := 1) (r := u_2.1) (st2 := u_2.2) (rest := []) F hA (c0_isThere l D a1) gX0_hold_X0_isThere rfl (by decide +kernel) rfl ⟨Nat.le_of_ble_eq_true rfl, Nat.le_of_ble_eq_true rfl⟩ rfl hl.1 w hu_2 rfl (Nat.le_of_ble_eq_true rfl) ⟨Nat.zero_le _, Nat.zero_le _⟩ dX0_hold_12 (fun H locs w => ?_)
  refine lv_if_ne (tgt := 20) hx hb dX0_hold_15 (by decide) (fun k_3 => ?_) (fun k_3 => ?_)
  · have hf := y_ifn k_3 hf
    refine lv_aload_n hx hb dX0_hold_20 rfl (lv_at hl 0 rfl) ?_
    refine lv_dup hx hb dX0_hold_21 rfl ?_
    refine yget0 F hin0_hold w 4 (by decide) (by decide +kernel) (v := .int (yG4 u_2.2)) rfl dX0_hold_22 ?_
    refine lv_iconst (v := 1) hx hb dX0_hold_25 (by decide) ?_
    refine lv_iadd hx hb dX0_hold_26 ?_
    obtain ⟨st_4, hst_4, hf⟩ := y_bd hf
    refine yput0_4 F hin0_hold w (by decide +kernel) hst_4 dX0_hold_27 (fun H locs w => ?_)
    refine lv_aload_n hx hb dX0_hold_30 rfl (lv_at hl 0 rfl) ?_
    refine lv_dup hx hb dX0_hold_31 rfl ?_
    refine yget0 F hin0_hold w 6 (by decide) (by decide +kernel) (v := .int (yG6 st_4)) rfl dX0_hold_32 ?_
    refine lv_iconst (v := 1) hx hb dX0_hold_35 (by decide) ?_
    refine lv_iadd hx hb dX0_hold_36 ?_
    obtain ⟨st_5, hst_5, hf⟩ := y_bd hf
    refine yput0_6 F hin0_hold w (by decide +kernel) hst_5 dX0_hold_37 (fun H locs w => ?_)
    refine lv_aload_n hx hb dX0_hold_40 rfl (lv_at hl 0 rfl) ?_
    refine lv_aload_n hx hb dX0_hold_41 rfl (lv_at hl 0 rfl) ?_
    refine yget0 F hin0_hold w 7 (by decide) (by decide +kernel) (v := .int (yG7 st_5)) rfl dX0_hold_42 ?_
    refine lv_aload_n hx hb dX0_hold_45 rfl (lv_at hl 0 rfl) ?_
    refine yget0 F hin0_hold w 6 (by decide) (by decide +kernel) (v := .int (yG6 st_5)) rfl dX0_hold_46 ?_
    refine va_mmax hx hb (F.2.2.1.trans hl.1.symm) F.2.2.2.1 (F.2.2.2.2 (.methodLink RX0 90 Lib.Math.max.name) (by decide +kernel)) (F.2.2.2.2 (.static Lib.Math.max.name) (by decide +kernel)) (F.2.2.2.2 (.initialized "java/lang/Math") (by decide +kernel)) (F.2.2.2.2 (.code Lib.Math.max.name Lib.Math.max.code 2 (some .int)) (by decide +kernel)) (Nat.le_of_ble_eq_true rfl) (Nat.le_of_ble_eq_true rfl) (Nat.zero_le _) (Nat.zero_le _) dX0_hold_49 ?_
    obtain ⟨st_6, hst_6, hf⟩ := y_bd hf
    refine yput0_7 F hin0_hold w (by decide +kernel) hst_6 dX0_hold_52 (fun H locs w => ?_)
    refine lv_iconst (v := 1) hx hb dX0_hold_55 (by decide) ?_
    exact yret hret hf rfl w dX0_hold_56
  · have hf := y_ifp k_3 hf
    refine lv_iconst (v := 0) hx hb dX0_hold_18 (by decide) ?_
    exact yret hret hf rfl w dX0_hold_19
set_option maxHeartbeats 4000000 in
set_option maxRecDepth 100000 in
theorem c0_place (l : Launch) (a0 : Int32) (a1 : Int32) : yMetS l yX0_place wsX0_place 0 [.int a0, .int a1] (f0_place a0 a1) := by
  refine yentS (cc := cX0_place) (nL := 2) (ret := .int) (by decide) rfl (Nat.le_of_ble_eq_true rfl) ?_
  intro r p e s m args below meth c A Q F hA hret hf H locs ls hS hl
  have F : CallFix p m c cX0_place 2 s args wsX0_place RX0 := F
  have hx := F.1
  have hb := F.2.1
  have hl : lv_has ls 2 [(0, .int a0), (1, .int a1)] := hl
  unfold f0_place at hf
  refine lv_iload_n hx hb dX0_place_0 rfl (lv_at hl 0 rfl) ?_
  refine lv_bipush (v := 12) hx hb dX0_place_1 (by decide) ?_
  refine lv_imul hx hb dX0_place_3 ?_
  refine lv_iload_n hx hb dX0_place_4 rfl (lv_at hl 1 rfl) ?_
  refine lv_iadd hx hb dX0_place_5 ?_
  exact yretS hret hf rfl hS dX0_place_6
theorem hin0_come : ∀ w ∈ wsX00, w ∈ wsX0_come := by decide +kernel
set_option maxHeartbeats 4000000 in
set_option maxRecDepth 100000 in
theorem c0_come (l : Launch) (D : va_G) (a1 : Int32) (a2 : Int32) : yMet l D 0 yX0_come wsX0_come 1 [.int a1, .int a2] (f0_come a1 a2) := by
  refine yentI (cc := cX0_come) (nL := 4) (ret := .int) (by decide) rfl (fun _ => Nat.le_of_ble_eq_true rfl) ?_
  intro h0 q1 q2 q3 cA r st2 p e s m args below meth c A Q F hA hret st hf H locs ls w hl
  have F : CallFix p m c cX0_come 4 s args wsX0_come RX0 := F
  have hx := F.1
  have hb := F.2.1
  have hl : lv_has ls 4 [(0, .ref h0), (1, .int a1), (2, .int a2)] := hl
  unfold f0_come at hf
  refine lv_aload_n hx hb dX0_come_0 rfl (lv_at hl 0 rfl) ?_
  refine yget0 F hin0_come w 1 (by decide) (by decide +kernel) (v := .ref q2) rfl dX0_come_1 ?_
  refine lv_iload_n hx hb dX0_come_4 rfl (lv_at hl 1 rfl) ?_
  obtain ⟨x_1, hx_1, hf⟩ := y_bd hf
  refine yald1 F w hx_1 dX0_come_5 ?_
  refine lv_istore_n (lv' := [(3, .int x_1), (0, .ref h0), (1, .int a1), (2, .int a2)]) hx hb dX0_come_6 rfl hl (by decide) rfl (fun ls hl => ?_)
  refine lv_iload_n hx hb dX0_come_7 rfl (lv_at hl 0 rfl) ?_
  refine lv_aload_n hx hb dX0_come_8 rfl (lv_at hl 1 rfl) ?_
  refine yget0 F hin0_come w 0 (by decide) (by decide +kernel) (v := .ref q1) rfl dX0_come_9 ?_
  refine lv_iload_n hx hb dX0_come_12 rfl (lv_at hl 2 rfl) ?_
  obtain ⟨x_2, hx_2, hf⟩ := y_bd hf
  refine yald0 F w hx_2 dX0_come_13 ?_
  refine lv_icmp_lt (tgt := 20) hx hb dX0_come_14 (by decide) (fun k_3 => ?_) (fun k_3 => ?_)
  · have hf := y_ifp k_3 hf
    refine lv_aload_n hx hb dX0_come_20 rfl (lv_at hl 1 rfl) ?_
    refine yget0 F hin0_come w 2 (by decide) (by decide +kernel) (v := .ref q3) rfl dX0_come_21 ?_
    refine lv_iload_n hx hb dX0_come_24 rfl (lv_at hl 2 rfl) ?_
    refine lv_iload_n hx hb dX0_come_25 rfl (lv_at hl 0 rfl) ?_
    obtain ⟨u_4, hu_4, hf⟩ := y_bd hf
    refine ycallSW (n := 2) (rest := [.ref q3]) F hA (c0_place l a1 x_1) gX0_come_X0_place rfl (by decide +kernel) ⟨Nat.le_of_ble_eq_true rfl, Nat.le_of_ble_eq_true rfl⟩ rfl hl.1 w hu_4 rfl (Nat.le_of_ble_eq_true rfl) ⟨Nat.zero_le _, Nat.zero_le _⟩ dX0_come_26 (fun H locs w => ?_)
    refine lv_iload_n hx hb dX0_come_29 rfl (lv_at hl 3 rfl) ?_
    obtain ⟨st_5, hst_5, hf⟩ := y_bd hf
    refine yast2 F w hst_5 dX0_come_30 (fun H locs w => ?_)
    refine lv_aload_n hx hb dX0_come_31 rfl (lv_at hl 1 rfl) ?_
    refine yget0 F hin0_come w 1 (by decide) (by decide +kernel) (v := .ref q2) rfl dX0_come_32 ?_
    refine lv_iload_n hx hb dX0_come_35 rfl (lv_at hl 2 rfl) ?_
    refine lv_iload_n hx hb dX0_come_36 rfl (lv_at hl 0 rfl) ?_
    refine lv_iconst (v := 1) hx hb dX0_come_37 (by decide) ?_
    refine lv_iadd hx hb dX0_come_38 ?_
    obtain ⟨st_6, hst_6, hf⟩ := y_bd hf
    refine yast1 F w hst_6 dX0_come_39 (fun H locs w => ?_)
    refine lv_iload_n hx hb dX0_come_40 rfl (lv_at hl 0 rfl) ?_
    refine lv_iconst (v := 1) hx hb dX0_come_41 (by decide) ?_
    refine lv_iadd hx hb dX0_come_42 ?_
    exact yret hret hf rfl w dX0_come_43
  · have hf := y_ifn k_3 hf
    refine lv_bipush (v := (-4)) hx hb dX0_come_17 (by decide) ?_
    exact yret hret hf rfl w dX0_come_19
theorem hin0_letGo : ∀ w ∈ wsX00, w ∈ wsX0_letGo := by decide +kernel
set_option maxHeartbeats 4000000 in
set_option maxRecDepth 100000 in
theorem c0_letGo (l : Launch) (D : va_G) (a1 : Int32) (a2 : Int32) : yMet l D 0 yX0_letGo wsX0_letGo 0 [.int a1, .int a2] (f0_letGo a1 a2) := by
  refine yentI (cc := cX0_letGo) (nL := 3) (ret := .int) (by decide) rfl (fun _ => Nat.le_of_ble_eq_true rfl) ?_
  intro h0 q1 q2 q3 cA r st2 p e s m args below meth c A Q F hA hret st hf H locs ls w hl
  have F : CallFix p m c cX0_letGo 3 s args wsX0_letGo RX0 := F
  have hx := F.1
  have hb := F.2.1
  have hl : lv_has ls 3 [(0, .ref h0), (1, .int a1), (2, .int a2)] := hl
  unfold f0_letGo at hf
  refine lv_aload_n hx hb dX0_letGo_0 rfl (lv_at hl 0 rfl) ?_
  refine lv_dup hx hb dX0_letGo_1 rfl ?_
  refine yget0 F hin0_letGo w 6 (by decide) (by decide +kernel) (v := .int (yG6 st)) rfl dX0_letGo_2 ?_
  refine lv_iload_n hx hb dX0_letGo_5 rfl (lv_at hl 1 rfl) ?_
  refine lv_isub hx hb dX0_letGo_6 ?_
  obtain ⟨st_1, hst_1, hf⟩ := y_bd hf
  refine yput0_6 F hin0_letGo w (by decide +kernel) hst_1 dX0_letGo_7 (fun H locs w => ?_)
  refine lv_iload_n hx hb dX0_letGo_10 rfl (lv_at hl 2 rfl) ?_
  refine lv_if_ge (tgt := 24) hx hb dX0_letGo_11 (by decide) (fun k_2 => ?_) (fun k_2 => ?_)
  · have hf := y_ifp k_2 hf
    refine lv_iload_n hx hb dX0_letGo_24 rfl (lv_at hl 2 rfl) ?_
    exact yret hret hf rfl w dX0_letGo_25
  · have hf := y_ifn k_2 hf
    refine lv_aload_n hx hb dX0_letGo_14 rfl (lv_at hl 0 rfl) ?_
    refine lv_dup hx hb dX0_letGo_15 rfl ?_
    refine yget0 F hin0_letGo w 5 (by decide) (by decide +kernel) (v := .int (yG5 st_1)) rfl dX0_letGo_16 ?_
    refine lv_iload_n hx hb dX0_letGo_19 rfl (lv_at hl 1 rfl) ?_
    refine lv_iadd hx hb dX0_letGo_20 ?_
    obtain ⟨st_3, hst_3, hf⟩ := y_bd hf
    refine yput0_5 F hin0_letGo w (by decide +kernel) hst_3 dX0_letGo_21 (fun H locs w => ?_)
    refine lv_iload_n hx hb dX0_letGo_24 rfl (lv_at hl 2 rfl) ?_
    exact yret hret hf rfl w dX0_letGo_25
set_option maxHeartbeats 4000000 in
set_option maxRecDepth 100000 in
theorem c0_holdAndCome (l : Launch) (D : va_G) (a1 : Int32) (a2 : Int32) : yMet l D 0 yX0_holdAndCome wsX0_holdAndCome 2 [.int a1, .int a2] (f0_holdAndCome a1 a2) := by
  refine yentI (cc := cX0_holdAndCome) (nL := 3) (ret := .int) (by decide) rfl (fun _ => Nat.le_of_ble_eq_true rfl) ?_
  intro h0 q1 q2 q3 cA r st2 p e s m args below meth c A Q F hA hret st hf H locs ls w hl
  have F : CallFix p m c cX0_holdAndCome 3 s args wsX0_holdAndCome RX0 := F
  have hx := F.1
  have hb := F.2.1
  have hl : lv_has ls 3 [(0, .ref h0), (1, .int a1), (2, .int a2)] := hl
  unfold f0_holdAndCome at hf
  refine lv_aload_n hx hb dX0_holdAndCome_0 rfl (lv_at hl 0 rfl) ?_
  refine lv_iload_n hx hb dX0_holdAndCome_1 rfl (lv_at hl 1 rfl) ?_
  obtain ⟨u_1, hu_1, hf⟩ := y_bd hf
  refine ycallI (n := 1) (r := u_1.1) (st2 := u_1.2) (rest := []) F hA (c0_hold l D a1) gX0_holdAndCome_X0_hold rfl (by decide +kernel) rfl ⟨Nat.le_of_ble_eq_true rfl, Nat.le_of_ble_eq_true rfl⟩ rfl hl.1 w hu_1 rfl (Nat.le_of_ble_eq_true rfl) ⟨Nat.zero_le _, Nat.zero_le _⟩ dX0_holdAndCome_2 (fun H locs w => ?_)
  refine lv_if_ne (tgt := 11) hx hb dX0_holdAndCome_5 (by decide) (fun k_2 => ?_) (fun k_2 => ?_)
  · have hf := y_ifn k_2 hf
    refine lv_aload_n hx hb dX0_holdAndCome_11 rfl (lv_at hl 0 rfl) ?_
    refine lv_iconst (v := 1) hx hb dX0_holdAndCome_12 (by decide) ?_
    refine lv_aload_n hx hb dX0_holdAndCome_13 rfl (lv_at hl 0 rfl) ?_
    refine lv_iload_n hx hb dX0_holdAndCome_14 rfl (lv_at hl 1 rfl) ?_
    refine lv_iload_n hx hb dX0_holdAndCome_15 rfl (lv_at hl 2 rfl) ?_
    obtain ⟨u_3, hu_3, hf⟩ := y_bd hf
    refine ycallI (n := 2) (r := u_3.1) (st2 := u_3.2) (rest := [.int 1, .ref h0]) F hA (c0_come l D a1 a2) gX0_holdAndCome_X0_come rfl (by decide +kernel) rfl ⟨Nat.le_of_ble_eq_true rfl, Nat.le_of_ble_eq_true rfl⟩ rfl hl.1 w hu_3 rfl (Nat.le_of_ble_eq_true rfl) ⟨Nat.zero_le _, Nat.zero_le _⟩ dX0_holdAndCome_16 (fun H locs w => ?_)
    obtain ⟨u_4, hu_4, hf⟩ := y_bd hf
    refine ycallI (n := 2) (r := u_4.1) (st2 := u_4.2) (rest := []) F hA (c0_letGo l D 1 u_3.1) gX0_holdAndCome_X0_letGo rfl (by decide +kernel) rfl ⟨Nat.le_of_ble_eq_true rfl, Nat.le_of_ble_eq_true rfl⟩ rfl hl.1 w hu_4 rfl (Nat.le_of_ble_eq_true rfl) ⟨Nat.zero_le _, Nat.zero_le _⟩ dX0_holdAndCome_19 (fun H locs w => ?_)
    exact yret hret hf rfl w dX0_holdAndCome_22
  · have hf := y_ifp k_2 hf
    refine lv_bipush (v := (-3)) hx hb dX0_holdAndCome_8 (by decide) ?_
    exact yret hret hf rfl w dX0_holdAndCome_10
theorem hin0_go : ∀ w ∈ wsX00, w ∈ wsX0_go := by decide +kernel
set_option maxHeartbeats 4000000 in
set_option maxRecDepth 100000 in
theorem c0_go (l : Launch) (D : va_G) (a1 : Int32) : yMet l D 0 yX0_go wsX0_go 1 [.int a1] (f0_go a1) := by
  refine yentI (cc := cX0_go) (nL := 3) (ret := .int) (by decide) rfl (fun _ => Nat.le_of_ble_eq_true rfl) ?_
  intro h0 q1 q2 q3 cA r st2 p e s m args below meth c A Q F hA hret st hf H locs ls w hl
  have F : CallFix p m c cX0_go 3 s args wsX0_go RX0 := F
  have hx := F.1
  have hb := F.2.1
  have hl : lv_has ls 3 [(0, .ref h0), (1, .int a1)] := hl
  unfold f0_go at hf
  refine lv_aload_n hx hb dX0_go_0 rfl (lv_at hl 0 rfl) ?_
  refine yget0 F hin0_go w 1 (by decide) (by decide +kernel) (v := .ref q2) rfl dX0_go_1 ?_
  refine lv_iload_n hx hb dX0_go_4 rfl (lv_at hl 1 rfl) ?_
  obtain ⟨x_1, hx_1, hf⟩ := y_bd hf
  refine yald1 F w hx_1 dX0_go_5 ?_
  refine lv_istore_n (lv' := [(2, .int x_1), (0, .ref h0), (1, .int a1)]) hx hb dX0_go_6 rfl hl (by decide) rfl (fun ls hl => ?_)
  refine lv_iload_n hx hb dX0_go_7 rfl (lv_at hl 0 rfl) ?_
  refine lv_if_ne (tgt := 14) hx hb dX0_go_8 (by decide) (fun k_2 => ?_) (fun k_2 => ?_)
  · have hf := y_ifn k_2 hf
    refine lv_aload_n hx hb dX0_go_14 rfl (lv_at hl 1 rfl) ?_
    refine yget0 F hin0_go w 1 (by decide) (by decide +kernel) (v := .ref q2) rfl dX0_go_15 ?_
    refine lv_iload_n hx hb dX0_go_18 rfl (lv_at hl 2 rfl) ?_
    refine lv_iload_n hx hb dX0_go_19 rfl (lv_at hl 0 rfl) ?_
    refine lv_iconst (v := 1) hx hb dX0_go_20 (by decide) ?_
    refine lv_isub hx hb dX0_go_21 ?_
    obtain ⟨st_3, hst_3, hf⟩ := y_bd hf
    refine yast1 F w hst_3 dX0_go_22 (fun H locs w => ?_)
    refine lv_aload_n hx hb dX0_go_23 rfl (lv_at hl 1 rfl) ?_
    refine yget0 F hin0_go w 2 (by decide) (by decide +kernel) (v := .ref q3) rfl dX0_go_24 ?_
    refine lv_iload_n hx hb dX0_go_27 rfl (lv_at hl 2 rfl) ?_
    refine lv_iload_n hx hb dX0_go_28 rfl (lv_at hl 0 rfl) ?_
    refine lv_iconst (v := 1) hx hb dX0_go_29 (by decide) ?_
    refine lv_isub hx hb dX0_go_30 ?_
    obtain ⟨u_4, hu_4, hf⟩ := y_bd hf
    refine ycallSW (n := 2) (rest := [.ref q3]) F hA (c0_place l a1 (x_1 - 1)) gX0_go_X0_place rfl (by decide +kernel) ⟨Nat.le_of_ble_eq_true rfl, Nat.le_of_ble_eq_true rfl⟩ rfl hl.1 w hu_4 rfl (Nat.le_of_ble_eq_true rfl) ⟨Nat.zero_le _, Nat.zero_le _⟩ dX0_go_31 (fun H locs w => ?_)
    obtain ⟨x_5, hx_5, hf⟩ := y_bd hf
    refine yald2 F w hx_5 dX0_go_34 ?_
    exact yret hret hf rfl w dX0_go_35
  · have hf := y_ifp k_2 hf
    refine lv_bipush (v := (-5)) hx hb dX0_go_11 (by decide) ?_
    exact yret hret hf rfl w dX0_go_13
theorem hin0_moveWagons : ∀ w ∈ wsX00, w ∈ wsX0_moveWagons := by decide +kernel
set_option maxHeartbeats 4000000 in
set_option maxRecDepth 100000 in
theorem b0_moveWagons_L3 {l : Launch} {D : va_G} {h0 q1 q2 q3 : Nat} {cA : ClassId} {r : Int32} {st2 : St} {p : Program} {e : Env} {s : State} {m : MethodId} {args : Array Value} {below : List Frame} {meth : Method} {c : Code} {A : Nat → Prop} {Q : State → Prop} (F : CallFix p m c cX0_moveWagons 6 s args wsX0_moveWagons RX0) (hA : ∀ q, s.heap.size ≤ q → A q) (hret : yRetI D 0 h0 q1 q2 q3 cA p l e 2 s m args below meth c cX0_moveWagons A Q .int r st2) : ∀ (n : Nat) (v1 : Int32) (v2 : Int32) (v3 : Int32) (v4 : Int32) (st : St), f0_moveWagons_L3 n v1 v2 v3 v4 st = some (r, st2) → ∀ (H : Heap) (locs : List Loc) (ls : Array Slot), Wd D 0 h0 q1 q2 q3 cA A s st H locs → lv_has ls 6 [(0, .ref h0), (1, .int v1), (2, .int v2), (3, .int v3), (4, .int v4)] → W p l e (yrm 2) s m args below meth c H locs 0 0 Q (F0 m 3 ls []) := by
  have hx := F.1
  have hb := F.2.1
  intro n
  induction n with
  | zero =>
    intro v1 v2 v3 v4 st hf
    rw [f0_moveWagons_L3] at hf
    cases hf
  | succ n ih =>
    intro v1 v2 v3 v4 st hf H locs ls w hl
    rw [f0_moveWagons_L3] at hf
    refine lv_iload hx hb dX0_moveWagons_3 (lv_at hl 4 rfl) ?_
    refine lv_iload_n hx hb dX0_moveWagons_5 rfl (lv_at hl 3 rfl) ?_
    refine lv_icmp_ge (tgt := 65) hx hb dX0_moveWagons_6 (by decide) (fun k_1 => ?_) (fun k_1 => ?_)
    · have hf := y_ifp k_1 hf
      refine lv_iload_n hx hb dX0_moveWagons_65 rfl (lv_at hl 3 rfl) ?_
      exact yret hret hf rfl w dX0_moveWagons_66
    · have hf := y_ifn k_1 hf
      refine lv_aload_n hx hb dX0_moveWagons_9 rfl (lv_at hl 0 rfl) ?_
      refine lv_iload_n hx hb dX0_moveWagons_10 rfl (lv_at hl 1 rfl) ?_
      obtain ⟨u_2, hu_2, hf⟩ := y_bd hf
      refine ycallI (n := 1) (r := u_2.1) (st2 := u_2.2) (rest := []) F hA (c0_go l D v1) gX0_moveWagons_X0_go rfl (by decide +kernel) rfl ⟨Nat.le_of_ble_eq_true rfl, Nat.le_of_ble_eq_true rfl⟩ rfl hl.1 w hu_2 rfl (Nat.le_of_ble_eq_true rfl) ⟨Nat.zero_le _, Nat.zero_le _⟩ dX0_moveWagons_11 (fun H locs w => ?_)
      refine lv_istore (lv' := [(5, .int u_2.1), (0, .ref h0), (1, .int v1), (2, .int v2), (3, .int v3), (4, .int v4)]) hx hb dX0_moveWagons_14 hl (by decide) rfl (fun ls hl => ?_)
      refine lv_iload hx hb dX0_moveWagons_16 (lv_at hl 0 rfl) ?_
      refine lv_bipush (v := (-5)) hx hb dX0_moveWagons_18 (by decide) ?_
      refine lv_icmp_ne (tgt := 26) hx hb dX0_moveWagons_20 (by decide) (fun k_3 => ?_) (fun k_3 => ?_)
      · have hf := y_ifn k_3 hf
        refine lv_aload_n hx hb dX0_moveWagons_26 rfl (lv_at hl 1 rfl) ?_
        refine lv_iload_n hx hb dX0_moveWagons_27 rfl (lv_at hl 3 rfl) ?_
        refine lv_iload hx hb dX0_moveWagons_28 (lv_at hl 0 rfl) ?_
        obtain ⟨u_4, hu_4, hf⟩ := y_bd hf
        refine ycallI (n := 2) (r := u_4.1) (st2 := u_4.2) (rest := []) F hA (c0_come l D v2 u_2.1) gX0_moveWagons_X0_come rfl (by decide +kernel) rfl ⟨Nat.le_of_ble_eq_true rfl, Nat.le_of_ble_eq_true rfl⟩ rfl hl.1 w hu_4 rfl (Nat.le_of_ble_eq_true rfl) ⟨Nat.zero_le _, Nat.zero_le _⟩ dX0_moveWagons_30 (fun H locs w => ?_)
        refine lv_bipush (v := (-4)) hx hb dX0_moveWagons_33 (by decide) ?_
        refine lv_icmp_ne (tgt := 49) hx hb dX0_moveWagons_35 (by decide) (fun k_5 => ?_) (fun k_5 => ?_)
        · have hf := y_ifn k_5 hf
          refine lv_aload_n hx hb dX0_moveWagons_49 rfl (lv_at hl 1 rfl) ?_
          refine lv_dup hx hb dX0_moveWagons_50 rfl ?_
          refine yget0 F hin0_moveWagons w 8 (by decide) (by decide +kernel) (v := .int (yG8 u_4.2)) rfl dX0_moveWagons_51 ?_
          refine lv_iconst (v := 1) hx hb dX0_moveWagons_54 (by decide) ?_
          refine lv_iadd hx hb dX0_moveWagons_55 ?_
          obtain ⟨st_6, hst_6, hf⟩ := y_bd hf
          refine yput0_8 F hin0_moveWagons w (by decide +kernel) hst_6 dX0_moveWagons_56 (fun H locs w => ?_)
          refine lv_iinc (v := v4 + 1) (lv' := [(4, .int (v4 + 1)), (5, .int u_2.1), (0, .ref h0), (1, .int v1), (2, .int v2), (3, .int v3)]) hx hb dX0_moveWagons_59 hl (k := 5) rfl rfl (by decide) rfl (fun ls hl => ?_)
          refine lv_goto (tgt := 3) hx hb dX0_moveWagons_62 (by decide) ?_
          exact ih v1 v2 v3 (v4 + 1) st_6 hf _ _ _ w (lv_sub hl [2, 3, 4, 5, 0] rfl)
        · have hf := y_ifp k_5 hf
          refine lv_aload_n hx hb dX0_moveWagons_38 rfl (lv_at hl 1 rfl) ?_
          refine lv_iload_n hx hb dX0_moveWagons_39 rfl (lv_at hl 2 rfl) ?_
          refine lv_iload hx hb dX0_moveWagons_40 (lv_at hl 0 rfl) ?_
          obtain ⟨u_7, hu_7, hf⟩ := y_bd hf
          refine ycallI (n := 2) (r := u_7.1) (st2 := u_7.2) (rest := []) F hA (c0_come l D v1 u_2.1) gX0_moveWagons_X0_come rfl (by decide +kernel) rfl ⟨Nat.le_of_ble_eq_true rfl, Nat.le_of_ble_eq_true rfl⟩ rfl hl.1 w hu_7 rfl (Nat.le_of_ble_eq_true rfl) ⟨Nat.zero_le _, Nat.zero_le _⟩ dX0_moveWagons_42 (fun H locs w => ?_)
          refine lv_pop hx hb dX0_moveWagons_45 rfl ?_
          refine lv_bipush (v := (-4)) hx hb dX0_moveWagons_46 (by decide) ?_
          exact yret hret hf rfl w dX0_moveWagons_48
      · have hf := y_ifp k_3 hf
        refine lv_bipush (v := (-5)) hx hb dX0_moveWagons_23 (by decide) ?_
        exact yret hret hf rfl w dX0_moveWagons_25
set_option maxHeartbeats 4000000 in
set_option maxRecDepth 100000 in
theorem c0_moveWagons (l : Launch) (D : va_G) (a1 : Int32) (a2 : Int32) (a3 : Int32) : yMet l D 0 yX0_moveWagons wsX0_moveWagons 2 [.int a1, .int a2, .int a3] (f0_moveWagons a1 a2 a3) := by
  refine yentI (cc := cX0_moveWagons) (nL := 6) (ret := .int) (by decide) rfl (fun _ => Nat.le_of_ble_eq_true rfl) ?_
  intro h0 q1 q2 q3 cA r st2 p e s m args below meth c A Q F hA hret st hf H locs ls w hl
  have F : CallFix p m c cX0_moveWagons 6 s args wsX0_moveWagons RX0 := F
  have hx := F.1
  have hb := F.2.1
  have hl : lv_has ls 6 [(0, .ref h0), (1, .int a1), (2, .int a2), (3, .int a3)] := hl
  unfold f0_moveWagons at hf
  refine lv_iconst (v := 0) hx hb dX0_moveWagons_0 (by decide) ?_
  refine lv_istore (lv' := [(4, .int 0), (0, .ref h0), (1, .int a1), (2, .int a2), (3, .int a3)]) hx hb dX0_moveWagons_1 hl (by decide) rfl (fun ls hl => ?_)
  exact b0_moveWagons_L3 F hA hret 40 a1 a2 a3 0 st hf _ _ _ w (lv_sub hl [1, 2, 3, 4, 0] rfl)
theorem hin0_sortWagons : ∀ w ∈ wsX00, w ∈ wsX0_sortWagons := by decide +kernel
set_option maxHeartbeats 4000000 in
set_option maxRecDepth 100000 in
theorem b0_sortWagons_L8 {l : Launch} {D : va_G} {h0 q1 q2 q3 : Nat} {cA : ClassId} {r : Int32} {st2 : St} {p : Program} {e : Env} {s : State} {m : MethodId} {args : Array Value} {below : List Frame} {meth : Method} {c : Code} {A : Nat → Prop} {Q : State → Prop} (F : CallFix p m c cX0_sortWagons 8 s args wsX0_sortWagons RX0) (hA : ∀ q, s.heap.size ≤ q → A q) (hret : yRetI D 0 h0 q1 q2 q3 cA p l e 3 s m args below meth c cX0_sortWagons A Q .int r st2) : ∀ (n : Nat) (v1 : Int32) (v2 : Int32) (v3 : Int32) (v4 : Int32) (st : St), f0_sortWagons_L8 n v1 v2 v3 v4 st = some (r, st2) → ∀ (H : Heap) (locs : List Loc) (ls : Array Slot), Wd D 0 h0 q1 q2 q3 cA A s st H locs → lv_has ls 8 [(0, .ref h0), (1, .int v1), (2, .int v2), (3, .int v3), (4, .int v4)] → W p l e (yrm 3) s m args below meth c H locs 0 0 Q (F0 m 8 ls []) := by
  have hx := F.1
  have hb := F.2.1
  intro n
  induction n with
  | zero =>
    intro v1 v2 v3 v4 st hf
    rw [f0_sortWagons_L8] at hf
    cases hf
  | succ n ih =>
    intro v1 v2 v3 v4 st hf H locs ls w hl
    rw [f0_sortWagons_L8] at hf
    refine lv_iload hx hb dX0_sortWagons_8 (lv_at hl 4 rfl) ?_
    refine lv_if_le (tgt := 98) hx hb dX0_sortWagons_10 (by decide) (fun k_2 => ?_) (fun k_2 => ?_)
    · have hf := y_ifp k_2 hf
      refine lv_aload_n hx hb dX0_sortWagons_98 rfl (lv_at hl 0 rfl) ?_
      refine yget0 F hin0_sortWagons w 8 (by decide) (by decide +kernel) (v := .int (yG8 st)) rfl dX0_sortWagons_99 ?_
      exact yret hret hf rfl w dX0_sortWagons_102
    · have hf := y_ifn k_2 hf
      refine lv_aload_n hx hb dX0_sortWagons_13 rfl (lv_at hl 0 rfl) ?_
      refine lv_iload_n hx hb dX0_sortWagons_14 rfl (lv_at hl 1 rfl) ?_
      obtain ⟨u_3, hu_3, hf⟩ := y_bd hf
      refine ycallI (n := 1) (r := u_3.1) (st2 := u_3.2) (rest := []) F hA (c0_go l D v1) gX0_sortWagons_X0_go rfl (by decide +kernel) rfl ⟨Nat.le_of_ble_eq_true rfl, Nat.le_of_ble_eq_true rfl⟩ rfl hl.1 w hu_3 rfl (Nat.le_of_ble_eq_true rfl) ⟨Nat.zero_le _, Nat.zero_le _⟩ dX0_sortWagons_15 (fun H locs w => ?_)
      refine lv_istore (lv' := [(5, .int u_3.1), (0, .ref h0), (1, .int v1), (2, .int v2), (3, .int v3), (4, .int v4)]) hx hb dX0_sortWagons_18 hl (by decide) rfl (fun ls hl => ?_)
      refine lv_iload hx hb dX0_sortWagons_20 (lv_at hl 0 rfl) ?_
      refine lv_bipush (v := 10) hx hb dX0_sortWagons_22 (by decide) ?_
      refine lv_irem hx hb dX0_sortWagons_24 (by decide) ?_
      refine lv_istore (lv' := [(6, .int (u_3.1 - u_3.1 / 10 * 10)), (5, .int u_3.1), (0, .ref h0), (1, .int v1), (2, .int v2), (3, .int v3), (4, .int v4)]) hx hb dX0_sortWagons_25 hl (by decide) rfl (fun ls hl => ?_)
      refine lv_iload hx hb dX0_sortWagons_27 (lv_at hl 0 rfl) ?_
      refine lv_if_ne (tgt := 35) hx hb dX0_sortWagons_29 (by decide) (fun k_4 => ?_) (fun k_4 => ?_)
      · have hf := y_ifn k_4 hf
        refine lv_iload hx hb dX0_sortWagons_35 (lv_at hl 0 rfl) ?_
        refine lv_bipush (v := 9) hx hb dX0_sortWagons_37 (by decide) ?_
        refine lv_icmp_ne (tgt := 45) hx hb dX0_sortWagons_39 (by decide) (fun k_5 => ?_) (fun k_5 => ?_)
        · have hf := y_ifn k_5 hf
          refine lv_aload_n hx hb dX0_sortWagons_45 rfl (lv_at hl 2 rfl) ?_
          refine lv_iload hx hb dX0_sortWagons_46 (lv_at hl 0 rfl) ?_
          refine lv_iconst (v := 2) hx hb dX0_sortWagons_48 (by decide) ?_
          refine lv_irem hx hb dX0_sortWagons_49 (by decide) ?_
          refine lv_iconst (v := 1) hx hb dX0_sortWagons_50 (by decide) ?_
          refine lv_icmp_ne (tgt := 58) hx hb dX0_sortWagons_51 (by decide) (fun k_6 => ?_) (fun k_6 => ?_)
          · have hf := y_ifn k_6 hf
            refine lv_iload_n hx hb dX0_sortWagons_58 rfl (lv_at hl 5 rfl) ?_
            refine lv_iload hx hb dX0_sortWagons_59 (lv_at hl 1 rfl) ?_
            obtain ⟨u_7, hu_7, hf⟩ := y_bd hf
            refine ycallI (n := 2) (r := u_7.1) (st2 := u_7.2) (rest := []) F hA (c0_holdAndCome l D v3 u_3.1) gX0_sortWagons_X0_holdAndCome rfl (by decide +kernel) rfl ⟨Nat.le_of_ble_eq_true rfl, Nat.le_of_ble_eq_true rfl⟩ rfl hl.1 w hu_7 rfl (Nat.le_of_ble_eq_true rfl) ⟨Nat.zero_le _, Nat.zero_le _⟩ dX0_sortWagons_61 (fun H locs w => ?_)
            refine lv_istore (lv' := [(7, .int u_7.1), (6, .int (u_3.1 - u_3.1 / 10 * 10)), (5, .int u_3.1), (0, .ref h0), (1, .int v1), (2, .int v2), (3, .int v3), (4, .int v4)]) hx hb dX0_sortWagons_64 hl (by decide) rfl (fun ls hl => ?_)
            refine lv_iload hx hb dX0_sortWagons_66 (lv_at hl 0 rfl) ?_
            refine lv_if_ge (tgt := 82) hx hb dX0_sortWagons_68 (by decide) (fun k_8 => ?_) (fun k_8 => ?_)
            · have hf := y_ifp k_8 hf
              refine lv_aload_n hx hb dX0_sortWagons_82 rfl (lv_at hl 3 rfl) ?_
              refine lv_dup hx hb dX0_sortWagons_83 rfl ?_
              refine yget0 F hin0_sortWagons w 8 (by decide) (by decide +kernel) (v := .int (yG8 u_7.2)) rfl dX0_sortWagons_84 ?_
              refine lv_iconst (v := 1) hx hb dX0_sortWagons_87 (by decide) ?_
              refine lv_iadd hx hb dX0_sortWagons_88 ?_
              obtain ⟨st_9, hst_9, hf⟩ := y_bd hf
              refine yput0_8 F hin0_sortWagons w (by decide +kernel) hst_9 dX0_sortWagons_89 (fun H locs w => ?_)
              refine lv_iinc (v := v4 + (-1)) (lv' := [(4, .int (v4 + (-1))), (7, .int u_7.1), (6, .int (u_3.1 - u_3.1 / 10 * 10)), (5, .int u_3.1), (0, .ref h0), (1, .int v1), (2, .int v2), (3, .int v3)]) hx hb dX0_sortWagons_92 hl (k := 7) rfl rfl (by decide) rfl (fun ls hl => ?_)
              refine lv_goto (tgt := 8) hx hb dX0_sortWagons_95 (by decide) ?_
              exact ih v1 v2 v3 (v4 + (-1)) st_9 hf _ _ _ w (lv_sub hl [4, 5, 6, 7, 0] rfl)
            · have hf := y_ifn k_8 hf
              refine lv_aload_n hx hb dX0_sortWagons_71 rfl (lv_at hl 3 rfl) ?_
              refine lv_iload_n hx hb dX0_sortWagons_72 rfl (lv_at hl 4 rfl) ?_
              refine lv_iload hx hb dX0_sortWagons_73 (lv_at hl 2 rfl) ?_
              obtain ⟨u_10, hu_10, hf⟩ := y_bd hf
              refine ycallI (n := 2) (r := u_10.1) (st2 := u_10.2) (rest := []) F hA (c0_come l D v1 u_3.1) gX0_sortWagons_X0_come rfl (by decide +kernel) rfl ⟨Nat.le_of_ble_eq_true rfl, Nat.le_of_ble_eq_true rfl⟩ rfl hl.1 w hu_10 rfl (Nat.le_of_ble_eq_true rfl) ⟨Nat.zero_le _, Nat.zero_le _⟩ dX0_sortWagons_75 (fun H locs w => ?_)
              refine lv_pop hx hb dX0_sortWagons_78 rfl ?_
              refine lv_iload hx hb dX0_sortWagons_79 (lv_at hl 0 rfl) ?_
              exact yret hret hf rfl w dX0_sortWagons_81
          · have hf := y_ifp k_6 hf
            refine lv_iload_n hx hb dX0_sortWagons_54 rfl (lv_at hl 4 rfl) ?_
            refine lv_goto (tgt := 59) hx hb dX0_sortWagons_55 (by decide) ?_
            refine lv_iload hx hb dX0_sortWagons_59 (lv_at hl 1 rfl) ?_
            obtain ⟨u_11, hu_11, hf⟩ := y_bd hf
            refine ycallI (n := 2) (r := u_11.1) (st2 := u_11.2) (rest := []) F hA (c0_holdAndCome l D v2 u_3.1) gX0_sortWagons_X0_holdAndCome rfl (by decide +kernel) rfl ⟨Nat.le_of_ble_eq_true rfl, Nat.le_of_ble_eq_true rfl⟩ rfl hl.1 w hu_11 rfl (Nat.le_of_ble_eq_true rfl) ⟨Nat.zero_le _, Nat.zero_le _⟩ dX0_sortWagons_61 (fun H locs w => ?_)
            refine lv_istore (lv' := [(7, .int u_11.1), (6, .int (u_3.1 - u_3.1 / 10 * 10)), (5, .int u_3.1), (0, .ref h0), (1, .int v1), (2, .int v2), (3, .int v3), (4, .int v4)]) hx hb dX0_sortWagons_64 hl (by decide) rfl (fun ls hl => ?_)
            refine lv_iload hx hb dX0_sortWagons_66 (lv_at hl 0 rfl) ?_
            refine lv_if_ge (tgt := 82) hx hb dX0_sortWagons_68 (by decide) (fun k_12 => ?_) (fun k_12 => ?_)
            · have hf := y_ifp k_12 hf
              refine lv_aload_n hx hb dX0_sortWagons_82 rfl (lv_at hl 3 rfl) ?_
              refine lv_dup hx hb dX0_sortWagons_83 rfl ?_
              refine yget0 F hin0_sortWagons w 8 (by decide) (by decide +kernel) (v := .int (yG8 u_11.2)) rfl dX0_sortWagons_84 ?_
              refine lv_iconst (v := 1) hx hb dX0_sortWagons_87 (by decide) ?_
              refine lv_iadd hx hb dX0_sortWagons_88 ?_
              obtain ⟨st_13, hst_13, hf⟩ := y_bd hf
              refine yput0_8 F hin0_sortWagons w (by decide +kernel) hst_13 dX0_sortWagons_89 (fun H locs w => ?_)
              refine lv_iinc (v := v4 + (-1)) (lv' := [(4, .int (v4 + (-1))), (7, .int u_11.1), (6, .int (u_3.1 - u_3.1 / 10 * 10)), (5, .int u_3.1), (0, .ref h0), (1, .int v1), (2, .int v2), (3, .int v3)]) hx hb dX0_sortWagons_92 hl (k := 7) rfl rfl (by decide) rfl (fun ls hl => ?_)
              refine lv_goto (tgt := 8) hx hb dX0_sortWagons_95 (by decide) ?_
              exact ih v1 v2 v3 (v4 + (-1)) st_13 hf _ _ _ w (lv_sub hl [4, 5, 6, 7, 0] rfl)
            · have hf := y_ifn k_12 hf
              refine lv_aload_n hx hb dX0_sortWagons_71 rfl (lv_at hl 3 rfl) ?_
              refine lv_iload_n hx hb dX0_sortWagons_72 rfl (lv_at hl 4 rfl) ?_
              refine lv_iload hx hb dX0_sortWagons_73 (lv_at hl 2 rfl) ?_
              obtain ⟨u_14, hu_14, hf⟩ := y_bd hf
              refine ycallI (n := 2) (r := u_14.1) (st2 := u_14.2) (rest := []) F hA (c0_come l D v1 u_3.1) gX0_sortWagons_X0_come rfl (by decide +kernel) rfl ⟨Nat.le_of_ble_eq_true rfl, Nat.le_of_ble_eq_true rfl⟩ rfl hl.1 w hu_14 rfl (Nat.le_of_ble_eq_true rfl) ⟨Nat.zero_le _, Nat.zero_le _⟩ dX0_sortWagons_75 (fun H locs w => ?_)
              refine lv_pop hx hb dX0_sortWagons_78 rfl ?_
              refine lv_iload hx hb dX0_sortWagons_79 (lv_at hl 0 rfl) ?_
              exact yret hret hf rfl w dX0_sortWagons_81
        · have hf := y_ifp k_5 hf
          refine lv_goto (tgt := 92) hx hb dX0_sortWagons_42 (by decide) ?_
          refine lv_iinc (v := v4 + (-1)) (lv' := [(4, .int (v4 + (-1))), (6, .int (u_3.1 - u_3.1 / 10 * 10)), (5, .int u_3.1), (0, .ref h0), (1, .int v1), (2, .int v2), (3, .int v3)]) hx hb dX0_sortWagons_92 hl (k := 6) rfl rfl (by decide) rfl (fun ls hl => ?_)
          refine lv_goto (tgt := 8) hx hb dX0_sortWagons_95 (by decide) ?_
          exact ih v1 v2 v3 (v4 + (-1)) u_3.2 hf _ _ _ w (lv_sub hl [3, 4, 5, 6, 0] rfl)
      · have hf := y_ifp k_4 hf
        refine lv_goto (tgt := 98) hx hb dX0_sortWagons_32 (by decide) ?_
        refine lv_aload_n hx hb dX0_sortWagons_98 rfl (lv_at hl 2 rfl) ?_
        refine yget0 F hin0_sortWagons w 8 (by decide) (by decide +kernel) (v := .int (yG8 u_3.2)) rfl dX0_sortWagons_99 ?_
        exact yret hret hf rfl w dX0_sortWagons_102
set_option maxHeartbeats 4000000 in
set_option maxRecDepth 100000 in
theorem c0_sortWagons (l : Launch) (D : va_G) (a1 : Int32) (a2 : Int32) (a3 : Int32) : yMet l D 0 yX0_sortWagons wsX0_sortWagons 3 [.int a1, .int a2, .int a3] (f0_sortWagons a1 a2 a3) := by
  refine yentI (cc := cX0_sortWagons) (nL := 8) (ret := .int) (by decide) rfl (fun _ => Nat.le_of_ble_eq_true rfl) ?_
  intro h0 q1 q2 q3 cA r st2 p e s m args below meth c A Q F hA hret st hf H locs ls w hl
  have F : CallFix p m c cX0_sortWagons 8 s args wsX0_sortWagons RX0 := F
  have hx := F.1
  have hb := F.2.1
  have hl : lv_has ls 8 [(0, .ref h0), (1, .int a1), (2, .int a2), (3, .int a3)] := hl
  unfold f0_sortWagons at hf
  refine lv_aload_n hx hb dX0_sortWagons_0 rfl (lv_at hl 0 rfl) ?_
  refine yget0 F hin0_sortWagons w 1 (by decide) (by decide +kernel) (v := .ref q2) rfl dX0_sortWagons_1 ?_
  refine lv_iload_n hx hb dX0_sortWagons_4 rfl (lv_at hl 1 rfl) ?_
  obtain ⟨x_1, hx_1, hf⟩ := y_bd hf
  refine yald1 F w hx_1 dX0_sortWagons_5 ?_
  refine lv_istore (lv' := [(4, .int x_1), (0, .ref h0), (1, .int a1), (2, .int a2), (3, .int a3)]) hx hb dX0_sortWagons_6 hl (by decide) rfl (fun ls hl => ?_)
  exact b0_sortWagons_L8 F hA hret 40 a1 a2 a3 x_1 st hf _ _ _ w (lv_sub hl [1, 2, 3, 4, 0] rfl)
set_option maxHeartbeats 4000000 in
set_option maxRecDepth 100000 in
theorem c0_isRowLength (l : Launch) (a0 : Int32) : yMetS l yX0_isRowLength wsX0_isRowLength 0 [.int a0] (f0_isRowLength a0) := by
  refine yentS (cc := cX0_isRowLength) (nL := 1) (ret := .boolean) (by decide) rfl (Nat.le_of_ble_eq_true rfl) ?_
  intro r p e s m args below meth c A Q F hA hret hf H locs ls hS hl
  have F : CallFix p m c cX0_isRowLength 1 s args wsX0_isRowLength RX0 := F
  have hx := F.1
  have hb := F.2.1
  have hl : lv_has ls 1 [(0, .int a0)] := hl
  unfold f0_isRowLength at hf
  refine lv_iload_n hx hb dX0_isRowLength_0 rfl (lv_at hl 0 rfl) ?_
  refine lv_iconst (v := 1) hx hb dX0_isRowLength_1 (by decide) ?_
  refine lv_icmp_lt (tgt := 15) hx hb dX0_isRowLength_2 (by decide) (fun k_1 => ?_) (fun k_1 => ?_)
  · have hf := y_ifp k_1 hf
    refine lv_iconst (v := 0) hx hb dX0_isRowLength_15 (by decide) ?_
    exact yretS hret hf rfl hS dX0_isRowLength_16
  · have hf := y_ifn k_1 hf
    refine lv_iload_n hx hb dX0_isRowLength_5 rfl (lv_at hl 0 rfl) ?_
    refine lv_bipush (v := 16) hx hb dX0_isRowLength_6 (by decide) ?_
    refine lv_icmp_gt (tgt := 15) hx hb dX0_isRowLength_8 (by decide) (fun k_2 => ?_) (fun k_2 => ?_)
    · have hf := y_ifp k_2 hf
      refine lv_iconst (v := 0) hx hb dX0_isRowLength_15 (by decide) ?_
      exact yretS hret hf rfl hS dX0_isRowLength_16
    · have hf := y_ifn k_2 hf
      refine lv_iconst (v := 1) hx hb dX0_isRowLength_11 (by decide) ?_
      refine lv_goto (tgt := 16) hx hb dX0_isRowLength_12 (by decide) ?_
      exact yretS hret hf rfl hS dX0_isRowLength_16
set_option maxHeartbeats 4000000 in
set_option maxRecDepth 100000 in
theorem c0_trackOfRow (l : Launch) (a0 : Int64) (a2 : Int32) : yMetS l yX0_trackOfRow wsX0_trackOfRow 0 [.long a0, .int a2] (f0_trackOfRow a0 a2) := by
  refine yentS (cc := cX0_trackOfRow) (nL := 3) (ret := .int) (by decide) rfl (Nat.le_of_ble_eq_true rfl) ?_
  intro r p e s m args below meth c A Q F hA hret hf H locs ls hS hl
  have F : CallFix p m c cX0_trackOfRow 3 s args wsX0_trackOfRow RX0 := F
  have hx := F.1
  have hb := F.2.1
  have hl : lv_has ls 3 [(0, .long a0), (2, .int a2)] := hl
  unfold f0_trackOfRow at hf
  refine lv_lload_n hx hb dX0_trackOfRow_0 rfl (lv_at hl 0 rfl) ?_
  refine lv_iconst (v := 3) hx hb dX0_trackOfRow_1 (by decide) ?_
  refine lv_iload_n hx hb dX0_trackOfRow_2 rfl (lv_at hl 1 rfl) ?_
  refine lv_imul hx hb dX0_trackOfRow_3 ?_
  refine lv_lushr hx hb dX0_trackOfRow_4 rfl ?_
  refine lv_l2i hx hb dX0_trackOfRow_5 rfl ?_
  refine lv_bipush (v := 7) hx hb dX0_trackOfRow_6 (by decide) ?_
  refine lv_iand hx hb dX0_trackOfRow_8 ?_
  exact yretS hret hf rfl hS dX0_trackOfRow_9
theorem hin0_takeOnTour : ∀ w ∈ wsX00, w ∈ wsX0_takeOnTour := by decide +kernel
set_option maxHeartbeats 4000000 in
set_option maxRecDepth 100000 in
theorem c0_takeOnTour (l : Launch) (D : va_G) (a1 : Int32) : yMet l D 0 yX0_takeOnTour wsX0_takeOnTour 2 [.int a1] (f0_takeOnTour a1) := by
  refine yentI (cc := cX0_takeOnTour) (nL := 3) (ret := .int) (by decide) rfl (fun _ => Nat.le_of_ble_eq_true rfl) ?_
  intro h0 q1 q2 q3 cA r st2 p e s m args below meth c A Q F hA hret st hf H locs ls w hl
  have F : CallFix p m c cX0_takeOnTour 3 s args wsX0_takeOnTour RX0 := F
  have hx := F.1
  have hb := F.2.1
  have hl : lv_has ls 3 [(0, .ref h0), (1, .int a1)] := hl
  unfold f0_takeOnTour at hf
  refine lv_aload_n hx hb dX0_takeOnTour_0 rfl (lv_at hl 0 rfl) ?_
  refine lv_iload_n hx hb dX0_takeOnTour_1 rfl (lv_at hl 1 rfl) ?_
  obtain ⟨u_1, hu_1, hf⟩ := y_bd hf
  refine ycallI (n := 1) (r := u_1.1) (st2 := u_1.2) (rest := []) F hA (c0_go l D a1) gX0_takeOnTour_X0_go rfl (by decide +kernel) rfl ⟨Nat.le_of_ble_eq_true rfl, Nat.le_of_ble_eq_true rfl⟩ rfl hl.1 w hu_1 rfl (Nat.le_of_ble_eq_true rfl) ⟨Nat.zero_le _, Nat.zero_le _⟩ dX0_takeOnTour_2 (fun H locs w => ?_)
  refine lv_istore_n (lv' := [(2, .int u_1.1), (0, .ref h0), (1, .int a1)]) hx hb dX0_takeOnTour_5 rfl hl (by decide) rfl (fun ls hl => ?_)
  refine lv_iload_n hx hb dX0_takeOnTour_6 rfl (lv_at hl 0 rfl) ?_
  refine lv_bipush (v := 10) hx hb dX0_takeOnTour_7 (by decide) ?_
  refine lv_irem hx hb dX0_takeOnTour_9 (by decide) ?_
  refine lv_bipush (v := 9) hx hb dX0_takeOnTour_10 (by decide) ?_
  refine lv_icmp_ne (tgt := 24) hx hb dX0_takeOnTour_12 (by decide) (fun k_2 => ?_) (fun k_2 => ?_)
  · have hf := y_ifn k_2 hf
    refine lv_aload_n hx hb dX0_takeOnTour_24 rfl (lv_at hl 1 rfl) ?_
    refine lv_dup hx hb dX0_takeOnTour_25 rfl ?_
    refine yget0 F hin0_takeOnTour w 8 (by decide) (by decide +kernel) (v := .int (yG8 u_1.2)) rfl dX0_takeOnTour_26 ?_
    refine lv_iconst (v := 1) hx hb dX0_takeOnTour_29 (by decide) ?_
    refine lv_iadd hx hb dX0_takeOnTour_30 ?_
    obtain ⟨st_3, hst_3, hf⟩ := y_bd hf
    refine yput0_8 F hin0_takeOnTour w (by decide +kernel) hst_3 dX0_takeOnTour_31 (fun H locs w => ?_)
    refine lv_iload_n hx hb dX0_takeOnTour_34 rfl (lv_at hl 0 rfl) ?_
    exact yret hret hf rfl w dX0_takeOnTour_35
  · have hf := y_ifp k_2 hf
    refine lv_aload_n hx hb dX0_takeOnTour_15 rfl (lv_at hl 1 rfl) ?_
    refine lv_iload_n hx hb dX0_takeOnTour_16 rfl (lv_at hl 2 rfl) ?_
    refine lv_iload_n hx hb dX0_takeOnTour_17 rfl (lv_at hl 0 rfl) ?_
    obtain ⟨u_4, hu_4, hf⟩ := y_bd hf
    refine ycallI (n := 2) (r := u_4.1) (st2 := u_4.2) (rest := []) F hA (c0_come l D a1 u_1.1) gX0_takeOnTour_X0_come rfl (by decide +kernel) rfl ⟨Nat.le_of_ble_eq_true rfl, Nat.le_of_ble_eq_true rfl⟩ rfl hl.1 w hu_4 rfl (Nat.le_of_ble_eq_true rfl) ⟨Nat.zero_le _, Nat.zero_le _⟩ dX0_takeOnTour_18 (fun H locs w => ?_)
    refine lv_pop hx hb dX0_takeOnTour_21 rfl ?_
    refine lv_iconst (v := 0) hx hb dX0_takeOnTour_22 (by decide) ?_
    exact yret hret hf rfl w dX0_takeOnTour_23
theorem hin0_exchangePlaces : ∀ w ∈ wsX00, w ∈ wsX0_exchangePlaces := by decide +kernel
set_option maxHeartbeats 4000000 in
set_option maxRecDepth 100000 in
theorem c0_exchangePlaces (l : Launch) (D : va_G) (a1 : Int32) (a2 : Int32) : yMetV l D 0 yX0_exchangePlaces wsX0_exchangePlaces 0 [.int a1, .int a2] (f0_exchangePlaces a1 a2) := by
  refine yentV (cc := cX0_exchangePlaces) (nL := 4) (by decide) rfl (fun _ => Nat.le_of_ble_eq_true rfl) ?_
  intro h0 q1 q2 q3 cA r st2 p e s m args below meth c A Q F hA hret st hf H locs ls w hl
  have F : CallFix p m c cX0_exchangePlaces 4 s args wsX0_exchangePlaces RX0 := F
  have hx := F.1
  have hb := F.2.1
  have hl : lv_has ls 4 [(0, .ref h0), (1, .int a1), (2, .int a2)] := hl
  unfold f0_exchangePlaces at hf
  refine lv_aload_n hx hb dX0_exchangePlaces_0 rfl (lv_at hl 0 rfl) ?_
  refine yget0 F hin0_exchangePlaces w 2 (by decide) (by decide +kernel) (v := .ref q3) rfl dX0_exchangePlaces_1 ?_
  refine lv_iload_n hx hb dX0_exchangePlaces_4 rfl (lv_at hl 1 rfl) ?_
  obtain ⟨x_1, hx_1, hf⟩ := y_bd hf
  refine yald2 F w hx_1 dX0_exchangePlaces_5 ?_
  refine lv_istore_n (lv' := [(3, .int x_1), (0, .ref h0), (1, .int a1), (2, .int a2)]) hx hb dX0_exchangePlaces_6 rfl hl (by decide) rfl (fun ls hl => ?_)
  refine lv_aload_n hx hb dX0_exchangePlaces_7 rfl (lv_at hl 1 rfl) ?_
  refine yget0 F hin0_exchangePlaces w 2 (by decide) (by decide +kernel) (v := .ref q3) rfl dX0_exchangePlaces_8 ?_
  refine lv_iload_n hx hb dX0_exchangePlaces_11 rfl (lv_at hl 2 rfl) ?_
  refine lv_aload_n hx hb dX0_exchangePlaces_12 rfl (lv_at hl 1 rfl) ?_
  refine yget0 F hin0_exchangePlaces w 2 (by decide) (by decide +kernel) (v := .ref q3) rfl dX0_exchangePlaces_13 ?_
  refine lv_iload_n hx hb dX0_exchangePlaces_16 rfl (lv_at hl 3 rfl) ?_
  obtain ⟨x_2, hx_2, hf⟩ := y_bd hf
  refine yald2 F w hx_2 dX0_exchangePlaces_17 ?_
  obtain ⟨st_3, hst_3, hf⟩ := y_bd hf
  refine yast2 F w hst_3 dX0_exchangePlaces_18 (fun H locs w => ?_)
  refine lv_aload_n hx hb dX0_exchangePlaces_19 rfl (lv_at hl 1 rfl) ?_
  refine yget0 F hin0_exchangePlaces w 2 (by decide) (by decide +kernel) (v := .ref q3) rfl dX0_exchangePlaces_20 ?_
  refine lv_iload_n hx hb dX0_exchangePlaces_23 rfl (lv_at hl 3 rfl) ?_
  refine lv_iload_n hx hb dX0_exchangePlaces_24 rfl (lv_at hl 0 rfl) ?_
  obtain ⟨st_4, hst_4, hf⟩ := y_bd hf
  refine yast2 F w hst_4 dX0_exchangePlaces_25 (fun H locs w => ?_)
  exact yretV hret hf w dX0_exchangePlaces_26
theorem hin0_exchangeRows : ∀ w ∈ wsX00, w ∈ wsX0_exchangeRows := by decide +kernel
set_option maxHeartbeats 4000000 in
set_option maxRecDepth 100000 in
theorem b0_exchangeRows_L42 {l : Launch} {D : va_G} {h0 q1 q2 q3 : Nat} {cA : ClassId} {r : Int32} {st2 : St} {p : Program} {e : Env} {s : State} {m : MethodId} {args : Array Value} {below : List Frame} {meth : Method} {c : Code} {A : Nat → Prop} {Q : State → Prop} (F : CallFix p m c cX0_exchangeRows 6 s args wsX0_exchangeRows RX0) (hA : ∀ q, s.heap.size ≤ q → A q) (hret : yRetI D 0 h0 q1 q2 q3 cA p l e 1 s m args below meth c cX0_exchangeRows A Q .int r st2) : ∀ (n : Nat) (v1 : Int32) (v2 : Int32) (v3 : Int32) (v4 : Int32) (v5 : Int32) (st : St), f0_exchangeRows_L42 n v1 v2 v3 v4 v5 st = some (r, st2) → ∀ (H : Heap) (locs : List Loc) (ls : Array Slot), Wd D 0 h0 q1 q2 q3 cA A s st H locs → lv_has ls 6 [(0, .ref h0), (1, .int v1), (2, .int v2), (3, .int v3), (4, .int v4), (5, .int v5)] → W p l e (yrm 1) s m args below meth c H locs 0 0 Q (F0 m 42 ls []) := by
  have hx := F.1
  have hb := F.2.1
  intro n
  induction n with
  | zero =>
    intro v1 v2 v3 v4 v5 st hf
    rw [f0_exchangeRows_L42] at hf
    cases hf
  | succ n ih =>
    intro v1 v2 v3 v4 v5 st hf H locs ls w hl
    rw [f0_exchangeRows_L42] at hf
    refine lv_iload hx hb dX0_exchangeRows_42 (lv_at hl 5 rfl) ?_
    refine lv_bipush (v := 12) hx hb dX0_exchangeRows_44 (by decide) ?_
    refine lv_icmp_ge (tgt := 71) hx hb dX0_exchangeRows_46 (by decide) (fun k_7 => ?_) (fun k_7 => ?_)
    · have hf := y_ifp k_7 hf
      refine lv_aload_n hx hb dX0_exchangeRows_71 rfl (lv_at hl 0 rfl) ?_
      refine yget0 F hin0_exchangeRows w 1 (by decide) (by decide +kernel) (v := .ref q2) rfl dX0_exchangeRows_72 ?_
      refine lv_iload_n hx hb dX0_exchangeRows_75 rfl (lv_at hl 1 rfl) ?_
      refine lv_iload hx hb dX0_exchangeRows_76 (lv_at hl 4 rfl) ?_
      obtain ⟨st_8, hst_8, hf⟩ := y_bd hf
      refine yast1 F w hst_8 dX0_exchangeRows_78 (fun H locs w => ?_)
      refine lv_aload_n hx hb dX0_exchangeRows_79 rfl (lv_at hl 0 rfl) ?_
      refine yget0 F hin0_exchangeRows w 1 (by decide) (by decide +kernel) (v := .ref q2) rfl dX0_exchangeRows_80 ?_
      refine lv_iload_n hx hb dX0_exchangeRows_83 rfl (lv_at hl 2 rfl) ?_
      refine lv_iload_n hx hb dX0_exchangeRows_84 rfl (lv_at hl 3 rfl) ?_
      obtain ⟨st_9, hst_9, hf⟩ := y_bd hf
      refine yast1 F w hst_9 dX0_exchangeRows_85 (fun H locs w => ?_)
      refine lv_iload hx hb dX0_exchangeRows_86 (lv_at hl 4 rfl) ?_
      exact yret hret hf rfl w dX0_exchangeRows_88
    · have hf := y_ifn k_7 hf
      refine lv_aload_n hx hb dX0_exchangeRows_49 rfl (lv_at hl 0 rfl) ?_
      refine lv_iload_n hx hb dX0_exchangeRows_50 rfl (lv_at hl 1 rfl) ?_
      refine lv_iload hx hb dX0_exchangeRows_51 (lv_at hl 5 rfl) ?_
      obtain ⟨u_10, hu_10, hf⟩ := y_bd hf
      refine ycallSW (n := 2) (rest := [.ref h0]) F hA (c0_place l v1 v5) gX0_exchangeRows_X0_place rfl (by decide +kernel) ⟨Nat.le_of_ble_eq_true rfl, Nat.le_of_ble_eq_true rfl⟩ rfl hl.1 w hu_10 rfl (Nat.le_of_ble_eq_true rfl) ⟨Nat.zero_le _, Nat.zero_le _⟩ dX0_exchangeRows_53 (fun H locs w => ?_)
      refine lv_iload_n hx hb dX0_exchangeRows_56 rfl (lv_at hl 2 rfl) ?_
      refine lv_iload hx hb dX0_exchangeRows_57 (lv_at hl 5 rfl) ?_
      obtain ⟨u_11, hu_11, hf⟩ := y_bd hf
      refine ycallSW (n := 2) (rest := [.int u_10, .ref h0]) F hA (c0_place l v2 v5) gX0_exchangeRows_X0_place rfl (by decide +kernel) ⟨Nat.le_of_ble_eq_true rfl, Nat.le_of_ble_eq_true rfl⟩ rfl hl.1 w hu_11 rfl (Nat.le_of_ble_eq_true rfl) ⟨Nat.zero_le _, Nat.zero_le _⟩ dX0_exchangeRows_59 (fun H locs w => ?_)
      obtain ⟨u_12, hu_12, hf⟩ := y_bd hf
      refine ycallV (n := 2) (r := u_12.1) (st2 := u_12.2) (rest := []) F hA (c0_exchangePlaces l D u_10 u_11) gX0_exchangeRows_X0_exchangePlaces rfl (by decide +kernel) rfl ⟨Nat.le_of_ble_eq_true rfl, Nat.le_of_ble_eq_true rfl⟩ rfl hl.1 w hu_12 rfl (Nat.le_of_ble_eq_true rfl) ⟨Nat.zero_le _, Nat.zero_le _⟩ dX0_exchangeRows_62 (fun H locs w => ?_)
      refine lv_iinc (v := v5 + 1) (lv' := [(5, .int (v5 + 1)), (0, .ref h0), (1, .int v1), (2, .int v2), (3, .int v3), (4, .int v4)]) hx hb dX0_exchangeRows_65 hl (k := 5) rfl rfl (by decide) rfl (fun ls hl => ?_)
      refine lv_goto (tgt := 42) hx hb dX0_exchangeRows_68 (by decide) ?_
      exact ih v1 v2 v3 v4 (v5 + 1) u_12.2 hf _ _ _ w (lv_sub hl [1, 2, 3, 4, 5, 0] rfl)
set_option maxHeartbeats 4000000 in
set_option maxRecDepth 100000 in
theorem c0_exchangeRows (l : Launch) (D : va_G) (a1 : Int32) (a2 : Int32) : yMet l D 0 yX0_exchangeRows wsX0_exchangeRows 1 [.int a1, .int a2] (f0_exchangeRows a1 a2) := by
  refine yentI (cc := cX0_exchangeRows) (nL := 6) (ret := .int) (by decide) rfl (fun _ => Nat.le_of_ble_eq_true rfl) ?_
  intro h0 q1 q2 q3 cA r st2 p e s m args below meth c A Q F hA hret st hf H locs ls w hl
  have F : CallFix p m c cX0_exchangeRows 6 s args wsX0_exchangeRows RX0 := F
  have hx := F.1
  have hb := F.2.1
  have hl : lv_has ls 6 [(0, .ref h0), (1, .int a1), (2, .int a2)] := hl
  unfold f0_exchangeRows at hf
  refine lv_aload_n hx hb dX0_exchangeRows_0 rfl (lv_at hl 0 rfl) ?_
  refine yget0 F hin0_exchangeRows w 1 (by decide) (by decide +kernel) (v := .ref q2) rfl dX0_exchangeRows_1 ?_
  refine lv_iload_n hx hb dX0_exchangeRows_4 rfl (lv_at hl 1 rfl) ?_
  obtain ⟨x_1, hx_1, hf⟩ := y_bd hf
  refine yald1 F w hx_1 dX0_exchangeRows_5 ?_
  refine lv_istore_n (lv' := [(3, .int x_1), (0, .ref h0), (1, .int a1), (2, .int a2)]) hx hb dX0_exchangeRows_6 rfl hl (by decide) rfl (fun ls hl => ?_)
  refine lv_aload_n hx hb dX0_exchangeRows_7 rfl (lv_at hl 1 rfl) ?_
  refine yget0 F hin0_exchangeRows w 1 (by decide) (by decide +kernel) (v := .ref q2) rfl dX0_exchangeRows_8 ?_
  refine lv_iload_n hx hb dX0_exchangeRows_11 rfl (lv_at hl 3 rfl) ?_
  obtain ⟨x_2, hx_2, hf⟩ := y_bd hf
  refine yald1 F w hx_2 dX0_exchangeRows_12 ?_
  refine lv_istore (lv' := [(4, .int x_2), (3, .int x_1), (0, .ref h0), (1, .int a1), (2, .int a2)]) hx hb dX0_exchangeRows_13 hl (by decide) rfl (fun ls hl => ?_)
  refine lv_iload_n hx hb dX0_exchangeRows_15 rfl (lv_at hl 1 rfl) ?_
  refine lv_aload_n hx hb dX0_exchangeRows_16 rfl (lv_at hl 2 rfl) ?_
  refine yget0 F hin0_exchangeRows w 0 (by decide) (by decide +kernel) (v := .ref q1) rfl dX0_exchangeRows_17 ?_
  refine lv_iload_n hx hb dX0_exchangeRows_20 rfl (lv_at hl 4 rfl) ?_
  obtain ⟨x_3, hx_3, hf⟩ := y_bd hf
  refine yald0 F w hx_3 dX0_exchangeRows_21 ?_
  refine lv_icmp_gt (tgt := 36) hx hb dX0_exchangeRows_22 (by decide) (fun k_4 => ?_) (fun k_4 => ?_)
  · have hf := y_ifp k_4 hf
    refine lv_bipush (v := (-4)) hx hb dX0_exchangeRows_36 (by decide) ?_
    exact yret hret hf rfl w dX0_exchangeRows_38
  · have hf := y_ifn k_4 hf
    refine lv_iload hx hb dX0_exchangeRows_25 (lv_at hl 0 rfl) ?_
    refine lv_aload_n hx hb dX0_exchangeRows_27 rfl (lv_at hl 2 rfl) ?_
    refine yget0 F hin0_exchangeRows w 0 (by decide) (by decide +kernel) (v := .ref q1) rfl dX0_exchangeRows_28 ?_
    refine lv_iload_n hx hb dX0_exchangeRows_31 rfl (lv_at hl 3 rfl) ?_
    obtain ⟨x_5, hx_5, hf⟩ := y_bd hf
    refine yald0 F w hx_5 dX0_exchangeRows_32 ?_
    refine lv_icmp_le (tgt := 39) hx hb dX0_exchangeRows_33 (by decide) (fun k_6 => ?_) (fun k_6 => ?_)
    · have hf := y_ifp k_6 hf
      refine lv_iconst (v := 0) hx hb dX0_exchangeRows_39 (by decide) ?_
      refine lv_istore (lv' := [(5, .int 0), (4, .int x_2), (3, .int x_1), (0, .ref h0), (1, .int a1), (2, .int a2)]) hx hb dX0_exchangeRows_40 hl (by decide) rfl (fun ls hl => ?_)
      exact b0_exchangeRows_L42 F hA hret 40 a1 a2 x_1 x_2 0 st hf _ _ _ w (lv_sub hl [3, 4, 5, 2, 1, 0] rfl)
    · have hf := y_ifn k_6 hf
      refine lv_bipush (v := (-4)) hx hb dX0_exchangeRows_36 (by decide) ?_
      exact yret hret hf rfl w dX0_exchangeRows_38
set_option maxHeartbeats 4000000 in
set_option maxRecDepth 100000 in
theorem b0_tracksThere_L4 {l : Launch} {D : va_G} {h0 q1 q2 q3 : Nat} {cA : ClassId} {r : Int32} {st2 : St} {p : Program} {e : Env} {s : State} {m : MethodId} {args : Array Value} {below : List Frame} {meth : Method} {c : Code} {A : Nat → Prop} {Q : State → Prop} (F : CallFix p m c cX0_tracksThere 3 s args wsX0_tracksThere RX0) (hA : ∀ q, s.heap.size ≤ q → A q) (hret : yRetI D 0 h0 q1 q2 q3 cA p l e 1 s m args below meth c cX0_tracksThere A Q .int r st2) : ∀ (n : Nat) (v1 : Int32) (v2 : Int32) (st : St), f0_tracksThere_L4 n v1 v2 st = some (r, st2) → ∀ (H : Heap) (locs : List Loc) (ls : Array Slot), Wd D 0 h0 q1 q2 q3 cA A s st H locs → lv_has ls 3 [(0, .ref h0), (1, .int v1), (2, .int v2)] → W p l e (yrm 1) s m args below meth c H locs 0 0 Q (F0 m 4 ls []) := by
  have hx := F.1
  have hb := F.2.1
  intro n
  induction n with
  | zero =>
    intro v1 v2 st hf
    rw [f0_tracksThere_L4] at hf
    cases hf
  | succ n ih =>
    intro v1 v2 st hf H locs ls w hl
    rw [f0_tracksThere_L4] at hf
    refine lv_iload_n hx hb dX0_tracksThere_4 rfl (lv_at hl 2 rfl) ?_
    refine lv_bipush (v := 8) hx hb dX0_tracksThere_5 (by decide) ?_
    refine lv_icmp_ge (tgt := 27) hx hb dX0_tracksThere_7 (by decide) (fun k_1 => ?_) (fun k_1 => ?_)
    · have hf := y_ifp k_1 hf
      refine lv_iload_n hx hb dX0_tracksThere_27 rfl (lv_at hl 1 rfl) ?_
      exact yret hret hf rfl w dX0_tracksThere_28
    · have hf := y_ifn k_1 hf
      refine lv_aload_n hx hb dX0_tracksThere_10 rfl (lv_at hl 0 rfl) ?_
      refine lv_iload_n hx hb dX0_tracksThere_11 rfl (lv_at hl 2 rfl) ?_
      obtain ⟨u_2, hu_2, hf⟩ := y_bd hf
      refine ycallI (n := 1) (r := u_2.1) (st2 := u_2.2) (rest := []) F hA (c0_isThere l D v2) gX0_tracksThere_X0_isThere rfl (by decide +kernel) rfl ⟨Nat.le_of_ble_eq_true rfl, Nat.le_of_ble_eq_true rfl⟩ rfl hl.1 w hu_2 rfl (Nat.le_of_ble_eq_true rfl) ⟨Nat.zero_le _, Nat.zero_le _⟩ dX0_tracksThere_12 (fun H locs w => ?_)
      refine lv_if_eq (tgt := 21) hx hb dX0_tracksThere_15 (by decide) (fun k_3 => ?_) (fun k_3 => ?_)
      · have hf := y_ifp k_3 hf
        refine lv_iinc (v := v2 + 1) (lv' := [(2, .int (v2 + 1)), (0, .ref h0), (1, .int v1)]) hx hb dX0_tracksThere_21 hl (k := 2) rfl rfl (by decide) rfl (fun ls hl => ?_)
        refine lv_goto (tgt := 4) hx hb dX0_tracksThere_24 (by decide) ?_
        exact ih v1 (v2 + 1) u_2.2 hf _ _ _ w (lv_sub hl [1, 2, 0] rfl)
      · have hf := y_ifn k_3 hf
        refine lv_iinc (v := v1 + 1) (lv' := [(1, .int (v1 + 1)), (0, .ref h0), (2, .int v2)]) hx hb dX0_tracksThere_18 hl (k := 1) rfl rfl (by decide) rfl (fun ls hl => ?_)
        refine lv_iinc (v := v2 + 1) (lv' := [(2, .int (v2 + 1)), (1, .int (v1 + 1)), (0, .ref h0)]) hx hb dX0_tracksThere_21 hl (k := 2) rfl rfl (by decide) rfl (fun ls hl => ?_)
        refine lv_goto (tgt := 4) hx hb dX0_tracksThere_24 (by decide) ?_
        exact ih (v1 + 1) (v2 + 1) u_2.2 hf _ _ _ w (lv_sub hl [2, 1, 0] rfl)
set_option maxHeartbeats 4000000 in
set_option maxRecDepth 100000 in
theorem c0_tracksThere (l : Launch) (D : va_G) : yMet l D 0 yX0_tracksThere wsX0_tracksThere 1 [] (f0_tracksThere) := by
  refine yentI (cc := cX0_tracksThere) (nL := 3) (ret := .int) (by decide) rfl (fun _ => Nat.le_of_ble_eq_true rfl) ?_
  intro h0 q1 q2 q3 cA r st2 p e s m args below meth c A Q F hA hret st hf H locs ls w hl
  have F : CallFix p m c cX0_tracksThere 3 s args wsX0_tracksThere RX0 := F
  have hx := F.1
  have hb := F.2.1
  have hl : lv_has ls 3 [(0, .ref h0)] := hl
  unfold f0_tracksThere at hf
  refine lv_iconst (v := 0) hx hb dX0_tracksThere_0 (by decide) ?_
  refine lv_istore_n (lv' := [(1, .int 0), (0, .ref h0)]) hx hb dX0_tracksThere_1 rfl hl (by decide) rfl (fun ls hl => ?_)
  refine lv_iconst (v := 0) hx hb dX0_tracksThere_2 (by decide) ?_
  refine lv_istore_n (lv' := [(2, .int 0), (1, .int 0), (0, .ref h0)]) hx hb dX0_tracksThere_3 rfl hl (by decide) rfl (fun ls hl => ?_)
  exact b0_tracksThere_L4 F hA hret 40 0 0 st hf _ _ _ w (lv_sub hl [2, 1, 0] rfl)
end
section
theorem hin0_lay : ∀ w ∈ wsX00, w ∈ wsX0_lay := by decide +kernel
set_option maxHeartbeats 4000000 in
set_option maxRecDepth 100000 in
theorem c0_lay (l : Launch) (D : va_G) (a1 : Int32) (a2 : Int32) : yMet l D 0 yX0_lay wsX0_lay 1 [.int a1, .int a2] (f0_lay a1 a2) := by
  refine yentI (cc := cX0_lay) (nL := 3) (ret := .int) (by decide) rfl (fun _ => Nat.le_of_ble_eq_true rfl) ?_
  intro h0 q1 q2 q3 cA r st2 p e s m args below meth c A Q F hA hret st hf H locs ls w hl
  have F : CallFix p m c cX0_lay 3 s args wsX0_lay RX0 := F
  have hx := F.1
  have hb := F.2.1
  have hl : lv_has ls 3 [(0, .ref h0), (1, .int a1), (2, .int a2)] := hl
  unfold f0_lay at hf
  refine lv_iload_n hx hb dX0_lay_0 rfl (lv_at hl 1 rfl) ?_
  obtain ⟨u_1, hu_1, hf⟩ := y_bd hf
  refine ycallSW (n := 1) (rest := []) F hA (c0_isTrack l a1) gX0_lay_X0_isTrack rfl (by decide +kernel) ⟨Nat.le_of_ble_eq_true rfl, Nat.le_of_ble_eq_true rfl⟩ rfl hl.1 w hu_1 rfl (Nat.le_of_ble_eq_true rfl) ⟨Nat.zero_le _, Nat.zero_le _⟩ dX0_lay_1 (fun H locs w => ?_)
  refine lv_if_eq (tgt := 18) hx hb dX0_lay_4 (by decide) (fun k_2 => ?_) (fun k_2 => ?_)
  · have hf := y_ifp k_2 hf
    refine lv_bipush (v := (-2)) hx hb dX0_lay_18 (by decide) ?_
    exact yret hret hf rfl w dX0_lay_20
  · have hf := y_ifn k_2 hf
    refine lv_iload_n hx hb dX0_lay_7 rfl (lv_at hl 2 rfl) ?_
    refine lv_iconst (v := 1) hx hb dX0_lay_8 (by decide) ?_
    refine lv_icmp_lt (tgt := 18) hx hb dX0_lay_9 (by decide) (fun k_3 => ?_) (fun k_3 => ?_)
    · have hf := y_ifp k_3 hf
      refine lv_bipush (v := (-2)) hx hb dX0_lay_18 (by decide) ?_
      exact yret hret hf rfl w dX0_lay_20
    · have hf := y_ifn k_3 hf
      refine lv_iload_n hx hb dX0_lay_12 rfl (lv_at hl 2 rfl) ?_
      refine lv_bipush (v := 12) hx hb dX0_lay_13 (by decide) ?_
      refine lv_icmp_le (tgt := 21) hx hb dX0_lay_15 (by decide) (fun k_4 => ?_) (fun k_4 => ?_)
      · have hf := y_ifp k_4 hf
        refine lv_aload_n hx hb dX0_lay_21 rfl (lv_at hl 0 rfl) ?_
        refine lv_iload_n hx hb dX0_lay_22 rfl (lv_at hl 1 rfl) ?_
        obtain ⟨u_5, hu_5, hf⟩ := y_bd hf
        refine ycallI (n := 1) (r := u_5.1) (st2 := u_5.2) (rest := []) F hA (c0_isThere l D a1) gX0_lay_X0_isThere rfl (by decide +kernel) rfl ⟨Nat.le_of_ble_eq_true rfl, Nat.le_of_ble_eq_true rfl⟩ rfl hl.1 w hu_5 rfl (Nat.le_of_ble_eq_true rfl) ⟨Nat.zero_le _, Nat.zero_le _⟩ dX0_lay_23 (fun H locs w => ?_)
        refine lv_if_eq (tgt := 31) hx hb dX0_lay_26 (by decide) (fun k_6 => ?_) (fun k_6 => ?_)
        · have hf := y_ifp k_6 hf
          refine lv_aload_n hx hb dX0_lay_31 rfl (lv_at hl 0 rfl) ?_
          refine yget0 F hin0_lay w 0 (by decide) (by decide +kernel) (v := .ref q1) rfl dX0_lay_32 ?_
          refine lv_iload_n hx hb dX0_lay_35 rfl (lv_at hl 1 rfl) ?_
          refine lv_iload_n hx hb dX0_lay_36 rfl (lv_at hl 2 rfl) ?_
          obtain ⟨st_7, hst_7, hf⟩ := y_bd hf
          refine yast0 F w hst_7 dX0_lay_37 (fun H locs w => ?_)
          refine lv_iconst (v := 1) hx hb dX0_lay_38 (by decide) ?_
          exact yret hret hf rfl w dX0_lay_39
        · have hf := y_ifn k_6 hf
          refine lv_iconst (v := 0) hx hb dX0_lay_29 (by decide) ?_
          exact yret hret hf rfl w dX0_lay_30
      · have hf := y_ifn k_4 hf
        refine lv_bipush (v := (-2)) hx hb dX0_lay_18 (by decide) ?_
        exact yret hret hf rfl w dX0_lay_20
theorem hin0_lift : ∀ w ∈ wsX00, w ∈ wsX0_lift := by decide +kernel
set_option maxHeartbeats 4000000 in
set_option maxRecDepth 100000 in
theorem c0_lift (l : Launch) (D : va_G) (a1 : Int32) : yMet l D 0 yX0_lift wsX0_lift 1 [.int a1] (f0_lift a1) := by
  refine yentI (cc := cX0_lift) (nL := 3) (ret := .int) (by decide) rfl (fun _ => Nat.le_of_ble_eq_true rfl) ?_
  intro h0 q1 q2 q3 cA r st2 p e s m args below meth c A Q F hA hret st hf H locs ls w hl
  have F : CallFix p m c cX0_lift 3 s args wsX0_lift RX0 := F
  have hx := F.1
  have hb := F.2.1
  have hl : lv_has ls 3 [(0, .ref h0), (1, .int a1)] := hl
  unfold f0_lift at hf
  refine lv_iload_n hx hb dX0_lift_0 rfl (lv_at hl 1 rfl) ?_
  obtain ⟨u_1, hu_1, hf⟩ := y_bd hf
  refine ycallSW (n := 1) (rest := []) F hA (c0_isTrack l a1) gX0_lift_X0_isTrack rfl (by decide +kernel) ⟨Nat.le_of_ble_eq_true rfl, Nat.le_of_ble_eq_true rfl⟩ rfl hl.1 w hu_1 rfl (Nat.le_of_ble_eq_true rfl) ⟨Nat.zero_le _, Nat.zero_le _⟩ dX0_lift_1 (fun H locs w => ?_)
  refine lv_if_ne (tgt := 10) hx hb dX0_lift_4 (by decide) (fun k_2 => ?_) (fun k_2 => ?_)
  · have hf := y_ifn k_2 hf
    refine lv_aload_n hx hb dX0_lift_10 rfl (lv_at hl 0 rfl) ?_
    refine lv_iload_n hx hb dX0_lift_11 rfl (lv_at hl 1 rfl) ?_
    obtain ⟨u_3, hu_3, hf⟩ := y_bd hf
    refine ycallI (n := 1) (r := u_3.1) (st2 := u_3.2) (rest := []) F hA (c0_isThere l D a1) gX0_lift_X0_isThere rfl (by decide +kernel) rfl ⟨Nat.le_of_ble_eq_true rfl, Nat.le_of_ble_eq_true rfl⟩ rfl hl.1 w hu_3 rfl (Nat.le_of_ble_eq_true rfl) ⟨Nat.zero_le _, Nat.zero_le _⟩ dX0_lift_12 (fun H locs w => ?_)
    refine lv_if_ne (tgt := 21) hx hb dX0_lift_15 (by decide) (fun k_4 => ?_) (fun k_4 => ?_)
    · have hf := y_ifn k_4 hf
      refine lv_aload_n hx hb dX0_lift_21 rfl (lv_at hl 0 rfl) ?_
      refine yget0 F hin0_lift w 1 (by decide) (by decide +kernel) (v := .ref q2) rfl dX0_lift_22 ?_
      refine lv_iload_n hx hb dX0_lift_25 rfl (lv_at hl 1 rfl) ?_
      obtain ⟨x_5, hx_5, hf⟩ := y_bd hf
      refine yald1 F w hx_5 dX0_lift_26 ?_
      refine lv_istore_n (lv' := [(2, .int x_5), (0, .ref h0), (1, .int a1)]) hx hb dX0_lift_27 rfl hl (by decide) rfl (fun ls hl => ?_)
      refine lv_aload_n hx hb dX0_lift_28 rfl (lv_at hl 1 rfl) ?_
      refine yget0 F hin0_lift w 0 (by decide) (by decide +kernel) (v := .ref q1) rfl dX0_lift_29 ?_
      refine lv_iload_n hx hb dX0_lift_32 rfl (lv_at hl 2 rfl) ?_
      refine lv_iconst (v := 0) hx hb dX0_lift_33 (by decide) ?_
      obtain ⟨st_6, hst_6, hf⟩ := y_bd hf
      refine yast0 F w hst_6 dX0_lift_34 (fun H locs w => ?_)
      refine lv_aload_n hx hb dX0_lift_35 rfl (lv_at hl 1 rfl) ?_
      refine yget0 F hin0_lift w 1 (by decide) (by decide +kernel) (v := .ref q2) rfl dX0_lift_36 ?_
      refine lv_iload_n hx hb dX0_lift_39 rfl (lv_at hl 2 rfl) ?_
      refine lv_iconst (v := 0) hx hb dX0_lift_40 (by decide) ?_
      obtain ⟨st_7, hst_7, hf⟩ := y_bd hf
      refine yast1 F w hst_7 dX0_lift_41 (fun H locs w => ?_)
      refine lv_iload_n hx hb dX0_lift_42 rfl (lv_at hl 0 rfl) ?_
      exact yret hret hf rfl w dX0_lift_43
    · have hf := y_ifp k_4 hf
      refine lv_bipush (v := (-3)) hx hb dX0_lift_18 (by decide) ?_
      exact yret hret hf rfl w dX0_lift_20
  · have hf := y_ifp k_2 hf
    refine lv_bipush (v := (-2)) hx hb dX0_lift_7 (by decide) ?_
    exact yret hret hf rfl w dX0_lift_9
set_option maxHeartbeats 4000000 in
set_option maxRecDepth 100000 in
theorem c0_couple (l : Launch) (D : va_G) (a1 : Int32) (a2 : Int32) : yMet l D 0 yX0_couple wsX0_couple 3 [.int a1, .int a2] (f0_couple a1 a2) := by
  refine yentI (cc := cX0_couple) (nL := 3) (ret := .int) (by decide) rfl (fun _ => Nat.le_of_ble_eq_true rfl) ?_
  intro h0 q1 q2 q3 cA r st2 p e s m args below meth c A Q F hA hret st hf H locs ls w hl
  have F : CallFix p m c cX0_couple 3 s args wsX0_couple RX0 := F
  have hx := F.1
  have hb := F.2.1
  have hl : lv_has ls 3 [(0, .ref h0), (1, .int a1), (2, .int a2)] := hl
  unfold f0_couple at hf
  refine lv_iload_n hx hb dX0_couple_0 rfl (lv_at hl 1 rfl) ?_
  obtain ⟨u_1, hu_1, hf⟩ := y_bd hf
  refine ycallSW (n := 1) (rest := []) F hA (c0_isTrack l a1) gX0_couple_X0_isTrack rfl (by decide +kernel) ⟨Nat.le_of_ble_eq_true rfl, Nat.le_of_ble_eq_true rfl⟩ rfl hl.1 w hu_1 rfl (Nat.le_of_ble_eq_true rfl) ⟨Nat.zero_le _, Nat.zero_le _⟩ dX0_couple_1 (fun H locs w => ?_)
  refine lv_if_eq (tgt := 19) hx hb dX0_couple_4 (by decide) (fun k_2 => ?_) (fun k_2 => ?_)
  · have hf := y_ifp k_2 hf
    refine lv_bipush (v := (-2)) hx hb dX0_couple_19 (by decide) ?_
    exact yret hret hf rfl w dX0_couple_21
  · have hf := y_ifn k_2 hf
    refine lv_iload_n hx hb dX0_couple_7 rfl (lv_at hl 2 rfl) ?_
    refine lv_iconst (v := 1) hx hb dX0_couple_8 (by decide) ?_
    refine lv_icmp_lt (tgt := 19) hx hb dX0_couple_9 (by decide) (fun k_3 => ?_) (fun k_3 => ?_)
    · have hf := y_ifp k_3 hf
      refine lv_bipush (v := (-2)) hx hb dX0_couple_19 (by decide) ?_
      exact yret hret hf rfl w dX0_couple_21
    · have hf := y_ifn k_3 hf
      refine lv_iload_n hx hb dX0_couple_12 rfl (lv_at hl 2 rfl) ?_
      refine lv_sipush (v := 999) hx hb dX0_couple_13 (by decide) ?_
      refine lv_icmp_le (tgt := 22) hx hb dX0_couple_16 (by decide) (fun k_4 => ?_) (fun k_4 => ?_)
      · have hf := y_ifp k_4 hf
        refine lv_aload_n hx hb dX0_couple_22 rfl (lv_at hl 0 rfl) ?_
        refine lv_iload_n hx hb dX0_couple_23 rfl (lv_at hl 1 rfl) ?_
        refine lv_iload_n hx hb dX0_couple_24 rfl (lv_at hl 2 rfl) ?_
        obtain ⟨u_5, hu_5, hf⟩ := y_bd hf
        refine ycallI (n := 2) (r := u_5.1) (st2 := u_5.2) (rest := []) F hA (c0_holdAndCome l D a1 a2) gX0_couple_X0_holdAndCome rfl (by decide +kernel) rfl ⟨Nat.le_of_ble_eq_true rfl, Nat.le_of_ble_eq_true rfl⟩ rfl hl.1 w hu_5 rfl (Nat.le_of_ble_eq_true rfl) ⟨Nat.zero_le _, Nat.zero_le _⟩ dX0_couple_25 (fun H locs w => ?_)
        exact yret hret hf rfl w dX0_couple_28
      · have hf := y_ifn k_4 hf
        refine lv_bipush (v := (-2)) hx hb dX0_couple_19 (by decide) ?_
        exact yret hret hf rfl w dX0_couple_21
set_option maxHeartbeats 4000000 in
set_option maxRecDepth 100000 in
theorem c0_uncouple (l : Launch) (D : va_G) (a1 : Int32) : yMet l D 0 yX0_uncouple wsX0_uncouple 2 [.int a1] (f0_uncouple a1) := by
  refine yentI (cc := cX0_uncouple) (nL := 2) (ret := .int) (by decide) rfl (fun _ => Nat.le_of_ble_eq_true rfl) ?_
  intro h0 q1 q2 q3 cA r st2 p e s m args below meth c A Q F hA hret st hf H locs ls w hl
  have F : CallFix p m c cX0_uncouple 2 s args wsX0_uncouple RX0 := F
  have hx := F.1
  have hb := F.2.1
  have hl : lv_has ls 2 [(0, .ref h0), (1, .int a1)] := hl
  unfold f0_uncouple at hf
  refine lv_iload_n hx hb dX0_uncouple_0 rfl (lv_at hl 1 rfl) ?_
  obtain ⟨u_1, hu_1, hf⟩ := y_bd hf
  refine ycallSW (n := 1) (rest := []) F hA (c0_isTrack l a1) gX0_uncouple_X0_isTrack rfl (by decide +kernel) ⟨Nat.le_of_ble_eq_true rfl, Nat.le_of_ble_eq_true rfl⟩ rfl hl.1 w hu_1 rfl (Nat.le_of_ble_eq_true rfl) ⟨Nat.zero_le _, Nat.zero_le _⟩ dX0_uncouple_1 (fun H locs w => ?_)
  refine lv_if_ne (tgt := 10) hx hb dX0_uncouple_4 (by decide) (fun k_2 => ?_) (fun k_2 => ?_)
  · have hf := y_ifn k_2 hf
    refine lv_aload_n hx hb dX0_uncouple_10 rfl (lv_at hl 0 rfl) ?_
    refine lv_iload_n hx hb dX0_uncouple_11 rfl (lv_at hl 1 rfl) ?_
    obtain ⟨u_3, hu_3, hf⟩ := y_bd hf
    refine ycallI (n := 1) (r := u_3.1) (st2 := u_3.2) (rest := []) F hA (c0_hold l D a1) gX0_uncouple_X0_hold rfl (by decide +kernel) rfl ⟨Nat.le_of_ble_eq_true rfl, Nat.le_of_ble_eq_true rfl⟩ rfl hl.1 w hu_3 rfl (Nat.le_of_ble_eq_true rfl) ⟨Nat.zero_le _, Nat.zero_le _⟩ dX0_uncouple_12 (fun H locs w => ?_)
    refine lv_if_ne (tgt := 21) hx hb dX0_uncouple_15 (by decide) (fun k_4 => ?_) (fun k_4 => ?_)
    · have hf := y_ifn k_4 hf
      refine lv_aload_n hx hb dX0_uncouple_21 rfl (lv_at hl 0 rfl) ?_
      refine lv_iconst (v := 1) hx hb dX0_uncouple_22 (by decide) ?_
      refine lv_aload_n hx hb dX0_uncouple_23 rfl (lv_at hl 0 rfl) ?_
      refine lv_iload_n hx hb dX0_uncouple_24 rfl (lv_at hl 1 rfl) ?_
      obtain ⟨u_5, hu_5, hf⟩ := y_bd hf
      refine ycallI (n := 1) (r := u_5.1) (st2 := u_5.2) (rest := [.int 1, .ref h0]) F hA (c0_go l D a1) gX0_uncouple_X0_go rfl (by decide +kernel) rfl ⟨Nat.le_of_ble_eq_true rfl, Nat.le_of_ble_eq_true rfl⟩ rfl hl.1 w hu_5 rfl (Nat.le_of_ble_eq_true rfl) ⟨Nat.zero_le _, Nat.zero_le _⟩ dX0_uncouple_25 (fun H locs w => ?_)
      obtain ⟨u_6, hu_6, hf⟩ := y_bd hf
      refine ycallI (n := 2) (r := u_6.1) (st2 := u_6.2) (rest := []) F hA (c0_letGo l D 1 u_5.1) gX0_uncouple_X0_letGo rfl (by decide +kernel) rfl ⟨Nat.le_of_ble_eq_true rfl, Nat.le_of_ble_eq_true rfl⟩ rfl hl.1 w hu_6 rfl (Nat.le_of_ble_eq_true rfl) ⟨Nat.zero_le _, Nat.zero_le _⟩ dX0_uncouple_28 (fun H locs w => ?_)
      exact yret hret hf rfl w dX0_uncouple_31
    · have hf := y_ifp k_4 hf
      refine lv_bipush (v := (-3)) hx hb dX0_uncouple_18 (by decide) ?_
      exact yret hret hf rfl w dX0_uncouple_20
  · have hf := y_ifp k_2 hf
    refine lv_bipush (v := (-2)) hx hb dX0_uncouple_7 (by decide) ?_
    exact yret hret hf rfl w dX0_uncouple_9
theorem hin0_shunt : ∀ w ∈ wsX00, w ∈ wsX0_shunt := by decide +kernel
set_option maxHeartbeats 4000000 in
set_option maxRecDepth 100000 in
theorem c0_shunt (l : Launch) (D : va_G) (a1 : Int32) (a2 : Int32) (a3 : Int32) : yMet l D 0 yX0_shunt wsX0_shunt 3 [.int a1, .int a2, .int a3] (f0_shunt a1 a2 a3) := by
  refine yentI (cc := cX0_shunt) (nL := 4) (ret := .int) (by decide) rfl (fun _ => Nat.le_of_ble_eq_true rfl) ?_
  intro h0 q1 q2 q3 cA r st2 p e s m args below meth c A Q F hA hret st hf H locs ls w hl
  have F : CallFix p m c cX0_shunt 4 s args wsX0_shunt RX0 := F
  have hx := F.1
  have hb := F.2.1
  have hl : lv_has ls 4 [(0, .ref h0), (1, .int a1), (2, .int a2), (3, .int a3)] := hl
  unfold f0_shunt at hf
  refine lv_iload_n hx hb dX0_shunt_0 rfl (lv_at hl 1 rfl) ?_
  obtain ⟨u_1, hu_1, hf⟩ := y_bd hf
  refine ycallSW (n := 1) (rest := []) F hA (c0_isTrack l a1) gX0_shunt_X0_isTrack rfl (by decide +kernel) ⟨Nat.le_of_ble_eq_true rfl, Nat.le_of_ble_eq_true rfl⟩ rfl hl.1 w hu_1 rfl (Nat.le_of_ble_eq_true rfl) ⟨Nat.zero_le _, Nat.zero_le _⟩ dX0_shunt_1 (fun H locs w => ?_)
  refine lv_if_eq (tgt := 24) hx hb dX0_shunt_4 (by decide) (fun k_2 => ?_) (fun k_2 => ?_)
  · have hf := y_ifp k_2 hf
    refine lv_bipush (v := (-2)) hx hb dX0_shunt_24 (by decide) ?_
    exact yret hret hf rfl w dX0_shunt_26
  · have hf := y_ifn k_2 hf
    refine lv_iload_n hx hb dX0_shunt_7 rfl (lv_at hl 2 rfl) ?_
    obtain ⟨u_3, hu_3, hf⟩ := y_bd hf
    refine ycallSW (n := 1) (rest := []) F hA (c0_isTrack l a2) gX0_shunt_X0_isTrack rfl (by decide +kernel) ⟨Nat.le_of_ble_eq_true rfl, Nat.le_of_ble_eq_true rfl⟩ rfl hl.1 w hu_3 rfl (Nat.le_of_ble_eq_true rfl) ⟨Nat.zero_le _, Nat.zero_le _⟩ dX0_shunt_8 (fun H locs w => ?_)
    refine lv_if_eq (tgt := 24) hx hb dX0_shunt_11 (by decide) (fun k_4 => ?_) (fun k_4 => ?_)
    · have hf := y_ifp k_4 hf
      refine lv_bipush (v := (-2)) hx hb dX0_shunt_24 (by decide) ?_
      exact yret hret hf rfl w dX0_shunt_26
    · have hf := y_ifn k_4 hf
      refine lv_iload_n hx hb dX0_shunt_14 rfl (lv_at hl 3 rfl) ?_
      refine lv_if_lt (tgt := 24) hx hb dX0_shunt_15 (by decide) (fun k_5 => ?_) (fun k_5 => ?_)
      · have hf := y_ifp k_5 hf
        refine lv_bipush (v := (-2)) hx hb dX0_shunt_24 (by decide) ?_
        exact yret hret hf rfl w dX0_shunt_26
      · have hf := y_ifn k_5 hf
        refine lv_iload_n hx hb dX0_shunt_18 rfl (lv_at hl 3 rfl) ?_
        refine lv_bipush (v := 20) hx hb dX0_shunt_19 (by decide) ?_
        refine lv_icmp_le (tgt := 27) hx hb dX0_shunt_21 (by decide) (fun k_6 => ?_) (fun k_6 => ?_)
        · have hf := y_ifp k_6 hf
          refine lv_aload_n hx hb dX0_shunt_27 rfl (lv_at hl 0 rfl) ?_
          refine lv_iconst (v := 0) hx hb dX0_shunt_28 (by decide) ?_
          obtain ⟨st_7, hst_7, hf⟩ := y_bd hf
          refine yput0_8 F hin0_shunt w (by decide +kernel) hst_7 dX0_shunt_29 (fun H locs w => ?_)
          refine lv_aload_n hx hb dX0_shunt_32 rfl (lv_at hl 0 rfl) ?_
          refine lv_iload_n hx hb dX0_shunt_33 rfl (lv_at hl 1 rfl) ?_
          obtain ⟨u_8, hu_8, hf⟩ := y_bd hf
          refine ycallI (n := 1) (r := u_8.1) (st2 := u_8.2) (rest := []) F hA (c0_hold l D a1) gX0_shunt_X0_hold rfl (by decide +kernel) rfl ⟨Nat.le_of_ble_eq_true rfl, Nat.le_of_ble_eq_true rfl⟩ rfl hl.1 w hu_8 rfl (Nat.le_of_ble_eq_true rfl) ⟨Nat.zero_le _, Nat.zero_le _⟩ dX0_shunt_34 (fun H locs w => ?_)
          refine lv_if_ne (tgt := 43) hx hb dX0_shunt_37 (by decide) (fun k_9 => ?_) (fun k_9 => ?_)
          · have hf := y_ifn k_9 hf
            refine lv_aload_n hx hb dX0_shunt_43 rfl (lv_at hl 0 rfl) ?_
            refine lv_iload_n hx hb dX0_shunt_44 rfl (lv_at hl 2 rfl) ?_
            obtain ⟨u_10, hu_10, hf⟩ := y_bd hf
            refine ycallI (n := 1) (r := u_10.1) (st2 := u_10.2) (rest := []) F hA (c0_hold l D a2) gX0_shunt_X0_hold rfl (by decide +kernel) rfl ⟨Nat.le_of_ble_eq_true rfl, Nat.le_of_ble_eq_true rfl⟩ rfl hl.1 w hu_10 rfl (Nat.le_of_ble_eq_true rfl) ⟨Nat.zero_le _, Nat.zero_le _⟩ dX0_shunt_45 (fun H locs w => ?_)
            refine lv_if_ne (tgt := 59) hx hb dX0_shunt_48 (by decide) (fun k_11 => ?_) (fun k_11 => ?_)
            · have hf := y_ifn k_11 hf
              refine lv_aload_n hx hb dX0_shunt_59 rfl (lv_at hl 0 rfl) ?_
              refine lv_iconst (v := 2) hx hb dX0_shunt_60 (by decide) ?_
              refine lv_aload_n hx hb dX0_shunt_61 rfl (lv_at hl 0 rfl) ?_
              refine lv_iload_n hx hb dX0_shunt_62 rfl (lv_at hl 1 rfl) ?_
              refine lv_iload_n hx hb dX0_shunt_63 rfl (lv_at hl 2 rfl) ?_
              refine lv_iload_n hx hb dX0_shunt_64 rfl (lv_at hl 3 rfl) ?_
              obtain ⟨u_12, hu_12, hf⟩ := y_bd hf
              refine ycallI (n := 3) (r := u_12.1) (st2 := u_12.2) (rest := [.int 2, .ref h0]) F hA (c0_moveWagons l D a1 a2 a3) gX0_shunt_X0_moveWagons rfl (by decide +kernel) rfl ⟨Nat.le_of_ble_eq_true rfl, Nat.le_of_ble_eq_true rfl⟩ rfl hl.1 w hu_12 rfl (Nat.le_of_ble_eq_true rfl) ⟨Nat.zero_le _, Nat.zero_le _⟩ dX0_shunt_65 (fun H locs w => ?_)
              obtain ⟨u_13, hu_13, hf⟩ := y_bd hf
              refine ycallI (n := 2) (r := u_13.1) (st2 := u_13.2) (rest := []) F hA (c0_letGo l D 2 u_12.1) gX0_shunt_X0_letGo rfl (by decide +kernel) rfl ⟨Nat.le_of_ble_eq_true rfl, Nat.le_of_ble_eq_true rfl⟩ rfl hl.1 w hu_13 rfl (Nat.le_of_ble_eq_true rfl) ⟨Nat.zero_le _, Nat.zero_le _⟩ dX0_shunt_68 (fun H locs w => ?_)
              exact yret hret hf rfl w dX0_shunt_71
            · have hf := y_ifp k_11 hf
              refine lv_aload_n hx hb dX0_shunt_51 rfl (lv_at hl 0 rfl) ?_
              refine lv_iconst (v := 1) hx hb dX0_shunt_52 (by decide) ?_
              refine lv_bipush (v := (-3)) hx hb dX0_shunt_53 (by decide) ?_
              obtain ⟨u_14, hu_14, hf⟩ := y_bd hf
              refine ycallI (n := 2) (r := u_14.1) (st2 := u_14.2) (rest := []) F hA (c0_letGo l D 1 (-3)) gX0_shunt_X0_letGo rfl (by decide +kernel) rfl ⟨Nat.le_of_ble_eq_true rfl, Nat.le_of_ble_eq_true rfl⟩ rfl hl.1 w hu_14 rfl (Nat.le_of_ble_eq_true rfl) ⟨Nat.zero_le _, Nat.zero_le _⟩ dX0_shunt_55 (fun H locs w => ?_)
              exact yret hret hf rfl w dX0_shunt_58
          · have hf := y_ifp k_9 hf
            refine lv_bipush (v := (-3)) hx hb dX0_shunt_40 (by decide) ?_
            exact yret hret hf rfl w dX0_shunt_42
        · have hf := y_ifn k_6 hf
          refine lv_bipush (v := (-2)) hx hb dX0_shunt_24 (by decide) ?_
          exact yret hret hf rfl w dX0_shunt_26
theorem hin0_sweep : ∀ w ∈ wsX00, w ∈ wsX0_sweep := by decide +kernel
set_option maxHeartbeats 4000000 in
set_option maxRecDepth 100000 in
theorem c0_sweep (l : Launch) (D : va_G) (a1 : Int32) (a2 : Int32) (a3 : Int32) : yMet l D 0 yX0_sweep wsX0_sweep 4 [.int a1, .int a2, .int a3] (f0_sweep a1 a2 a3) := by
  refine yentI (cc := cX0_sweep) (nL := 4) (ret := .int) (by decide) rfl (fun _ => Nat.le_of_ble_eq_true rfl) ?_
  intro h0 q1 q2 q3 cA r st2 p e s m args below meth c A Q F hA hret st hf H locs ls w hl
  have F : CallFix p m c cX0_sweep 4 s args wsX0_sweep RX0 := F
  have hx := F.1
  have hb := F.2.1
  have hl : lv_has ls 4 [(0, .ref h0), (1, .int a1), (2, .int a2), (3, .int a3)] := hl
  unfold f0_sweep at hf
  refine lv_iload_n hx hb dX0_sweep_0 rfl (lv_at hl 1 rfl) ?_
  obtain ⟨u_1, hu_1, hf⟩ := y_bd hf
  refine ycallSW (n := 1) (rest := []) F hA (c0_isTrack l a1) gX0_sweep_X0_isTrack rfl (by decide +kernel) ⟨Nat.le_of_ble_eq_true rfl, Nat.le_of_ble_eq_true rfl⟩ rfl hl.1 w hu_1 rfl (Nat.le_of_ble_eq_true rfl) ⟨Nat.zero_le _, Nat.zero_le _⟩ dX0_sweep_1 (fun H locs w => ?_)
  refine lv_if_eq (tgt := 31) hx hb dX0_sweep_4 (by decide) (fun k_2 => ?_) (fun k_2 => ?_)
  · have hf := y_ifp k_2 hf
    refine lv_bipush (v := (-2)) hx hb dX0_sweep_31 (by decide) ?_
    exact yret hret hf rfl w dX0_sweep_33
  · have hf := y_ifn k_2 hf
    refine lv_iload_n hx hb dX0_sweep_7 rfl (lv_at hl 2 rfl) ?_
    obtain ⟨u_3, hu_3, hf⟩ := y_bd hf
    refine ycallSW (n := 1) (rest := []) F hA (c0_isTrack l a2) gX0_sweep_X0_isTrack rfl (by decide +kernel) ⟨Nat.le_of_ble_eq_true rfl, Nat.le_of_ble_eq_true rfl⟩ rfl hl.1 w hu_3 rfl (Nat.le_of_ble_eq_true rfl) ⟨Nat.zero_le _, Nat.zero_le _⟩ dX0_sweep_8 (fun H locs w => ?_)
    refine lv_if_eq (tgt := 31) hx hb dX0_sweep_11 (by decide) (fun k_4 => ?_) (fun k_4 => ?_)
    · have hf := y_ifp k_4 hf
      refine lv_bipush (v := (-2)) hx hb dX0_sweep_31 (by decide) ?_
      exact yret hret hf rfl w dX0_sweep_33
    · have hf := y_ifn k_4 hf
      refine lv_iload_n hx hb dX0_sweep_14 rfl (lv_at hl 3 rfl) ?_
      obtain ⟨u_5, hu_5, hf⟩ := y_bd hf
      refine ycallSW (n := 1) (rest := []) F hA (c0_isTrack l a3) gX0_sweep_X0_isTrack rfl (by decide +kernel) ⟨Nat.le_of_ble_eq_true rfl, Nat.le_of_ble_eq_true rfl⟩ rfl hl.1 w hu_5 rfl (Nat.le_of_ble_eq_true rfl) ⟨Nat.zero_le _, Nat.zero_le _⟩ dX0_sweep_15 (fun H locs w => ?_)
      refine lv_if_eq (tgt := 31) hx hb dX0_sweep_18 (by decide) (fun k_6 => ?_) (fun k_6 => ?_)
      · have hf := y_ifp k_6 hf
        refine lv_bipush (v := (-2)) hx hb dX0_sweep_31 (by decide) ?_
        exact yret hret hf rfl w dX0_sweep_33
      · have hf := y_ifn k_6 hf
        refine lv_iload_n hx hb dX0_sweep_21 rfl (lv_at hl 1 rfl) ?_
        refine lv_iload_n hx hb dX0_sweep_22 rfl (lv_at hl 2 rfl) ?_
        refine lv_icmp_eq (tgt := 31) hx hb dX0_sweep_23 (by decide) (fun k_7 => ?_) (fun k_7 => ?_)
        · have hf := y_ifp k_7 hf
          refine lv_bipush (v := (-2)) hx hb dX0_sweep_31 (by decide) ?_
          exact yret hret hf rfl w dX0_sweep_33
        · have hf := y_ifn k_7 hf
          refine lv_iload_n hx hb dX0_sweep_26 rfl (lv_at hl 1 rfl) ?_
          refine lv_iload_n hx hb dX0_sweep_27 rfl (lv_at hl 3 rfl) ?_
          refine lv_icmp_ne (tgt := 34) hx hb dX0_sweep_28 (by decide) (fun k_8 => ?_) (fun k_8 => ?_)
          · have hf := y_ifn k_8 hf
            refine lv_aload_n hx hb dX0_sweep_34 rfl (lv_at hl 0 rfl) ?_
            refine lv_iconst (v := 0) hx hb dX0_sweep_35 (by decide) ?_
            obtain ⟨st_9, hst_9, hf⟩ := y_bd hf
            refine yput0_8 F hin0_sweep w (by decide +kernel) hst_9 dX0_sweep_36 (fun H locs w => ?_)
            refine lv_aload_n hx hb dX0_sweep_39 rfl (lv_at hl 0 rfl) ?_
            refine lv_iload_n hx hb dX0_sweep_40 rfl (lv_at hl 1 rfl) ?_
            obtain ⟨u_10, hu_10, hf⟩ := y_bd hf
            refine ycallI (n := 1) (r := u_10.1) (st2 := u_10.2) (rest := []) F hA (c0_hold l D a1) gX0_sweep_X0_hold rfl (by decide +kernel) rfl ⟨Nat.le_of_ble_eq_true rfl, Nat.le_of_ble_eq_true rfl⟩ rfl hl.1 w hu_10 rfl (Nat.le_of_ble_eq_true rfl) ⟨Nat.zero_le _, Nat.zero_le _⟩ dX0_sweep_41 (fun H locs w => ?_)
            refine lv_if_ne (tgt := 50) hx hb dX0_sweep_44 (by decide) (fun k_11 => ?_) (fun k_11 => ?_)
            · have hf := y_ifn k_11 hf
              refine lv_aload_n hx hb dX0_sweep_50 rfl (lv_at hl 0 rfl) ?_
              refine lv_iconst (v := 1) hx hb dX0_sweep_51 (by decide) ?_
              refine lv_aload_n hx hb dX0_sweep_52 rfl (lv_at hl 0 rfl) ?_
              refine lv_iload_n hx hb dX0_sweep_53 rfl (lv_at hl 1 rfl) ?_
              refine lv_iload_n hx hb dX0_sweep_54 rfl (lv_at hl 2 rfl) ?_
              refine lv_iload_n hx hb dX0_sweep_55 rfl (lv_at hl 3 rfl) ?_
              obtain ⟨u_12, hu_12, hf⟩ := y_bd hf
              refine ycallI (n := 3) (r := u_12.1) (st2 := u_12.2) (rest := [.int 1, .ref h0]) F hA (c0_sortWagons l D a1 a2 a3) gX0_sweep_X0_sortWagons rfl (by decide +kernel) rfl ⟨Nat.le_of_ble_eq_true rfl, Nat.le_of_ble_eq_true rfl⟩ rfl hl.1 w hu_12 rfl (Nat.le_of_ble_eq_true rfl) ⟨Nat.zero_le _, Nat.zero_le _⟩ dX0_sweep_56 (fun H locs w => ?_)
              obtain ⟨u_13, hu_13, hf⟩ := y_bd hf
              refine ycallI (n := 2) (r := u_13.1) (st2 := u_13.2) (rest := []) F hA (c0_letGo l D 1 u_12.1) gX0_sweep_X0_letGo rfl (by decide +kernel) rfl ⟨Nat.le_of_ble_eq_true rfl, Nat.le_of_ble_eq_true rfl⟩ rfl hl.1 w hu_13 rfl (Nat.le_of_ble_eq_true rfl) ⟨Nat.zero_le _, Nat.zero_le _⟩ dX0_sweep_59 (fun H locs w => ?_)
              exact yret hret hf rfl w dX0_sweep_62
            · have hf := y_ifp k_11 hf
              refine lv_bipush (v := (-3)) hx hb dX0_sweep_47 (by decide) ?_
              exact yret hret hf rfl w dX0_sweep_49
          · have hf := y_ifp k_8 hf
            refine lv_bipush (v := (-2)) hx hb dX0_sweep_31 (by decide) ?_
            exact yret hret hf rfl w dX0_sweep_33
theorem hin0_tour : ∀ w ∈ wsX00, w ∈ wsX0_tour := by decide +kernel
set_option maxHeartbeats 4000000 in
set_option maxRecDepth 100000 in
theorem b0_tour_L21 {l : Launch} {D : va_G} {h0 q1 q2 q3 : Nat} {cA : ClassId} {r : Int32} {st2 : St} {p : Program} {e : Env} {s : State} {m : MethodId} {args : Array Value} {below : List Frame} {meth : Method} {c : Code} {A : Nat → Prop} {Q : State → Prop} (F : CallFix p m c cX0_tour 8 s args wsX0_tour RX0) (hA : ∀ q, s.heap.size ≤ q → A q) (hret : yRetI D 0 h0 q1 q2 q3 cA p l e 3 s m args below meth c cX0_tour A Q .int r st2) : ∀ (n : Nat) (v1 : Int64) (v3 : Int32) (v4 : Int32) (v5 : Int32) (st : St), f0_tour_L21 n v1 v3 v4 v5 st = some (r, st2) → ∀ (H : Heap) (locs : List Loc) (ls : Array Slot), Wd D 0 h0 q1 q2 q3 cA A s st H locs → lv_has ls 8 [(0, .ref h0), (1, .long v1), (3, .int v3), (4, .int v4), (5, .int v5)] → W p l e (yrm 3) s m args below meth c H locs 0 0 Q (F0 m 21 ls []) := by
  have hx := F.1
  have hb := F.2.1
  intro n
  induction n with
  | zero =>
    intro v1 v3 v4 v5 st hf
    rw [f0_tour_L21] at hf
    cases hf
  | succ n ih =>
    intro v1 v3 v4 v5 st hf H locs ls w hl
    rw [f0_tour_L21] at hf
    refine lv_iload hx hb dX0_tour_21 (lv_at hl 4 rfl) ?_
    refine lv_iload_n hx hb dX0_tour_23 rfl (lv_at hl 2 rfl) ?_
    refine lv_icmp_ge (tgt := 101) hx hb dX0_tour_24 (by decide) (fun k_4 => ?_) (fun k_4 => ?_)
    · have hf := y_ifp k_4 hf
      refine lv_iload hx hb dX0_tour_101 (lv_at hl 3 rfl) ?_
      exact yret hret hf rfl w dX0_tour_103
    · have hf := y_ifn k_4 hf
      refine lv_lload_n hx hb dX0_tour_27 rfl (lv_at hl 1 rfl) ?_
      refine lv_iload hx hb dX0_tour_28 (lv_at hl 4 rfl) ?_
      obtain ⟨u_5, hu_5, hf⟩ := y_bd hf
      refine ycallSW (n := 2) (rest := []) F hA (c0_trackOfRow l v1 v5) gX0_tour_X0_trackOfRow rfl (by decide +kernel) ⟨Nat.le_of_ble_eq_true rfl, Nat.le_of_ble_eq_true rfl⟩ rfl hl.1 w hu_5 rfl (Nat.le_of_ble_eq_true rfl) ⟨Nat.zero_le _, Nat.zero_le _⟩ dX0_tour_30 (fun H locs w => ?_)
      refine lv_istore (lv' := [(6, .int u_5), (0, .ref h0), (1, .long v1), (3, .int v3), (4, .int v4), (5, .int v5)]) hx hb dX0_tour_33 hl (by decide) rfl (fun ls hl => ?_)
      refine lv_aload_n hx hb dX0_tour_35 rfl (lv_at hl 1 rfl) ?_
      refine lv_iload hx hb dX0_tour_36 (lv_at hl 0 rfl) ?_
      obtain ⟨u_6, hu_6, hf⟩ := y_bd hf
      refine ycallI (n := 1) (r := u_6.1) (st2 := u_6.2) (rest := []) F hA (c0_hold l D u_5) gX0_tour_X0_hold rfl (by decide +kernel) rfl ⟨Nat.le_of_ble_eq_true rfl, Nat.le_of_ble_eq_true rfl⟩ rfl hl.1 w hu_6 rfl (Nat.le_of_ble_eq_true rfl) ⟨Nat.zero_le _, Nat.zero_le _⟩ dX0_tour_38 (fun H locs w => ?_)
      refine lv_if_ne (tgt := 47) hx hb dX0_tour_41 (by decide) (fun k_7 => ?_) (fun k_7 => ?_)
      · have hf := y_ifn k_7 hf
        refine lv_aload_n hx hb dX0_tour_47 rfl (lv_at hl 1 rfl) ?_
        refine yget0 F hin0_tour w 1 (by decide) (by decide +kernel) (v := .ref q2) rfl dX0_tour_48 ?_
        refine lv_iload hx hb dX0_tour_51 (lv_at hl 0 rfl) ?_
        obtain ⟨x_8, hx_8, hf⟩ := y_bd hf
        refine yald1 F w hx_8 dX0_tour_53 ?_
        refine lv_if_ne (tgt := 61) hx hb dX0_tour_54 (by decide) (fun k_9 => ?_) (fun k_9 => ?_)
        · have hf := y_ifn k_9 hf
          refine lv_iconst (v := 0) hx hb dX0_tour_61 (by decide) ?_
          refine lv_istore (lv' := [(7, .int 0), (6, .int u_5), (0, .ref h0), (1, .long v1), (3, .int v3), (4, .int v4), (5, .int v5)]) hx hb dX0_tour_62 hl (by decide) rfl (fun ls hl => ?_)
          refine lv_iload hx hb dX0_tour_64 (lv_at hl 0 rfl) ?_
          refine lv_if_ne (tgt := 80) hx hb dX0_tour_66 (by decide) (fun k_10 => ?_) (fun k_10 => ?_)
          · exact absurd k_10 (by decide)
          · refine lv_iload hx hb dX0_tour_69 (lv_at hl 5 rfl) ?_
            refine lv_aload_n hx hb dX0_tour_71 rfl (lv_at hl 2 rfl) ?_
            refine lv_iload hx hb dX0_tour_72 (lv_at hl 1 rfl) ?_
            obtain ⟨u_11, hu_11, hf⟩ := y_bd hf
            refine ycallI (n := 1) (r := u_11.1) (st2 := u_11.2) (rest := [.int v4]) F hA (c0_takeOnTour l D u_5) gX0_tour_X0_takeOnTour rfl (by decide +kernel) rfl ⟨Nat.le_of_ble_eq_true rfl, Nat.le_of_ble_eq_true rfl⟩ rfl hl.1 w hu_11 rfl (Nat.le_of_ble_eq_true rfl) ⟨Nat.zero_le _, Nat.zero_le _⟩ dX0_tour_74 (fun H locs w => ?_)
            refine lv_iadd hx hb dX0_tour_77 ?_
            refine lv_istore (lv' := [(4, .int (v4 + u_11.1)), (7, .int 0), (6, .int u_5), (0, .ref h0), (1, .long v1), (3, .int v3), (5, .int v5)]) hx hb dX0_tour_78 hl (by decide) rfl (fun ls hl => ?_)
            refine lv_aload_n hx hb dX0_tour_80 rfl (lv_at hl 3 rfl) ?_
            refine lv_iconst (v := 1) hx hb dX0_tour_81 (by decide) ?_
            refine lv_iconst (v := 0) hx hb dX0_tour_82 (by decide) ?_
            obtain ⟨u_12, hu_12, hf⟩ := y_bd hf
            refine ycallI (n := 2) (r := u_12.1) (st2 := u_12.2) (rest := []) F hA (c0_letGo l D 1 0) gX0_tour_X0_letGo rfl (by decide +kernel) rfl ⟨Nat.le_of_ble_eq_true rfl, Nat.le_of_ble_eq_true rfl⟩ rfl hl.1 w hu_12 rfl (Nat.le_of_ble_eq_true rfl) ⟨Nat.zero_le _, Nat.zero_le _⟩ dX0_tour_83 (fun H locs w => ?_)
            refine lv_pop hx hb dX0_tour_86 rfl ?_
            refine lv_iload hx hb dX0_tour_87 (lv_at hl 1 rfl) ?_
            refine lv_if_eq (tgt := 95) hx hb dX0_tour_89 (by decide) (fun k_13 => ?_) (fun k_13 => ?_)
            · refine lv_iinc (v := v5 + 1) (lv' := [(5, .int (v5 + 1)), (4, .int (v4 + u_11.1)), (7, .int 0), (6, .int u_5), (0, .ref h0), (1, .long v1), (3, .int v3)]) hx hb dX0_tour_95 hl (k := 6) rfl rfl (by decide) rfl (fun ls hl => ?_)
              refine lv_goto (tgt := 21) hx hb dX0_tour_98 (by decide) ?_
              exact ih v1 v3 (v4 + u_11.1) (v5 + 1) u_12.2 hf _ _ _ w (lv_sub hl [4, 5, 6, 1, 0] rfl)
            · exact absurd k_13 (by decide)
        · have hf := y_ifp k_9 hf
          refine lv_iconst (v := 1) hx hb dX0_tour_57 (by decide) ?_
          refine lv_goto (tgt := 62) hx hb dX0_tour_58 (by decide) ?_
          refine lv_istore (lv' := [(7, .int 1), (6, .int u_5), (0, .ref h0), (1, .long v1), (3, .int v3), (4, .int v4), (5, .int v5)]) hx hb dX0_tour_62 hl (by decide) rfl (fun ls hl => ?_)
          refine lv_iload hx hb dX0_tour_64 (lv_at hl 0 rfl) ?_
          refine lv_if_ne (tgt := 80) hx hb dX0_tour_66 (by decide) (fun k_14 => ?_) (fun k_14 => ?_)
          · refine lv_aload_n hx hb dX0_tour_80 rfl (lv_at hl 2 rfl) ?_
            refine lv_iconst (v := 1) hx hb dX0_tour_81 (by decide) ?_
            refine lv_iconst (v := 0) hx hb dX0_tour_82 (by decide) ?_
            obtain ⟨u_15, hu_15, hf⟩ := y_bd hf
            refine ycallI (n := 2) (r := u_15.1) (st2 := u_15.2) (rest := []) F hA (c0_letGo l D 1 0) gX0_tour_X0_letGo rfl (by decide +kernel) rfl ⟨Nat.le_of_ble_eq_true rfl, Nat.le_of_ble_eq_true rfl⟩ rfl hl.1 w hu_15 rfl (Nat.le_of_ble_eq_true rfl) ⟨Nat.zero_le _, Nat.zero_le _⟩ dX0_tour_83 (fun H locs w => ?_)
            refine lv_pop hx hb dX0_tour_86 rfl ?_
            refine lv_iload hx hb dX0_tour_87 (lv_at hl 0 rfl) ?_
            refine lv_if_eq (tgt := 95) hx hb dX0_tour_89 (by decide) (fun k_16 => ?_) (fun k_16 => ?_)
            · exact absurd k_16 (by decide)
            · refine lv_goto (tgt := 101) hx hb dX0_tour_92 (by decide) ?_
              refine lv_iload hx hb dX0_tour_101 (lv_at hl 5 rfl) ?_
              exact yret hret hf rfl w dX0_tour_103
          · exact absurd k_14 (by decide)
      · have hf := y_ifp k_7 hf
        refine lv_bipush (v := (-3)) hx hb dX0_tour_44 (by decide) ?_
        exact yret hret hf rfl w dX0_tour_46
set_option maxHeartbeats 4000000 in
set_option maxRecDepth 100000 in
theorem c0_tour (l : Launch) (D : va_G) (a1 : Int64) (a3 : Int32) : yMet l D 0 yX0_tour wsX0_tour 3 [.long a1, .int a3] (f0_tour a1 a3) := by
  refine yentI (cc := cX0_tour) (nL := 8) (ret := .int) (by decide) rfl (fun _ => Nat.le_of_ble_eq_true rfl) ?_
  intro h0 q1 q2 q3 cA r st2 p e s m args below meth c A Q F hA hret st hf H locs ls w hl
  have F : CallFix p m c cX0_tour 8 s args wsX0_tour RX0 := F
  have hx := F.1
  have hb := F.2.1
  have hl : lv_has ls 8 [(0, .ref h0), (1, .long a1), (3, .int a3)] := hl
  unfold f0_tour at hf
  refine lv_iload_n hx hb dX0_tour_0 rfl (lv_at hl 2 rfl) ?_
  obtain ⟨u_1, hu_1, hf⟩ := y_bd hf
  refine ycallSW (n := 1) (rest := []) F hA (c0_isRowLength l a3) gX0_tour_X0_isRowLength rfl (by decide +kernel) ⟨Nat.le_of_ble_eq_true rfl, Nat.le_of_ble_eq_true rfl⟩ rfl hl.1 w hu_1 rfl (Nat.le_of_ble_eq_true rfl) ⟨Nat.zero_le _, Nat.zero_le _⟩ dX0_tour_1 (fun H locs w => ?_)
  refine lv_if_ne (tgt := 10) hx hb dX0_tour_4 (by decide) (fun k_2 => ?_) (fun k_2 => ?_)
  · have hf := y_ifn k_2 hf
    refine lv_aload_n hx hb dX0_tour_10 rfl (lv_at hl 0 rfl) ?_
    refine lv_iconst (v := 0) hx hb dX0_tour_11 (by decide) ?_
    obtain ⟨st_3, hst_3, hf⟩ := y_bd hf
    refine yput0_8 F hin0_tour w (by decide +kernel) hst_3 dX0_tour_12 (fun H locs w => ?_)
    refine lv_iconst (v := 0) hx hb dX0_tour_15 (by decide) ?_
    refine lv_istore (lv' := [(4, .int 0), (0, .ref h0), (1, .long a1), (3, .int a3)]) hx hb dX0_tour_16 hl (by decide) rfl (fun ls hl => ?_)
    refine lv_iconst (v := 0) hx hb dX0_tour_18 (by decide) ?_
    refine lv_istore (lv' := [(5, .int 0), (4, .int 0), (0, .ref h0), (1, .long a1), (3, .int a3)]) hx hb dX0_tour_19 hl (by decide) rfl (fun ls hl => ?_)
    exact b0_tour_L21 F hA hret 40 a1 a3 0 0 st_3 hf _ _ _ w (lv_sub hl [2, 3, 4, 1, 0] rfl)
  · have hf := y_ifp k_2 hf
    refine lv_bipush (v := (-2)) hx hb dX0_tour_7 (by decide) ?_
    exact yret hret hf rfl w dX0_tour_9
theorem hin0_chain : ∀ w ∈ wsX00, w ∈ wsX0_chain := by decide +kernel
set_option maxHeartbeats 4000000 in
set_option maxRecDepth 100000 in
theorem b0_chain_L16 {l : Launch} {D : va_G} {h0 q1 q2 q3 : Nat} {cA : ClassId} {r : Int32} {st2 : St} {p : Program} {e : Env} {s : State} {m : MethodId} {args : Array Value} {below : List Frame} {meth : Method} {c : Code} {A : Nat → Prop} {Q : State → Prop} (F : CallFix p m c cX0_chain 7 s args wsX0_chain RX0) (hA : ∀ q, s.heap.size ≤ q → A q) (hret : yRetI D 0 h0 q1 q2 q3 cA p l e 2 s m args below meth c cX0_chain A Q .int r st2) : ∀ (n : Nat) (v1 : Int64) (v3 : Int32) (v4 : Int32) (v5 : Int32) (st : St), f0_chain_L16 n v1 v3 v4 v5 st = some (r, st2) → ∀ (H : Heap) (locs : List Loc) (ls : Array Slot), Wd D 0 h0 q1 q2 q3 cA A s st H locs → lv_has ls 7 [(0, .ref h0), (1, .long v1), (3, .int v3), (4, .int v4), (5, .int v5)] → W p l e (yrm 2) s m args below meth c H locs 0 0 Q (F0 m 16 ls []) := by
  have hx := F.1
  have hb := F.2.1
  intro n
  induction n with
  | zero =>
    intro v1 v3 v4 v5 st hf
    rw [f0_chain_L16] at hf
    cases hf
  | succ n ih =>
    intro v1 v3 v4 v5 st hf H locs ls w hl
    rw [f0_chain_L16] at hf
    refine lv_iload hx hb dX0_chain_16 (lv_at hl 4 rfl) ?_
    refine lv_iload_n hx hb dX0_chain_18 rfl (lv_at hl 2 rfl) ?_
    refine lv_icmp_ge (tgt := 66) hx hb dX0_chain_19 (by decide) (fun k_3 => ?_) (fun k_3 => ?_)
    · have hf := y_ifp k_3 hf
      refine lv_aload_n hx hb dX0_chain_66 rfl (lv_at hl 0 rfl) ?_
      refine lv_iload_n hx hb dX0_chain_67 rfl (lv_at hl 2 rfl) ?_
      refine lv_iload hx hb dX0_chain_68 (lv_at hl 3 rfl) ?_
      obtain ⟨u_4, hu_4, hf⟩ := y_bd hf
      refine ycallI (n := 2) (r := u_4.1) (st2 := u_4.2) (rest := []) F hA (c0_letGo l D v3 v4) gX0_chain_X0_letGo rfl (by decide +kernel) rfl ⟨Nat.le_of_ble_eq_true rfl, Nat.le_of_ble_eq_true rfl⟩ rfl hl.1 w hu_4 rfl (Nat.le_of_ble_eq_true rfl) ⟨Nat.zero_le _, Nat.zero_le _⟩ dX0_chain_70 (fun H locs w => ?_)
      exact yret hret hf rfl w dX0_chain_73
    · have hf := y_ifn k_3 hf
      refine lv_lload_n hx hb dX0_chain_22 rfl (lv_at hl 1 rfl) ?_
      refine lv_iload hx hb dX0_chain_23 (lv_at hl 4 rfl) ?_
      obtain ⟨u_5, hu_5, hf⟩ := y_bd hf
      refine ycallSW (n := 2) (rest := []) F hA (c0_trackOfRow l v1 v5) gX0_chain_X0_trackOfRow rfl (by decide +kernel) ⟨Nat.le_of_ble_eq_true rfl, Nat.le_of_ble_eq_true rfl⟩ rfl hl.1 w hu_5 rfl (Nat.le_of_ble_eq_true rfl) ⟨Nat.zero_le _, Nat.zero_le _⟩ dX0_chain_25 (fun H locs w => ?_)
      refine lv_istore (lv' := [(6, .int u_5), (0, .ref h0), (1, .long v1), (3, .int v3), (4, .int v4), (5, .int v5)]) hx hb dX0_chain_28 hl (by decide) rfl (fun ls hl => ?_)
      refine lv_aload_n hx hb dX0_chain_30 rfl (lv_at hl 1 rfl) ?_
      refine lv_iload hx hb dX0_chain_31 (lv_at hl 0 rfl) ?_
      obtain ⟨u_6, hu_6, hf⟩ := y_bd hf
      refine ycallI (n := 1) (r := u_6.1) (st2 := u_6.2) (rest := []) F hA (c0_hold l D u_5) gX0_chain_X0_hold rfl (by decide +kernel) rfl ⟨Nat.le_of_ble_eq_true rfl, Nat.le_of_ble_eq_true rfl⟩ rfl hl.1 w hu_6 rfl (Nat.le_of_ble_eq_true rfl) ⟨Nat.zero_le _, Nat.zero_le _⟩ dX0_chain_33 (fun H locs w => ?_)
      refine lv_if_ne (tgt := 48) hx hb dX0_chain_36 (by decide) (fun k_7 => ?_) (fun k_7 => ?_)
      · have hf := y_ifn k_7 hf
        refine lv_iload hx hb dX0_chain_48 (lv_at hl 4 rfl) ?_
        refine lv_aload_n hx hb dX0_chain_50 rfl (lv_at hl 1 rfl) ?_
        refine yget0 F hin0_chain w 1 (by decide) (by decide +kernel) (v := .ref q2) rfl dX0_chain_51 ?_
        refine lv_iload hx hb dX0_chain_54 (lv_at hl 0 rfl) ?_
        obtain ⟨x_8, hx_8, hf⟩ := y_bd hf
        refine yald1 F w hx_8 dX0_chain_56 ?_
        refine lv_iadd hx hb dX0_chain_57 ?_
        refine lv_istore (lv' := [(4, .int (v4 + x_8)), (6, .int u_5), (0, .ref h0), (1, .long v1), (3, .int v3), (5, .int v5)]) hx hb dX0_chain_58 hl (by decide) rfl (fun ls hl => ?_)
        refine lv_iinc (v := v5 + 1) (lv' := [(5, .int (v5 + 1)), (4, .int (v4 + x_8)), (6, .int u_5), (0, .ref h0), (1, .long v1), (3, .int v3)]) hx hb dX0_chain_60 hl (k := 5) rfl rfl (by decide) rfl (fun ls hl => ?_)
        refine lv_goto (tgt := 16) hx hb dX0_chain_63 (by decide) ?_
        exact ih v1 v3 (v4 + x_8) (v5 + 1) u_6.2 hf _ _ _ w (lv_sub hl [3, 4, 5, 1, 0] rfl)
      · have hf := y_ifp k_7 hf
        refine lv_aload_n hx hb dX0_chain_39 rfl (lv_at hl 1 rfl) ?_
        refine lv_iload hx hb dX0_chain_40 (lv_at hl 5 rfl) ?_
        refine lv_bipush (v := (-3)) hx hb dX0_chain_42 (by decide) ?_
        obtain ⟨u_9, hu_9, hf⟩ := y_bd hf
        refine ycallI (n := 2) (r := u_9.1) (st2 := u_9.2) (rest := []) F hA (c0_letGo l D v5 (-3)) gX0_chain_X0_letGo rfl (by decide +kernel) rfl ⟨Nat.le_of_ble_eq_true rfl, Nat.le_of_ble_eq_true rfl⟩ rfl hl.1 w hu_9 rfl (Nat.le_of_ble_eq_true rfl) ⟨Nat.zero_le _, Nat.zero_le _⟩ dX0_chain_44 (fun H locs w => ?_)
        exact yret hret hf rfl w dX0_chain_47
set_option maxHeartbeats 4000000 in
set_option maxRecDepth 100000 in
theorem c0_chain (l : Launch) (D : va_G) (a1 : Int64) (a3 : Int32) : yMet l D 0 yX0_chain wsX0_chain 2 [.long a1, .int a3] (f0_chain a1 a3) := by
  refine yentI (cc := cX0_chain) (nL := 7) (ret := .int) (by decide) rfl (fun _ => Nat.le_of_ble_eq_true rfl) ?_
  intro h0 q1 q2 q3 cA r st2 p e s m args below meth c A Q F hA hret st hf H locs ls w hl
  have F : CallFix p m c cX0_chain 7 s args wsX0_chain RX0 := F
  have hx := F.1
  have hb := F.2.1
  have hl : lv_has ls 7 [(0, .ref h0), (1, .long a1), (3, .int a3)] := hl
  unfold f0_chain at hf
  refine lv_iload_n hx hb dX0_chain_0 rfl (lv_at hl 2 rfl) ?_
  obtain ⟨u_1, hu_1, hf⟩ := y_bd hf
  refine ycallSW (n := 1) (rest := []) F hA (c0_isRowLength l a3) gX0_chain_X0_isRowLength rfl (by decide +kernel) ⟨Nat.le_of_ble_eq_true rfl, Nat.le_of_ble_eq_true rfl⟩ rfl hl.1 w hu_1 rfl (Nat.le_of_ble_eq_true rfl) ⟨Nat.zero_le _, Nat.zero_le _⟩ dX0_chain_1 (fun H locs w => ?_)
  refine lv_if_ne (tgt := 10) hx hb dX0_chain_4 (by decide) (fun k_2 => ?_) (fun k_2 => ?_)
  · have hf := y_ifn k_2 hf
    refine lv_iconst (v := 0) hx hb dX0_chain_10 (by decide) ?_
    refine lv_istore (lv' := [(4, .int 0), (0, .ref h0), (1, .long a1), (3, .int a3)]) hx hb dX0_chain_11 hl (by decide) rfl (fun ls hl => ?_)
    refine lv_iconst (v := 0) hx hb dX0_chain_13 (by decide) ?_
    refine lv_istore (lv' := [(5, .int 0), (4, .int 0), (0, .ref h0), (1, .long a1), (3, .int a3)]) hx hb dX0_chain_14 hl (by decide) rfl (fun ls hl => ?_)
    exact b0_chain_L16 F hA hret 40 a1 a3 0 0 st hf _ _ _ w (lv_sub hl [2, 3, 4, 1, 0] rfl)
  · have hf := y_ifp k_2 hf
    refine lv_bipush (v := (-2)) hx hb dX0_chain_7 (by decide) ?_
    exact yret hret hf rfl w dX0_chain_9
theorem hin0_survey : ∀ w ∈ wsX00, w ∈ wsX0_survey := by decide +kernel
set_option maxHeartbeats 4000000 in
set_option maxRecDepth 100000 in
theorem b0_survey_L16 {l : Launch} {D : va_G} {h0 q1 q2 q3 : Nat} {cA : ClassId} {r : Int32} {st2 : St} {p : Program} {e : Env} {s : State} {m : MethodId} {args : Array Value} {below : List Frame} {meth : Method} {c : Code} {A : Nat → Prop} {Q : State → Prop} (F : CallFix p m c cX0_survey 7 s args wsX0_survey RX0) (hA : ∀ q, s.heap.size ≤ q → A q) (hret : yRetI D 0 h0 q1 q2 q3 cA p l e 2 s m args below meth c cX0_survey A Q .int r st2) : ∀ (n : Nat) (v1 : Int64) (v3 : Int32) (v4 : Int32) (v5 : Int32) (st : St), f0_survey_L16 n v1 v3 v4 v5 st = some (r, st2) → ∀ (H : Heap) (locs : List Loc) (ls : Array Slot), Wd D 0 h0 q1 q2 q3 cA A s st H locs → lv_has ls 7 [(0, .ref h0), (1, .long v1), (3, .int v3), (4, .int v4), (5, .int v5)] → W p l e (yrm 2) s m args below meth c H locs 0 0 Q (F0 m 16 ls []) := by
  have hx := F.1
  have hb := F.2.1
  intro n
  induction n with
  | zero =>
    intro v1 v3 v4 v5 st hf
    rw [f0_survey_L16] at hf
    cases hf
  | succ n ih =>
    intro v1 v3 v4 v5 st hf H locs ls w hl
    rw [f0_survey_L16] at hf
    refine lv_iload hx hb dX0_survey_16 (lv_at hl 4 rfl) ?_
    refine lv_iload_n hx hb dX0_survey_18 rfl (lv_at hl 2 rfl) ?_
    refine lv_icmp_ge (tgt := 62) hx hb dX0_survey_19 (by decide) (fun k_3 => ?_) (fun k_3 => ?_)
    · have hf := y_ifp k_3 hf
      refine lv_iload hx hb dX0_survey_62 (lv_at hl 3 rfl) ?_
      exact yret hret hf rfl w dX0_survey_64
    · have hf := y_ifn k_3 hf
      refine lv_lload_n hx hb dX0_survey_22 rfl (lv_at hl 1 rfl) ?_
      refine lv_iload hx hb dX0_survey_23 (lv_at hl 4 rfl) ?_
      obtain ⟨u_4, hu_4, hf⟩ := y_bd hf
      refine ycallSW (n := 2) (rest := []) F hA (c0_trackOfRow l v1 v5) gX0_survey_X0_trackOfRow rfl (by decide +kernel) ⟨Nat.le_of_ble_eq_true rfl, Nat.le_of_ble_eq_true rfl⟩ rfl hl.1 w hu_4 rfl (Nat.le_of_ble_eq_true rfl) ⟨Nat.zero_le _, Nat.zero_le _⟩ dX0_survey_25 (fun H locs w => ?_)
      refine lv_istore (lv' := [(6, .int u_4), (0, .ref h0), (1, .long v1), (3, .int v3), (4, .int v4), (5, .int v5)]) hx hb dX0_survey_28 hl (by decide) rfl (fun ls hl => ?_)
      refine lv_aload_n hx hb dX0_survey_30 rfl (lv_at hl 1 rfl) ?_
      refine lv_iload hx hb dX0_survey_31 (lv_at hl 0 rfl) ?_
      obtain ⟨u_5, hu_5, hf⟩ := y_bd hf
      refine ycallI (n := 1) (r := u_5.1) (st2 := u_5.2) (rest := []) F hA (c0_hold l D u_4) gX0_survey_X0_hold rfl (by decide +kernel) rfl ⟨Nat.le_of_ble_eq_true rfl, Nat.le_of_ble_eq_true rfl⟩ rfl hl.1 w hu_5 rfl (Nat.le_of_ble_eq_true rfl) ⟨Nat.zero_le _, Nat.zero_le _⟩ dX0_survey_33 (fun H locs w => ?_)
      refine lv_if_eq (tgt := 56) hx hb dX0_survey_36 (by decide) (fun k_6 => ?_) (fun k_6 => ?_)
      · have hf := y_ifp k_6 hf
        refine lv_iinc (v := v5 + 1) (lv' := [(5, .int (v5 + 1)), (6, .int u_4), (0, .ref h0), (1, .long v1), (3, .int v3), (4, .int v4)]) hx hb dX0_survey_56 hl (k := 5) rfl rfl (by decide) rfl (fun ls hl => ?_)
        refine lv_goto (tgt := 16) hx hb dX0_survey_59 (by decide) ?_
        exact ih v1 v3 v4 (v5 + 1) u_5.2 hf _ _ _ w (lv_sub hl [2, 3, 4, 5, 0] rfl)
      · have hf := y_ifn k_6 hf
        refine lv_iload hx hb dX0_survey_39 (lv_at hl 4 rfl) ?_
        refine lv_aload_n hx hb dX0_survey_41 rfl (lv_at hl 1 rfl) ?_
        refine lv_iconst (v := 1) hx hb dX0_survey_42 (by decide) ?_
        refine lv_aload_n hx hb dX0_survey_43 rfl (lv_at hl 1 rfl) ?_
        refine yget0 F hin0_survey w 1 (by decide) (by decide +kernel) (v := .ref q2) rfl dX0_survey_44 ?_
        refine lv_iload hx hb dX0_survey_47 (lv_at hl 0 rfl) ?_
        obtain ⟨x_7, hx_7, hf⟩ := y_bd hf
        refine yald1 F w hx_7 dX0_survey_49 ?_
        obtain ⟨u_8, hu_8, hf⟩ := y_bd hf
        refine ycallI (n := 2) (r := u_8.1) (st2 := u_8.2) (rest := [.int v4]) F hA (c0_letGo l D 1 x_7) gX0_survey_X0_letGo rfl (by decide +kernel) rfl ⟨Nat.le_of_ble_eq_true rfl, Nat.le_of_ble_eq_true rfl⟩ rfl hl.1 w hu_8 rfl (Nat.le_of_ble_eq_true rfl) ⟨Nat.zero_le _, Nat.zero_le _⟩ dX0_survey_50 (fun H locs w => ?_)
        refine lv_iadd hx hb dX0_survey_53 ?_
        refine lv_istore (lv' := [(4, .int (v4 + u_8.1)), (6, .int u_4), (0, .ref h0), (1, .long v1), (3, .int v3), (5, .int v5)]) hx hb dX0_survey_54 hl (by decide) rfl (fun ls hl => ?_)
        refine lv_iinc (v := v5 + 1) (lv' := [(5, .int (v5 + 1)), (4, .int (v4 + u_8.1)), (6, .int u_4), (0, .ref h0), (1, .long v1), (3, .int v3)]) hx hb dX0_survey_56 hl (k := 5) rfl rfl (by decide) rfl (fun ls hl => ?_)
        refine lv_goto (tgt := 16) hx hb dX0_survey_59 (by decide) ?_
        exact ih v1 v3 (v4 + u_8.1) (v5 + 1) u_8.2 hf _ _ _ w (lv_sub hl [3, 4, 5, 1, 0] rfl)
set_option maxHeartbeats 4000000 in
set_option maxRecDepth 100000 in
theorem c0_survey (l : Launch) (D : va_G) (a1 : Int64) (a3 : Int32) : yMet l D 0 yX0_survey wsX0_survey 2 [.long a1, .int a3] (f0_survey a1 a3) := by
  refine yentI (cc := cX0_survey) (nL := 7) (ret := .int) (by decide) rfl (fun _ => Nat.le_of_ble_eq_true rfl) ?_
  intro h0 q1 q2 q3 cA r st2 p e s m args below meth c A Q F hA hret st hf H locs ls w hl
  have F : CallFix p m c cX0_survey 7 s args wsX0_survey RX0 := F
  have hx := F.1
  have hb := F.2.1
  have hl : lv_has ls 7 [(0, .ref h0), (1, .long a1), (3, .int a3)] := hl
  unfold f0_survey at hf
  refine lv_iload_n hx hb dX0_survey_0 rfl (lv_at hl 2 rfl) ?_
  obtain ⟨u_1, hu_1, hf⟩ := y_bd hf
  refine ycallSW (n := 1) (rest := []) F hA (c0_isRowLength l a3) gX0_survey_X0_isRowLength rfl (by decide +kernel) ⟨Nat.le_of_ble_eq_true rfl, Nat.le_of_ble_eq_true rfl⟩ rfl hl.1 w hu_1 rfl (Nat.le_of_ble_eq_true rfl) ⟨Nat.zero_le _, Nat.zero_le _⟩ dX0_survey_1 (fun H locs w => ?_)
  refine lv_if_ne (tgt := 10) hx hb dX0_survey_4 (by decide) (fun k_2 => ?_) (fun k_2 => ?_)
  · have hf := y_ifn k_2 hf
    refine lv_iconst (v := 0) hx hb dX0_survey_10 (by decide) ?_
    refine lv_istore (lv' := [(4, .int 0), (0, .ref h0), (1, .long a1), (3, .int a3)]) hx hb dX0_survey_11 hl (by decide) rfl (fun ls hl => ?_)
    refine lv_iconst (v := 0) hx hb dX0_survey_13 (by decide) ?_
    refine lv_istore (lv' := [(5, .int 0), (4, .int 0), (0, .ref h0), (1, .long a1), (3, .int a3)]) hx hb dX0_survey_14 hl (by decide) rfl (fun ls hl => ?_)
    exact b0_survey_L16 F hA hret 40 a1 a3 0 0 st hf _ _ _ w (lv_sub hl [2, 3, 4, 1, 0] rfl)
  · have hf := y_ifp k_2 hf
    refine lv_bipush (v := (-2)) hx hb dX0_survey_7 (by decide) ?_
    exact yret hret hf rfl w dX0_survey_9
theorem hin0_turn : ∀ w ∈ wsX00, w ∈ wsX0_turn := by decide +kernel
set_option maxHeartbeats 4000000 in
set_option maxRecDepth 100000 in
theorem b0_turn_L30 {l : Launch} {D : va_G} {h0 q1 q2 q3 : Nat} {cA : ClassId} {r : Int32} {st2 : St} {p : Program} {e : Env} {s : State} {m : MethodId} {args : Array Value} {below : List Frame} {meth : Method} {c : Code} {A : Nat → Prop} {Q : State → Prop} (F : CallFix p m c cX0_turn 4 s args wsX0_turn RX0) (hA : ∀ q, s.heap.size ≤ q → A q) (hret : yRetI D 0 h0 q1 q2 q3 cA p l e 2 s m args below meth c cX0_turn A Q .int r st2) : ∀ (n : Nat) (v1 : Int32) (v2 : Int32) (v3 : Int32) (st : St), f0_turn_L30 n v1 v2 v3 st = some (r, st2) → ∀ (H : Heap) (locs : List Loc) (ls : Array Slot), Wd D 0 h0 q1 q2 q3 cA A s st H locs → lv_has ls 4 [(0, .ref h0), (1, .int v1), (2, .int v2), (3, .int v3)] → W p l e (yrm 2) s m args below meth c H locs 0 0 Q (F0 m 30 ls []) := by
  have hx := F.1
  have hb := F.2.1
  intro n
  induction n with
  | zero =>
    intro v1 v2 v3 st hf
    rw [f0_turn_L30] at hf
    cases hf
  | succ n ih =>
    intro v1 v2 v3 st hf H locs ls w hl
    rw [f0_turn_L30] at hf
    refine lv_iload_n hx hb dX0_turn_30 rfl (lv_at hl 3 rfl) ?_
    refine lv_iload_n hx hb dX0_turn_31 rfl (lv_at hl 2 rfl) ?_
    refine lv_iconst (v := 2) hx hb dX0_turn_32 (by decide) ?_
    refine lv_idiv hx hb dX0_turn_33 (by decide) ?_
    refine lv_icmp_ge (tgt := 74) hx hb dX0_turn_34 (by decide) (fun k_6 => ?_) (fun k_6 => ?_)
    · have hf := y_ifp k_6 hf
      refine lv_aload_n hx hb dX0_turn_74 rfl (lv_at hl 0 rfl) ?_
      refine lv_iconst (v := 1) hx hb dX0_turn_75 (by decide) ?_
      refine lv_iload_n hx hb dX0_turn_76 rfl (lv_at hl 2 rfl) ?_
      obtain ⟨u_7, hu_7, hf⟩ := y_bd hf
      refine ycallI (n := 2) (r := u_7.1) (st2 := u_7.2) (rest := []) F hA (c0_letGo l D 1 v2) gX0_turn_X0_letGo rfl (by decide +kernel) rfl ⟨Nat.le_of_ble_eq_true rfl, Nat.le_of_ble_eq_true rfl⟩ rfl hl.1 w hu_7 rfl (Nat.le_of_ble_eq_true rfl) ⟨Nat.zero_le _, Nat.zero_le _⟩ dX0_turn_77 (fun H locs w => ?_)
      exact yret hret hf rfl w dX0_turn_80
    · have hf := y_ifn k_6 hf
      refine lv_aload_n hx hb dX0_turn_37 rfl (lv_at hl 0 rfl) ?_
      refine lv_iload_n hx hb dX0_turn_38 rfl (lv_at hl 1 rfl) ?_
      obtain ⟨u_8, hu_8, hf⟩ := y_bd hf
      refine ycallI (n := 1) (r := u_8.1) (st2 := u_8.2) (rest := []) F hA (c0_hold l D v1) gX0_turn_X0_hold rfl (by decide +kernel) rfl ⟨Nat.le_of_ble_eq_true rfl, Nat.le_of_ble_eq_true rfl⟩ rfl hl.1 w hu_8 rfl (Nat.le_of_ble_eq_true rfl) ⟨Nat.zero_le _, Nat.zero_le _⟩ dX0_turn_39 (fun H locs w => ?_)
      refine lv_pop hx hb dX0_turn_42 rfl ?_
      refine lv_aload_n hx hb dX0_turn_43 rfl (lv_at hl 0 rfl) ?_
      refine lv_iload_n hx hb dX0_turn_44 rfl (lv_at hl 1 rfl) ?_
      refine lv_iload_n hx hb dX0_turn_45 rfl (lv_at hl 3 rfl) ?_
      obtain ⟨u_9, hu_9, hf⟩ := y_bd hf
      refine ycallSW (n := 2) (rest := [.ref h0]) F hA (c0_place l v1 v3) gX0_turn_X0_place rfl (by decide +kernel) ⟨Nat.le_of_ble_eq_true rfl, Nat.le_of_ble_eq_true rfl⟩ rfl hl.1 w hu_9 rfl (Nat.le_of_ble_eq_true rfl) ⟨Nat.zero_le _, Nat.zero_le _⟩ dX0_turn_46 (fun H locs w => ?_)
      refine lv_iload_n hx hb dX0_turn_49 rfl (lv_at hl 1 rfl) ?_
      refine lv_iload_n hx hb dX0_turn_50 rfl (lv_at hl 2 rfl) ?_
      refine lv_iconst (v := 1) hx hb dX0_turn_51 (by decide) ?_
      refine lv_isub hx hb dX0_turn_52 ?_
      refine lv_iload_n hx hb dX0_turn_53 rfl (lv_at hl 3 rfl) ?_
      refine lv_isub hx hb dX0_turn_54 ?_
      obtain ⟨u_10, hu_10, hf⟩ := y_bd hf
      refine ycallSW (n := 2) (rest := [.int u_9, .ref h0]) F hA (c0_place l v1 ((v2 - 1) - v3)) gX0_turn_X0_place rfl (by decide +kernel) ⟨Nat.le_of_ble_eq_true rfl, Nat.le_of_ble_eq_true rfl⟩ rfl hl.1 w hu_10 rfl (Nat.le_of_ble_eq_true rfl) ⟨Nat.zero_le _, Nat.zero_le _⟩ dX0_turn_55 (fun H locs w => ?_)
      obtain ⟨u_11, hu_11, hf⟩ := y_bd hf
      refine ycallV (n := 2) (r := u_11.1) (st2 := u_11.2) (rest := []) F hA (c0_exchangePlaces l D u_9 u_10) gX0_turn_X0_exchangePlaces rfl (by decide +kernel) rfl ⟨Nat.le_of_ble_eq_true rfl, Nat.le_of_ble_eq_true rfl⟩ rfl hl.1 w hu_11 rfl (Nat.le_of_ble_eq_true rfl) ⟨Nat.zero_le _, Nat.zero_le _⟩ dX0_turn_58 (fun H locs w => ?_)
      refine lv_aload_n hx hb dX0_turn_61 rfl (lv_at hl 0 rfl) ?_
      refine lv_iconst (v := 1) hx hb dX0_turn_62 (by decide) ?_
      refine lv_iconst (v := 0) hx hb dX0_turn_63 (by decide) ?_
      obtain ⟨u_12, hu_12, hf⟩ := y_bd hf
      refine ycallI (n := 2) (r := u_12.1) (st2 := u_12.2) (rest := []) F hA (c0_letGo l D 1 0) gX0_turn_X0_letGo rfl (by decide +kernel) rfl ⟨Nat.le_of_ble_eq_true rfl, Nat.le_of_ble_eq_true rfl⟩ rfl hl.1 w hu_12 rfl (Nat.le_of_ble_eq_true rfl) ⟨Nat.zero_le _, Nat.zero_le _⟩ dX0_turn_64 (fun H locs w => ?_)
      refine lv_pop hx hb dX0_turn_67 rfl ?_
      refine lv_iinc (v := v3 + 1) (lv' := [(3, .int (v3 + 1)), (0, .ref h0), (1, .int v1), (2, .int v2)]) hx hb dX0_turn_68 hl (k := 3) rfl rfl (by decide) rfl (fun ls hl => ?_)
      refine lv_goto (tgt := 30) hx hb dX0_turn_71 (by decide) ?_
      exact ih v1 v2 (v3 + 1) u_12.2 hf _ _ _ w (lv_sub hl [1, 2, 3, 0] rfl)
set_option maxHeartbeats 4000000 in
set_option maxRecDepth 100000 in
theorem c0_turn (l : Launch) (D : va_G) (a1 : Int32) : yMet l D 0 yX0_turn wsX0_turn 2 [.int a1] (f0_turn a1) := by
  refine yentI (cc := cX0_turn) (nL := 4) (ret := .int) (by decide) rfl (fun _ => Nat.le_of_ble_eq_true rfl) ?_
  intro h0 q1 q2 q3 cA r st2 p e s m args below meth c A Q F hA hret st hf H locs ls w hl
  have F : CallFix p m c cX0_turn 4 s args wsX0_turn RX0 := F
  have hx := F.1
  have hb := F.2.1
  have hl : lv_has ls 4 [(0, .ref h0), (1, .int a1)] := hl
  unfold f0_turn at hf
  refine lv_iload_n hx hb dX0_turn_0 rfl (lv_at hl 1 rfl) ?_
  obtain ⟨u_1, hu_1, hf⟩ := y_bd hf
  refine ycallSW (n := 1) (rest := []) F hA (c0_isTrack l a1) gX0_turn_X0_isTrack rfl (by decide +kernel) ⟨Nat.le_of_ble_eq_true rfl, Nat.le_of_ble_eq_true rfl⟩ rfl hl.1 w hu_1 rfl (Nat.le_of_ble_eq_true rfl) ⟨Nat.zero_le _, Nat.zero_le _⟩ dX0_turn_1 (fun H locs w => ?_)
  refine lv_if_ne (tgt := 10) hx hb dX0_turn_4 (by decide) (fun k_2 => ?_) (fun k_2 => ?_)
  · have hf := y_ifn k_2 hf
    refine lv_aload_n hx hb dX0_turn_10 rfl (lv_at hl 0 rfl) ?_
    refine lv_iload_n hx hb dX0_turn_11 rfl (lv_at hl 1 rfl) ?_
    obtain ⟨u_3, hu_3, hf⟩ := y_bd hf
    refine ycallI (n := 1) (r := u_3.1) (st2 := u_3.2) (rest := []) F hA (c0_hold l D a1) gX0_turn_X0_hold rfl (by decide +kernel) rfl ⟨Nat.le_of_ble_eq_true rfl, Nat.le_of_ble_eq_true rfl⟩ rfl hl.1 w hu_3 rfl (Nat.le_of_ble_eq_true rfl) ⟨Nat.zero_le _, Nat.zero_le _⟩ dX0_turn_12 (fun H locs w => ?_)
    refine lv_if_ne (tgt := 21) hx hb dX0_turn_15 (by decide) (fun k_4 => ?_) (fun k_4 => ?_)
    · have hf := y_ifn k_4 hf
      refine lv_aload_n hx hb dX0_turn_21 rfl (lv_at hl 0 rfl) ?_
      refine yget0 F hin0_turn w 1 (by decide) (by decide +kernel) (v := .ref q2) rfl dX0_turn_22 ?_
      refine lv_iload_n hx hb dX0_turn_25 rfl (lv_at hl 1 rfl) ?_
      obtain ⟨x_5, hx_5, hf⟩ := y_bd hf
      refine yald1 F w hx_5 dX0_turn_26 ?_
      refine lv_istore_n (lv' := [(2, .int x_5), (0, .ref h0), (1, .int a1)]) hx hb dX0_turn_27 rfl hl (by decide) rfl (fun ls hl => ?_)
      refine lv_iconst (v := 0) hx hb dX0_turn_28 (by decide) ?_
      refine lv_istore_n (lv' := [(3, .int 0), (2, .int x_5), (0, .ref h0), (1, .int a1)]) hx hb dX0_turn_29 rfl hl (by decide) rfl (fun ls hl => ?_)
      exact b0_turn_L30 F hA hret 40 a1 x_5 0 u_3.2 hf _ _ _ w (lv_sub hl [2, 3, 1, 0] rfl)
    · have hf := y_ifp k_4 hf
      refine lv_bipush (v := (-3)) hx hb dX0_turn_18 (by decide) ?_
      exact yret hret hf rfl w dX0_turn_20
  · have hf := y_ifp k_2 hf
    refine lv_bipush (v := (-2)) hx hb dX0_turn_7 (by decide) ?_
    exact yret hret hf rfl w dX0_turn_9
set_option maxHeartbeats 4000000 in
set_option maxRecDepth 100000 in
theorem c0_swap (l : Launch) (D : va_G) (a1 : Int32) (a2 : Int32) : yMet l D 0 yX0_swap wsX0_swap 2 [.int a1, .int a2] (f0_swap a1 a2) := by
  refine yentI (cc := cX0_swap) (nL := 3) (ret := .int) (by decide) rfl (fun _ => Nat.le_of_ble_eq_true rfl) ?_
  intro h0 q1 q2 q3 cA r st2 p e s m args below meth c A Q F hA hret st hf H locs ls w hl
  have F : CallFix p m c cX0_swap 3 s args wsX0_swap RX0 := F
  have hx := F.1
  have hb := F.2.1
  have hl : lv_has ls 3 [(0, .ref h0), (1, .int a1), (2, .int a2)] := hl
  unfold f0_swap at hf
  refine lv_iload_n hx hb dX0_swap_0 rfl (lv_at hl 1 rfl) ?_
  obtain ⟨u_1, hu_1, hf⟩ := y_bd hf
  refine ycallSW (n := 1) (rest := []) F hA (c0_isTrack l a1) gX0_swap_X0_isTrack rfl (by decide +kernel) ⟨Nat.le_of_ble_eq_true rfl, Nat.le_of_ble_eq_true rfl⟩ rfl hl.1 w hu_1 rfl (Nat.le_of_ble_eq_true rfl) ⟨Nat.zero_le _, Nat.zero_le _⟩ dX0_swap_1 (fun H locs w => ?_)
  refine lv_if_eq (tgt := 14) hx hb dX0_swap_4 (by decide) (fun k_2 => ?_) (fun k_2 => ?_)
  · have hf := y_ifp k_2 hf
    refine lv_bipush (v := (-2)) hx hb dX0_swap_14 (by decide) ?_
    exact yret hret hf rfl w dX0_swap_16
  · have hf := y_ifn k_2 hf
    refine lv_iload_n hx hb dX0_swap_7 rfl (lv_at hl 2 rfl) ?_
    obtain ⟨u_3, hu_3, hf⟩ := y_bd hf
    refine ycallSW (n := 1) (rest := []) F hA (c0_isTrack l a2) gX0_swap_X0_isTrack rfl (by decide +kernel) ⟨Nat.le_of_ble_eq_true rfl, Nat.le_of_ble_eq_true rfl⟩ rfl hl.1 w hu_3 rfl (Nat.le_of_ble_eq_true rfl) ⟨Nat.zero_le _, Nat.zero_le _⟩ dX0_swap_8 (fun H locs w => ?_)
    refine lv_if_ne (tgt := 17) hx hb dX0_swap_11 (by decide) (fun k_4 => ?_) (fun k_4 => ?_)
    · have hf := y_ifn k_4 hf
      refine lv_aload_n hx hb dX0_swap_17 rfl (lv_at hl 0 rfl) ?_
      refine lv_iload_n hx hb dX0_swap_18 rfl (lv_at hl 1 rfl) ?_
      obtain ⟨u_5, hu_5, hf⟩ := y_bd hf
      refine ycallI (n := 1) (r := u_5.1) (st2 := u_5.2) (rest := []) F hA (c0_hold l D a1) gX0_swap_X0_hold rfl (by decide +kernel) rfl ⟨Nat.le_of_ble_eq_true rfl, Nat.le_of_ble_eq_true rfl⟩ rfl hl.1 w hu_5 rfl (Nat.le_of_ble_eq_true rfl) ⟨Nat.zero_le _, Nat.zero_le _⟩ dX0_swap_19 (fun H locs w => ?_)
      refine lv_if_ne (tgt := 28) hx hb dX0_swap_22 (by decide) (fun k_6 => ?_) (fun k_6 => ?_)
      · have hf := y_ifn k_6 hf
        refine lv_aload_n hx hb dX0_swap_28 rfl (lv_at hl 0 rfl) ?_
        refine lv_iload_n hx hb dX0_swap_29 rfl (lv_at hl 2 rfl) ?_
        obtain ⟨u_7, hu_7, hf⟩ := y_bd hf
        refine ycallI (n := 1) (r := u_7.1) (st2 := u_7.2) (rest := []) F hA (c0_hold l D a2) gX0_swap_X0_hold rfl (by decide +kernel) rfl ⟨Nat.le_of_ble_eq_true rfl, Nat.le_of_ble_eq_true rfl⟩ rfl hl.1 w hu_7 rfl (Nat.le_of_ble_eq_true rfl) ⟨Nat.zero_le _, Nat.zero_le _⟩ dX0_swap_30 (fun H locs w => ?_)
        refine lv_if_ne (tgt := 44) hx hb dX0_swap_33 (by decide) (fun k_8 => ?_) (fun k_8 => ?_)
        · have hf := y_ifn k_8 hf
          refine lv_aload_n hx hb dX0_swap_44 rfl (lv_at hl 0 rfl) ?_
          refine lv_iload_n hx hb dX0_swap_45 rfl (lv_at hl 1 rfl) ?_
          obtain ⟨u_9, hu_9, hf⟩ := y_bd hf
          refine ycallI (n := 1) (r := u_9.1) (st2 := u_9.2) (rest := []) F hA (c0_hold l D a1) gX0_swap_X0_hold rfl (by decide +kernel) rfl ⟨Nat.le_of_ble_eq_true rfl, Nat.le_of_ble_eq_true rfl⟩ rfl hl.1 w hu_9 rfl (Nat.le_of_ble_eq_true rfl) ⟨Nat.zero_le _, Nat.zero_le _⟩ dX0_swap_46 (fun H locs w => ?_)
          refine lv_pop hx hb dX0_swap_49 rfl ?_
          refine lv_aload_n hx hb dX0_swap_50 rfl (lv_at hl 0 rfl) ?_
          refine lv_iconst (v := 3) hx hb dX0_swap_51 (by decide) ?_
          refine lv_aload_n hx hb dX0_swap_52 rfl (lv_at hl 0 rfl) ?_
          refine lv_iload_n hx hb dX0_swap_53 rfl (lv_at hl 1 rfl) ?_
          refine lv_iload_n hx hb dX0_swap_54 rfl (lv_at hl 2 rfl) ?_
          obtain ⟨u_10, hu_10, hf⟩ := y_bd hf
          refine ycallI (n := 2) (r := u_10.1) (st2 := u_10.2) (rest := [.int 3, .ref h0]) F hA (c0_exchangeRows l D a1 a2) gX0_swap_X0_exchangeRows rfl (by decide +kernel) rfl ⟨Nat.le_of_ble_eq_true rfl, Nat.le_of_ble_eq_true rfl⟩ rfl hl.1 w hu_10 rfl (Nat.le_of_ble_eq_true rfl) ⟨Nat.zero_le _, Nat.zero_le _⟩ dX0_swap_55 (fun H locs w => ?_)
          obtain ⟨u_11, hu_11, hf⟩ := y_bd hf
          refine ycallI (n := 2) (r := u_11.1) (st2 := u_11.2) (rest := []) F hA (c0_letGo l D 3 u_10.1) gX0_swap_X0_letGo rfl (by decide +kernel) rfl ⟨Nat.le_of_ble_eq_true rfl, Nat.le_of_ble_eq_true rfl⟩ rfl hl.1 w hu_11 rfl (Nat.le_of_ble_eq_true rfl) ⟨Nat.zero_le _, Nat.zero_le _⟩ dX0_swap_58 (fun H locs w => ?_)
          exact yret hret hf rfl w dX0_swap_61
        · have hf := y_ifp k_8 hf
          refine lv_aload_n hx hb dX0_swap_36 rfl (lv_at hl 0 rfl) ?_
          refine lv_iconst (v := 1) hx hb dX0_swap_37 (by decide) ?_
          refine lv_bipush (v := (-3)) hx hb dX0_swap_38 (by decide) ?_
          obtain ⟨u_12, hu_12, hf⟩ := y_bd hf
          refine ycallI (n := 2) (r := u_12.1) (st2 := u_12.2) (rest := []) F hA (c0_letGo l D 1 (-3)) gX0_swap_X0_letGo rfl (by decide +kernel) rfl ⟨Nat.le_of_ble_eq_true rfl, Nat.le_of_ble_eq_true rfl⟩ rfl hl.1 w hu_12 rfl (Nat.le_of_ble_eq_true rfl) ⟨Nat.zero_le _, Nat.zero_le _⟩ dX0_swap_40 (fun H locs w => ?_)
          exact yret hret hf rfl w dX0_swap_43
      · have hf := y_ifp k_6 hf
        refine lv_bipush (v := (-3)) hx hb dX0_swap_25 (by decide) ?_
        exact yret hret hf rfl w dX0_swap_27
    · have hf := y_ifp k_4 hf
      refine lv_bipush (v := (-2)) hx hb dX0_swap_14 (by decide) ?_
      exact yret hret hf rfl w dX0_swap_16
theorem hin0_wagon : ∀ w ∈ wsX00, w ∈ wsX0_wagon := by decide +kernel
set_option maxHeartbeats 4000000 in
set_option maxRecDepth 100000 in
theorem c0_wagon (l : Launch) (D : va_G) (a1 : Int32) (a2 : Int32) : yMet l D 0 yX0_wagon wsX0_wagon 1 [.int a1, .int a2] (f0_wagon a1 a2) := by
  refine yentI (cc := cX0_wagon) (nL := 3) (ret := .int) (by decide) rfl (fun _ => Nat.le_of_ble_eq_true rfl) ?_
  intro h0 q1 q2 q3 cA r st2 p e s m args below meth c A Q F hA hret st hf H locs ls w hl
  have F : CallFix p m c cX0_wagon 3 s args wsX0_wagon RX0 := F
  have hx := F.1
  have hb := F.2.1
  have hl : lv_has ls 3 [(0, .ref h0), (1, .int a1), (2, .int a2)] := hl
  unfold f0_wagon at hf
  refine lv_iload_n hx hb dX0_wagon_0 rfl (lv_at hl 1 rfl) ?_
  obtain ⟨u_1, hu_1, hf⟩ := y_bd hf
  refine ycallSW (n := 1) (rest := []) F hA (c0_isTrack l a1) gX0_wagon_X0_isTrack rfl (by decide +kernel) ⟨Nat.le_of_ble_eq_true rfl, Nat.le_of_ble_eq_true rfl⟩ rfl hl.1 w hu_1 rfl (Nat.le_of_ble_eq_true rfl) ⟨Nat.zero_le _, Nat.zero_le _⟩ dX0_wagon_1 (fun H locs w => ?_)
  refine lv_if_ne (tgt := 10) hx hb dX0_wagon_4 (by decide) (fun k_2 => ?_) (fun k_2 => ?_)
  · have hf := y_ifn k_2 hf
    refine lv_iload_n hx hb dX0_wagon_10 rfl (lv_at hl 2 rfl) ?_
    refine lv_if_lt (tgt := 24) hx hb dX0_wagon_11 (by decide) (fun k_3 => ?_) (fun k_3 => ?_)
    · have hf := y_ifp k_3 hf
      refine lv_iconst (v := 0) hx hb dX0_wagon_24 (by decide) ?_
      exact yret hret hf rfl w dX0_wagon_25
    · have hf := y_ifn k_3 hf
      refine lv_iload_n hx hb dX0_wagon_14 rfl (lv_at hl 2 rfl) ?_
      refine lv_aload_n hx hb dX0_wagon_15 rfl (lv_at hl 0 rfl) ?_
      refine yget0 F hin0_wagon w 1 (by decide) (by decide +kernel) (v := .ref q2) rfl dX0_wagon_16 ?_
      refine lv_iload_n hx hb dX0_wagon_19 rfl (lv_at hl 1 rfl) ?_
      obtain ⟨x_4, hx_4, hf⟩ := y_bd hf
      refine yald1 F w hx_4 dX0_wagon_20 ?_
      refine lv_icmp_lt (tgt := 26) hx hb dX0_wagon_21 (by decide) (fun k_5 => ?_) (fun k_5 => ?_)
      · have hf := y_ifp k_5 hf
        refine lv_aload_n hx hb dX0_wagon_26 rfl (lv_at hl 0 rfl) ?_
        refine yget0 F hin0_wagon w 2 (by decide) (by decide +kernel) (v := .ref q3) rfl dX0_wagon_27 ?_
        refine lv_iload_n hx hb dX0_wagon_30 rfl (lv_at hl 1 rfl) ?_
        refine lv_iload_n hx hb dX0_wagon_31 rfl (lv_at hl 2 rfl) ?_
        obtain ⟨u_6, hu_6, hf⟩ := y_bd hf
        refine ycallSW (n := 2) (rest := [.ref q3]) F hA (c0_place l a1 a2) gX0_wagon_X0_place rfl (by decide +kernel) ⟨Nat.le_of_ble_eq_true rfl, Nat.le_of_ble_eq_true rfl⟩ rfl hl.1 w hu_6 rfl (Nat.le_of_ble_eq_true rfl) ⟨Nat.zero_le _, Nat.zero_le _⟩ dX0_wagon_32 (fun H locs w => ?_)
        obtain ⟨x_7, hx_7, hf⟩ := y_bd hf
        refine yald2 F w hx_7 dX0_wagon_35 ?_
        exact yret hret hf rfl w dX0_wagon_36
      · have hf := y_ifn k_5 hf
        refine lv_iconst (v := 0) hx hb dX0_wagon_24 (by decide) ?_
        exact yret hret hf rfl w dX0_wagon_25
  · have hf := y_ifp k_2 hf
    refine lv_bipush (v := (-2)) hx hb dX0_wagon_7 (by decide) ?_
    exact yret hret hf rfl w dX0_wagon_9
theorem hin0_told : ∀ w ∈ wsX00, w ∈ wsX0_told := by decide +kernel
set_option maxHeartbeats 4000000 in
set_option maxRecDepth 100000 in
theorem c0_told (l : Launch) (D : va_G) (a1 : Int32) : yMet l D 0 yX0_told wsX0_told 2 [.int a1] (f0_told a1) := by
  refine yentI (cc := cX0_told) (nL := 2) (ret := .int) (by decide) rfl (fun _ => Nat.le_of_ble_eq_true rfl) ?_
  intro h0 q1 q2 q3 cA r st2 p e s m args below meth c A Q F hA hret st hf H locs ls w hl
  have F : CallFix p m c cX0_told 2 s args wsX0_told RX0 := F
  have hx := F.1
  have hb := F.2.1
  have hl : lv_has ls 2 [(0, .ref h0), (1, .int a1)] := hl
  unfold f0_told at hf
  refine lv_iload_n hx hb dX0_told_0 rfl (lv_at hl 1 rfl) ?_
  by_cases k_1 : a1 = 0
  · have hf := y_ifp k_1 hf
    refine lv_tableIn (off := 43) (tgt := 44) hx hb dX0_told_1 (by rw [k_1]; decide) (by rw [k_1]; decide) (by rw [k_1]; decide) (by decide) ?_
    refine lv_aload_n hx hb dX0_told_44 rfl (lv_at hl 0 rfl) ?_
    refine yget0 F hin0_told w 3 (by decide) (by decide +kernel) (v := .int (yG3 st)) rfl dX0_told_45 ?_
    exact yret hret hf rfl w dX0_told_48
  have hf := y_ifn k_1 hf
  by_cases k_2 : a1 = 1
  · have hf := y_ifp k_2 hf
    refine lv_tableIn (off := 48) (tgt := 49) hx hb dX0_told_1 (by rw [k_2]; decide) (by rw [k_2]; decide) (by rw [k_2]; decide) (by decide) ?_
    refine lv_aload_n hx hb dX0_told_49 rfl (lv_at hl 0 rfl) ?_
    refine yget0 F hin0_told w 4 (by decide) (by decide +kernel) (v := .int (yG4 st)) rfl dX0_told_50 ?_
    exact yret hret hf rfl w dX0_told_53
  have hf := y_ifn k_2 hf
  by_cases k_3 : a1 = 2
  · have hf := y_ifp k_3 hf
    refine lv_tableIn (off := 53) (tgt := 54) hx hb dX0_told_1 (by rw [k_3]; decide) (by rw [k_3]; decide) (by rw [k_3]; decide) (by decide) ?_
    refine lv_aload_n hx hb dX0_told_54 rfl (lv_at hl 0 rfl) ?_
    refine yget0 F hin0_told w 5 (by decide) (by decide +kernel) (v := .int (yG5 st)) rfl dX0_told_55 ?_
    exact yret hret hf rfl w dX0_told_58
  have hf := y_ifn k_3 hf
  by_cases k_4 : a1 = 3
  · have hf := y_ifp k_4 hf
    refine lv_tableIn (off := 58) (tgt := 59) hx hb dX0_told_1 (by rw [k_4]; decide) (by rw [k_4]; decide) (by rw [k_4]; decide) (by decide) ?_
    refine lv_aload_n hx hb dX0_told_59 rfl (lv_at hl 0 rfl) ?_
    refine yget0 F hin0_told w 6 (by decide) (by decide +kernel) (v := .int (yG6 st)) rfl dX0_told_60 ?_
    exact yret hret hf rfl w dX0_told_63
  have hf := y_ifn k_4 hf
  by_cases k_5 : a1 = 4
  · have hf := y_ifp k_5 hf
    refine lv_tableIn (off := 63) (tgt := 64) hx hb dX0_told_1 (by rw [k_5]; decide) (by rw [k_5]; decide) (by rw [k_5]; decide) (by decide) ?_
    refine lv_aload_n hx hb dX0_told_64 rfl (lv_at hl 0 rfl) ?_
    refine yget0 F hin0_told w 7 (by decide) (by decide +kernel) (v := .int (yG7 st)) rfl dX0_told_65 ?_
    exact yret hret hf rfl w dX0_told_68
  have hf := y_ifn k_5 hf
  by_cases k_6 : a1 = 5
  · have hf := y_ifp k_6 hf
    refine lv_tableIn (off := 68) (tgt := 69) hx hb dX0_told_1 (by rw [k_6]; decide) (by rw [k_6]; decide) (by rw [k_6]; decide) (by decide) ?_
    refine lv_aload_n hx hb dX0_told_69 rfl (lv_at hl 0 rfl) ?_
    refine yget0 F hin0_told w 8 (by decide) (by decide +kernel) (v := .int (yG8 st)) rfl dX0_told_70 ?_
    exact yret hret hf rfl w dX0_told_73
  have hf := y_ifn k_6 hf
  by_cases k_7 : a1 = 6
  · have hf := y_ifp k_7 hf
    refine lv_tableIn (off := 73) (tgt := 74) hx hb dX0_told_1 (by rw [k_7]; decide) (by rw [k_7]; decide) (by rw [k_7]; decide) (by decide) ?_
    refine lv_aload_n hx hb dX0_told_74 rfl (lv_at hl 0 rfl) ?_
    obtain ⟨u_8, hu_8, hf⟩ := y_bd hf
    refine ycallI (n := 0) (r := u_8.1) (st2 := u_8.2) (rest := []) F hA (c0_tracksThere l D) gX0_told_X0_tracksThere rfl (by decide +kernel) rfl ⟨Nat.le_of_ble_eq_true rfl, Nat.le_of_ble_eq_true rfl⟩ rfl hl.1 w hu_8 rfl (Nat.le_of_ble_eq_true rfl) ⟨Nat.zero_le _, Nat.zero_le _⟩ dX0_told_75 (fun H locs w => ?_)
    exact yret hret hf rfl w dX0_told_78
  have hf := y_ifn k_7 hf
  refine lv_tableOut (tgt := 79) hx hb dX0_told_1 (by have g0 := lv_neT (a := 0) k_1 rfl; have g1 := lv_neT (a := 1) k_2 rfl; have g2 := lv_neT (a := 2) k_3 rfl; have g3 := lv_neT (a := 3) k_4 rfl; have g4 := lv_neT (a := 4) k_5 rfl; have g5 := lv_neT (a := 5) k_6 rfl; have g6 := lv_neT (a := 6) k_7 rfl; omega) (by decide) ?_
  refine lv_bipush (v := (-2)) hx hb dX0_told_79 (by decide) ?_
  exact yret hret hf rfl w dX0_told_81
end
section
theorem y_bool {a b c r : Int32} (h : f1_in a b c = some r) : narrow .boolean (.int r) = .int r := by
  unfold f1_in at h
  by_cases h1 : a < b
  · rw [if_pos h1] at h; cases h; rfl
  · rw [if_neg h1] at h
    by_cases h2 : c < a
    · rw [if_pos h2] at h; cases h; rfl
    · rw [if_neg h2] at h; cases h; rfl
set_option maxHeartbeats 4000000 in
set_option maxRecDepth 100000 in
theorem c1_in (l : Launch) (a0 : Int32) (a1 : Int32) (a2 : Int32) : yMetS l yX1_in wsX1_in 0 [.int a0, .int a1, .int a2] (f1_in a0 a1 a2) := by
  refine yentS (cc := cX1_in) (nL := 3) (ret := .boolean) (by decide) rfl (Nat.le_of_ble_eq_true rfl) ?_
  intro r p e s m args below meth c A Q F hA hret hf H locs ls hS hl
  have F : CallFix p m c cX1_in 3 s args wsX1_in RX1 := F
  have hx := F.1
  have hb := F.2.1
  have hl : lv_has ls 3 [(0, .int a0), (1, .int a1), (2, .int a2)] := hl
  unfold f1_in at hf
  refine lv_iload_n hx hb dX1_in_0 rfl (lv_at hl 0 rfl) ?_
  refine lv_iload_n hx hb dX1_in_1 rfl (lv_at hl 1 rfl) ?_
  refine lv_icmp_lt (tgt := 14) hx hb dX1_in_2 (by decide) (fun k_1 => ?_) (fun k_1 => ?_)
  · have hf := y_ifp k_1 hf
    refine lv_iconst (v := 0) hx hb dX1_in_14 (by decide) ?_
    exact yretS hret hf rfl hS dX1_in_15
  · have hf := y_ifn k_1 hf
    refine lv_iload_n hx hb dX1_in_5 rfl (lv_at hl 0 rfl) ?_
    refine lv_iload_n hx hb dX1_in_6 rfl (lv_at hl 2 rfl) ?_
    refine lv_icmp_gt (tgt := 14) hx hb dX1_in_7 (by decide) (fun k_2 => ?_) (fun k_2 => ?_)
    · have hf := y_ifp k_2 hf
      refine lv_iconst (v := 0) hx hb dX1_in_14 (by decide) ?_
      exact yretS hret hf rfl hS dX1_in_15
    · have hf := y_ifn k_2 hf
      refine lv_iconst (v := 1) hx hb dX1_in_10 (by decide) ?_
      refine lv_goto (tgt := 15) hx hb dX1_in_11 (by decide) ?_
      exact yretS hret hf rfl hS dX1_in_15
set_option maxHeartbeats 4000000 in
set_option maxRecDepth 100000 in
theorem c1_isTrack (l : Launch) (a0 : Int32) : yMetS l yX1_isTrack wsX1_isTrack 1 [.int a0] (f1_isTrack a0) := by
  refine yentS (cc := cX1_isTrack) (nL := 1) (ret := .boolean) (by decide) rfl (Nat.le_of_ble_eq_true rfl) ?_
  intro r p e s m args below meth c A Q F hA hret hf H locs ls hS hl
  have F : CallFix p m c cX1_isTrack 1 s args wsX1_isTrack RX1 := F
  have hx := F.1
  have hb := F.2.1
  have hl : lv_has ls 1 [(0, .int a0)] := hl
  unfold f1_isTrack at hf
  refine lv_iload_n hx hb dX1_isTrack_0 rfl (lv_at hl 0 rfl) ?_
  refine lv_iconst (v := 0) hx hb dX1_isTrack_1 (by decide) ?_
  refine lv_bipush (v := 7) hx hb dX1_isTrack_2 (by decide) ?_
  obtain ⟨u_1, hu_1, hf⟩ := y_bd hf
  refine ycallS (n := 3) (rest := []) F hA (c1_in l a0 0 7) gX1_isTrack_X1_in rfl (by decide +kernel) ⟨Nat.le_of_ble_eq_true rfl, Nat.le_of_ble_eq_true rfl⟩ rfl hl.1 hS hu_1 rfl (Nat.le_of_ble_eq_true rfl) ⟨Nat.zero_le _, Nat.zero_le _⟩ dX1_isTrack_4 (fun H locs _ hS => ?_)
  exact yretS hret hf (y_bool hu_1) hS dX1_isTrack_7
theorem hin1_holds : ∀ w ∈ wsX10, w ∈ wsX1_holds := by decide +kernel
set_option maxHeartbeats 4000000 in
set_option maxRecDepth 100000 in
theorem c1_holds (l : Launch) (D : va_G) (a1 : Int32) : yMet l D 1 yX1_holds wsX1_holds 0 [.int a1] (f1_holds a1) := by
  refine yentI (cc := cX1_holds) (nL := 2) (ret := .boolean) (by decide) rfl (fun _ => Nat.le_of_ble_eq_true rfl) ?_
  intro h0 q1 q2 q3 cA r st2 p e s m args below meth c A Q F hA hret st hf H locs ls w hl
  have F : CallFix p m c cX1_holds 2 s args wsX1_holds RX1 := F
  have hx := F.1
  have hb := F.2.1
  have hl : lv_has ls 2 [(0, .ref h0), (1, .int a1)] := hl
  unfold f1_holds at hf
  refine lv_aload_n hx hb dX1_holds_0 rfl (lv_at hl 0 rfl) ?_
  refine lv_dup hx hb dX1_holds_1 rfl ?_
  refine yget1 F hin1_holds w 3 (by decide) (by decide +kernel) (v := .int (yG3 st)) rfl dX1_holds_2 ?_
  refine lv_iconst (v := 1) hx hb dX1_holds_5 (by decide) ?_
  refine lv_iadd hx hb dX1_holds_6 ?_
  obtain ⟨st_1, hst_1, hf⟩ := y_bd hf
  refine yput1_3 F hin1_holds w (by decide +kernel) hst_1 dX1_holds_7 (fun H locs w => ?_)
  refine lv_aload_n hx hb dX1_holds_10 rfl (lv_at hl 0 rfl) ?_
  refine yget1 F hin1_holds w 0 (by decide) (by decide +kernel) (v := .ref q1) rfl dX1_holds_11 ?_
  refine lv_iload_n hx hb dX1_holds_14 rfl (lv_at hl 1 rfl) ?_
  obtain ⟨x_2, hx_2, hf⟩ := y_bd hf
  refine yald0 F w hx_2 dX1_holds_15 ?_
  refine lv_if_ne (tgt := 21) hx hb dX1_holds_16 (by decide) (fun k_3 => ?_) (fun k_3 => ?_)
  · have hf := y_ifn k_3 hf
    refine lv_aload_n hx hb dX1_holds_21 rfl (lv_at hl 0 rfl) ?_
    refine lv_dup hx hb dX1_holds_22 rfl ?_
    refine yget1 F hin1_holds w 4 (by decide) (by decide +kernel) (v := .int (yG4 st_1)) rfl dX1_holds_23 ?_
    refine lv_iconst (v := 1) hx hb dX1_holds_26 (by decide) ?_
    refine lv_iadd hx hb dX1_holds_27 ?_
    obtain ⟨st_4, hst_4, hf⟩ := y_bd hf
    refine yput1_4 F hin1_holds w (by decide +kernel) hst_4 dX1_holds_28 (fun H locs w => ?_)
    refine lv_aload_n hx hb dX1_holds_31 rfl (lv_at hl 0 rfl) ?_
    refine lv_dup hx hb dX1_holds_32 rfl ?_
    refine yget1 F hin1_holds w 6 (by decide) (by decide +kernel) (v := .int (yG6 st_4)) rfl dX1_holds_33 ?_
    refine lv_iconst (v := 1) hx hb dX1_holds_36 (by decide) ?_
    refine lv_iadd hx hb dX1_holds_37 ?_
    obtain ⟨st_5, hst_5, hf⟩ := y_bd hf
    refine yput1_6 F hin1_holds w (by decide +kernel) hst_5 dX1_holds_38 (fun H locs w => ?_)
    refine lv_aload_n hx hb dX1_holds_41 rfl (lv_at hl 0 rfl) ?_
    refine lv_aload_n hx hb dX1_holds_42 rfl (lv_at hl 0 rfl) ?_
    refine yget1 F hin1_holds w 6 (by decide) (by decide +kernel) (v := .int (yG6 st_5)) rfl dX1_holds_43 ?_
    refine lv_aload_n hx hb dX1_holds_46 rfl (lv_at hl 0 rfl) ?_
    refine yget1 F hin1_holds w 7 (by decide) (by decide +kernel) (v := .int (yG7 st_5)) rfl dX1_holds_47 ?_
    refine lv_icmp_le (tgt := 60) hx hb dX1_holds_50 (by decide) (fun k_6 => ?_) (fun k_6 => ?_)
    · have hf := y_ifp k_6 hf
      refine lv_aload_n hx hb dX1_holds_60 rfl (lv_at hl 0 rfl) ?_
      refine yget1 F hin1_holds w 7 (by decide) (by decide +kernel) (v := .int (yG7 st_5)) rfl dX1_holds_61 ?_
      obtain ⟨st_7, hst_7, hf⟩ := y_bd hf
      refine yput1_7 F hin1_holds w (by decide +kernel) hst_7 dX1_holds_64 (fun H locs w => ?_)
      refine lv_iconst (v := 1) hx hb dX1_holds_67 (by decide) ?_
      exact yret hret hf rfl w dX1_holds_68
    · have hf := y_ifn k_6 hf
      refine lv_aload_n hx hb dX1_holds_53 rfl (lv_at hl 0 rfl) ?_
      refine yget1 F hin1_holds w 6 (by decide) (by decide +kernel) (v := .int (yG6 st_5)) rfl dX1_holds_54 ?_
      refine lv_goto (tgt := 64) hx hb dX1_holds_57 (by decide) ?_
      obtain ⟨st_8, hst_8, hf⟩ := y_bd hf
      refine yput1_7 F hin1_holds w (by decide +kernel) hst_8 dX1_holds_64 (fun H locs w => ?_)
      refine lv_iconst (v := 1) hx hb dX1_holds_67 (by decide) ?_
      exact yret hret hf rfl w dX1_holds_68
  · have hf := y_ifp k_3 hf
    refine lv_iconst (v := 0) hx hb dX1_holds_19 (by decide) ?_
    exact yret hret hf rfl w dX1_holds_20
theorem hin1_goes : ∀ w ∈ wsX10, w ∈ wsX1_goes := by decide +kernel
set_option maxHeartbeats 4000000 in
set_option maxRecDepth 100000 in
theorem c1_goes (l : Launch) (D : va_G) (a1 : Int32) (a2 : Int32) : yMet l D 1 yX1_goes wsX1_goes 0 [.int a1, .int a2] (f1_goes a1 a2) := by
  refine yentI (cc := cX1_goes) (nL := 3) (ret := .int) (by decide) rfl (fun _ => Nat.le_of_ble_eq_true rfl) ?_
  intro h0 q1 q2 q3 cA r st2 p e s m args below meth c A Q F hA hret st hf H locs ls w hl
  have F : CallFix p m c cX1_goes 3 s args wsX1_goes RX1 := F
  have hx := F.1
  have hb := F.2.1
  have hl : lv_has ls 3 [(0, .ref h0), (1, .int a1), (2, .int a2)] := hl
  unfold f1_goes at hf
  refine lv_aload_n hx hb dX1_goes_0 rfl (lv_at hl 0 rfl) ?_
  refine lv_dup hx hb dX1_goes_1 rfl ?_
  refine yget1 F hin1_goes w 6 (by decide) (by decide +kernel) (v := .int (yG6 st)) rfl dX1_goes_2 ?_
  refine lv_iload_n hx hb dX1_goes_5 rfl (lv_at hl 1 rfl) ?_
  refine lv_isub hx hb dX1_goes_6 ?_
  obtain ⟨st_1, hst_1, hf⟩ := y_bd hf
  refine yput1_6 F hin1_goes w (by decide +kernel) hst_1 dX1_goes_7 (fun H locs w => ?_)
  refine lv_iload_n hx hb dX1_goes_10 rfl (lv_at hl 2 rfl) ?_
  refine lv_if_ge (tgt := 24) hx hb dX1_goes_11 (by decide) (fun k_2 => ?_) (fun k_2 => ?_)
  · have hf := y_ifp k_2 hf
    refine lv_iload_n hx hb dX1_goes_24 rfl (lv_at hl 2 rfl) ?_
    exact yret hret hf rfl w dX1_goes_25
  · have hf := y_ifn k_2 hf
    refine lv_aload_n hx hb dX1_goes_14 rfl (lv_at hl 0 rfl) ?_
    refine lv_dup hx hb dX1_goes_15 rfl ?_
    refine yget1 F hin1_goes w 5 (by decide) (by decide +kernel) (v := .int (yG5 st_1)) rfl dX1_goes_16 ?_
    refine lv_iload_n hx hb dX1_goes_19 rfl (lv_at hl 1 rfl) ?_
    refine lv_iadd hx hb dX1_goes_20 ?_
    obtain ⟨st_3, hst_3, hf⟩ := y_bd hf
    refine yput1_5 F hin1_goes w (by decide +kernel) hst_3 dX1_goes_21 (fun H locs w => ?_)
    refine lv_iload_n hx hb dX1_goes_24 rfl (lv_at hl 2 rfl) ?_
    exact yret hret hf rfl w dX1_goes_25
theorem hin1_last : ∀ w ∈ wsX10, w ∈ wsX1_last := by decide +kernel
set_option maxHeartbeats 4000000 in
set_option maxRecDepth 100000 in
theorem c1_last (l : Launch) (D : va_G) (a1 : Int32) : yMet l D 1 yX1_last wsX1_last 0 [.int a1] (f1_last a1) := by
  refine yentI (cc := cX1_last) (nL := 2) (ret := .int) (by decide) rfl (fun _ => Nat.le_of_ble_eq_true rfl) ?_
  intro h0 q1 q2 q3 cA r st2 p e s m args below meth c A Q F hA hret st hf H locs ls w hl
  have F : CallFix p m c cX1_last 2 s args wsX1_last RX1 := F
  have hx := F.1
  have hb := F.2.1
  have hl : lv_has ls 2 [(0, .ref h0), (1, .int a1)] := hl
  unfold f1_last at hf
  refine lv_aload_n hx hb dX1_last_0 rfl (lv_at hl 0 rfl) ?_
  refine yget1 F hin1_last w 2 (by decide) (by decide +kernel) (v := .ref q3) rfl dX1_last_1 ?_
  refine lv_bipush (v := 12) hx hb dX1_last_4 (by decide) ?_
  refine lv_iload_n hx hb dX1_last_6 rfl (lv_at hl 1 rfl) ?_
  refine lv_imul hx hb dX1_last_7 ?_
  refine lv_aload_n hx hb dX1_last_8 rfl (lv_at hl 0 rfl) ?_
  refine yget1 F hin1_last w 1 (by decide) (by decide +kernel) (v := .ref q2) rfl dX1_last_9 ?_
  refine lv_iload_n hx hb dX1_last_12 rfl (lv_at hl 1 rfl) ?_
  obtain ⟨x_1, hx_1, hf⟩ := y_bd hf
  refine yald1 F w hx_1 dX1_last_13 ?_
  refine lv_iadd hx hb dX1_last_14 ?_
  refine lv_iconst (v := 1) hx hb dX1_last_15 (by decide) ?_
  refine lv_isub hx hb dX1_last_16 ?_
  obtain ⟨x_2, hx_2, hf⟩ := y_bd hf
  refine yald2 F w hx_2 dX1_last_17 ?_
  exact yret hret hf rfl w dX1_last_18
theorem hin1_come : ∀ w ∈ wsX10, w ∈ wsX1_come := by decide +kernel
set_option maxHeartbeats 4000000 in
set_option maxRecDepth 100000 in
theorem c1_come (l : Launch) (D : va_G) (a1 : Int32) (a2 : Int32) : yMetV l D 1 yX1_come wsX1_come 0 [.int a1, .int a2] (f1_come a1 a2) := by
  refine yentV (cc := cX1_come) (nL := 3) (by decide) rfl (fun _ => Nat.le_of_ble_eq_true rfl) ?_
  intro h0 q1 q2 q3 cA r st2 p e s m args below meth c A Q F hA hret st hf H locs ls w hl
  have F : CallFix p m c cX1_come 3 s args wsX1_come RX1 := F
  have hx := F.1
  have hb := F.2.1
  have hl : lv_has ls 3 [(0, .ref h0), (1, .int a1), (2, .int a2)] := hl
  unfold f1_come at hf
  refine lv_aload_n hx hb dX1_come_0 rfl (lv_at hl 0 rfl) ?_
  refine yget1 F hin1_come w 2 (by decide) (by decide +kernel) (v := .ref q3) rfl dX1_come_1 ?_
  refine lv_bipush (v := 12) hx hb dX1_come_4 (by decide) ?_
  refine lv_iload_n hx hb dX1_come_6 rfl (lv_at hl 1 rfl) ?_
  refine lv_imul hx hb dX1_come_7 ?_
  refine lv_aload_n hx hb dX1_come_8 rfl (lv_at hl 0 rfl) ?_
  refine yget1 F hin1_come w 1 (by decide) (by decide +kernel) (v := .ref q2) rfl dX1_come_9 ?_
  refine lv_iload_n hx hb dX1_come_12 rfl (lv_at hl 1 rfl) ?_
  obtain ⟨x_1, hx_1, hf⟩ := y_bd hf
  refine yald1 F w hx_1 dX1_come_13 ?_
  refine lv_iadd hx hb dX1_come_14 ?_
  refine lv_iload_n hx hb dX1_come_15 rfl (lv_at hl 2 rfl) ?_
  obtain ⟨st_2, hst_2, hf⟩ := y_bd hf
  refine yast2 F w hst_2 dX1_come_16 (fun H locs w => ?_)
  refine lv_aload_n hx hb dX1_come_17 rfl (lv_at hl 0 rfl) ?_
  refine yget1 F hin1_come w 1 (by decide) (by decide +kernel) (v := .ref q2) rfl dX1_come_18 ?_
  refine lv_iload_n hx hb dX1_come_21 rfl (lv_at hl 1 rfl) ?_
  refine lv_dup2_11 hx hb dX1_come_22 rfl rfl ?_
  obtain ⟨x_3, hx_3, hf⟩ := y_bd hf
  refine yald1 F w hx_3 dX1_come_23 ?_
  refine lv_iconst (v := 1) hx hb dX1_come_24 (by decide) ?_
  refine lv_iadd hx hb dX1_come_25 ?_
  obtain ⟨st_4, hst_4, hf⟩ := y_bd hf
  refine yast1 F w hst_4 dX1_come_26 (fun H locs w => ?_)
  exact yretV hret hf w dX1_come_27
theorem hin1_isFull : ∀ w ∈ wsX10, w ∈ wsX1_isFull := by decide +kernel
set_option maxHeartbeats 4000000 in
set_option maxRecDepth 100000 in
theorem c1_isFull (l : Launch) (D : va_G) (a1 : Int32) : yMet l D 1 yX1_isFull wsX1_isFull 0 [.int a1] (f1_isFull a1) := by
  refine yentI (cc := cX1_isFull) (nL := 2) (ret := .boolean) (by decide) rfl (fun _ => Nat.le_of_ble_eq_true rfl) ?_
  intro h0 q1 q2 q3 cA r st2 p e s m args below meth c A Q F hA hret st hf H locs ls w hl
  have F : CallFix p m c cX1_isFull 2 s args wsX1_isFull RX1 := F
  have hx := F.1
  have hb := F.2.1
  have hl : lv_has ls 2 [(0, .ref h0), (1, .int a1)] := hl
  unfold f1_isFull at hf
  refine lv_aload_n hx hb dX1_isFull_0 rfl (lv_at hl 0 rfl) ?_
  refine yget1 F hin1_isFull w 1 (by decide) (by decide +kernel) (v := .ref q2) rfl dX1_isFull_1 ?_
  refine lv_iload_n hx hb dX1_isFull_4 rfl (lv_at hl 1 rfl) ?_
  obtain ⟨x_1, hx_1, hf⟩ := y_bd hf
  refine yald1 F w hx_1 dX1_isFull_5 ?_
  refine lv_aload_n hx hb dX1_isFull_6 rfl (lv_at hl 0 rfl) ?_
  refine yget1 F hin1_isFull w 0 (by decide) (by decide +kernel) (v := .ref q1) rfl dX1_isFull_7 ?_
  refine lv_iload_n hx hb dX1_isFull_10 rfl (lv_at hl 1 rfl) ?_
  obtain ⟨x_2, hx_2, hf⟩ := y_bd hf
  refine yald0 F w hx_2 dX1_isFull_11 ?_
  refine lv_icmp_ne (tgt := 19) hx hb dX1_isFull_12 (by decide) (fun k_3 => ?_) (fun k_3 => ?_)
  · have hf := y_ifn k_3 hf
    refine lv_iconst (v := 0) hx hb dX1_isFull_19 (by decide) ?_
    exact yret hret hf rfl w dX1_isFull_20
  · have hf := y_ifp k_3 hf
    refine lv_iconst (v := 1) hx hb dX1_isFull_15 (by decide) ?_
    refine lv_goto (tgt := 20) hx hb dX1_isFull_16 (by decide) ?_
    exact yret hret hf rfl w dX1_isFull_20
set_option maxHeartbeats 4000000 in
set_option maxRecDepth 100000 in
theorem c1_trackOf (l : Launch) (a0 : Int64) (a2 : Int32) : yMetS l yX1_trackOf wsX1_trackOf 0 [.long a0, .int a2] (f1_trackOf a0 a2) := by
  refine yentS (cc := cX1_trackOf) (nL := 3) (ret := .int) (by decide) rfl (Nat.le_of_ble_eq_true rfl) ?_
  intro r p e s m args below meth c A Q F hA hret hf H locs ls hS hl
  have F : CallFix p m c cX1_trackOf 3 s args wsX1_trackOf RX1 := F
  have hx := F.1
  have hb := F.2.1
  have hl : lv_has ls 3 [(0, .long a0), (2, .int a2)] := hl
  unfold f1_trackOf at hf
  refine lv_lload_n hx hb dX1_trackOf_0 rfl (lv_at hl 0 rfl) ?_
  refine lv_iconst (v := 3) hx hb dX1_trackOf_1 (by decide) ?_
  refine lv_iload_n hx hb dX1_trackOf_2 rfl (lv_at hl 1 rfl) ?_
  refine lv_imul hx hb dX1_trackOf_3 ?_
  refine lv_lshr hx hb dX1_trackOf_4 rfl ?_
  refine lv_l2i hx hb dX1_trackOf_5 rfl ?_
  refine lv_bipush (v := 7) hx hb dX1_trackOf_6 (by decide) ?_
  refine lv_iand hx hb dX1_trackOf_8 ?_
  exact yretS hret hf rfl hS dX1_trackOf_9
end
section
theorem hin1_lay : ∀ w ∈ wsX10, w ∈ wsX1_lay := by decide +kernel
set_option maxHeartbeats 4000000 in
set_option maxRecDepth 100000 in
theorem c1_lay (l : Launch) (D : va_G) (a1 : Int32) (a2 : Int32) : yMet l D 1 yX1_lay wsX1_lay 2 [.int a1, .int a2] (f1_lay a1 a2) := by
  refine yentI (cc := cX1_lay) (nL := 3) (ret := .int) (by decide) rfl (fun _ => Nat.le_of_ble_eq_true rfl) ?_
  intro h0 q1 q2 q3 cA r st2 p e s m args below meth c A Q F hA hret st hf H locs ls w hl
  have F : CallFix p m c cX1_lay 3 s args wsX1_lay RX1 := F
  have hx := F.1
  have hb := F.2.1
  have hl : lv_has ls 3 [(0, .ref h0), (1, .int a1), (2, .int a2)] := hl
  unfold f1_lay at hf
  refine lv_iload_n hx hb dX1_lay_0 rfl (lv_at hl 1 rfl) ?_
  obtain ⟨u_1, hu_1, hf⟩ := y_bd hf
  refine ycallSW (n := 1) (rest := []) F hA (c1_isTrack l a1) gX1_lay_X1_isTrack rfl (by decide +kernel) ⟨Nat.le_of_ble_eq_true rfl, Nat.le_of_ble_eq_true rfl⟩ rfl hl.1 w hu_1 rfl (Nat.le_of_ble_eq_true rfl) ⟨Nat.zero_le _, Nat.zero_le _⟩ dX1_lay_1 (fun H locs w => ?_)
  refine lv_if_eq (tgt := 17) hx hb dX1_lay_4 (by decide) (fun k_2 => ?_) (fun k_2 => ?_)
  · have hf := y_ifp k_2 hf
    refine lv_bipush (v := (-2)) hx hb dX1_lay_17 (by decide) ?_
    exact yret hret hf rfl w dX1_lay_19
  · have hf := y_ifn k_2 hf
    refine lv_iload_n hx hb dX1_lay_7 rfl (lv_at hl 2 rfl) ?_
    refine lv_iconst (v := 1) hx hb dX1_lay_8 (by decide) ?_
    refine lv_bipush (v := 12) hx hb dX1_lay_9 (by decide) ?_
    obtain ⟨u_3, hu_3, hf⟩ := y_bd hf
    refine ycallSW (n := 3) (rest := []) F hA (c1_in l a2 1 12) gX1_lay_X1_in rfl (by decide +kernel) ⟨Nat.le_of_ble_eq_true rfl, Nat.le_of_ble_eq_true rfl⟩ rfl hl.1 w hu_3 rfl (Nat.le_of_ble_eq_true rfl) ⟨Nat.zero_le _, Nat.zero_le _⟩ dX1_lay_11 (fun H locs w => ?_)
    refine lv_if_ne (tgt := 20) hx hb dX1_lay_14 (by decide) (fun k_4 => ?_) (fun k_4 => ?_)
    · have hf := y_ifn k_4 hf
      refine lv_aload_n hx hb dX1_lay_20 rfl (lv_at hl 0 rfl) ?_
      refine yget1 F hin1_lay w 0 (by decide) (by decide +kernel) (v := .ref q1) rfl dX1_lay_21 ?_
      refine lv_iload_n hx hb dX1_lay_24 rfl (lv_at hl 1 rfl) ?_
      obtain ⟨x_5, hx_5, hf⟩ := y_bd hf
      refine yald0 F w hx_5 dX1_lay_25 ?_
      refine lv_if_le (tgt := 31) hx hb dX1_lay_26 (by decide) (fun k_6 => ?_) (fun k_6 => ?_)
      · have hf := y_ifp k_6 hf
        refine lv_aload_n hx hb dX1_lay_31 rfl (lv_at hl 0 rfl) ?_
        refine yget1 F hin1_lay w 0 (by decide) (by decide +kernel) (v := .ref q1) rfl dX1_lay_32 ?_
        refine lv_iload_n hx hb dX1_lay_35 rfl (lv_at hl 1 rfl) ?_
        refine lv_iload_n hx hb dX1_lay_36 rfl (lv_at hl 2 rfl) ?_
        obtain ⟨st_7, hst_7, hf⟩ := y_bd hf
        refine yast0 F w hst_7 dX1_lay_37 (fun H locs w => ?_)
        refine lv_aload_n hx hb dX1_lay_38 rfl (lv_at hl 0 rfl) ?_
        refine yget1 F hin1_lay w 1 (by decide) (by decide +kernel) (v := .ref q2) rfl dX1_lay_39 ?_
        refine lv_iload_n hx hb dX1_lay_42 rfl (lv_at hl 1 rfl) ?_
        refine lv_iconst (v := 0) hx hb dX1_lay_43 (by decide) ?_
        obtain ⟨st_8, hst_8, hf⟩ := y_bd hf
        refine yast1 F w hst_8 dX1_lay_44 (fun H locs w => ?_)
        refine lv_iconst (v := 1) hx hb dX1_lay_45 (by decide) ?_
        exact yret hret hf rfl w dX1_lay_46
      · have hf := y_ifn k_6 hf
        refine lv_iconst (v := 0) hx hb dX1_lay_29 (by decide) ?_
        exact yret hret hf rfl w dX1_lay_30
    · have hf := y_ifp k_4 hf
      refine lv_bipush (v := (-2)) hx hb dX1_lay_17 (by decide) ?_
      exact yret hret hf rfl w dX1_lay_19
theorem hin1_lift : ∀ w ∈ wsX10, w ∈ wsX1_lift := by decide +kernel
set_option maxHeartbeats 4000000 in
set_option maxRecDepth 100000 in
theorem c1_lift (l : Launch) (D : va_G) (a1 : Int32) : yMet l D 1 yX1_lift wsX1_lift 2 [.int a1] (f1_lift a1) := by
  refine yentI (cc := cX1_lift) (nL := 3) (ret := .int) (by decide) rfl (fun _ => Nat.le_of_ble_eq_true rfl) ?_
  intro h0 q1 q2 q3 cA r st2 p e s m args below meth c A Q F hA hret st hf H locs ls w hl
  have F : CallFix p m c cX1_lift 3 s args wsX1_lift RX1 := F
  have hx := F.1
  have hb := F.2.1
  have hl : lv_has ls 3 [(0, .ref h0), (1, .int a1)] := hl
  unfold f1_lift at hf
  refine lv_iload_n hx hb dX1_lift_0 rfl (lv_at hl 1 rfl) ?_
  obtain ⟨u_1, hu_1, hf⟩ := y_bd hf
  refine ycallSW (n := 1) (rest := []) F hA (c1_isTrack l a1) gX1_lift_X1_isTrack rfl (by decide +kernel) ⟨Nat.le_of_ble_eq_true rfl, Nat.le_of_ble_eq_true rfl⟩ rfl hl.1 w hu_1 rfl (Nat.le_of_ble_eq_true rfl) ⟨Nat.zero_le _, Nat.zero_le _⟩ dX1_lift_1 (fun H locs w => ?_)
  refine lv_if_ne (tgt := 10) hx hb dX1_lift_4 (by decide) (fun k_2 => ?_) (fun k_2 => ?_)
  · have hf := y_ifn k_2 hf
    refine lv_aload_n hx hb dX1_lift_10 rfl (lv_at hl 0 rfl) ?_
    refine yget1 F hin1_lift w 0 (by decide) (by decide +kernel) (v := .ref q1) rfl dX1_lift_11 ?_
    refine lv_iload_n hx hb dX1_lift_14 rfl (lv_at hl 1 rfl) ?_
    obtain ⟨x_3, hx_3, hf⟩ := y_bd hf
    refine yald0 F w hx_3 dX1_lift_15 ?_
    refine lv_if_ne (tgt := 22) hx hb dX1_lift_16 (by decide) (fun k_4 => ?_) (fun k_4 => ?_)
    · have hf := y_ifn k_4 hf
      refine lv_aload_n hx hb dX1_lift_22 rfl (lv_at hl 0 rfl) ?_
      refine yget1 F hin1_lift w 1 (by decide) (by decide +kernel) (v := .ref q2) rfl dX1_lift_23 ?_
      refine lv_iload_n hx hb dX1_lift_26 rfl (lv_at hl 1 rfl) ?_
      obtain ⟨x_5, hx_5, hf⟩ := y_bd hf
      refine yald1 F w hx_5 dX1_lift_27 ?_
      refine lv_istore_n (lv' := [(2, .int x_5), (0, .ref h0), (1, .int a1)]) hx hb dX1_lift_28 rfl hl (by decide) rfl (fun ls hl => ?_)
      refine lv_aload_n hx hb dX1_lift_29 rfl (lv_at hl 1 rfl) ?_
      refine yget1 F hin1_lift w 0 (by decide) (by decide +kernel) (v := .ref q1) rfl dX1_lift_30 ?_
      refine lv_iload_n hx hb dX1_lift_33 rfl (lv_at hl 2 rfl) ?_
      refine lv_iconst (v := 0) hx hb dX1_lift_34 (by decide) ?_
      obtain ⟨st_6, hst_6, hf⟩ := y_bd hf
      refine yast0 F w hst_6 dX1_lift_35 (fun H locs w => ?_)
      refine lv_aload_n hx hb dX1_lift_36 rfl (lv_at hl 1 rfl) ?_
      refine yget1 F hin1_lift w 1 (by decide) (by decide +kernel) (v := .ref q2) rfl dX1_lift_37 ?_
      refine lv_iload_n hx hb dX1_lift_40 rfl (lv_at hl 2 rfl) ?_
      refine lv_iconst (v := 0) hx hb dX1_lift_41 (by decide) ?_
      obtain ⟨st_7, hst_7, hf⟩ := y_bd hf
      refine yast1 F w hst_7 dX1_lift_42 (fun H locs w => ?_)
      refine lv_iload_n hx hb dX1_lift_43 rfl (lv_at hl 0 rfl) ?_
      exact yret hret hf rfl w dX1_lift_44
    · have hf := y_ifp k_4 hf
      refine lv_bipush (v := (-3)) hx hb dX1_lift_19 (by decide) ?_
      exact yret hret hf rfl w dX1_lift_21
  · have hf := y_ifp k_2 hf
    refine lv_bipush (v := (-2)) hx hb dX1_lift_7 (by decide) ?_
    exact yret hret hf rfl w dX1_lift_9
theorem hin1_couple : ∀ w ∈ wsX10, w ∈ wsX1_couple := by decide +kernel
set_option maxHeartbeats 4000000 in
set_option maxRecDepth 100000 in
theorem c1_couple (l : Launch) (D : va_G) (a1 : Int32) (a2 : Int32) : yMet l D 1 yX1_couple wsX1_couple 2 [.int a1, .int a2] (f1_couple a1 a2) := by
  refine yentI (cc := cX1_couple) (nL := 3) (ret := .int) (by decide) rfl (fun _ => Nat.le_of_ble_eq_true rfl) ?_
  intro h0 q1 q2 q3 cA r st2 p e s m args below meth c A Q F hA hret st hf H locs ls w hl
  have F : CallFix p m c cX1_couple 3 s args wsX1_couple RX1 := F
  have hx := F.1
  have hb := F.2.1
  have hl : lv_has ls 3 [(0, .ref h0), (1, .int a1), (2, .int a2)] := hl
  unfold f1_couple at hf
  refine lv_iload_n hx hb dX1_couple_0 rfl (lv_at hl 1 rfl) ?_
  obtain ⟨u_1, hu_1, hf⟩ := y_bd hf
  refine ycallSW (n := 1) (rest := []) F hA (c1_isTrack l a1) gX1_couple_X1_isTrack rfl (by decide +kernel) ⟨Nat.le_of_ble_eq_true rfl, Nat.le_of_ble_eq_true rfl⟩ rfl hl.1 w hu_1 rfl (Nat.le_of_ble_eq_true rfl) ⟨Nat.zero_le _, Nat.zero_le _⟩ dX1_couple_1 (fun H locs w => ?_)
  refine lv_if_eq (tgt := 18) hx hb dX1_couple_4 (by decide) (fun k_2 => ?_) (fun k_2 => ?_)
  · have hf := y_ifp k_2 hf
    refine lv_bipush (v := (-2)) hx hb dX1_couple_18 (by decide) ?_
    exact yret hret hf rfl w dX1_couple_20
  · have hf := y_ifn k_2 hf
    refine lv_iload_n hx hb dX1_couple_7 rfl (lv_at hl 2 rfl) ?_
    refine lv_iconst (v := 1) hx hb dX1_couple_8 (by decide) ?_
    refine lv_sipush (v := 999) hx hb dX1_couple_9 (by decide) ?_
    obtain ⟨u_3, hu_3, hf⟩ := y_bd hf
    refine ycallSW (n := 3) (rest := []) F hA (c1_in l a2 1 999) gX1_couple_X1_in rfl (by decide +kernel) ⟨Nat.le_of_ble_eq_true rfl, Nat.le_of_ble_eq_true rfl⟩ rfl hl.1 w hu_3 rfl (Nat.le_of_ble_eq_true rfl) ⟨Nat.zero_le _, Nat.zero_le _⟩ dX1_couple_12 (fun H locs w => ?_)
    refine lv_if_ne (tgt := 21) hx hb dX1_couple_15 (by decide) (fun k_4 => ?_) (fun k_4 => ?_)
    · have hf := y_ifn k_4 hf
      refine lv_aload_n hx hb dX1_couple_21 rfl (lv_at hl 0 rfl) ?_
      refine lv_iload_n hx hb dX1_couple_22 rfl (lv_at hl 1 rfl) ?_
      obtain ⟨u_5, hu_5, hf⟩ := y_bd hf
      refine ycallI (n := 1) (r := u_5.1) (st2 := u_5.2) (rest := []) F hA (c1_holds l D a1) gX1_couple_X1_holds rfl (by decide +kernel) rfl ⟨Nat.le_of_ble_eq_true rfl, Nat.le_of_ble_eq_true rfl⟩ rfl hl.1 w hu_5 rfl (Nat.le_of_ble_eq_true rfl) ⟨Nat.zero_le _, Nat.zero_le _⟩ dX1_couple_23 (fun H locs w => ?_)
      refine lv_if_ne (tgt := 32) hx hb dX1_couple_26 (by decide) (fun k_6 => ?_) (fun k_6 => ?_)
      · have hf := y_ifn k_6 hf
        refine lv_aload_n hx hb dX1_couple_32 rfl (lv_at hl 0 rfl) ?_
        refine lv_iload_n hx hb dX1_couple_33 rfl (lv_at hl 1 rfl) ?_
        obtain ⟨u_7, hu_7, hf⟩ := y_bd hf
        refine ycallI (n := 1) (r := u_7.1) (st2 := u_7.2) (rest := []) F hA (c1_isFull l D a1) gX1_couple_X1_isFull rfl (by decide +kernel) rfl ⟨Nat.le_of_ble_eq_true rfl, Nat.le_of_ble_eq_true rfl⟩ rfl hl.1 w hu_7 rfl (Nat.le_of_ble_eq_true rfl) ⟨Nat.zero_le _, Nat.zero_le _⟩ dX1_couple_34 (fun H locs w => ?_)
        refine lv_if_eq (tgt := 48) hx hb dX1_couple_37 (by decide) (fun k_8 => ?_) (fun k_8 => ?_)
        · have hf := y_ifp k_8 hf
          refine lv_aload_n hx hb dX1_couple_48 rfl (lv_at hl 0 rfl) ?_
          refine lv_iload_n hx hb dX1_couple_49 rfl (lv_at hl 1 rfl) ?_
          refine lv_iload_n hx hb dX1_couple_50 rfl (lv_at hl 2 rfl) ?_
          obtain ⟨u_9, hu_9, hf⟩ := y_bd hf
          refine ycallV (n := 2) (r := u_9.1) (st2 := u_9.2) (rest := []) F hA (c1_come l D a1 a2) gX1_couple_X1_come rfl (by decide +kernel) rfl ⟨Nat.le_of_ble_eq_true rfl, Nat.le_of_ble_eq_true rfl⟩ rfl hl.1 w hu_9 rfl (Nat.le_of_ble_eq_true rfl) ⟨Nat.zero_le _, Nat.zero_le _⟩ dX1_couple_51 (fun H locs w => ?_)
          refine lv_aload_n hx hb dX1_couple_54 rfl (lv_at hl 0 rfl) ?_
          refine lv_iconst (v := 1) hx hb dX1_couple_55 (by decide) ?_
          refine lv_aload_n hx hb dX1_couple_56 rfl (lv_at hl 0 rfl) ?_
          refine yget1 F hin1_couple w 1 (by decide) (by decide +kernel) (v := .ref q2) rfl dX1_couple_57 ?_
          refine lv_iload_n hx hb dX1_couple_60 rfl (lv_at hl 1 rfl) ?_
          obtain ⟨x_10, hx_10, hf⟩ := y_bd hf
          refine yald1 F w hx_10 dX1_couple_61 ?_
          obtain ⟨u_11, hu_11, hf⟩ := y_bd hf
          refine ycallI (n := 2) (r := u_11.1) (st2 := u_11.2) (rest := []) F hA (c1_goes l D 1 x_10) gX1_couple_X1_goes rfl (by decide +kernel) rfl ⟨Nat.le_of_ble_eq_true rfl, Nat.le_of_ble_eq_true rfl⟩ rfl hl.1 w hu_11 rfl (Nat.le_of_ble_eq_true rfl) ⟨Nat.zero_le _, Nat.zero_le _⟩ dX1_couple_62 (fun H locs w => ?_)
          exact yret hret hf rfl w dX1_couple_65
        · have hf := y_ifn k_8 hf
          refine lv_aload_n hx hb dX1_couple_40 rfl (lv_at hl 0 rfl) ?_
          refine lv_iconst (v := 1) hx hb dX1_couple_41 (by decide) ?_
          refine lv_bipush (v := (-4)) hx hb dX1_couple_42 (by decide) ?_
          obtain ⟨u_12, hu_12, hf⟩ := y_bd hf
          refine ycallI (n := 2) (r := u_12.1) (st2 := u_12.2) (rest := []) F hA (c1_goes l D 1 (-4)) gX1_couple_X1_goes rfl (by decide +kernel) rfl ⟨Nat.le_of_ble_eq_true rfl, Nat.le_of_ble_eq_true rfl⟩ rfl hl.1 w hu_12 rfl (Nat.le_of_ble_eq_true rfl) ⟨Nat.zero_le _, Nat.zero_le _⟩ dX1_couple_44 (fun H locs w => ?_)
          exact yret hret hf rfl w dX1_couple_47
      · have hf := y_ifp k_6 hf
        refine lv_bipush (v := (-3)) hx hb dX1_couple_29 (by decide) ?_
        exact yret hret hf rfl w dX1_couple_31
    · have hf := y_ifp k_4 hf
      refine lv_bipush (v := (-2)) hx hb dX1_couple_18 (by decide) ?_
      exact yret hret hf rfl w dX1_couple_20
theorem hin1_uncouple : ∀ w ∈ wsX10, w ∈ wsX1_uncouple := by decide +kernel
set_option maxHeartbeats 4000000 in
set_option maxRecDepth 100000 in
theorem c1_uncouple (l : Launch) (D : va_G) (a1 : Int32) : yMet l D 1 yX1_uncouple wsX1_uncouple 2 [.int a1] (f1_uncouple a1) := by
  refine yentI (cc := cX1_uncouple) (nL := 3) (ret := .int) (by decide) rfl (fun _ => Nat.le_of_ble_eq_true rfl) ?_
  intro h0 q1 q2 q3 cA r st2 p e s m args below meth c A Q F hA hret st hf H locs ls w hl
  have F : CallFix p m c cX1_uncouple 3 s args wsX1_uncouple RX1 := F
  have hx := F.1
  have hb := F.2.1
  have hl : lv_has ls 3 [(0, .ref h0), (1, .int a1)] := hl
  unfold f1_uncouple at hf
  refine lv_iload_n hx hb dX1_uncouple_0 rfl (lv_at hl 1 rfl) ?_
  obtain ⟨u_1, hu_1, hf⟩ := y_bd hf
  refine ycallSW (n := 1) (rest := []) F hA (c1_isTrack l a1) gX1_uncouple_X1_isTrack rfl (by decide +kernel) ⟨Nat.le_of_ble_eq_true rfl, Nat.le_of_ble_eq_true rfl⟩ rfl hl.1 w hu_1 rfl (Nat.le_of_ble_eq_true rfl) ⟨Nat.zero_le _, Nat.zero_le _⟩ dX1_uncouple_1 (fun H locs w => ?_)
  refine lv_if_ne (tgt := 10) hx hb dX1_uncouple_4 (by decide) (fun k_2 => ?_) (fun k_2 => ?_)
  · have hf := y_ifn k_2 hf
    refine lv_aload_n hx hb dX1_uncouple_10 rfl (lv_at hl 0 rfl) ?_
    refine lv_iload_n hx hb dX1_uncouple_11 rfl (lv_at hl 1 rfl) ?_
    obtain ⟨u_3, hu_3, hf⟩ := y_bd hf
    refine ycallI (n := 1) (r := u_3.1) (st2 := u_3.2) (rest := []) F hA (c1_holds l D a1) gX1_uncouple_X1_holds rfl (by decide +kernel) rfl ⟨Nat.le_of_ble_eq_true rfl, Nat.le_of_ble_eq_true rfl⟩ rfl hl.1 w hu_3 rfl (Nat.le_of_ble_eq_true rfl) ⟨Nat.zero_le _, Nat.zero_le _⟩ dX1_uncouple_12 (fun H locs w => ?_)
    refine lv_if_ne (tgt := 21) hx hb dX1_uncouple_15 (by decide) (fun k_4 => ?_) (fun k_4 => ?_)
    · have hf := y_ifn k_4 hf
      refine lv_aload_n hx hb dX1_uncouple_21 rfl (lv_at hl 0 rfl) ?_
      refine yget1 F hin1_uncouple w 1 (by decide) (by decide +kernel) (v := .ref q2) rfl dX1_uncouple_22 ?_
      refine lv_iload_n hx hb dX1_uncouple_25 rfl (lv_at hl 1 rfl) ?_
      obtain ⟨x_5, hx_5, hf⟩ := y_bd hf
      refine yald1 F w hx_5 dX1_uncouple_26 ?_
      refine lv_if_ne (tgt := 38) hx hb dX1_uncouple_27 (by decide) (fun k_6 => ?_) (fun k_6 => ?_)
      · have hf := y_ifn k_6 hf
        refine lv_aload_n hx hb dX1_uncouple_38 rfl (lv_at hl 0 rfl) ?_
        refine lv_iload_n hx hb dX1_uncouple_39 rfl (lv_at hl 1 rfl) ?_
        obtain ⟨u_7, hu_7, hf⟩ := y_bd hf
        refine ycallI (n := 1) (r := u_7.1) (st2 := u_7.2) (rest := []) F hA (c1_last l D a1) gX1_uncouple_X1_last rfl (by decide +kernel) rfl ⟨Nat.le_of_ble_eq_true rfl, Nat.le_of_ble_eq_true rfl⟩ rfl hl.1 w hu_7 rfl (Nat.le_of_ble_eq_true rfl) ⟨Nat.zero_le _, Nat.zero_le _⟩ dX1_uncouple_40 (fun H locs w => ?_)
        refine lv_istore_n (lv' := [(2, .int u_7.1), (0, .ref h0), (1, .int a1)]) hx hb dX1_uncouple_43 rfl hl (by decide) rfl (fun ls hl => ?_)
        refine lv_aload_n hx hb dX1_uncouple_44 rfl (lv_at hl 1 rfl) ?_
        refine yget1 F hin1_uncouple w 1 (by decide) (by decide +kernel) (v := .ref q2) rfl dX1_uncouple_45 ?_
        refine lv_iload_n hx hb dX1_uncouple_48 rfl (lv_at hl 2 rfl) ?_
        refine lv_dup2_11 hx hb dX1_uncouple_49 rfl rfl ?_
        obtain ⟨x_8, hx_8, hf⟩ := y_bd hf
        refine yald1 F w hx_8 dX1_uncouple_50 ?_
        refine lv_iconst (v := 1) hx hb dX1_uncouple_51 (by decide) ?_
        refine lv_isub hx hb dX1_uncouple_52 ?_
        obtain ⟨st_9, hst_9, hf⟩ := y_bd hf
        refine yast1 F w hst_9 dX1_uncouple_53 (fun H locs w => ?_)
        refine lv_aload_n hx hb dX1_uncouple_54 rfl (lv_at hl 1 rfl) ?_
        refine lv_iconst (v := 1) hx hb dX1_uncouple_55 (by decide) ?_
        refine lv_iload_n hx hb dX1_uncouple_56 rfl (lv_at hl 0 rfl) ?_
        obtain ⟨u_10, hu_10, hf⟩ := y_bd hf
        refine ycallI (n := 2) (r := u_10.1) (st2 := u_10.2) (rest := []) F hA (c1_goes l D 1 u_7.1) gX1_uncouple_X1_goes rfl (by decide +kernel) rfl ⟨Nat.le_of_ble_eq_true rfl, Nat.le_of_ble_eq_true rfl⟩ rfl hl.1 w hu_10 rfl (Nat.le_of_ble_eq_true rfl) ⟨Nat.zero_le _, Nat.zero_le _⟩ dX1_uncouple_57 (fun H locs w => ?_)
        exact yret hret hf rfl w dX1_uncouple_60
      · have hf := y_ifp k_6 hf
        refine lv_aload_n hx hb dX1_uncouple_30 rfl (lv_at hl 0 rfl) ?_
        refine lv_iconst (v := 1) hx hb dX1_uncouple_31 (by decide) ?_
        refine lv_bipush (v := (-5)) hx hb dX1_uncouple_32 (by decide) ?_
        obtain ⟨u_11, hu_11, hf⟩ := y_bd hf
        refine ycallI (n := 2) (r := u_11.1) (st2 := u_11.2) (rest := []) F hA (c1_goes l D 1 (-5)) gX1_uncouple_X1_goes rfl (by decide +kernel) rfl ⟨Nat.le_of_ble_eq_true rfl, Nat.le_of_ble_eq_true rfl⟩ rfl hl.1 w hu_11 rfl (Nat.le_of_ble_eq_true rfl) ⟨Nat.zero_le _, Nat.zero_le _⟩ dX1_uncouple_34 (fun H locs w => ?_)
        exact yret hret hf rfl w dX1_uncouple_37
    · have hf := y_ifp k_4 hf
      refine lv_bipush (v := (-3)) hx hb dX1_uncouple_18 (by decide) ?_
      exact yret hret hf rfl w dX1_uncouple_20
  · have hf := y_ifp k_2 hf
    refine lv_bipush (v := (-2)) hx hb dX1_uncouple_7 (by decide) ?_
    exact yret hret hf rfl w dX1_uncouple_9
theorem hin1_shunt : ∀ w ∈ wsX10, w ∈ wsX1_shunt := by decide +kernel
set_option maxHeartbeats 4000000 in
set_option maxRecDepth 100000 in
theorem b1_shunt_L65 {l : Launch} {D : va_G} {h0 q1 q2 q3 : Nat} {cA : ClassId} {r : Int32} {st2 : St} {p : Program} {e : Env} {s : State} {m : MethodId} {args : Array Value} {below : List Frame} {meth : Method} {c : Code} {A : Nat → Prop} {Q : State → Prop} (F : CallFix p m c cX1_shunt 7 s args wsX1_shunt RX1) (hA : ∀ q, s.heap.size ≤ q → A q) (hret : yRetI D 1 h0 q1 q2 q3 cA p l e 2 s m args below meth c cX1_shunt A Q .int r st2) : ∀ (n : Nat) (v1 : Int32) (v2 : Int32) (v3 : Int32) (v4 : Int32) (v5 : Int32) (st : St), f1_shunt_L65 n v1 v2 v3 v4 v5 st = some (r, st2) → ∀ (H : Heap) (locs : List Loc) (ls : Array Slot), Wd D 1 h0 q1 q2 q3 cA A s st H locs → lv_has ls 7 [(0, .ref h0), (1, .int v1), (2, .int v2), (3, .int v3), (4, .int v4), (5, .int v5)] → W p l e (yrm 2) s m args below meth c H locs 0 0 Q (F0 m 65 ls []) := by
  have hx := F.1
  have hb := F.2.1
  intro n
  induction n with
  | zero =>
    intro v1 v2 v3 v4 v5 st hf
    rw [f1_shunt_L65] at hf
    cases hf
  | succ n ih =>
    intro v1 v2 v3 v4 v5 st hf H locs ls w hl
    rw [f1_shunt_L65] at hf
    refine lv_iload hx hb dX1_shunt_65 (lv_at hl 5 rfl) ?_
    refine lv_iload_n hx hb dX1_shunt_67 rfl (lv_at hl 3 rfl) ?_
    refine lv_icmp_ge (tgt := 154) hx hb dX1_shunt_68 (by decide) (fun k_12 => ?_) (fun k_12 => ?_)
    · have hf := y_ifp k_12 hf
      refine lv_aload_n hx hb dX1_shunt_154 rfl (lv_at hl 0 rfl) ?_
      refine lv_iconst (v := 2) hx hb dX1_shunt_155 (by decide) ?_
      refine lv_iload hx hb dX1_shunt_156 (lv_at hl 4 rfl) ?_
      obtain ⟨u_13, hu_13, hf⟩ := y_bd hf
      refine ycallI (n := 2) (r := u_13.1) (st2 := u_13.2) (rest := []) F hA (c1_goes l D 2 v4) gX1_shunt_X1_goes rfl (by decide +kernel) rfl ⟨Nat.le_of_ble_eq_true rfl, Nat.le_of_ble_eq_true rfl⟩ rfl hl.1 w hu_13 rfl (Nat.le_of_ble_eq_true rfl) ⟨Nat.zero_le _, Nat.zero_le _⟩ dX1_shunt_158 (fun H locs w => ?_)
      exact yret hret hf rfl w dX1_shunt_161
    · have hf := y_ifn k_12 hf
      refine lv_iload hx hb dX1_shunt_71 (lv_at hl 4 rfl) ?_
      refine lv_if_lt (tgt := 154) hx hb dX1_shunt_73 (by decide) (fun k_14 => ?_) (fun k_14 => ?_)
      · have hf := y_ifp k_14 hf
        refine lv_aload_n hx hb dX1_shunt_154 rfl (lv_at hl 0 rfl) ?_
        refine lv_iconst (v := 2) hx hb dX1_shunt_155 (by decide) ?_
        refine lv_iload hx hb dX1_shunt_156 (lv_at hl 4 rfl) ?_
        obtain ⟨u_15, hu_15, hf⟩ := y_bd hf
        refine ycallI (n := 2) (r := u_15.1) (st2 := u_15.2) (rest := []) F hA (c1_goes l D 2 v4) gX1_shunt_X1_goes rfl (by decide +kernel) rfl ⟨Nat.le_of_ble_eq_true rfl, Nat.le_of_ble_eq_true rfl⟩ rfl hl.1 w hu_15 rfl (Nat.le_of_ble_eq_true rfl) ⟨Nat.zero_le _, Nat.zero_le _⟩ dX1_shunt_158 (fun H locs w => ?_)
        exact yret hret hf rfl w dX1_shunt_161
      · have hf := y_ifn k_14 hf
        refine lv_aload_n hx hb dX1_shunt_76 rfl (lv_at hl 0 rfl) ?_
        refine yget1 F hin1_shunt w 1 (by decide) (by decide +kernel) (v := .ref q2) rfl dX1_shunt_77 ?_
        refine lv_iload_n hx hb dX1_shunt_80 rfl (lv_at hl 1 rfl) ?_
        obtain ⟨x_16, hx_16, hf⟩ := y_bd hf
        refine yald1 F w hx_16 dX1_shunt_81 ?_
        refine lv_if_ne (tgt := 92) hx hb dX1_shunt_82 (by decide) (fun k_17 => ?_) (fun k_17 => ?_)
        · have hf := y_ifn k_17 hf
          refine lv_aload_n hx hb dX1_shunt_92 rfl (lv_at hl 0 rfl) ?_
          refine lv_iload_n hx hb dX1_shunt_93 rfl (lv_at hl 1 rfl) ?_
          obtain ⟨u_18, hu_18, hf⟩ := y_bd hf
          refine ycallI (n := 1) (r := u_18.1) (st2 := u_18.2) (rest := []) F hA (c1_last l D v1) gX1_shunt_X1_last rfl (by decide +kernel) rfl ⟨Nat.le_of_ble_eq_true rfl, Nat.le_of_ble_eq_true rfl⟩ rfl hl.1 w hu_18 rfl (Nat.le_of_ble_eq_true rfl) ⟨Nat.zero_le _, Nat.zero_le _⟩ dX1_shunt_94 (fun H locs w => ?_)
          refine lv_istore (lv' := [(6, .int u_18.1), (0, .ref h0), (1, .int v1), (2, .int v2), (3, .int v3), (4, .int v4), (5, .int v5)]) hx hb dX1_shunt_97 hl (by decide) rfl (fun ls hl => ?_)
          refine lv_aload_n hx hb dX1_shunt_99 rfl (lv_at hl 1 rfl) ?_
          refine yget1 F hin1_shunt w 1 (by decide) (by decide +kernel) (v := .ref q2) rfl dX1_shunt_100 ?_
          refine lv_iload_n hx hb dX1_shunt_103 rfl (lv_at hl 2 rfl) ?_
          refine lv_dup2_11 hx hb dX1_shunt_104 rfl rfl ?_
          obtain ⟨x_19, hx_19, hf⟩ := y_bd hf
          refine yald1 F w hx_19 dX1_shunt_105 ?_
          refine lv_iconst (v := 1) hx hb dX1_shunt_106 (by decide) ?_
          refine lv_isub hx hb dX1_shunt_107 ?_
          obtain ⟨st_20, hst_20, hf⟩ := y_bd hf
          refine yast1 F w hst_20 dX1_shunt_108 (fun H locs w => ?_)
          refine lv_aload_n hx hb dX1_shunt_109 rfl (lv_at hl 1 rfl) ?_
          refine lv_iload_n hx hb dX1_shunt_110 rfl (lv_at hl 3 rfl) ?_
          obtain ⟨u_21, hu_21, hf⟩ := y_bd hf
          refine ycallI (n := 1) (r := u_21.1) (st2 := u_21.2) (rest := []) F hA (c1_isFull l D v2) gX1_shunt_X1_isFull rfl (by decide +kernel) rfl ⟨Nat.le_of_ble_eq_true rfl, Nat.le_of_ble_eq_true rfl⟩ rfl hl.1 w hu_21 rfl (Nat.le_of_ble_eq_true rfl) ⟨Nat.zero_le _, Nat.zero_le _⟩ dX1_shunt_111 (fun H locs w => ?_)
          refine lv_if_eq (tgt := 131) hx hb dX1_shunt_114 (by decide) (fun k_22 => ?_) (fun k_22 => ?_)
          · have hf := y_ifp k_22 hf
            refine lv_aload_n hx hb dX1_shunt_131 rfl (lv_at hl 1 rfl) ?_
            refine lv_iload_n hx hb dX1_shunt_132 rfl (lv_at hl 3 rfl) ?_
            refine lv_iload hx hb dX1_shunt_133 (lv_at hl 0 rfl) ?_
            obtain ⟨u_23, hu_23, hf⟩ := y_bd hf
            refine ycallV (n := 2) (r := u_23.1) (st2 := u_23.2) (rest := []) F hA (c1_come l D v2 u_18.1) gX1_shunt_X1_come rfl (by decide +kernel) rfl ⟨Nat.le_of_ble_eq_true rfl, Nat.le_of_ble_eq_true rfl⟩ rfl hl.1 w hu_23 rfl (Nat.le_of_ble_eq_true rfl) ⟨Nat.zero_le _, Nat.zero_le _⟩ dX1_shunt_135 (fun H locs w => ?_)
            refine lv_aload_n hx hb dX1_shunt_138 rfl (lv_at hl 1 rfl) ?_
            refine lv_dup hx hb dX1_shunt_139 rfl ?_
            refine yget1 F hin1_shunt w 8 (by decide) (by decide +kernel) (v := .int (yG8 u_23.2)) rfl dX1_shunt_140 ?_
            refine lv_iconst (v := 1) hx hb dX1_shunt_143 (by decide) ?_
            refine lv_iadd hx hb dX1_shunt_144 ?_
            obtain ⟨st_24, hst_24, hf⟩ := y_bd hf
            refine yput1_8 F hin1_shunt w (by decide +kernel) hst_24 dX1_shunt_145 (fun H locs w => ?_)
            refine lv_iinc (v := v5 + 1) (lv' := [(5, .int (v5 + 1)), (6, .int u_18.1), (0, .ref h0), (1, .int v1), (2, .int v2), (3, .int v3), (4, .int v4)]) hx hb dX1_shunt_148 hl (k := 6) rfl rfl (by decide) rfl (fun ls hl => ?_)
            refine lv_goto (tgt := 65) hx hb dX1_shunt_151 (by decide) ?_
            exact ih v1 v2 v3 v4 (v5 + 1) st_24 hf _ _ _ w (lv_sub hl [2, 3, 4, 5, 6, 0] rfl)
          · have hf := y_ifn k_22 hf
            refine lv_aload_n hx hb dX1_shunt_117 rfl (lv_at hl 1 rfl) ?_
            refine lv_iload_n hx hb dX1_shunt_118 rfl (lv_at hl 2 rfl) ?_
            refine lv_iload hx hb dX1_shunt_119 (lv_at hl 0 rfl) ?_
            obtain ⟨u_25, hu_25, hf⟩ := y_bd hf
            refine ycallV (n := 2) (r := u_25.1) (st2 := u_25.2) (rest := []) F hA (c1_come l D v1 u_18.1) gX1_shunt_X1_come rfl (by decide +kernel) rfl ⟨Nat.le_of_ble_eq_true rfl, Nat.le_of_ble_eq_true rfl⟩ rfl hl.1 w hu_25 rfl (Nat.le_of_ble_eq_true rfl) ⟨Nat.zero_le _, Nat.zero_le _⟩ dX1_shunt_121 (fun H locs w => ?_)
            refine lv_bipush (v := (-4)) hx hb dX1_shunt_124 (by decide) ?_
            refine lv_istore (lv' := [(4, .int (-4)), (6, .int u_18.1), (0, .ref h0), (1, .int v1), (2, .int v2), (3, .int v3), (5, .int v5)]) hx hb dX1_shunt_126 hl (by decide) rfl (fun ls hl => ?_)
            refine lv_goto (tgt := 148) hx hb dX1_shunt_128 (by decide) ?_
            refine lv_iinc (v := v5 + 1) (lv' := [(5, .int (v5 + 1)), (4, .int (-4)), (6, .int u_18.1), (0, .ref h0), (1, .int v1), (2, .int v2), (3, .int v3)]) hx hb dX1_shunt_148 hl (k := 6) rfl rfl (by decide) rfl (fun ls hl => ?_)
            refine lv_goto (tgt := 65) hx hb dX1_shunt_151 (by decide) ?_
            exact ih v1 v2 v3 (-4) (v5 + 1) u_25.2 hf _ _ _ w (lv_sub hl [3, 4, 5, 6, 1, 0] rfl)
        · have hf := y_ifp k_17 hf
          refine lv_bipush (v := (-5)) hx hb dX1_shunt_85 (by decide) ?_
          refine lv_istore (lv' := [(4, .int (-5)), (0, .ref h0), (1, .int v1), (2, .int v2), (3, .int v3), (5, .int v5)]) hx hb dX1_shunt_87 hl (by decide) rfl (fun ls hl => ?_)
          refine lv_goto (tgt := 148) hx hb dX1_shunt_89 (by decide) ?_
          refine lv_iinc (v := v5 + 1) (lv' := [(5, .int (v5 + 1)), (4, .int (-5)), (0, .ref h0), (1, .int v1), (2, .int v2), (3, .int v3)]) hx hb dX1_shunt_148 hl (k := 5) rfl rfl (by decide) rfl (fun ls hl => ?_)
          refine lv_goto (tgt := 65) hx hb dX1_shunt_151 (by decide) ?_
          exact ih v1 v2 v3 (-5) (v5 + 1) st hf _ _ _ w (lv_sub hl [2, 3, 4, 5, 1, 0] rfl)
set_option maxHeartbeats 4000000 in
set_option maxRecDepth 100000 in
theorem c1_shunt (l : Launch) (D : va_G) (a1 : Int32) (a2 : Int32) (a3 : Int32) : yMet l D 1 yX1_shunt wsX1_shunt 2 [.int a1, .int a2, .int a3] (f1_shunt a1 a2 a3) := by
  refine yentI (cc := cX1_shunt) (nL := 7) (ret := .int) (by decide) rfl (fun _ => Nat.le_of_ble_eq_true rfl) ?_
  intro h0 q1 q2 q3 cA r st2 p e s m args below meth c A Q F hA hret st hf H locs ls w hl
  have F : CallFix p m c cX1_shunt 7 s args wsX1_shunt RX1 := F
  have hx := F.1
  have hb := F.2.1
  have hl : lv_has ls 7 [(0, .ref h0), (1, .int a1), (2, .int a2), (3, .int a3)] := hl
  unfold f1_shunt at hf
  refine lv_iload_n hx hb dX1_shunt_0 rfl (lv_at hl 1 rfl) ?_
  obtain ⟨u_1, hu_1, hf⟩ := y_bd hf
  refine ycallSW (n := 1) (rest := []) F hA (c1_isTrack l a1) gX1_shunt_X1_isTrack rfl (by decide +kernel) ⟨Nat.le_of_ble_eq_true rfl, Nat.le_of_ble_eq_true rfl⟩ rfl hl.1 w hu_1 rfl (Nat.le_of_ble_eq_true rfl) ⟨Nat.zero_le _, Nat.zero_le _⟩ dX1_shunt_1 (fun H locs w => ?_)
  refine lv_if_eq (tgt := 24) hx hb dX1_shunt_4 (by decide) (fun k_2 => ?_) (fun k_2 => ?_)
  · have hf := y_ifp k_2 hf
    refine lv_bipush (v := (-2)) hx hb dX1_shunt_24 (by decide) ?_
    exact yret hret hf rfl w dX1_shunt_26
  · have hf := y_ifn k_2 hf
    refine lv_iload_n hx hb dX1_shunt_7 rfl (lv_at hl 2 rfl) ?_
    obtain ⟨u_3, hu_3, hf⟩ := y_bd hf
    refine ycallSW (n := 1) (rest := []) F hA (c1_isTrack l a2) gX1_shunt_X1_isTrack rfl (by decide +kernel) ⟨Nat.le_of_ble_eq_true rfl, Nat.le_of_ble_eq_true rfl⟩ rfl hl.1 w hu_3 rfl (Nat.le_of_ble_eq_true rfl) ⟨Nat.zero_le _, Nat.zero_le _⟩ dX1_shunt_8 (fun H locs w => ?_)
    refine lv_if_eq (tgt := 24) hx hb dX1_shunt_11 (by decide) (fun k_4 => ?_) (fun k_4 => ?_)
    · have hf := y_ifp k_4 hf
      refine lv_bipush (v := (-2)) hx hb dX1_shunt_24 (by decide) ?_
      exact yret hret hf rfl w dX1_shunt_26
    · have hf := y_ifn k_4 hf
      refine lv_iload_n hx hb dX1_shunt_14 rfl (lv_at hl 3 rfl) ?_
      refine lv_iconst (v := 0) hx hb dX1_shunt_15 (by decide) ?_
      refine lv_bipush (v := 20) hx hb dX1_shunt_16 (by decide) ?_
      obtain ⟨u_5, hu_5, hf⟩ := y_bd hf
      refine ycallSW (n := 3) (rest := []) F hA (c1_in l a3 0 20) gX1_shunt_X1_in rfl (by decide +kernel) ⟨Nat.le_of_ble_eq_true rfl, Nat.le_of_ble_eq_true rfl⟩ rfl hl.1 w hu_5 rfl (Nat.le_of_ble_eq_true rfl) ⟨Nat.zero_le _, Nat.zero_le _⟩ dX1_shunt_18 (fun H locs w => ?_)
      refine lv_if_ne (tgt := 27) hx hb dX1_shunt_21 (by decide) (fun k_6 => ?_) (fun k_6 => ?_)
      · have hf := y_ifn k_6 hf
        refine lv_aload_n hx hb dX1_shunt_27 rfl (lv_at hl 0 rfl) ?_
        refine lv_iconst (v := 0) hx hb dX1_shunt_28 (by decide) ?_
        obtain ⟨st_7, hst_7, hf⟩ := y_bd hf
        refine yput1_8 F hin1_shunt w (by decide +kernel) hst_7 dX1_shunt_29 (fun H locs w => ?_)
        refine lv_aload_n hx hb dX1_shunt_32 rfl (lv_at hl 0 rfl) ?_
        refine lv_iload_n hx hb dX1_shunt_33 rfl (lv_at hl 1 rfl) ?_
        obtain ⟨u_8, hu_8, hf⟩ := y_bd hf
        refine ycallI (n := 1) (r := u_8.1) (st2 := u_8.2) (rest := []) F hA (c1_holds l D a1) gX1_shunt_X1_holds rfl (by decide +kernel) rfl ⟨Nat.le_of_ble_eq_true rfl, Nat.le_of_ble_eq_true rfl⟩ rfl hl.1 w hu_8 rfl (Nat.le_of_ble_eq_true rfl) ⟨Nat.zero_le _, Nat.zero_le _⟩ dX1_shunt_34 (fun H locs w => ?_)
        refine lv_if_ne (tgt := 43) hx hb dX1_shunt_37 (by decide) (fun k_9 => ?_) (fun k_9 => ?_)
        · have hf := y_ifn k_9 hf
          refine lv_aload_n hx hb dX1_shunt_43 rfl (lv_at hl 0 rfl) ?_
          refine lv_iload_n hx hb dX1_shunt_44 rfl (lv_at hl 2 rfl) ?_
          obtain ⟨u_10, hu_10, hf⟩ := y_bd hf
          refine ycallI (n := 1) (r := u_10.1) (st2 := u_10.2) (rest := []) F hA (c1_holds l D a2) gX1_shunt_X1_holds rfl (by decide +kernel) rfl ⟨Nat.le_of_ble_eq_true rfl, Nat.le_of_ble_eq_true rfl⟩ rfl hl.1 w hu_10 rfl (Nat.le_of_ble_eq_true rfl) ⟨Nat.zero_le _, Nat.zero_le _⟩ dX1_shunt_45 (fun H locs w => ?_)
          refine lv_if_ne (tgt := 59) hx hb dX1_shunt_48 (by decide) (fun k_11 => ?_) (fun k_11 => ?_)
          · have hf := y_ifn k_11 hf
            refine lv_iload_n hx hb dX1_shunt_59 rfl (lv_at hl 3 rfl) ?_
            refine lv_istore (lv' := [(4, .int a3), (0, .ref h0), (1, .int a1), (2, .int a2), (3, .int a3)]) hx hb dX1_shunt_60 hl (by decide) rfl (fun ls hl => ?_)
            refine lv_iconst (v := 0) hx hb dX1_shunt_62 (by decide) ?_
            refine lv_istore (lv' := [(5, .int 0), (4, .int a3), (0, .ref h0), (1, .int a1), (2, .int a2), (3, .int a3)]) hx hb dX1_shunt_63 hl (by decide) rfl (fun ls hl => ?_)
            exact b1_shunt_L65 F hA hret 40 a1 a2 a3 a3 0 u_10.2 hf _ _ _ w (lv_sub hl [2, 3, 4, 5, 1, 0] rfl)
          · have hf := y_ifp k_11 hf
            refine lv_aload_n hx hb dX1_shunt_51 rfl (lv_at hl 0 rfl) ?_
            refine lv_iconst (v := 1) hx hb dX1_shunt_52 (by decide) ?_
            refine lv_bipush (v := (-3)) hx hb dX1_shunt_53 (by decide) ?_
            obtain ⟨u_26, hu_26, hf⟩ := y_bd hf
            refine ycallI (n := 2) (r := u_26.1) (st2 := u_26.2) (rest := []) F hA (c1_goes l D 1 (-3)) gX1_shunt_X1_goes rfl (by decide +kernel) rfl ⟨Nat.le_of_ble_eq_true rfl, Nat.le_of_ble_eq_true rfl⟩ rfl hl.1 w hu_26 rfl (Nat.le_of_ble_eq_true rfl) ⟨Nat.zero_le _, Nat.zero_le _⟩ dX1_shunt_55 (fun H locs w => ?_)
            exact yret hret hf rfl w dX1_shunt_58
        · have hf := y_ifp k_9 hf
          refine lv_bipush (v := (-3)) hx hb dX1_shunt_40 (by decide) ?_
          exact yret hret hf rfl w dX1_shunt_42
      · have hf := y_ifp k_6 hf
        refine lv_bipush (v := (-2)) hx hb dX1_shunt_24 (by decide) ?_
        exact yret hret hf rfl w dX1_shunt_26
theorem hin1_sweep : ∀ w ∈ wsX10, w ∈ wsX1_sweep := by decide +kernel
set_option maxHeartbeats 4000000 in
set_option maxRecDepth 100000 in
theorem b1_sweep_L53 {l : Launch} {D : va_G} {h0 q1 q2 q3 : Nat} {cA : ClassId} {r : Int32} {st2 : St} {p : Program} {e : Env} {s : State} {m : MethodId} {args : Array Value} {below : List Frame} {meth : Method} {c : Code} {A : Nat → Prop} {Q : State → Prop} (F : CallFix p m c cX1_sweep 8 s args wsX1_sweep RX1) (hA : ∀ q, s.heap.size ≤ q → A q) (hret : yRetI D 1 h0 q1 q2 q3 cA p l e 2 s m args below meth c cX1_sweep A Q .int r st2) : ∀ (n : Nat) (v1 : Int32) (v2 : Int32) (v3 : Int32) (v4 : Int32) (st : St), f1_sweep_L53 n v1 v2 v3 v4 st = some (r, st2) → ∀ (H : Heap) (locs : List Loc) (ls : Array Slot), Wd D 1 h0 q1 q2 q3 cA A s st H locs → lv_has ls 8 [(0, .ref h0), (1, .int v1), (2, .int v2), (3, .int v3), (4, .int v4)] → W p l e (yrm 2) s m args below meth c H locs 0 0 Q (F0 m 53 ls []) := by
  have hx := F.1
  have hb := F.2.1
  intro n
  induction n with
  | zero =>
    intro v1 v2 v3 v4 st hf
    rw [f1_sweep_L53] at hf
    cases hf
  | succ n ih =>
    intro v1 v2 v3 v4 st hf H locs ls w hl
    rw [f1_sweep_L53] at hf
    refine lv_iload hx hb dX1_sweep_53 (lv_at hl 4 rfl) ?_
    refine lv_if_eq (tgt := 200) hx hb dX1_sweep_55 (by decide) (fun k_12 => ?_) (fun k_12 => ?_)
    · have hf := y_ifp k_12 hf
      refine lv_aload_n hx hb dX1_sweep_200 rfl (lv_at hl 0 rfl) ?_
      refine lv_iconst (v := 1) hx hb dX1_sweep_201 (by decide) ?_
      refine lv_aload_n hx hb dX1_sweep_202 rfl (lv_at hl 0 rfl) ?_
      refine yget1 F hin1_sweep w 8 (by decide) (by decide +kernel) (v := .int (yG8 st)) rfl dX1_sweep_203 ?_
      obtain ⟨u_13, hu_13, hf⟩ := y_bd hf
      refine ycallI (n := 2) (r := u_13.1) (st2 := u_13.2) (rest := []) F hA (c1_goes l D 1 (yG8 st)) gX1_sweep_X1_goes rfl (by decide +kernel) rfl ⟨Nat.le_of_ble_eq_true rfl, Nat.le_of_ble_eq_true rfl⟩ rfl hl.1 w hu_13 rfl (Nat.le_of_ble_eq_true rfl) ⟨Nat.zero_le _, Nat.zero_le _⟩ dX1_sweep_206 (fun H locs w => ?_)
      exact yret hret hf rfl w dX1_sweep_209
    · have hf := y_ifn k_12 hf
      refine lv_aload_n hx hb dX1_sweep_58 rfl (lv_at hl 0 rfl) ?_
      refine yget1 F hin1_sweep w 1 (by decide) (by decide +kernel) (v := .ref q2) rfl dX1_sweep_59 ?_
      refine lv_iload_n hx hb dX1_sweep_62 rfl (lv_at hl 1 rfl) ?_
      obtain ⟨x_14, hx_14, hf⟩ := y_bd hf
      refine yald1 F w hx_14 dX1_sweep_63 ?_
      refine lv_if_le (tgt := 200) hx hb dX1_sweep_64 (by decide) (fun k_15 => ?_) (fun k_15 => ?_)
      · have hf := y_ifp k_15 hf
        refine lv_aload_n hx hb dX1_sweep_200 rfl (lv_at hl 0 rfl) ?_
        refine lv_iconst (v := 1) hx hb dX1_sweep_201 (by decide) ?_
        refine lv_aload_n hx hb dX1_sweep_202 rfl (lv_at hl 0 rfl) ?_
        refine yget1 F hin1_sweep w 8 (by decide) (by decide +kernel) (v := .int (yG8 st)) rfl dX1_sweep_203 ?_
        obtain ⟨u_16, hu_16, hf⟩ := y_bd hf
        refine ycallI (n := 2) (r := u_16.1) (st2 := u_16.2) (rest := []) F hA (c1_goes l D 1 (yG8 st)) gX1_sweep_X1_goes rfl (by decide +kernel) rfl ⟨Nat.le_of_ble_eq_true rfl, Nat.le_of_ble_eq_true rfl⟩ rfl hl.1 w hu_16 rfl (Nat.le_of_ble_eq_true rfl) ⟨Nat.zero_le _, Nat.zero_le _⟩ dX1_sweep_206 (fun H locs w => ?_)
        exact yret hret hf rfl w dX1_sweep_209
      · have hf := y_ifn k_15 hf
        refine lv_aload_n hx hb dX1_sweep_67 rfl (lv_at hl 0 rfl) ?_
        refine lv_iload_n hx hb dX1_sweep_68 rfl (lv_at hl 1 rfl) ?_
        obtain ⟨u_17, hu_17, hf⟩ := y_bd hf
        refine ycallI (n := 1) (r := u_17.1) (st2 := u_17.2) (rest := []) F hA (c1_last l D v1) gX1_sweep_X1_last rfl (by decide +kernel) rfl ⟨Nat.le_of_ble_eq_true rfl, Nat.le_of_ble_eq_true rfl⟩ rfl hl.1 w hu_17 rfl (Nat.le_of_ble_eq_true rfl) ⟨Nat.zero_le _, Nat.zero_le _⟩ dX1_sweep_69 (fun H locs w => ?_)
        refine lv_istore (lv' := [(5, .int u_17.1), (0, .ref h0), (1, .int v1), (2, .int v2), (3, .int v3), (4, .int v4)]) hx hb dX1_sweep_72 hl (by decide) rfl (fun ls hl => ?_)
        refine lv_aload_n hx hb dX1_sweep_74 rfl (lv_at hl 1 rfl) ?_
        refine yget1 F hin1_sweep w 1 (by decide) (by decide +kernel) (v := .ref q2) rfl dX1_sweep_75 ?_
        refine lv_iload_n hx hb dX1_sweep_78 rfl (lv_at hl 2 rfl) ?_
        refine lv_dup2_11 hx hb dX1_sweep_79 rfl rfl ?_
        obtain ⟨x_18, hx_18, hf⟩ := y_bd hf
        refine yald1 F w hx_18 dX1_sweep_80 ?_
        refine lv_iconst (v := 1) hx hb dX1_sweep_81 (by decide) ?_
        refine lv_isub hx hb dX1_sweep_82 ?_
        obtain ⟨st_19, hst_19, hf⟩ := y_bd hf
        refine yast1 F w hst_19 dX1_sweep_83 (fun H locs w => ?_)
        refine lv_iload hx hb dX1_sweep_84 (lv_at hl 0 rfl) ?_
        refine lv_bipush (v := 10) hx hb dX1_sweep_86 (by decide) ?_
        refine lv_irem hx hb dX1_sweep_88 (by decide) ?_
        refine lv_if_ne (tgt := 98) hx hb dX1_sweep_89 (by decide) (fun k_20 => ?_) (fun k_20 => ?_)
        · have hf := y_ifn k_20 hf
          refine lv_iload hx hb dX1_sweep_98 (lv_at hl 0 rfl) ?_
          refine lv_bipush (v := 10) hx hb dX1_sweep_100 (by decide) ?_
          refine lv_irem hx hb dX1_sweep_102 (by decide) ?_
          refine lv_bipush (v := 9) hx hb dX1_sweep_103 (by decide) ?_
          refine lv_icmp_eq (tgt := 197) hx hb dX1_sweep_105 (by decide) (fun k_21 => ?_) (fun k_21 => ?_)
          · have hf := y_ifp k_21 hf
            refine lv_goto (tgt := 53) hx hb dX1_sweep_197 (by decide) ?_
            exact ih v1 v2 v3 v4 st_19 hf _ _ _ w (lv_sub hl [1, 2, 3, 4, 5] rfl)
          · have hf := y_ifn k_21 hf
            refine lv_iload hx hb dX1_sweep_108 (lv_at hl 0 rfl) ?_
            refine lv_iconst (v := 2) hx hb dX1_sweep_110 (by decide) ?_
            refine lv_irem hx hb dX1_sweep_111 (by decide) ?_
            refine lv_iconst (v := 1) hx hb dX1_sweep_112 (by decide) ?_
            refine lv_icmp_ne (tgt := 120) hx hb dX1_sweep_113 (by decide) (fun k_22 => ?_) (fun k_22 => ?_)
            · have hf := y_ifn k_22 hf
              refine lv_iload_n hx hb dX1_sweep_120 rfl (lv_at hl 4 rfl) ?_
              refine lv_istore (lv' := [(6, .int v3), (5, .int u_17.1), (0, .ref h0), (1, .int v1), (2, .int v2), (3, .int v3), (4, .int v4)]) hx hb dX1_sweep_121 hl (by decide) rfl (fun ls hl => ?_)
              refine lv_aload_n hx hb dX1_sweep_123 rfl (lv_at hl 2 rfl) ?_
              refine lv_iload hx hb dX1_sweep_124 (lv_at hl 0 rfl) ?_
              obtain ⟨u_23, hu_23, hf⟩ := y_bd hf
              refine ycallI (n := 1) (r := u_23.1) (st2 := u_23.2) (rest := []) F hA (c1_holds l D v3) gX1_sweep_X1_holds rfl (by decide +kernel) rfl ⟨Nat.le_of_ble_eq_true rfl, Nat.le_of_ble_eq_true rfl⟩ rfl hl.1 w hu_23 rfl (Nat.le_of_ble_eq_true rfl) ⟨Nat.zero_le _, Nat.zero_le _⟩ dX1_sweep_126 (fun H locs w => ?_)
              refine lv_if_ne (tgt := 147) hx hb dX1_sweep_129 (by decide) (fun k_24 => ?_) (fun k_24 => ?_)
              · have hf := y_ifn k_24 hf
                refine lv_aload_n hx hb dX1_sweep_147 rfl (lv_at hl 2 rfl) ?_
                refine lv_iload hx hb dX1_sweep_148 (lv_at hl 0 rfl) ?_
                obtain ⟨u_25, hu_25, hf⟩ := y_bd hf
                refine ycallI (n := 1) (r := u_25.1) (st2 := u_25.2) (rest := []) F hA (c1_isFull l D v3) gX1_sweep_X1_isFull rfl (by decide +kernel) rfl ⟨Nat.le_of_ble_eq_true rfl, Nat.le_of_ble_eq_true rfl⟩ rfl hl.1 w hu_25 rfl (Nat.le_of_ble_eq_true rfl) ⟨Nat.zero_le _, Nat.zero_le _⟩ dX1_sweep_150 (fun H locs w => ?_)
                refine lv_if_eq (tgt := 171) hx hb dX1_sweep_153 (by decide) (fun k_26 => ?_) (fun k_26 => ?_)
                · have hf := y_ifp k_26 hf
                  refine lv_aload_n hx hb dX1_sweep_171 rfl (lv_at hl 2 rfl) ?_
                  refine lv_iload hx hb dX1_sweep_172 (lv_at hl 0 rfl) ?_
                  refine lv_iload hx hb dX1_sweep_174 (lv_at hl 1 rfl) ?_
                  obtain ⟨u_27, hu_27, hf⟩ := y_bd hf
                  refine ycallV (n := 2) (r := u_27.1) (st2 := u_27.2) (rest := []) F hA (c1_come l D v3 u_17.1) gX1_sweep_X1_come rfl (by decide +kernel) rfl ⟨Nat.le_of_ble_eq_true rfl, Nat.le_of_ble_eq_true rfl⟩ rfl hl.1 w hu_27 rfl (Nat.le_of_ble_eq_true rfl) ⟨Nat.zero_le _, Nat.zero_le _⟩ dX1_sweep_176 (fun H locs w => ?_)
                  refine lv_aload_n hx hb dX1_sweep_179 rfl (lv_at hl 2 rfl) ?_
                  refine lv_dup hx hb dX1_sweep_180 rfl ?_
                  refine yget1 F hin1_sweep w 8 (by decide) (by decide +kernel) (v := .int (yG8 u_27.2)) rfl dX1_sweep_181 ?_
                  refine lv_iconst (v := 1) hx hb dX1_sweep_184 (by decide) ?_
                  refine lv_iadd hx hb dX1_sweep_185 ?_
                  obtain ⟨st_28, hst_28, hf⟩ := y_bd hf
                  refine yput1_8 F hin1_sweep w (by decide +kernel) hst_28 dX1_sweep_186 (fun H locs w => ?_)
                  refine lv_aload_n hx hb dX1_sweep_189 rfl (lv_at hl 2 rfl) ?_
                  refine lv_iconst (v := 1) hx hb dX1_sweep_190 (by decide) ?_
                  refine lv_iconst (v := 0) hx hb dX1_sweep_191 (by decide) ?_
                  obtain ⟨u_29, hu_29, hf⟩ := y_bd hf
                  refine ycallI (n := 2) (r := u_29.1) (st2 := u_29.2) (rest := []) F hA (c1_goes l D 1 0) gX1_sweep_X1_goes rfl (by decide +kernel) rfl ⟨Nat.le_of_ble_eq_true rfl, Nat.le_of_ble_eq_true rfl⟩ rfl hl.1 w hu_29 rfl (Nat.le_of_ble_eq_true rfl) ⟨Nat.zero_le _, Nat.zero_le _⟩ dX1_sweep_192 (fun H locs w => ?_)
                  refine lv_istore (lv' := [(7, .int u_29.1), (6, .int v3), (5, .int u_17.1), (0, .ref h0), (1, .int v1), (2, .int v2), (3, .int v3), (4, .int v4)]) hx hb dX1_sweep_195 hl (by decide) rfl (fun ls hl => ?_)
                  refine lv_goto (tgt := 53) hx hb dX1_sweep_197 (by decide) ?_
                  exact ih v1 v2 v3 v4 u_29.2 hf _ _ _ w (lv_sub hl [3, 4, 5, 6, 7] rfl)
                · have hf := y_ifn k_26 hf
                  refine lv_aload_n hx hb dX1_sweep_156 rfl (lv_at hl 2 rfl) ?_
                  refine lv_iload_n hx hb dX1_sweep_157 rfl (lv_at hl 3 rfl) ?_
                  refine lv_iload hx hb dX1_sweep_158 (lv_at hl 1 rfl) ?_
                  obtain ⟨u_30, hu_30, hf⟩ := y_bd hf
                  refine ycallV (n := 2) (r := u_30.1) (st2 := u_30.2) (rest := []) F hA (c1_come l D v1 u_17.1) gX1_sweep_X1_come rfl (by decide +kernel) rfl ⟨Nat.le_of_ble_eq_true rfl, Nat.le_of_ble_eq_true rfl⟩ rfl hl.1 w hu_30 rfl (Nat.le_of_ble_eq_true rfl) ⟨Nat.zero_le _, Nat.zero_le _⟩ dX1_sweep_160 (fun H locs w => ?_)
                  refine lv_aload_n hx hb dX1_sweep_163 rfl (lv_at hl 2 rfl) ?_
                  refine lv_iconst (v := 2) hx hb dX1_sweep_164 (by decide) ?_
                  refine lv_bipush (v := (-4)) hx hb dX1_sweep_165 (by decide) ?_
                  obtain ⟨u_31, hu_31, hf⟩ := y_bd hf
                  refine ycallI (n := 2) (r := u_31.1) (st2 := u_31.2) (rest := []) F hA (c1_goes l D 2 (-4)) gX1_sweep_X1_goes rfl (by decide +kernel) rfl ⟨Nat.le_of_ble_eq_true rfl, Nat.le_of_ble_eq_true rfl⟩ rfl hl.1 w hu_31 rfl (Nat.le_of_ble_eq_true rfl) ⟨Nat.zero_le _, Nat.zero_le _⟩ dX1_sweep_167 (fun H locs w => ?_)
                  exact yret hret hf rfl w dX1_sweep_170
              · have hf := y_ifp k_24 hf
                refine lv_aload_n hx hb dX1_sweep_132 rfl (lv_at hl 2 rfl) ?_
                refine lv_iload_n hx hb dX1_sweep_133 rfl (lv_at hl 3 rfl) ?_
                refine lv_iload hx hb dX1_sweep_134 (lv_at hl 1 rfl) ?_
                obtain ⟨u_32, hu_32, hf⟩ := y_bd hf
                refine ycallV (n := 2) (r := u_32.1) (st2 := u_32.2) (rest := []) F hA (c1_come l D v1 u_17.1) gX1_sweep_X1_come rfl (by decide +kernel) rfl ⟨Nat.le_of_ble_eq_true rfl, Nat.le_of_ble_eq_true rfl⟩ rfl hl.1 w hu_32 rfl (Nat.le_of_ble_eq_true rfl) ⟨Nat.zero_le _, Nat.zero_le _⟩ dX1_sweep_136 (fun H locs w => ?_)
                refine lv_aload_n hx hb dX1_sweep_139 rfl (lv_at hl 2 rfl) ?_
                refine lv_iconst (v := 1) hx hb dX1_sweep_140 (by decide) ?_
                refine lv_bipush (v := (-3)) hx hb dX1_sweep_141 (by decide) ?_
                obtain ⟨u_33, hu_33, hf⟩ := y_bd hf
                refine ycallI (n := 2) (r := u_33.1) (st2 := u_33.2) (rest := []) F hA (c1_goes l D 1 (-3)) gX1_sweep_X1_goes rfl (by decide +kernel) rfl ⟨Nat.le_of_ble_eq_true rfl, Nat.le_of_ble_eq_true rfl⟩ rfl hl.1 w hu_33 rfl (Nat.le_of_ble_eq_true rfl) ⟨Nat.zero_le _, Nat.zero_le _⟩ dX1_sweep_143 (fun H locs w => ?_)
                exact yret hret hf rfl w dX1_sweep_146
            · have hf := y_ifp k_22 hf
              refine lv_iload_n hx hb dX1_sweep_116 rfl (lv_at hl 3 rfl) ?_
              refine lv_goto (tgt := 121) hx hb dX1_sweep_117 (by decide) ?_
              refine lv_istore (lv' := [(6, .int v2), (5, .int u_17.1), (0, .ref h0), (1, .int v1), (2, .int v2), (3, .int v3), (4, .int v4)]) hx hb dX1_sweep_121 hl (by decide) rfl (fun ls hl => ?_)
              refine lv_aload_n hx hb dX1_sweep_123 rfl (lv_at hl 2 rfl) ?_
              refine lv_iload hx hb dX1_sweep_124 (lv_at hl 0 rfl) ?_
              obtain ⟨u_34, hu_34, hf⟩ := y_bd hf
              refine ycallI (n := 1) (r := u_34.1) (st2 := u_34.2) (rest := []) F hA (c1_holds l D v2) gX1_sweep_X1_holds rfl (by decide +kernel) rfl ⟨Nat.le_of_ble_eq_true rfl, Nat.le_of_ble_eq_true rfl⟩ rfl hl.1 w hu_34 rfl (Nat.le_of_ble_eq_true rfl) ⟨Nat.zero_le _, Nat.zero_le _⟩ dX1_sweep_126 (fun H locs w => ?_)
              refine lv_if_ne (tgt := 147) hx hb dX1_sweep_129 (by decide) (fun k_35 => ?_) (fun k_35 => ?_)
              · have hf := y_ifn k_35 hf
                refine lv_aload_n hx hb dX1_sweep_147 rfl (lv_at hl 2 rfl) ?_
                refine lv_iload hx hb dX1_sweep_148 (lv_at hl 0 rfl) ?_
                obtain ⟨u_36, hu_36, hf⟩ := y_bd hf
                refine ycallI (n := 1) (r := u_36.1) (st2 := u_36.2) (rest := []) F hA (c1_isFull l D v2) gX1_sweep_X1_isFull rfl (by decide +kernel) rfl ⟨Nat.le_of_ble_eq_true rfl, Nat.le_of_ble_eq_true rfl⟩ rfl hl.1 w hu_36 rfl (Nat.le_of_ble_eq_true rfl) ⟨Nat.zero_le _, Nat.zero_le _⟩ dX1_sweep_150 (fun H locs w => ?_)
                refine lv_if_eq (tgt := 171) hx hb dX1_sweep_153 (by decide) (fun k_37 => ?_) (fun k_37 => ?_)
                · have hf := y_ifp k_37 hf
                  refine lv_aload_n hx hb dX1_sweep_171 rfl (lv_at hl 2 rfl) ?_
                  refine lv_iload hx hb dX1_sweep_172 (lv_at hl 0 rfl) ?_
                  refine lv_iload hx hb dX1_sweep_174 (lv_at hl 1 rfl) ?_
                  obtain ⟨u_38, hu_38, hf⟩ := y_bd hf
                  refine ycallV (n := 2) (r := u_38.1) (st2 := u_38.2) (rest := []) F hA (c1_come l D v2 u_17.1) gX1_sweep_X1_come rfl (by decide +kernel) rfl ⟨Nat.le_of_ble_eq_true rfl, Nat.le_of_ble_eq_true rfl⟩ rfl hl.1 w hu_38 rfl (Nat.le_of_ble_eq_true rfl) ⟨Nat.zero_le _, Nat.zero_le _⟩ dX1_sweep_176 (fun H locs w => ?_)
                  refine lv_aload_n hx hb dX1_sweep_179 rfl (lv_at hl 2 rfl) ?_
                  refine lv_dup hx hb dX1_sweep_180 rfl ?_
                  refine yget1 F hin1_sweep w 8 (by decide) (by decide +kernel) (v := .int (yG8 u_38.2)) rfl dX1_sweep_181 ?_
                  refine lv_iconst (v := 1) hx hb dX1_sweep_184 (by decide) ?_
                  refine lv_iadd hx hb dX1_sweep_185 ?_
                  obtain ⟨st_39, hst_39, hf⟩ := y_bd hf
                  refine yput1_8 F hin1_sweep w (by decide +kernel) hst_39 dX1_sweep_186 (fun H locs w => ?_)
                  refine lv_aload_n hx hb dX1_sweep_189 rfl (lv_at hl 2 rfl) ?_
                  refine lv_iconst (v := 1) hx hb dX1_sweep_190 (by decide) ?_
                  refine lv_iconst (v := 0) hx hb dX1_sweep_191 (by decide) ?_
                  obtain ⟨u_40, hu_40, hf⟩ := y_bd hf
                  refine ycallI (n := 2) (r := u_40.1) (st2 := u_40.2) (rest := []) F hA (c1_goes l D 1 0) gX1_sweep_X1_goes rfl (by decide +kernel) rfl ⟨Nat.le_of_ble_eq_true rfl, Nat.le_of_ble_eq_true rfl⟩ rfl hl.1 w hu_40 rfl (Nat.le_of_ble_eq_true rfl) ⟨Nat.zero_le _, Nat.zero_le _⟩ dX1_sweep_192 (fun H locs w => ?_)
                  refine lv_istore (lv' := [(7, .int u_40.1), (6, .int v2), (5, .int u_17.1), (0, .ref h0), (1, .int v1), (2, .int v2), (3, .int v3), (4, .int v4)]) hx hb dX1_sweep_195 hl (by decide) rfl (fun ls hl => ?_)
                  refine lv_goto (tgt := 53) hx hb dX1_sweep_197 (by decide) ?_
                  exact ih v1 v2 v3 v4 u_40.2 hf _ _ _ w (lv_sub hl [3, 4, 5, 6, 7] rfl)
                · have hf := y_ifn k_37 hf
                  refine lv_aload_n hx hb dX1_sweep_156 rfl (lv_at hl 2 rfl) ?_
                  refine lv_iload_n hx hb dX1_sweep_157 rfl (lv_at hl 3 rfl) ?_
                  refine lv_iload hx hb dX1_sweep_158 (lv_at hl 1 rfl) ?_
                  obtain ⟨u_41, hu_41, hf⟩ := y_bd hf
                  refine ycallV (n := 2) (r := u_41.1) (st2 := u_41.2) (rest := []) F hA (c1_come l D v1 u_17.1) gX1_sweep_X1_come rfl (by decide +kernel) rfl ⟨Nat.le_of_ble_eq_true rfl, Nat.le_of_ble_eq_true rfl⟩ rfl hl.1 w hu_41 rfl (Nat.le_of_ble_eq_true rfl) ⟨Nat.zero_le _, Nat.zero_le _⟩ dX1_sweep_160 (fun H locs w => ?_)
                  refine lv_aload_n hx hb dX1_sweep_163 rfl (lv_at hl 2 rfl) ?_
                  refine lv_iconst (v := 2) hx hb dX1_sweep_164 (by decide) ?_
                  refine lv_bipush (v := (-4)) hx hb dX1_sweep_165 (by decide) ?_
                  obtain ⟨u_42, hu_42, hf⟩ := y_bd hf
                  refine ycallI (n := 2) (r := u_42.1) (st2 := u_42.2) (rest := []) F hA (c1_goes l D 2 (-4)) gX1_sweep_X1_goes rfl (by decide +kernel) rfl ⟨Nat.le_of_ble_eq_true rfl, Nat.le_of_ble_eq_true rfl⟩ rfl hl.1 w hu_42 rfl (Nat.le_of_ble_eq_true rfl) ⟨Nat.zero_le _, Nat.zero_le _⟩ dX1_sweep_167 (fun H locs w => ?_)
                  exact yret hret hf rfl w dX1_sweep_170
              · have hf := y_ifp k_35 hf
                refine lv_aload_n hx hb dX1_sweep_132 rfl (lv_at hl 2 rfl) ?_
                refine lv_iload_n hx hb dX1_sweep_133 rfl (lv_at hl 3 rfl) ?_
                refine lv_iload hx hb dX1_sweep_134 (lv_at hl 1 rfl) ?_
                obtain ⟨u_43, hu_43, hf⟩ := y_bd hf
                refine ycallV (n := 2) (r := u_43.1) (st2 := u_43.2) (rest := []) F hA (c1_come l D v1 u_17.1) gX1_sweep_X1_come rfl (by decide +kernel) rfl ⟨Nat.le_of_ble_eq_true rfl, Nat.le_of_ble_eq_true rfl⟩ rfl hl.1 w hu_43 rfl (Nat.le_of_ble_eq_true rfl) ⟨Nat.zero_le _, Nat.zero_le _⟩ dX1_sweep_136 (fun H locs w => ?_)
                refine lv_aload_n hx hb dX1_sweep_139 rfl (lv_at hl 2 rfl) ?_
                refine lv_iconst (v := 1) hx hb dX1_sweep_140 (by decide) ?_
                refine lv_bipush (v := (-3)) hx hb dX1_sweep_141 (by decide) ?_
                obtain ⟨u_44, hu_44, hf⟩ := y_bd hf
                refine ycallI (n := 2) (r := u_44.1) (st2 := u_44.2) (rest := []) F hA (c1_goes l D 1 (-3)) gX1_sweep_X1_goes rfl (by decide +kernel) rfl ⟨Nat.le_of_ble_eq_true rfl, Nat.le_of_ble_eq_true rfl⟩ rfl hl.1 w hu_44 rfl (Nat.le_of_ble_eq_true rfl) ⟨Nat.zero_le _, Nat.zero_le _⟩ dX1_sweep_143 (fun H locs w => ?_)
                exact yret hret hf rfl w dX1_sweep_146
        · have hf := y_ifp k_20 hf
          refine lv_iconst (v := 0) hx hb dX1_sweep_92 (by decide) ?_
          refine lv_istore (lv' := [(4, .int 0), (5, .int u_17.1), (0, .ref h0), (1, .int v1), (2, .int v2), (3, .int v3)]) hx hb dX1_sweep_93 hl (by decide) rfl (fun ls hl => ?_)
          refine lv_goto (tgt := 197) hx hb dX1_sweep_95 (by decide) ?_
          refine lv_goto (tgt := 53) hx hb dX1_sweep_197 (by decide) ?_
          exact ih v1 v2 v3 0 st_19 hf _ _ _ w (lv_sub hl [2, 3, 4, 5, 0] rfl)
set_option maxHeartbeats 4000000 in
set_option maxRecDepth 100000 in
theorem c1_sweep (l : Launch) (D : va_G) (a1 : Int32) (a2 : Int32) (a3 : Int32) : yMet l D 1 yX1_sweep wsX1_sweep 2 [.int a1, .int a2, .int a3] (f1_sweep a1 a2 a3) := by
  refine yentI (cc := cX1_sweep) (nL := 8) (ret := .int) (by decide) rfl (fun _ => Nat.le_of_ble_eq_true rfl) ?_
  intro h0 q1 q2 q3 cA r st2 p e s m args below meth c A Q F hA hret st hf H locs ls w hl
  have F : CallFix p m c cX1_sweep 8 s args wsX1_sweep RX1 := F
  have hx := F.1
  have hb := F.2.1
  have hl : lv_has ls 8 [(0, .ref h0), (1, .int a1), (2, .int a2), (3, .int a3)] := hl
  unfold f1_sweep at hf
  refine lv_iload_n hx hb dX1_sweep_0 rfl (lv_at hl 1 rfl) ?_
  obtain ⟨u_1, hu_1, hf⟩ := y_bd hf
  refine ycallSW (n := 1) (rest := []) F hA (c1_isTrack l a1) gX1_sweep_X1_isTrack rfl (by decide +kernel) ⟨Nat.le_of_ble_eq_true rfl, Nat.le_of_ble_eq_true rfl⟩ rfl hl.1 w hu_1 rfl (Nat.le_of_ble_eq_true rfl) ⟨Nat.zero_le _, Nat.zero_le _⟩ dX1_sweep_1 (fun H locs w => ?_)
  refine lv_if_eq (tgt := 31) hx hb dX1_sweep_4 (by decide) (fun k_2 => ?_) (fun k_2 => ?_)
  · have hf := y_ifp k_2 hf
    refine lv_bipush (v := (-2)) hx hb dX1_sweep_31 (by decide) ?_
    exact yret hret hf rfl w dX1_sweep_33
  · have hf := y_ifn k_2 hf
    refine lv_iload_n hx hb dX1_sweep_7 rfl (lv_at hl 2 rfl) ?_
    obtain ⟨u_3, hu_3, hf⟩ := y_bd hf
    refine ycallSW (n := 1) (rest := []) F hA (c1_isTrack l a2) gX1_sweep_X1_isTrack rfl (by decide +kernel) ⟨Nat.le_of_ble_eq_true rfl, Nat.le_of_ble_eq_true rfl⟩ rfl hl.1 w hu_3 rfl (Nat.le_of_ble_eq_true rfl) ⟨Nat.zero_le _, Nat.zero_le _⟩ dX1_sweep_8 (fun H locs w => ?_)
    refine lv_if_eq (tgt := 31) hx hb dX1_sweep_11 (by decide) (fun k_4 => ?_) (fun k_4 => ?_)
    · have hf := y_ifp k_4 hf
      refine lv_bipush (v := (-2)) hx hb dX1_sweep_31 (by decide) ?_
      exact yret hret hf rfl w dX1_sweep_33
    · have hf := y_ifn k_4 hf
      refine lv_iload_n hx hb dX1_sweep_14 rfl (lv_at hl 3 rfl) ?_
      obtain ⟨u_5, hu_5, hf⟩ := y_bd hf
      refine ycallSW (n := 1) (rest := []) F hA (c1_isTrack l a3) gX1_sweep_X1_isTrack rfl (by decide +kernel) ⟨Nat.le_of_ble_eq_true rfl, Nat.le_of_ble_eq_true rfl⟩ rfl hl.1 w hu_5 rfl (Nat.le_of_ble_eq_true rfl) ⟨Nat.zero_le _, Nat.zero_le _⟩ dX1_sweep_15 (fun H locs w => ?_)
      refine lv_if_eq (tgt := 31) hx hb dX1_sweep_18 (by decide) (fun k_6 => ?_) (fun k_6 => ?_)
      · have hf := y_ifp k_6 hf
        refine lv_bipush (v := (-2)) hx hb dX1_sweep_31 (by decide) ?_
        exact yret hret hf rfl w dX1_sweep_33
      · have hf := y_ifn k_6 hf
        refine lv_iload_n hx hb dX1_sweep_21 rfl (lv_at hl 1 rfl) ?_
        refine lv_iload_n hx hb dX1_sweep_22 rfl (lv_at hl 2 rfl) ?_
        refine lv_icmp_eq (tgt := 31) hx hb dX1_sweep_23 (by decide) (fun k_7 => ?_) (fun k_7 => ?_)
        · have hf := y_ifp k_7 hf
          refine lv_bipush (v := (-2)) hx hb dX1_sweep_31 (by decide) ?_
          exact yret hret hf rfl w dX1_sweep_33
        · have hf := y_ifn k_7 hf
          refine lv_iload_n hx hb dX1_sweep_26 rfl (lv_at hl 1 rfl) ?_
          refine lv_iload_n hx hb dX1_sweep_27 rfl (lv_at hl 3 rfl) ?_
          refine lv_icmp_ne (tgt := 34) hx hb dX1_sweep_28 (by decide) (fun k_8 => ?_) (fun k_8 => ?_)
          · have hf := y_ifn k_8 hf
            refine lv_aload_n hx hb dX1_sweep_34 rfl (lv_at hl 0 rfl) ?_
            refine lv_iconst (v := 0) hx hb dX1_sweep_35 (by decide) ?_
            obtain ⟨st_9, hst_9, hf⟩ := y_bd hf
            refine yput1_8 F hin1_sweep w (by decide +kernel) hst_9 dX1_sweep_36 (fun H locs w => ?_)
            refine lv_aload_n hx hb dX1_sweep_39 rfl (lv_at hl 0 rfl) ?_
            refine lv_iload_n hx hb dX1_sweep_40 rfl (lv_at hl 1 rfl) ?_
            obtain ⟨u_10, hu_10, hf⟩ := y_bd hf
            refine ycallI (n := 1) (r := u_10.1) (st2 := u_10.2) (rest := []) F hA (c1_holds l D a1) gX1_sweep_X1_holds rfl (by decide +kernel) rfl ⟨Nat.le_of_ble_eq_true rfl, Nat.le_of_ble_eq_true rfl⟩ rfl hl.1 w hu_10 rfl (Nat.le_of_ble_eq_true rfl) ⟨Nat.zero_le _, Nat.zero_le _⟩ dX1_sweep_41 (fun H locs w => ?_)
            refine lv_if_ne (tgt := 50) hx hb dX1_sweep_44 (by decide) (fun k_11 => ?_) (fun k_11 => ?_)
            · have hf := y_ifn k_11 hf
              refine lv_iconst (v := 1) hx hb dX1_sweep_50 (by decide) ?_
              refine lv_istore (lv' := [(4, .int 1), (0, .ref h0), (1, .int a1), (2, .int a2), (3, .int a3)]) hx hb dX1_sweep_51 hl (by decide) rfl (fun ls hl => ?_)
              exact b1_sweep_L53 F hA hret 40 a1 a2 a3 1 u_10.2 hf _ _ _ w (lv_sub hl [1, 2, 3, 4, 0] rfl)
            · have hf := y_ifp k_11 hf
              refine lv_bipush (v := (-3)) hx hb dX1_sweep_47 (by decide) ?_
              exact yret hret hf rfl w dX1_sweep_49
          · have hf := y_ifp k_8 hf
            refine lv_bipush (v := (-2)) hx hb dX1_sweep_31 (by decide) ?_
            exact yret hret hf rfl w dX1_sweep_33
theorem hin1_tour : ∀ w ∈ wsX10, w ∈ wsX1_tour := by decide +kernel
set_option maxHeartbeats 4000000 in
set_option maxRecDepth 100000 in
theorem b1_tour_L27 {l : Launch} {D : va_G} {h0 q1 q2 q3 : Nat} {cA : ClassId} {r : Int32} {st2 : St} {p : Program} {e : Env} {s : State} {m : MethodId} {args : Array Value} {below : List Frame} {meth : Method} {c : Code} {A : Nat → Prop} {Q : State → Prop} (F : CallFix p m c cX1_tour 9 s args wsX1_tour RX1) (hA : ∀ q, s.heap.size ≤ q → A q) (hret : yRetI D 1 h0 q1 q2 q3 cA p l e 1 s m args below meth c cX1_tour A Q .int r st2) : ∀ (n : Nat) (v1 : Int64) (v3 : Int32) (v4 : Int32) (v5 : Int32) (v6 : Int32) (st : St), f1_tour_L27 n v1 v3 v4 v5 v6 st = some (r, st2) → ∀ (H : Heap) (locs : List Loc) (ls : Array Slot), Wd D 1 h0 q1 q2 q3 cA A s st H locs → lv_has ls 9 [(0, .ref h0), (1, .long v1), (3, .int v3), (4, .int v4), (5, .int v5), (6, .int v6)] → W p l e (yrm 1) s m args below meth c H locs 0 0 Q (F0 m 27 ls []) := by
  have hx := F.1
  have hb := F.2.1
  intro n
  induction n with
  | zero =>
    intro v1 v3 v4 v5 v6 st hf
    rw [f1_tour_L27] at hf
    cases hf
  | succ n ih =>
    intro v1 v3 v4 v5 v6 st hf H locs ls w hl
    rw [f1_tour_L27] at hf
    refine lv_iload hx hb dX1_tour_27 (lv_at hl 5 rfl) ?_
    refine lv_iload_n hx hb dX1_tour_29 rfl (lv_at hl 2 rfl) ?_
    refine lv_icmp_ge (tgt := 134) hx hb dX1_tour_30 (by decide) (fun k_4 => ?_) (fun k_4 => ?_)
    · have hf := y_ifp k_4 hf
      refine lv_iload hx hb dX1_tour_134 (lv_at hl 3 rfl) ?_
      exact yret hret hf rfl w dX1_tour_136
    · have hf := y_ifn k_4 hf
      refine lv_iload hx hb dX1_tour_33 (lv_at hl 4 rfl) ?_
      refine lv_if_eq (tgt := 134) hx hb dX1_tour_35 (by decide) (fun k_5 => ?_) (fun k_5 => ?_)
      · have hf := y_ifp k_5 hf
        refine lv_iload hx hb dX1_tour_134 (lv_at hl 3 rfl) ?_
        exact yret hret hf rfl w dX1_tour_136
      · have hf := y_ifn k_5 hf
        refine lv_lload_n hx hb dX1_tour_38 rfl (lv_at hl 1 rfl) ?_
        refine lv_iload hx hb dX1_tour_39 (lv_at hl 5 rfl) ?_
        obtain ⟨u_6, hu_6, hf⟩ := y_bd hf
        refine ycallSW (n := 2) (rest := []) F hA (c1_trackOf l v1 v6) gX1_tour_X1_trackOf rfl (by decide +kernel) ⟨Nat.le_of_ble_eq_true rfl, Nat.le_of_ble_eq_true rfl⟩ rfl hl.1 w hu_6 rfl (Nat.le_of_ble_eq_true rfl) ⟨Nat.zero_le _, Nat.zero_le _⟩ dX1_tour_41 (fun H locs w => ?_)
        refine lv_istore (lv' := [(7, .int u_6), (0, .ref h0), (1, .long v1), (3, .int v3), (4, .int v4), (5, .int v5), (6, .int v6)]) hx hb dX1_tour_44 hl (by decide) rfl (fun ls hl => ?_)
        refine lv_aload_n hx hb dX1_tour_46 rfl (lv_at hl 1 rfl) ?_
        refine lv_iload hx hb dX1_tour_47 (lv_at hl 0 rfl) ?_
        obtain ⟨u_7, hu_7, hf⟩ := y_bd hf
        refine ycallI (n := 1) (r := u_7.1) (st2 := u_7.2) (rest := []) F hA (c1_holds l D u_6) gX1_tour_X1_holds rfl (by decide +kernel) rfl ⟨Nat.le_of_ble_eq_true rfl, Nat.le_of_ble_eq_true rfl⟩ rfl hl.1 w hu_7 rfl (Nat.le_of_ble_eq_true rfl) ⟨Nat.zero_le _, Nat.zero_le _⟩ dX1_tour_49 (fun H locs w => ?_)
        refine lv_if_ne (tgt := 58) hx hb dX1_tour_52 (by decide) (fun k_8 => ?_) (fun k_8 => ?_)
        · have hf := y_ifn k_8 hf
          refine lv_aload_n hx hb dX1_tour_58 rfl (lv_at hl 1 rfl) ?_
          refine yget1 F hin1_tour w 1 (by decide) (by decide +kernel) (v := .ref q2) rfl dX1_tour_59 ?_
          refine lv_iload hx hb dX1_tour_62 (lv_at hl 0 rfl) ?_
          obtain ⟨x_9, hx_9, hf⟩ := y_bd hf
          refine yald1 F w hx_9 dX1_tour_64 ?_
          refine lv_if_ne (tgt := 74) hx hb dX1_tour_65 (by decide) (fun k_10 => ?_) (fun k_10 => ?_)
          · have hf := y_ifn k_10 hf
            refine lv_aload_n hx hb dX1_tour_74 rfl (lv_at hl 1 rfl) ?_
            refine lv_iload hx hb dX1_tour_75 (lv_at hl 0 rfl) ?_
            obtain ⟨u_11, hu_11, hf⟩ := y_bd hf
            refine ycallI (n := 1) (r := u_11.1) (st2 := u_11.2) (rest := []) F hA (c1_last l D u_6) gX1_tour_X1_last rfl (by decide +kernel) rfl ⟨Nat.le_of_ble_eq_true rfl, Nat.le_of_ble_eq_true rfl⟩ rfl hl.1 w hu_11 rfl (Nat.le_of_ble_eq_true rfl) ⟨Nat.zero_le _, Nat.zero_le _⟩ dX1_tour_77 (fun H locs w => ?_)
            refine lv_bipush (v := 10) hx hb dX1_tour_80 (by decide) ?_
            refine lv_irem hx hb dX1_tour_82 (by decide) ?_
            refine lv_bipush (v := 9) hx hb dX1_tour_83 (by decide) ?_
            refine lv_icmp_eq (tgt := 120) hx hb dX1_tour_85 (by decide) (fun k_12 => ?_) (fun k_12 => ?_)
            · have hf := y_ifp k_12 hf
              refine lv_aload_n hx hb dX1_tour_120 rfl (lv_at hl 1 rfl) ?_
              refine lv_iconst (v := 1) hx hb dX1_tour_121 (by decide) ?_
              refine lv_iconst (v := 0) hx hb dX1_tour_122 (by decide) ?_
              obtain ⟨u_13, hu_13, hf⟩ := y_bd hf
              refine ycallI (n := 2) (r := u_13.1) (st2 := u_13.2) (rest := []) F hA (c1_goes l D 1 0) gX1_tour_X1_goes rfl (by decide +kernel) rfl ⟨Nat.le_of_ble_eq_true rfl, Nat.le_of_ble_eq_true rfl⟩ rfl hl.1 w hu_13 rfl (Nat.le_of_ble_eq_true rfl) ⟨Nat.zero_le _, Nat.zero_le _⟩ dX1_tour_123 (fun H locs w => ?_)
              refine lv_istore (lv' := [(8, .int u_13.1), (7, .int u_6), (0, .ref h0), (1, .long v1), (3, .int v3), (4, .int v4), (5, .int v5), (6, .int v6)]) hx hb dX1_tour_126 hl (by decide) rfl (fun ls hl => ?_)
              refine lv_iinc (v := v6 + 1) (lv' := [(6, .int (v6 + 1)), (8, .int u_13.1), (7, .int u_6), (0, .ref h0), (1, .long v1), (3, .int v3), (4, .int v4), (5, .int v5)]) hx hb dX1_tour_128 hl (k := 7) rfl rfl (by decide) rfl (fun ls hl => ?_)
              refine lv_goto (tgt := 27) hx hb dX1_tour_131 (by decide) ?_
              exact ih v1 v3 v4 v5 (v6 + 1) u_13.2 hf _ _ _ w (lv_sub hl [3, 4, 5, 6, 7, 0] rfl)
            · have hf := y_ifn k_12 hf
              refine lv_iload hx hb dX1_tour_88 (lv_at hl 4 rfl) ?_
              refine lv_aload_n hx hb dX1_tour_90 rfl (lv_at hl 1 rfl) ?_
              refine lv_iload hx hb dX1_tour_91 (lv_at hl 0 rfl) ?_
              obtain ⟨u_14, hu_14, hf⟩ := y_bd hf
              refine ycallI (n := 1) (r := u_14.1) (st2 := u_14.2) (rest := [.int v4]) F hA (c1_last l D u_6) gX1_tour_X1_last rfl (by decide +kernel) rfl ⟨Nat.le_of_ble_eq_true rfl, Nat.le_of_ble_eq_true rfl⟩ rfl hl.1 w hu_14 rfl (Nat.le_of_ble_eq_true rfl) ⟨Nat.zero_le _, Nat.zero_le _⟩ dX1_tour_93 (fun H locs w => ?_)
              refine lv_iadd hx hb dX1_tour_96 ?_
              refine lv_istore (lv' := [(4, .int (v4 + u_14.1)), (7, .int u_6), (0, .ref h0), (1, .long v1), (3, .int v3), (5, .int v5), (6, .int v6)]) hx hb dX1_tour_97 hl (by decide) rfl (fun ls hl => ?_)
              refine lv_aload_n hx hb dX1_tour_99 rfl (lv_at hl 2 rfl) ?_
              refine yget1 F hin1_tour w 1 (by decide) (by decide +kernel) (v := .ref q2) rfl dX1_tour_100 ?_
              refine lv_iload hx hb dX1_tour_103 (lv_at hl 1 rfl) ?_
              refine lv_dup2_11 hx hb dX1_tour_105 rfl rfl ?_
              obtain ⟨x_15, hx_15, hf⟩ := y_bd hf
              refine yald1 F w hx_15 dX1_tour_106 ?_
              refine lv_iconst (v := 1) hx hb dX1_tour_107 (by decide) ?_
              refine lv_isub hx hb dX1_tour_108 ?_
              obtain ⟨st_16, hst_16, hf⟩ := y_bd hf
              refine yast1 F w hst_16 dX1_tour_109 (fun H locs w => ?_)
              refine lv_aload_n hx hb dX1_tour_110 rfl (lv_at hl 2 rfl) ?_
              refine lv_dup hx hb dX1_tour_111 rfl ?_
              refine yget1 F hin1_tour w 8 (by decide) (by decide +kernel) (v := .int (yG8 st_16)) rfl dX1_tour_112 ?_
              refine lv_iconst (v := 1) hx hb dX1_tour_115 (by decide) ?_
              refine lv_iadd hx hb dX1_tour_116 ?_
              obtain ⟨st_17, hst_17, hf⟩ := y_bd hf
              refine yput1_8 F hin1_tour w (by decide +kernel) hst_17 dX1_tour_117 (fun H locs w => ?_)
              refine lv_aload_n hx hb dX1_tour_120 rfl (lv_at hl 2 rfl) ?_
              refine lv_iconst (v := 1) hx hb dX1_tour_121 (by decide) ?_
              refine lv_iconst (v := 0) hx hb dX1_tour_122 (by decide) ?_
              obtain ⟨u_18, hu_18, hf⟩ := y_bd hf
              refine ycallI (n := 2) (r := u_18.1) (st2 := u_18.2) (rest := []) F hA (c1_goes l D 1 0) gX1_tour_X1_goes rfl (by decide +kernel) rfl ⟨Nat.le_of_ble_eq_true rfl, Nat.le_of_ble_eq_true rfl⟩ rfl hl.1 w hu_18 rfl (Nat.le_of_ble_eq_true rfl) ⟨Nat.zero_le _, Nat.zero_le _⟩ dX1_tour_123 (fun H locs w => ?_)
              refine lv_istore (lv' := [(8, .int u_18.1), (4, .int (v4 + u_14.1)), (7, .int u_6), (0, .ref h0), (1, .long v1), (3, .int v3), (5, .int v5), (6, .int v6)]) hx hb dX1_tour_126 hl (by decide) rfl (fun ls hl => ?_)
              refine lv_iinc (v := v6 + 1) (lv' := [(6, .int (v6 + 1)), (8, .int u_18.1), (4, .int (v4 + u_14.1)), (7, .int u_6), (0, .ref h0), (1, .long v1), (3, .int v3), (5, .int v5)]) hx hb dX1_tour_128 hl (k := 7) rfl rfl (by decide) rfl (fun ls hl => ?_)
              refine lv_goto (tgt := 27) hx hb dX1_tour_131 (by decide) ?_
              exact ih v1 v3 (v4 + u_14.1) v5 (v6 + 1) u_18.2 hf _ _ _ w (lv_sub hl [4, 5, 6, 2, 7, 0] rfl)
          · have hf := y_ifp k_10 hf
            refine lv_iconst (v := 0) hx hb dX1_tour_68 (by decide) ?_
            refine lv_istore (lv' := [(5, .int 0), (7, .int u_6), (0, .ref h0), (1, .long v1), (3, .int v3), (4, .int v4), (6, .int v6)]) hx hb dX1_tour_69 hl (by decide) rfl (fun ls hl => ?_)
            refine lv_goto (tgt := 120) hx hb dX1_tour_71 (by decide) ?_
            refine lv_aload_n hx hb dX1_tour_120 rfl (lv_at hl 2 rfl) ?_
            refine lv_iconst (v := 1) hx hb dX1_tour_121 (by decide) ?_
            refine lv_iconst (v := 0) hx hb dX1_tour_122 (by decide) ?_
            obtain ⟨u_19, hu_19, hf⟩ := y_bd hf
            refine ycallI (n := 2) (r := u_19.1) (st2 := u_19.2) (rest := []) F hA (c1_goes l D 1 0) gX1_tour_X1_goes rfl (by decide +kernel) rfl ⟨Nat.le_of_ble_eq_true rfl, Nat.le_of_ble_eq_true rfl⟩ rfl hl.1 w hu_19 rfl (Nat.le_of_ble_eq_true rfl) ⟨Nat.zero_le _, Nat.zero_le _⟩ dX1_tour_123 (fun H locs w => ?_)
            refine lv_istore (lv' := [(8, .int u_19.1), (5, .int 0), (7, .int u_6), (0, .ref h0), (1, .long v1), (3, .int v3), (4, .int v4), (6, .int v6)]) hx hb dX1_tour_126 hl (by decide) rfl (fun ls hl => ?_)
            refine lv_iinc (v := v6 + 1) (lv' := [(6, .int (v6 + 1)), (8, .int u_19.1), (5, .int 0), (7, .int u_6), (0, .ref h0), (1, .long v1), (3, .int v3), (4, .int v4)]) hx hb dX1_tour_128 hl (k := 7) rfl rfl (by decide) rfl (fun ls hl => ?_)
            refine lv_goto (tgt := 27) hx hb dX1_tour_131 (by decide) ?_
            exact ih v1 v3 v4 0 (v6 + 1) u_19.2 hf _ _ _ w (lv_sub hl [4, 5, 6, 7, 2, 0] rfl)
        · have hf := y_ifp k_8 hf
          refine lv_bipush (v := (-3)) hx hb dX1_tour_55 (by decide) ?_
          exact yret hret hf rfl w dX1_tour_57
set_option maxHeartbeats 4000000 in
set_option maxRecDepth 100000 in
theorem c1_tour (l : Launch) (D : va_G) (a1 : Int64) (a3 : Int32) : yMet l D 1 yX1_tour wsX1_tour 1 [.long a1, .int a3] (f1_tour a1 a3) := by
  refine yentI (cc := cX1_tour) (nL := 9) (ret := .int) (by decide) rfl (fun _ => Nat.le_of_ble_eq_true rfl) ?_
  intro h0 q1 q2 q3 cA r st2 p e s m args below meth c A Q F hA hret st hf H locs ls w hl
  have F : CallFix p m c cX1_tour 9 s args wsX1_tour RX1 := F
  have hx := F.1
  have hb := F.2.1
  have hl : lv_has ls 9 [(0, .ref h0), (1, .long a1), (3, .int a3)] := hl
  unfold f1_tour at hf
  refine lv_iload_n hx hb dX1_tour_0 rfl (lv_at hl 2 rfl) ?_
  refine lv_iconst (v := 1) hx hb dX1_tour_1 (by decide) ?_
  refine lv_bipush (v := 16) hx hb dX1_tour_2 (by decide) ?_
  obtain ⟨u_1, hu_1, hf⟩ := y_bd hf
  refine ycallSW (n := 3) (rest := []) F hA (c1_in l a3 1 16) gX1_tour_X1_in rfl (by decide +kernel) ⟨Nat.le_of_ble_eq_true rfl, Nat.le_of_ble_eq_true rfl⟩ rfl hl.1 w hu_1 rfl (Nat.le_of_ble_eq_true rfl) ⟨Nat.zero_le _, Nat.zero_le _⟩ dX1_tour_4 (fun H locs w => ?_)
  refine lv_if_ne (tgt := 13) hx hb dX1_tour_7 (by decide) (fun k_2 => ?_) (fun k_2 => ?_)
  · have hf := y_ifn k_2 hf
    refine lv_aload_n hx hb dX1_tour_13 rfl (lv_at hl 0 rfl) ?_
    refine lv_iconst (v := 0) hx hb dX1_tour_14 (by decide) ?_
    obtain ⟨st_3, hst_3, hf⟩ := y_bd hf
    refine yput1_8 F hin1_tour w (by decide +kernel) hst_3 dX1_tour_15 (fun H locs w => ?_)
    refine lv_iconst (v := 0) hx hb dX1_tour_18 (by decide) ?_
    refine lv_istore (lv' := [(4, .int 0), (0, .ref h0), (1, .long a1), (3, .int a3)]) hx hb dX1_tour_19 hl (by decide) rfl (fun ls hl => ?_)
    refine lv_iconst (v := 1) hx hb dX1_tour_21 (by decide) ?_
    refine lv_istore (lv' := [(5, .int 1), (4, .int 0), (0, .ref h0), (1, .long a1), (3, .int a3)]) hx hb dX1_tour_22 hl (by decide) rfl (fun ls hl => ?_)
    refine lv_iconst (v := 0) hx hb dX1_tour_24 (by decide) ?_
    refine lv_istore (lv' := [(6, .int 0), (5, .int 1), (4, .int 0), (0, .ref h0), (1, .long a1), (3, .int a3)]) hx hb dX1_tour_25 hl (by decide) rfl (fun ls hl => ?_)
    exact b1_tour_L27 F hA hret 40 a1 a3 0 1 0 st_3 hf _ _ _ w (lv_sub hl [3, 4, 5, 2, 1, 0] rfl)
  · have hf := y_ifp k_2 hf
    refine lv_bipush (v := (-2)) hx hb dX1_tour_10 (by decide) ?_
    exact yret hret hf rfl w dX1_tour_12
theorem hin1_chain : ∀ w ∈ wsX10, w ∈ wsX1_chain := by decide +kernel
set_option maxHeartbeats 4000000 in
set_option maxRecDepth 100000 in
theorem b1_chain_L19 {l : Launch} {D : va_G} {h0 q1 q2 q3 : Nat} {cA : ClassId} {r : Int32} {st2 : St} {p : Program} {e : Env} {s : State} {m : MethodId} {args : Array Value} {below : List Frame} {meth : Method} {c : Code} {A : Nat → Prop} {Q : State → Prop} (F : CallFix p m c cX1_chain 7 s args wsX1_chain RX1) (hA : ∀ q, s.heap.size ≤ q → A q) (hret : yRetI D 1 h0 q1 q2 q3 cA p l e 1 s m args below meth c cX1_chain A Q .int r st2) : ∀ (n : Nat) (v1 : Int64) (v3 : Int32) (v4 : Int32) (v5 : Int32) (st : St), f1_chain_L19 n v1 v3 v4 v5 st = some (r, st2) → ∀ (H : Heap) (locs : List Loc) (ls : Array Slot), Wd D 1 h0 q1 q2 q3 cA A s st H locs → lv_has ls 7 [(0, .ref h0), (1, .long v1), (3, .int v3), (4, .int v4), (5, .int v5)] → W p l e (yrm 1) s m args below meth c H locs 0 0 Q (F0 m 19 ls []) := by
  have hx := F.1
  have hb := F.2.1
  intro n
  induction n with
  | zero =>
    intro v1 v3 v4 v5 st hf
    rw [f1_chain_L19] at hf
    cases hf
  | succ n ih =>
    intro v1 v3 v4 v5 st hf H locs ls w hl
    rw [f1_chain_L19] at hf
    refine lv_iload hx hb dX1_chain_19 (lv_at hl 4 rfl) ?_
    refine lv_iload_n hx hb dX1_chain_21 rfl (lv_at hl 2 rfl) ?_
    refine lv_icmp_ge (tgt := 69) hx hb dX1_chain_22 (by decide) (fun k_3 => ?_) (fun k_3 => ?_)
    · have hf := y_ifp k_3 hf
      refine lv_aload_n hx hb dX1_chain_69 rfl (lv_at hl 0 rfl) ?_
      refine lv_iload_n hx hb dX1_chain_70 rfl (lv_at hl 2 rfl) ?_
      refine lv_iload hx hb dX1_chain_71 (lv_at hl 3 rfl) ?_
      obtain ⟨u_4, hu_4, hf⟩ := y_bd hf
      refine ycallI (n := 2) (r := u_4.1) (st2 := u_4.2) (rest := []) F hA (c1_goes l D v3 v4) gX1_chain_X1_goes rfl (by decide +kernel) rfl ⟨Nat.le_of_ble_eq_true rfl, Nat.le_of_ble_eq_true rfl⟩ rfl hl.1 w hu_4 rfl (Nat.le_of_ble_eq_true rfl) ⟨Nat.zero_le _, Nat.zero_le _⟩ dX1_chain_73 (fun H locs w => ?_)
      exact yret hret hf rfl w dX1_chain_76
    · have hf := y_ifn k_3 hf
      refine lv_lload_n hx hb dX1_chain_25 rfl (lv_at hl 1 rfl) ?_
      refine lv_iload hx hb dX1_chain_26 (lv_at hl 4 rfl) ?_
      obtain ⟨u_5, hu_5, hf⟩ := y_bd hf
      refine ycallSW (n := 2) (rest := []) F hA (c1_trackOf l v1 v5) gX1_chain_X1_trackOf rfl (by decide +kernel) ⟨Nat.le_of_ble_eq_true rfl, Nat.le_of_ble_eq_true rfl⟩ rfl hl.1 w hu_5 rfl (Nat.le_of_ble_eq_true rfl) ⟨Nat.zero_le _, Nat.zero_le _⟩ dX1_chain_28 (fun H locs w => ?_)
      refine lv_istore (lv' := [(6, .int u_5), (0, .ref h0), (1, .long v1), (3, .int v3), (4, .int v4), (5, .int v5)]) hx hb dX1_chain_31 hl (by decide) rfl (fun ls hl => ?_)
      refine lv_aload_n hx hb dX1_chain_33 rfl (lv_at hl 1 rfl) ?_
      refine lv_iload hx hb dX1_chain_34 (lv_at hl 0 rfl) ?_
      obtain ⟨u_6, hu_6, hf⟩ := y_bd hf
      refine ycallI (n := 1) (r := u_6.1) (st2 := u_6.2) (rest := []) F hA (c1_holds l D u_5) gX1_chain_X1_holds rfl (by decide +kernel) rfl ⟨Nat.le_of_ble_eq_true rfl, Nat.le_of_ble_eq_true rfl⟩ rfl hl.1 w hu_6 rfl (Nat.le_of_ble_eq_true rfl) ⟨Nat.zero_le _, Nat.zero_le _⟩ dX1_chain_36 (fun H locs w => ?_)
      refine lv_if_ne (tgt := 51) hx hb dX1_chain_39 (by decide) (fun k_7 => ?_) (fun k_7 => ?_)
      · have hf := y_ifn k_7 hf
        refine lv_iload hx hb dX1_chain_51 (lv_at hl 4 rfl) ?_
        refine lv_aload_n hx hb dX1_chain_53 rfl (lv_at hl 1 rfl) ?_
        refine yget1 F hin1_chain w 1 (by decide) (by decide +kernel) (v := .ref q2) rfl dX1_chain_54 ?_
        refine lv_iload hx hb dX1_chain_57 (lv_at hl 0 rfl) ?_
        obtain ⟨x_8, hx_8, hf⟩ := y_bd hf
        refine yald1 F w hx_8 dX1_chain_59 ?_
        refine lv_iadd hx hb dX1_chain_60 ?_
        refine lv_istore (lv' := [(4, .int (v4 + x_8)), (6, .int u_5), (0, .ref h0), (1, .long v1), (3, .int v3), (5, .int v5)]) hx hb dX1_chain_61 hl (by decide) rfl (fun ls hl => ?_)
        refine lv_iinc (v := v5 + 1) (lv' := [(5, .int (v5 + 1)), (4, .int (v4 + x_8)), (6, .int u_5), (0, .ref h0), (1, .long v1), (3, .int v3)]) hx hb dX1_chain_63 hl (k := 5) rfl rfl (by decide) rfl (fun ls hl => ?_)
        refine lv_goto (tgt := 19) hx hb dX1_chain_66 (by decide) ?_
        exact ih v1 v3 (v4 + x_8) (v5 + 1) u_6.2 hf _ _ _ w (lv_sub hl [3, 4, 5, 1, 0] rfl)
      · have hf := y_ifp k_7 hf
        refine lv_aload_n hx hb dX1_chain_42 rfl (lv_at hl 1 rfl) ?_
        refine lv_iload hx hb dX1_chain_43 (lv_at hl 5 rfl) ?_
        refine lv_bipush (v := (-3)) hx hb dX1_chain_45 (by decide) ?_
        obtain ⟨u_9, hu_9, hf⟩ := y_bd hf
        refine ycallI (n := 2) (r := u_9.1) (st2 := u_9.2) (rest := []) F hA (c1_goes l D v5 (-3)) gX1_chain_X1_goes rfl (by decide +kernel) rfl ⟨Nat.le_of_ble_eq_true rfl, Nat.le_of_ble_eq_true rfl⟩ rfl hl.1 w hu_9 rfl (Nat.le_of_ble_eq_true rfl) ⟨Nat.zero_le _, Nat.zero_le _⟩ dX1_chain_47 (fun H locs w => ?_)
        exact yret hret hf rfl w dX1_chain_50
set_option maxHeartbeats 4000000 in
set_option maxRecDepth 100000 in
theorem c1_chain (l : Launch) (D : va_G) (a1 : Int64) (a3 : Int32) : yMet l D 1 yX1_chain wsX1_chain 1 [.long a1, .int a3] (f1_chain a1 a3) := by
  refine yentI (cc := cX1_chain) (nL := 7) (ret := .int) (by decide) rfl (fun _ => Nat.le_of_ble_eq_true rfl) ?_
  intro h0 q1 q2 q3 cA r st2 p e s m args below meth c A Q F hA hret st hf H locs ls w hl
  have F : CallFix p m c cX1_chain 7 s args wsX1_chain RX1 := F
  have hx := F.1
  have hb := F.2.1
  have hl : lv_has ls 7 [(0, .ref h0), (1, .long a1), (3, .int a3)] := hl
  unfold f1_chain at hf
  refine lv_iload_n hx hb dX1_chain_0 rfl (lv_at hl 2 rfl) ?_
  refine lv_iconst (v := 1) hx hb dX1_chain_1 (by decide) ?_
  refine lv_bipush (v := 16) hx hb dX1_chain_2 (by decide) ?_
  obtain ⟨u_1, hu_1, hf⟩ := y_bd hf
  refine ycallSW (n := 3) (rest := []) F hA (c1_in l a3 1 16) gX1_chain_X1_in rfl (by decide +kernel) ⟨Nat.le_of_ble_eq_true rfl, Nat.le_of_ble_eq_true rfl⟩ rfl hl.1 w hu_1 rfl (Nat.le_of_ble_eq_true rfl) ⟨Nat.zero_le _, Nat.zero_le _⟩ dX1_chain_4 (fun H locs w => ?_)
  refine lv_if_ne (tgt := 13) hx hb dX1_chain_7 (by decide) (fun k_2 => ?_) (fun k_2 => ?_)
  · have hf := y_ifn k_2 hf
    refine lv_iconst (v := 0) hx hb dX1_chain_13 (by decide) ?_
    refine lv_istore (lv' := [(4, .int 0), (0, .ref h0), (1, .long a1), (3, .int a3)]) hx hb dX1_chain_14 hl (by decide) rfl (fun ls hl => ?_)
    refine lv_iconst (v := 0) hx hb dX1_chain_16 (by decide) ?_
    refine lv_istore (lv' := [(5, .int 0), (4, .int 0), (0, .ref h0), (1, .long a1), (3, .int a3)]) hx hb dX1_chain_17 hl (by decide) rfl (fun ls hl => ?_)
    exact b1_chain_L19 F hA hret 40 a1 a3 0 0 st hf _ _ _ w (lv_sub hl [2, 3, 4, 1, 0] rfl)
  · have hf := y_ifp k_2 hf
    refine lv_bipush (v := (-2)) hx hb dX1_chain_10 (by decide) ?_
    exact yret hret hf rfl w dX1_chain_12
theorem hin1_survey : ∀ w ∈ wsX10, w ∈ wsX1_survey := by decide +kernel
set_option maxHeartbeats 4000000 in
set_option maxRecDepth 100000 in
theorem b1_survey_L19 {l : Launch} {D : va_G} {h0 q1 q2 q3 : Nat} {cA : ClassId} {r : Int32} {st2 : St} {p : Program} {e : Env} {s : State} {m : MethodId} {args : Array Value} {below : List Frame} {meth : Method} {c : Code} {A : Nat → Prop} {Q : State → Prop} (F : CallFix p m c cX1_survey 7 s args wsX1_survey RX1) (hA : ∀ q, s.heap.size ≤ q → A q) (hret : yRetI D 1 h0 q1 q2 q3 cA p l e 1 s m args below meth c cX1_survey A Q .int r st2) : ∀ (n : Nat) (v1 : Int64) (v3 : Int32) (v4 : Int32) (v5 : Int32) (st : St), f1_survey_L19 n v1 v3 v4 v5 st = some (r, st2) → ∀ (H : Heap) (locs : List Loc) (ls : Array Slot), Wd D 1 h0 q1 q2 q3 cA A s st H locs → lv_has ls 7 [(0, .ref h0), (1, .long v1), (3, .int v3), (4, .int v4), (5, .int v5)] → W p l e (yrm 1) s m args below meth c H locs 0 0 Q (F0 m 19 ls []) := by
  have hx := F.1
  have hb := F.2.1
  intro n
  induction n with
  | zero =>
    intro v1 v3 v4 v5 st hf
    rw [f1_survey_L19] at hf
    cases hf
  | succ n ih =>
    intro v1 v3 v4 v5 st hf H locs ls w hl
    rw [f1_survey_L19] at hf
    refine lv_iload hx hb dX1_survey_19 (lv_at hl 4 rfl) ?_
    refine lv_iload_n hx hb dX1_survey_21 rfl (lv_at hl 2 rfl) ?_
    refine lv_icmp_ge (tgt := 65) hx hb dX1_survey_22 (by decide) (fun k_3 => ?_) (fun k_3 => ?_)
    · have hf := y_ifp k_3 hf
      refine lv_iload hx hb dX1_survey_65 (lv_at hl 3 rfl) ?_
      exact yret hret hf rfl w dX1_survey_67
    · have hf := y_ifn k_3 hf
      refine lv_lload_n hx hb dX1_survey_25 rfl (lv_at hl 1 rfl) ?_
      refine lv_iload hx hb dX1_survey_26 (lv_at hl 4 rfl) ?_
      obtain ⟨u_4, hu_4, hf⟩ := y_bd hf
      refine ycallSW (n := 2) (rest := []) F hA (c1_trackOf l v1 v5) gX1_survey_X1_trackOf rfl (by decide +kernel) ⟨Nat.le_of_ble_eq_true rfl, Nat.le_of_ble_eq_true rfl⟩ rfl hl.1 w hu_4 rfl (Nat.le_of_ble_eq_true rfl) ⟨Nat.zero_le _, Nat.zero_le _⟩ dX1_survey_28 (fun H locs w => ?_)
      refine lv_istore (lv' := [(6, .int u_4), (0, .ref h0), (1, .long v1), (3, .int v3), (4, .int v4), (5, .int v5)]) hx hb dX1_survey_31 hl (by decide) rfl (fun ls hl => ?_)
      refine lv_aload_n hx hb dX1_survey_33 rfl (lv_at hl 1 rfl) ?_
      refine lv_iload hx hb dX1_survey_34 (lv_at hl 0 rfl) ?_
      obtain ⟨u_5, hu_5, hf⟩ := y_bd hf
      refine ycallI (n := 1) (r := u_5.1) (st2 := u_5.2) (rest := []) F hA (c1_holds l D u_4) gX1_survey_X1_holds rfl (by decide +kernel) rfl ⟨Nat.le_of_ble_eq_true rfl, Nat.le_of_ble_eq_true rfl⟩ rfl hl.1 w hu_5 rfl (Nat.le_of_ble_eq_true rfl) ⟨Nat.zero_le _, Nat.zero_le _⟩ dX1_survey_36 (fun H locs w => ?_)
      refine lv_if_eq (tgt := 59) hx hb dX1_survey_39 (by decide) (fun k_6 => ?_) (fun k_6 => ?_)
      · have hf := y_ifp k_6 hf
        refine lv_iinc (v := v5 + 1) (lv' := [(5, .int (v5 + 1)), (6, .int u_4), (0, .ref h0), (1, .long v1), (3, .int v3), (4, .int v4)]) hx hb dX1_survey_59 hl (k := 5) rfl rfl (by decide) rfl (fun ls hl => ?_)
        refine lv_goto (tgt := 19) hx hb dX1_survey_62 (by decide) ?_
        exact ih v1 v3 v4 (v5 + 1) u_5.2 hf _ _ _ w (lv_sub hl [2, 3, 4, 5, 0] rfl)
      · have hf := y_ifn k_6 hf
        refine lv_iload hx hb dX1_survey_42 (lv_at hl 4 rfl) ?_
        refine lv_aload_n hx hb dX1_survey_44 rfl (lv_at hl 1 rfl) ?_
        refine lv_iconst (v := 1) hx hb dX1_survey_45 (by decide) ?_
        refine lv_aload_n hx hb dX1_survey_46 rfl (lv_at hl 1 rfl) ?_
        refine yget1 F hin1_survey w 1 (by decide) (by decide +kernel) (v := .ref q2) rfl dX1_survey_47 ?_
        refine lv_iload hx hb dX1_survey_50 (lv_at hl 0 rfl) ?_
        obtain ⟨x_7, hx_7, hf⟩ := y_bd hf
        refine yald1 F w hx_7 dX1_survey_52 ?_
        obtain ⟨u_8, hu_8, hf⟩ := y_bd hf
        refine ycallI (n := 2) (r := u_8.1) (st2 := u_8.2) (rest := [.int v4]) F hA (c1_goes l D 1 x_7) gX1_survey_X1_goes rfl (by decide +kernel) rfl ⟨Nat.le_of_ble_eq_true rfl, Nat.le_of_ble_eq_true rfl⟩ rfl hl.1 w hu_8 rfl (Nat.le_of_ble_eq_true rfl) ⟨Nat.zero_le _, Nat.zero_le _⟩ dX1_survey_53 (fun H locs w => ?_)
        refine lv_iadd hx hb dX1_survey_56 ?_
        refine lv_istore (lv' := [(4, .int (v4 + u_8.1)), (6, .int u_4), (0, .ref h0), (1, .long v1), (3, .int v3), (5, .int v5)]) hx hb dX1_survey_57 hl (by decide) rfl (fun ls hl => ?_)
        refine lv_iinc (v := v5 + 1) (lv' := [(5, .int (v5 + 1)), (4, .int (v4 + u_8.1)), (6, .int u_4), (0, .ref h0), (1, .long v1), (3, .int v3)]) hx hb dX1_survey_59 hl (k := 5) rfl rfl (by decide) rfl (fun ls hl => ?_)
        refine lv_goto (tgt := 19) hx hb dX1_survey_62 (by decide) ?_
        exact ih v1 v3 (v4 + u_8.1) (v5 + 1) u_8.2 hf _ _ _ w (lv_sub hl [3, 4, 5, 1, 0] rfl)
set_option maxHeartbeats 4000000 in
set_option maxRecDepth 100000 in
theorem c1_survey (l : Launch) (D : va_G) (a1 : Int64) (a3 : Int32) : yMet l D 1 yX1_survey wsX1_survey 1 [.long a1, .int a3] (f1_survey a1 a3) := by
  refine yentI (cc := cX1_survey) (nL := 7) (ret := .int) (by decide) rfl (fun _ => Nat.le_of_ble_eq_true rfl) ?_
  intro h0 q1 q2 q3 cA r st2 p e s m args below meth c A Q F hA hret st hf H locs ls w hl
  have F : CallFix p m c cX1_survey 7 s args wsX1_survey RX1 := F
  have hx := F.1
  have hb := F.2.1
  have hl : lv_has ls 7 [(0, .ref h0), (1, .long a1), (3, .int a3)] := hl
  unfold f1_survey at hf
  refine lv_iload_n hx hb dX1_survey_0 rfl (lv_at hl 2 rfl) ?_
  refine lv_iconst (v := 1) hx hb dX1_survey_1 (by decide) ?_
  refine lv_bipush (v := 16) hx hb dX1_survey_2 (by decide) ?_
  obtain ⟨u_1, hu_1, hf⟩ := y_bd hf
  refine ycallSW (n := 3) (rest := []) F hA (c1_in l a3 1 16) gX1_survey_X1_in rfl (by decide +kernel) ⟨Nat.le_of_ble_eq_true rfl, Nat.le_of_ble_eq_true rfl⟩ rfl hl.1 w hu_1 rfl (Nat.le_of_ble_eq_true rfl) ⟨Nat.zero_le _, Nat.zero_le _⟩ dX1_survey_4 (fun H locs w => ?_)
  refine lv_if_ne (tgt := 13) hx hb dX1_survey_7 (by decide) (fun k_2 => ?_) (fun k_2 => ?_)
  · have hf := y_ifn k_2 hf
    refine lv_iconst (v := 0) hx hb dX1_survey_13 (by decide) ?_
    refine lv_istore (lv' := [(4, .int 0), (0, .ref h0), (1, .long a1), (3, .int a3)]) hx hb dX1_survey_14 hl (by decide) rfl (fun ls hl => ?_)
    refine lv_iconst (v := 0) hx hb dX1_survey_16 (by decide) ?_
    refine lv_istore (lv' := [(5, .int 0), (4, .int 0), (0, .ref h0), (1, .long a1), (3, .int a3)]) hx hb dX1_survey_17 hl (by decide) rfl (fun ls hl => ?_)
    exact b1_survey_L19 F hA hret 40 a1 a3 0 0 st hf _ _ _ w (lv_sub hl [2, 3, 4, 1, 0] rfl)
  · have hf := y_ifp k_2 hf
    refine lv_bipush (v := (-2)) hx hb dX1_survey_10 (by decide) ?_
    exact yret hret hf rfl w dX1_survey_12
theorem hin1_turn : ∀ w ∈ wsX10, w ∈ wsX1_turn := by decide +kernel
set_option maxHeartbeats 4000000 in
set_option maxRecDepth 100000 in
theorem b1_turn_L30 {l : Launch} {D : va_G} {h0 q1 q2 q3 : Nat} {cA : ClassId} {r : Int32} {st2 : St} {p : Program} {e : Env} {s : State} {m : MethodId} {args : Array Value} {below : List Frame} {meth : Method} {c : Code} {A : Nat → Prop} {Q : State → Prop} (F : CallFix p m c cX1_turn 8 s args wsX1_turn RX1) (hA : ∀ q, s.heap.size ≤ q → A q) (hret : yRetI D 1 h0 q1 q2 q3 cA p l e 2 s m args below meth c cX1_turn A Q .int r st2) : ∀ (n : Nat) (v1 : Int32) (v2 : Int32) (v3 : Int32) (st : St), f1_turn_L30 n v1 v2 v3 st = some (r, st2) → ∀ (H : Heap) (locs : List Loc) (ls : Array Slot), Wd D 1 h0 q1 q2 q3 cA A s st H locs → lv_has ls 8 [(0, .ref h0), (1, .int v1), (2, .int v2), (3, .int v3)] → W p l e (yrm 2) s m args below meth c H locs 0 0 Q (F0 m 30 ls []) := by
  have hx := F.1
  have hb := F.2.1
  intro n
  induction n with
  | zero =>
    intro v1 v2 v3 st hf
    rw [f1_turn_L30] at hf
    cases hf
  | succ n ih =>
    intro v1 v2 v3 st hf H locs ls w hl
    rw [f1_turn_L30] at hf
    refine lv_iload_n hx hb dX1_turn_30 rfl (lv_at hl 3 rfl) ?_
    refine lv_iload_n hx hb dX1_turn_31 rfl (lv_at hl 2 rfl) ?_
    refine lv_iconst (v := 2) hx hb dX1_turn_32 (by decide) ?_
    refine lv_idiv hx hb dX1_turn_33 (by decide) ?_
    refine lv_icmp_ge (tgt := 111) hx hb dX1_turn_34 (by decide) (fun k_6 => ?_) (fun k_6 => ?_)
    · have hf := y_ifp k_6 hf
      refine lv_aload_n hx hb dX1_turn_111 rfl (lv_at hl 0 rfl) ?_
      refine lv_iconst (v := 1) hx hb dX1_turn_112 (by decide) ?_
      refine lv_iload_n hx hb dX1_turn_113 rfl (lv_at hl 2 rfl) ?_
      obtain ⟨u_7, hu_7, hf⟩ := y_bd hf
      refine ycallI (n := 2) (r := u_7.1) (st2 := u_7.2) (rest := []) F hA (c1_goes l D 1 v2) gX1_turn_X1_goes rfl (by decide +kernel) rfl ⟨Nat.le_of_ble_eq_true rfl, Nat.le_of_ble_eq_true rfl⟩ rfl hl.1 w hu_7 rfl (Nat.le_of_ble_eq_true rfl) ⟨Nat.zero_le _, Nat.zero_le _⟩ dX1_turn_114 (fun H locs w => ?_)
      exact yret hret hf rfl w dX1_turn_117
    · have hf := y_ifn k_6 hf
      refine lv_aload_n hx hb dX1_turn_37 rfl (lv_at hl 0 rfl) ?_
      refine lv_iload_n hx hb dX1_turn_38 rfl (lv_at hl 1 rfl) ?_
      obtain ⟨u_8, hu_8, hf⟩ := y_bd hf
      refine ycallI (n := 1) (r := u_8.1) (st2 := u_8.2) (rest := []) F hA (c1_holds l D v1) gX1_turn_X1_holds rfl (by decide +kernel) rfl ⟨Nat.le_of_ble_eq_true rfl, Nat.le_of_ble_eq_true rfl⟩ rfl hl.1 w hu_8 rfl (Nat.le_of_ble_eq_true rfl) ⟨Nat.zero_le _, Nat.zero_le _⟩ dX1_turn_39 (fun H locs w => ?_)
      refine lv_if_eq (tgt := 105) hx hb dX1_turn_42 (by decide) (fun k_9 => ?_) (fun k_9 => ?_)
      · have hf := y_ifp k_9 hf
        refine lv_iinc (v := v3 + 1) (lv' := [(3, .int (v3 + 1)), (0, .ref h0), (1, .int v1), (2, .int v2)]) hx hb dX1_turn_105 hl (k := 3) rfl rfl (by decide) rfl (fun ls hl => ?_)
        refine lv_goto (tgt := 30) hx hb dX1_turn_108 (by decide) ?_
        exact ih v1 v2 (v3 + 1) u_8.2 hf _ _ _ w (lv_sub hl [1, 2, 3, 0] rfl)
      · have hf := y_ifn k_9 hf
        refine lv_bipush (v := 12) hx hb dX1_turn_45 (by decide) ?_
        refine lv_iload_n hx hb dX1_turn_47 rfl (lv_at hl 1 rfl) ?_
        refine lv_imul hx hb dX1_turn_48 ?_
        refine lv_iload_n hx hb dX1_turn_49 rfl (lv_at hl 3 rfl) ?_
        refine lv_iadd hx hb dX1_turn_50 ?_
        refine lv_istore (lv' := [(4, .int ((12 * v1) + v3)), (0, .ref h0), (1, .int v1), (2, .int v2), (3, .int v3)]) hx hb dX1_turn_51 hl (by decide) rfl (fun ls hl => ?_)
        refine lv_bipush (v := 12) hx hb dX1_turn_53 (by decide) ?_
        refine lv_iload_n hx hb dX1_turn_55 rfl (lv_at hl 2 rfl) ?_
        refine lv_imul hx hb dX1_turn_56 ?_
        refine lv_iload_n hx hb dX1_turn_57 rfl (lv_at hl 3 rfl) ?_
        refine lv_iadd hx hb dX1_turn_58 ?_
        refine lv_iconst (v := 1) hx hb dX1_turn_59 (by decide) ?_
        refine lv_isub hx hb dX1_turn_60 ?_
        refine lv_iload_n hx hb dX1_turn_61 rfl (lv_at hl 4 rfl) ?_
        refine lv_isub hx hb dX1_turn_62 ?_
        refine lv_istore (lv' := [(5, .int ((((12 * v1) + v2) - 1) - v3)), (4, .int ((12 * v1) + v3)), (0, .ref h0), (1, .int v1), (2, .int v2), (3, .int v3)]) hx hb dX1_turn_63 hl (by decide) rfl (fun ls hl => ?_)
        refine lv_aload_n hx hb dX1_turn_65 rfl (lv_at hl 2 rfl) ?_
        refine yget1 F hin1_turn w 2 (by decide) (by decide +kernel) (v := .ref q3) rfl dX1_turn_66 ?_
        refine lv_iload hx hb dX1_turn_69 (lv_at hl 1 rfl) ?_
        obtain ⟨x_10, hx_10, hf⟩ := y_bd hf
        refine yald2 F w hx_10 dX1_turn_71 ?_
        refine lv_istore (lv' := [(6, .int x_10), (5, .int ((((12 * v1) + v2) - 1) - v3)), (4, .int ((12 * v1) + v3)), (0, .ref h0), (1, .int v1), (2, .int v2), (3, .int v3)]) hx hb dX1_turn_72 hl (by decide) rfl (fun ls hl => ?_)
        refine lv_aload_n hx hb dX1_turn_74 rfl (lv_at hl 3 rfl) ?_
        refine yget1 F hin1_turn w 2 (by decide) (by decide +kernel) (v := .ref q3) rfl dX1_turn_75 ?_
        refine lv_iload hx hb dX1_turn_78 (lv_at hl 2 rfl) ?_
        refine lv_aload_n hx hb dX1_turn_80 rfl (lv_at hl 3 rfl) ?_
        refine yget1 F hin1_turn w 2 (by decide) (by decide +kernel) (v := .ref q3) rfl dX1_turn_81 ?_
        refine lv_iload hx hb dX1_turn_84 (lv_at hl 1 rfl) ?_
        obtain ⟨x_11, hx_11, hf⟩ := y_bd hf
        refine yald2 F w hx_11 dX1_turn_86 ?_
        obtain ⟨st_12, hst_12, hf⟩ := y_bd hf
        refine yast2 F w hst_12 dX1_turn_87 (fun H locs w => ?_)
        refine lv_aload_n hx hb dX1_turn_88 rfl (lv_at hl 3 rfl) ?_
        refine yget1 F hin1_turn w 2 (by decide) (by decide +kernel) (v := .ref q3) rfl dX1_turn_89 ?_
        refine lv_iload hx hb dX1_turn_92 (lv_at hl 1 rfl) ?_
        refine lv_iload hx hb dX1_turn_94 (lv_at hl 0 rfl) ?_
        obtain ⟨st_13, hst_13, hf⟩ := y_bd hf
        refine yast2 F w hst_13 dX1_turn_96 (fun H locs w => ?_)
        refine lv_aload_n hx hb dX1_turn_97 rfl (lv_at hl 3 rfl) ?_
        refine lv_iconst (v := 1) hx hb dX1_turn_98 (by decide) ?_
        refine lv_iconst (v := 0) hx hb dX1_turn_99 (by decide) ?_
        obtain ⟨u_14, hu_14, hf⟩ := y_bd hf
        refine ycallI (n := 2) (r := u_14.1) (st2 := u_14.2) (rest := []) F hA (c1_goes l D 1 0) gX1_turn_X1_goes rfl (by decide +kernel) rfl ⟨Nat.le_of_ble_eq_true rfl, Nat.le_of_ble_eq_true rfl⟩ rfl hl.1 w hu_14 rfl (Nat.le_of_ble_eq_true rfl) ⟨Nat.zero_le _, Nat.zero_le _⟩ dX1_turn_100 (fun H locs w => ?_)
        refine lv_istore (lv' := [(7, .int u_14.1), (6, .int x_10), (5, .int ((((12 * v1) + v2) - 1) - v3)), (4, .int ((12 * v1) + v3)), (0, .ref h0), (1, .int v1), (2, .int v2), (3, .int v3)]) hx hb dX1_turn_103 hl (by decide) rfl (fun ls hl => ?_)
        refine lv_iinc (v := v3 + 1) (lv' := [(3, .int (v3 + 1)), (7, .int u_14.1), (6, .int x_10), (5, .int ((((12 * v1) + v2) - 1) - v3)), (4, .int ((12 * v1) + v3)), (0, .ref h0), (1, .int v1), (2, .int v2)]) hx hb dX1_turn_105 hl (k := 7) rfl rfl (by decide) rfl (fun ls hl => ?_)
        refine lv_goto (tgt := 30) hx hb dX1_turn_108 (by decide) ?_
        exact ih v1 v2 (v3 + 1) u_14.2 hf _ _ _ w (lv_sub hl [5, 6, 7, 0] rfl)
set_option maxHeartbeats 4000000 in
set_option maxRecDepth 100000 in
theorem c1_turn (l : Launch) (D : va_G) (a1 : Int32) : yMet l D 1 yX1_turn wsX1_turn 2 [.int a1] (f1_turn a1) := by
  refine yentI (cc := cX1_turn) (nL := 8) (ret := .int) (by decide) rfl (fun _ => Nat.le_of_ble_eq_true rfl) ?_
  intro h0 q1 q2 q3 cA r st2 p e s m args below meth c A Q F hA hret st hf H locs ls w hl
  have F : CallFix p m c cX1_turn 8 s args wsX1_turn RX1 := F
  have hx := F.1
  have hb := F.2.1
  have hl : lv_has ls 8 [(0, .ref h0), (1, .int a1)] := hl
  unfold f1_turn at hf
  refine lv_iload_n hx hb dX1_turn_0 rfl (lv_at hl 1 rfl) ?_
  obtain ⟨u_1, hu_1, hf⟩ := y_bd hf
  refine ycallSW (n := 1) (rest := []) F hA (c1_isTrack l a1) gX1_turn_X1_isTrack rfl (by decide +kernel) ⟨Nat.le_of_ble_eq_true rfl, Nat.le_of_ble_eq_true rfl⟩ rfl hl.1 w hu_1 rfl (Nat.le_of_ble_eq_true rfl) ⟨Nat.zero_le _, Nat.zero_le _⟩ dX1_turn_1 (fun H locs w => ?_)
  refine lv_if_ne (tgt := 10) hx hb dX1_turn_4 (by decide) (fun k_2 => ?_) (fun k_2 => ?_)
  · have hf := y_ifn k_2 hf
    refine lv_aload_n hx hb dX1_turn_10 rfl (lv_at hl 0 rfl) ?_
    refine lv_iload_n hx hb dX1_turn_11 rfl (lv_at hl 1 rfl) ?_
    obtain ⟨u_3, hu_3, hf⟩ := y_bd hf
    refine ycallI (n := 1) (r := u_3.1) (st2 := u_3.2) (rest := []) F hA (c1_holds l D a1) gX1_turn_X1_holds rfl (by decide +kernel) rfl ⟨Nat.le_of_ble_eq_true rfl, Nat.le_of_ble_eq_true rfl⟩ rfl hl.1 w hu_3 rfl (Nat.le_of_ble_eq_true rfl) ⟨Nat.zero_le _, Nat.zero_le _⟩ dX1_turn_12 (fun H locs w => ?_)
    refine lv_if_ne (tgt := 21) hx hb dX1_turn_15 (by decide) (fun k_4 => ?_) (fun k_4 => ?_)
    · have hf := y_ifn k_4 hf
      refine lv_aload_n hx hb dX1_turn_21 rfl (lv_at hl 0 rfl) ?_
      refine yget1 F hin1_turn w 1 (by decide) (by decide +kernel) (v := .ref q2) rfl dX1_turn_22 ?_
      refine lv_iload_n hx hb dX1_turn_25 rfl (lv_at hl 1 rfl) ?_
      obtain ⟨x_5, hx_5, hf⟩ := y_bd hf
      refine yald1 F w hx_5 dX1_turn_26 ?_
      refine lv_istore_n (lv' := [(2, .int x_5), (0, .ref h0), (1, .int a1)]) hx hb dX1_turn_27 rfl hl (by decide) rfl (fun ls hl => ?_)
      refine lv_iconst (v := 0) hx hb dX1_turn_28 (by decide) ?_
      refine lv_istore_n (lv' := [(3, .int 0), (2, .int x_5), (0, .ref h0), (1, .int a1)]) hx hb dX1_turn_29 rfl hl (by decide) rfl (fun ls hl => ?_)
      exact b1_turn_L30 F hA hret 40 a1 x_5 0 u_3.2 hf _ _ _ w (lv_sub hl [2, 3, 1, 0] rfl)
    · have hf := y_ifp k_4 hf
      refine lv_bipush (v := (-3)) hx hb dX1_turn_18 (by decide) ?_
      exact yret hret hf rfl w dX1_turn_20
  · have hf := y_ifp k_2 hf
    refine lv_bipush (v := (-2)) hx hb dX1_turn_7 (by decide) ?_
    exact yret hret hf rfl w dX1_turn_9
theorem hin1_swap : ∀ w ∈ wsX10, w ∈ wsX1_swap := by decide +kernel
set_option maxHeartbeats 4000000 in
set_option maxRecDepth 100000 in
theorem b1_swap_L92 {l : Launch} {D : va_G} {h0 q1 q2 q3 : Nat} {cA : ClassId} {r : Int32} {st2 : St} {p : Program} {e : Env} {s : State} {m : MethodId} {args : Array Value} {below : List Frame} {meth : Method} {c : Code} {A : Nat → Prop} {Q : State → Prop} (F : CallFix p m c cX1_swap 5 s args wsX1_swap RX1) (hA : ∀ q, s.heap.size ≤ q → A q) (hret : yRetI D 1 h0 q1 q2 q3 cA p l e 2 s m args below meth c cX1_swap A Q .int r st2) : ∀ (n : Nat) (v1 : Int32) (v2 : Int32) (v3 : Int32) (st : St), f1_swap_L92 n v1 v2 v3 st = some (r, st2) → ∀ (H : Heap) (locs : List Loc) (ls : Array Slot), Wd D 1 h0 q1 q2 q3 cA A s st H locs → lv_has ls 5 [(0, .ref h0), (1, .int v1), (2, .int v2), (3, .int v3)] → W p l e (yrm 2) s m args below meth c H locs 0 0 Q (F0 m 92 ls []) := by
  have hx := F.1
  have hb := F.2.1
  intro n
  induction n with
  | zero =>
    intro v1 v2 v3 st hf
    rw [f1_swap_L92] at hf
    cases hf
  | succ n ih =>
    intro v1 v2 v3 st hf H locs ls w hl
    rw [f1_swap_L92] at hf
    refine lv_iload_n hx hb dX1_swap_92 rfl (lv_at hl 3 rfl) ?_
    refine lv_bipush (v := 12) hx hb dX1_swap_93 (by decide) ?_
    refine lv_icmp_ge (tgt := 152) hx hb dX1_swap_95 (by decide) (fun k_19 => ?_) (fun k_19 => ?_)
    · have hf := y_ifp k_19 hf
      refine lv_aload_n hx hb dX1_swap_152 rfl (lv_at hl 0 rfl) ?_
      refine yget1 F hin1_swap w 1 (by decide) (by decide +kernel) (v := .ref q2) rfl dX1_swap_153 ?_
      refine lv_iload_n hx hb dX1_swap_156 rfl (lv_at hl 1 rfl) ?_
      obtain ⟨x_20, hx_20, hf⟩ := y_bd hf
      refine yald1 F w hx_20 dX1_swap_157 ?_
      refine lv_istore_n (lv' := [(3, .int x_20), (0, .ref h0), (1, .int v1), (2, .int v2)]) hx hb dX1_swap_158 rfl hl (by decide) rfl (fun ls hl => ?_)
      refine lv_aload_n hx hb dX1_swap_159 rfl (lv_at hl 1 rfl) ?_
      refine yget1 F hin1_swap w 1 (by decide) (by decide +kernel) (v := .ref q2) rfl dX1_swap_160 ?_
      refine lv_iload_n hx hb dX1_swap_163 rfl (lv_at hl 2 rfl) ?_
      refine lv_aload_n hx hb dX1_swap_164 rfl (lv_at hl 1 rfl) ?_
      refine yget1 F hin1_swap w 1 (by decide) (by decide +kernel) (v := .ref q2) rfl dX1_swap_165 ?_
      refine lv_iload_n hx hb dX1_swap_168 rfl (lv_at hl 3 rfl) ?_
      obtain ⟨x_21, hx_21, hf⟩ := y_bd hf
      refine yald1 F w hx_21 dX1_swap_169 ?_
      obtain ⟨st_22, hst_22, hf⟩ := y_bd hf
      refine yast1 F w hst_22 dX1_swap_170 (fun H locs w => ?_)
      refine lv_aload_n hx hb dX1_swap_171 rfl (lv_at hl 1 rfl) ?_
      refine yget1 F hin1_swap w 1 (by decide) (by decide +kernel) (v := .ref q2) rfl dX1_swap_172 ?_
      refine lv_iload_n hx hb dX1_swap_175 rfl (lv_at hl 3 rfl) ?_
      refine lv_iload_n hx hb dX1_swap_176 rfl (lv_at hl 0 rfl) ?_
      obtain ⟨st_23, hst_23, hf⟩ := y_bd hf
      refine yast1 F w hst_23 dX1_swap_177 (fun H locs w => ?_)
      refine lv_aload_n hx hb dX1_swap_178 rfl (lv_at hl 1 rfl) ?_
      refine lv_iconst (v := 3) hx hb dX1_swap_179 (by decide) ?_
      refine lv_aload_n hx hb dX1_swap_180 rfl (lv_at hl 1 rfl) ?_
      refine yget1 F hin1_swap w 1 (by decide) (by decide +kernel) (v := .ref q2) rfl dX1_swap_181 ?_
      refine lv_iload_n hx hb dX1_swap_184 rfl (lv_at hl 2 rfl) ?_
      obtain ⟨x_24, hx_24, hf⟩ := y_bd hf
      refine yald1 F w hx_24 dX1_swap_185 ?_
      obtain ⟨u_25, hu_25, hf⟩ := y_bd hf
      refine ycallI (n := 2) (r := u_25.1) (st2 := u_25.2) (rest := []) F hA (c1_goes l D 3 x_24) gX1_swap_X1_goes rfl (by decide +kernel) rfl ⟨Nat.le_of_ble_eq_true rfl, Nat.le_of_ble_eq_true rfl⟩ rfl hl.1 w hu_25 rfl (Nat.le_of_ble_eq_true rfl) ⟨Nat.zero_le _, Nat.zero_le _⟩ dX1_swap_186 (fun H locs w => ?_)
      exact yret hret hf rfl w dX1_swap_189
    · have hf := y_ifn k_19 hf
      refine lv_aload_n hx hb dX1_swap_98 rfl (lv_at hl 0 rfl) ?_
      refine yget1 F hin1_swap w 2 (by decide) (by decide +kernel) (v := .ref q3) rfl dX1_swap_99 ?_
      refine lv_bipush (v := 12) hx hb dX1_swap_102 (by decide) ?_
      refine lv_iload_n hx hb dX1_swap_104 rfl (lv_at hl 1 rfl) ?_
      refine lv_imul hx hb dX1_swap_105 ?_
      refine lv_iload_n hx hb dX1_swap_106 rfl (lv_at hl 3 rfl) ?_
      refine lv_iadd hx hb dX1_swap_107 ?_
      obtain ⟨x_26, hx_26, hf⟩ := y_bd hf
      refine yald2 F w hx_26 dX1_swap_108 ?_
      refine lv_istore (lv' := [(4, .int x_26), (0, .ref h0), (1, .int v1), (2, .int v2), (3, .int v3)]) hx hb dX1_swap_109 hl (by decide) rfl (fun ls hl => ?_)
      refine lv_aload_n hx hb dX1_swap_111 rfl (lv_at hl 1 rfl) ?_
      refine yget1 F hin1_swap w 2 (by decide) (by decide +kernel) (v := .ref q3) rfl dX1_swap_112 ?_
      refine lv_bipush (v := 12) hx hb dX1_swap_115 (by decide) ?_
      refine lv_iload_n hx hb dX1_swap_117 rfl (lv_at hl 2 rfl) ?_
      refine lv_imul hx hb dX1_swap_118 ?_
      refine lv_iload_n hx hb dX1_swap_119 rfl (lv_at hl 4 rfl) ?_
      refine lv_iadd hx hb dX1_swap_120 ?_
      refine lv_aload_n hx hb dX1_swap_121 rfl (lv_at hl 1 rfl) ?_
      refine yget1 F hin1_swap w 2 (by decide) (by decide +kernel) (v := .ref q3) rfl dX1_swap_122 ?_
      refine lv_bipush (v := 12) hx hb dX1_swap_125 (by decide) ?_
      refine lv_iload_n hx hb dX1_swap_127 rfl (lv_at hl 3 rfl) ?_
      refine lv_imul hx hb dX1_swap_128 ?_
      refine lv_iload_n hx hb dX1_swap_129 rfl (lv_at hl 4 rfl) ?_
      refine lv_iadd hx hb dX1_swap_130 ?_
      obtain ⟨x_27, hx_27, hf⟩ := y_bd hf
      refine yald2 F w hx_27 dX1_swap_131 ?_
      obtain ⟨st_28, hst_28, hf⟩ := y_bd hf
      refine yast2 F w hst_28 dX1_swap_132 (fun H locs w => ?_)
      refine lv_aload_n hx hb dX1_swap_133 rfl (lv_at hl 1 rfl) ?_
      refine yget1 F hin1_swap w 2 (by decide) (by decide +kernel) (v := .ref q3) rfl dX1_swap_134 ?_
      refine lv_bipush (v := 12) hx hb dX1_swap_137 (by decide) ?_
      refine lv_iload_n hx hb dX1_swap_139 rfl (lv_at hl 3 rfl) ?_
      refine lv_imul hx hb dX1_swap_140 ?_
      refine lv_iload_n hx hb dX1_swap_141 rfl (lv_at hl 4 rfl) ?_
      refine lv_iadd hx hb dX1_swap_142 ?_
      refine lv_iload hx hb dX1_swap_143 (lv_at hl 0 rfl) ?_
      obtain ⟨st_29, hst_29, hf⟩ := y_bd hf
      refine yast2 F w hst_29 dX1_swap_145 (fun H locs w => ?_)
      refine lv_iinc (v := v3 + 1) (lv' := [(3, .int (v3 + 1)), (4, .int x_26), (0, .ref h0), (1, .int v1), (2, .int v2)]) hx hb dX1_swap_146 hl (k := 4) rfl rfl (by decide) rfl (fun ls hl => ?_)
      refine lv_goto (tgt := 92) hx hb dX1_swap_149 (by decide) ?_
      exact ih v1 v2 (v3 + 1) st_29 hf _ _ _ w (lv_sub hl [2, 3, 4, 0] rfl)
set_option maxHeartbeats 4000000 in
set_option maxRecDepth 100000 in
theorem c1_swap (l : Launch) (D : va_G) (a1 : Int32) (a2 : Int32) : yMet l D 1 yX1_swap wsX1_swap 2 [.int a1, .int a2] (f1_swap a1 a2) := by
  refine yentI (cc := cX1_swap) (nL := 5) (ret := .int) (by decide) rfl (fun _ => Nat.le_of_ble_eq_true rfl) ?_
  intro h0 q1 q2 q3 cA r st2 p e s m args below meth c A Q F hA hret st hf H locs ls w hl
  have F : CallFix p m c cX1_swap 5 s args wsX1_swap RX1 := F
  have hx := F.1
  have hb := F.2.1
  have hl : lv_has ls 5 [(0, .ref h0), (1, .int a1), (2, .int a2)] := hl
  unfold f1_swap at hf
  refine lv_iload_n hx hb dX1_swap_0 rfl (lv_at hl 1 rfl) ?_
  obtain ⟨u_1, hu_1, hf⟩ := y_bd hf
  refine ycallSW (n := 1) (rest := []) F hA (c1_isTrack l a1) gX1_swap_X1_isTrack rfl (by decide +kernel) ⟨Nat.le_of_ble_eq_true rfl, Nat.le_of_ble_eq_true rfl⟩ rfl hl.1 w hu_1 rfl (Nat.le_of_ble_eq_true rfl) ⟨Nat.zero_le _, Nat.zero_le _⟩ dX1_swap_1 (fun H locs w => ?_)
  refine lv_if_eq (tgt := 14) hx hb dX1_swap_4 (by decide) (fun k_2 => ?_) (fun k_2 => ?_)
  · have hf := y_ifp k_2 hf
    refine lv_bipush (v := (-2)) hx hb dX1_swap_14 (by decide) ?_
    exact yret hret hf rfl w dX1_swap_16
  · have hf := y_ifn k_2 hf
    refine lv_iload_n hx hb dX1_swap_7 rfl (lv_at hl 2 rfl) ?_
    obtain ⟨u_3, hu_3, hf⟩ := y_bd hf
    refine ycallSW (n := 1) (rest := []) F hA (c1_isTrack l a2) gX1_swap_X1_isTrack rfl (by decide +kernel) ⟨Nat.le_of_ble_eq_true rfl, Nat.le_of_ble_eq_true rfl⟩ rfl hl.1 w hu_3 rfl (Nat.le_of_ble_eq_true rfl) ⟨Nat.zero_le _, Nat.zero_le _⟩ dX1_swap_8 (fun H locs w => ?_)
    refine lv_if_ne (tgt := 17) hx hb dX1_swap_11 (by decide) (fun k_4 => ?_) (fun k_4 => ?_)
    · have hf := y_ifn k_4 hf
      refine lv_aload_n hx hb dX1_swap_17 rfl (lv_at hl 0 rfl) ?_
      refine lv_iload_n hx hb dX1_swap_18 rfl (lv_at hl 1 rfl) ?_
      obtain ⟨u_5, hu_5, hf⟩ := y_bd hf
      refine ycallI (n := 1) (r := u_5.1) (st2 := u_5.2) (rest := []) F hA (c1_holds l D a1) gX1_swap_X1_holds rfl (by decide +kernel) rfl ⟨Nat.le_of_ble_eq_true rfl, Nat.le_of_ble_eq_true rfl⟩ rfl hl.1 w hu_5 rfl (Nat.le_of_ble_eq_true rfl) ⟨Nat.zero_le _, Nat.zero_le _⟩ dX1_swap_19 (fun H locs w => ?_)
      refine lv_if_ne (tgt := 28) hx hb dX1_swap_22 (by decide) (fun k_6 => ?_) (fun k_6 => ?_)
      · have hf := y_ifn k_6 hf
        refine lv_aload_n hx hb dX1_swap_28 rfl (lv_at hl 0 rfl) ?_
        refine lv_iload_n hx hb dX1_swap_29 rfl (lv_at hl 2 rfl) ?_
        obtain ⟨u_7, hu_7, hf⟩ := y_bd hf
        refine ycallI (n := 1) (r := u_7.1) (st2 := u_7.2) (rest := []) F hA (c1_holds l D a2) gX1_swap_X1_holds rfl (by decide +kernel) rfl ⟨Nat.le_of_ble_eq_true rfl, Nat.le_of_ble_eq_true rfl⟩ rfl hl.1 w hu_7 rfl (Nat.le_of_ble_eq_true rfl) ⟨Nat.zero_le _, Nat.zero_le _⟩ dX1_swap_30 (fun H locs w => ?_)
        refine lv_if_ne (tgt := 44) hx hb dX1_swap_33 (by decide) (fun k_8 => ?_) (fun k_8 => ?_)
        · have hf := y_ifn k_8 hf
          refine lv_aload_n hx hb dX1_swap_44 rfl (lv_at hl 0 rfl) ?_
          refine lv_iload_n hx hb dX1_swap_45 rfl (lv_at hl 1 rfl) ?_
          obtain ⟨u_9, hu_9, hf⟩ := y_bd hf
          refine ycallI (n := 1) (r := u_9.1) (st2 := u_9.2) (rest := []) F hA (c1_holds l D a1) gX1_swap_X1_holds rfl (by decide +kernel) rfl ⟨Nat.le_of_ble_eq_true rfl, Nat.le_of_ble_eq_true rfl⟩ rfl hl.1 w hu_9 rfl (Nat.le_of_ble_eq_true rfl) ⟨Nat.zero_le _, Nat.zero_le _⟩ dX1_swap_46 (fun H locs w => ?_)
          refine lv_if_eq (tgt := 82) hx hb dX1_swap_49 (by decide) (fun k_10 => ?_) (fun k_10 => ?_)
          · have hf := y_ifp k_10 hf
            refine lv_aload_n hx hb dX1_swap_82 rfl (lv_at hl 0 rfl) ?_
            refine lv_iconst (v := 3) hx hb dX1_swap_83 (by decide) ?_
            refine lv_bipush (v := (-4)) hx hb dX1_swap_84 (by decide) ?_
            obtain ⟨u_11, hu_11, hf⟩ := y_bd hf
            refine ycallI (n := 2) (r := u_11.1) (st2 := u_11.2) (rest := []) F hA (c1_goes l D 3 (-4)) gX1_swap_X1_goes rfl (by decide +kernel) rfl ⟨Nat.le_of_ble_eq_true rfl, Nat.le_of_ble_eq_true rfl⟩ rfl hl.1 w hu_11 rfl (Nat.le_of_ble_eq_true rfl) ⟨Nat.zero_le _, Nat.zero_le _⟩ dX1_swap_86 (fun H locs w => ?_)
            exact yret hret hf rfl w dX1_swap_89
          · have hf := y_ifn k_10 hf
            refine lv_aload_n hx hb dX1_swap_52 rfl (lv_at hl 0 rfl) ?_
            refine yget1 F hin1_swap w 1 (by decide) (by decide +kernel) (v := .ref q2) rfl dX1_swap_53 ?_
            refine lv_iload_n hx hb dX1_swap_56 rfl (lv_at hl 1 rfl) ?_
            obtain ⟨x_12, hx_12, hf⟩ := y_bd hf
            refine yald1 F w hx_12 dX1_swap_57 ?_
            refine lv_aload_n hx hb dX1_swap_58 rfl (lv_at hl 0 rfl) ?_
            refine yget1 F hin1_swap w 0 (by decide) (by decide +kernel) (v := .ref q1) rfl dX1_swap_59 ?_
            refine lv_iload_n hx hb dX1_swap_62 rfl (lv_at hl 2 rfl) ?_
            obtain ⟨x_13, hx_13, hf⟩ := y_bd hf
            refine yald0 F w hx_13 dX1_swap_63 ?_
            refine lv_icmp_gt (tgt := 82) hx hb dX1_swap_64 (by decide) (fun k_14 => ?_) (fun k_14 => ?_)
            · have hf := y_ifp k_14 hf
              refine lv_aload_n hx hb dX1_swap_82 rfl (lv_at hl 0 rfl) ?_
              refine lv_iconst (v := 3) hx hb dX1_swap_83 (by decide) ?_
              refine lv_bipush (v := (-4)) hx hb dX1_swap_84 (by decide) ?_
              obtain ⟨u_15, hu_15, hf⟩ := y_bd hf
              refine ycallI (n := 2) (r := u_15.1) (st2 := u_15.2) (rest := []) F hA (c1_goes l D 3 (-4)) gX1_swap_X1_goes rfl (by decide +kernel) rfl ⟨Nat.le_of_ble_eq_true rfl, Nat.le_of_ble_eq_true rfl⟩ rfl hl.1 w hu_15 rfl (Nat.le_of_ble_eq_true rfl) ⟨Nat.zero_le _, Nat.zero_le _⟩ dX1_swap_86 (fun H locs w => ?_)
              exact yret hret hf rfl w dX1_swap_89
            · have hf := y_ifn k_14 hf
              refine lv_aload_n hx hb dX1_swap_67 rfl (lv_at hl 0 rfl) ?_
              refine yget1 F hin1_swap w 1 (by decide) (by decide +kernel) (v := .ref q2) rfl dX1_swap_68 ?_
              refine lv_iload_n hx hb dX1_swap_71 rfl (lv_at hl 2 rfl) ?_
              obtain ⟨x_16, hx_16, hf⟩ := y_bd hf
              refine yald1 F w hx_16 dX1_swap_72 ?_
              refine lv_aload_n hx hb dX1_swap_73 rfl (lv_at hl 0 rfl) ?_
              refine yget1 F hin1_swap w 0 (by decide) (by decide +kernel) (v := .ref q1) rfl dX1_swap_74 ?_
              refine lv_iload_n hx hb dX1_swap_77 rfl (lv_at hl 1 rfl) ?_
              obtain ⟨x_17, hx_17, hf⟩ := y_bd hf
              refine yald0 F w hx_17 dX1_swap_78 ?_
              refine lv_icmp_le (tgt := 90) hx hb dX1_swap_79 (by decide) (fun k_18 => ?_) (fun k_18 => ?_)
              · have hf := y_ifp k_18 hf
                refine lv_iconst (v := 0) hx hb dX1_swap_90 (by decide) ?_
                refine lv_istore_n (lv' := [(3, .int 0), (0, .ref h0), (1, .int a1), (2, .int a2)]) hx hb dX1_swap_91 rfl hl (by decide) rfl (fun ls hl => ?_)
                exact b1_swap_L92 F hA hret 40 a1 a2 0 u_9.2 hf _ _ _ w (lv_sub hl [1, 2, 3, 0] rfl)
              · have hf := y_ifn k_18 hf
                refine lv_aload_n hx hb dX1_swap_82 rfl (lv_at hl 0 rfl) ?_
                refine lv_iconst (v := 3) hx hb dX1_swap_83 (by decide) ?_
                refine lv_bipush (v := (-4)) hx hb dX1_swap_84 (by decide) ?_
                obtain ⟨u_30, hu_30, hf⟩ := y_bd hf
                refine ycallI (n := 2) (r := u_30.1) (st2 := u_30.2) (rest := []) F hA (c1_goes l D 3 (-4)) gX1_swap_X1_goes rfl (by decide +kernel) rfl ⟨Nat.le_of_ble_eq_true rfl, Nat.le_of_ble_eq_true rfl⟩ rfl hl.1 w hu_30 rfl (Nat.le_of_ble_eq_true rfl) ⟨Nat.zero_le _, Nat.zero_le _⟩ dX1_swap_86 (fun H locs w => ?_)
                exact yret hret hf rfl w dX1_swap_89
        · have hf := y_ifp k_8 hf
          refine lv_aload_n hx hb dX1_swap_36 rfl (lv_at hl 0 rfl) ?_
          refine lv_iconst (v := 1) hx hb dX1_swap_37 (by decide) ?_
          refine lv_bipush (v := (-3)) hx hb dX1_swap_38 (by decide) ?_
          obtain ⟨u_31, hu_31, hf⟩ := y_bd hf
          refine ycallI (n := 2) (r := u_31.1) (st2 := u_31.2) (rest := []) F hA (c1_goes l D 1 (-3)) gX1_swap_X1_goes rfl (by decide +kernel) rfl ⟨Nat.le_of_ble_eq_true rfl, Nat.le_of_ble_eq_true rfl⟩ rfl hl.1 w hu_31 rfl (Nat.le_of_ble_eq_true rfl) ⟨Nat.zero_le _, Nat.zero_le _⟩ dX1_swap_40 (fun H locs w => ?_)
          exact yret hret hf rfl w dX1_swap_43
      · have hf := y_ifp k_6 hf
        refine lv_bipush (v := (-3)) hx hb dX1_swap_25 (by decide) ?_
        exact yret hret hf rfl w dX1_swap_27
    · have hf := y_ifp k_4 hf
      refine lv_bipush (v := (-2)) hx hb dX1_swap_14 (by decide) ?_
      exact yret hret hf rfl w dX1_swap_16
theorem hin1_wagon : ∀ w ∈ wsX10, w ∈ wsX1_wagon := by decide +kernel
set_option maxHeartbeats 4000000 in
set_option maxRecDepth 100000 in
theorem c1_wagon (l : Launch) (D : va_G) (a1 : Int32) (a2 : Int32) : yMet l D 1 yX1_wagon wsX1_wagon 2 [.int a1, .int a2] (f1_wagon a1 a2) := by
  refine yentI (cc := cX1_wagon) (nL := 3) (ret := .int) (by decide) rfl (fun _ => Nat.le_of_ble_eq_true rfl) ?_
  intro h0 q1 q2 q3 cA r st2 p e s m args below meth c A Q F hA hret st hf H locs ls w hl
  have F : CallFix p m c cX1_wagon 3 s args wsX1_wagon RX1 := F
  have hx := F.1
  have hb := F.2.1
  have hl : lv_has ls 3 [(0, .ref h0), (1, .int a1), (2, .int a2)] := hl
  unfold f1_wagon at hf
  refine lv_iload_n hx hb dX1_wagon_0 rfl (lv_at hl 1 rfl) ?_
  obtain ⟨u_1, hu_1, hf⟩ := y_bd hf
  refine ycallSW (n := 1) (rest := []) F hA (c1_isTrack l a1) gX1_wagon_X1_isTrack rfl (by decide +kernel) ⟨Nat.le_of_ble_eq_true rfl, Nat.le_of_ble_eq_true rfl⟩ rfl hl.1 w hu_1 rfl (Nat.le_of_ble_eq_true rfl) ⟨Nat.zero_le _, Nat.zero_le _⟩ dX1_wagon_1 (fun H locs w => ?_)
  refine lv_if_ne (tgt := 10) hx hb dX1_wagon_4 (by decide) (fun k_2 => ?_) (fun k_2 => ?_)
  · have hf := y_ifn k_2 hf
    refine lv_iload_n hx hb dX1_wagon_10 rfl (lv_at hl 2 rfl) ?_
    refine lv_iconst (v := 0) hx hb dX1_wagon_11 (by decide) ?_
    refine lv_aload_n hx hb dX1_wagon_12 rfl (lv_at hl 0 rfl) ?_
    refine yget1 F hin1_wagon w 1 (by decide) (by decide +kernel) (v := .ref q2) rfl dX1_wagon_13 ?_
    refine lv_iload_n hx hb dX1_wagon_16 rfl (lv_at hl 1 rfl) ?_
    obtain ⟨x_3, hx_3, hf⟩ := y_bd hf
    refine yald1 F w hx_3 dX1_wagon_17 ?_
    refine lv_iconst (v := 1) hx hb dX1_wagon_18 (by decide) ?_
    refine lv_isub hx hb dX1_wagon_19 ?_
    obtain ⟨u_4, hu_4, hf⟩ := y_bd hf
    refine ycallSW (n := 3) (rest := []) F hA (c1_in l a2 0 (x_3 - 1)) gX1_wagon_X1_in rfl (by decide +kernel) ⟨Nat.le_of_ble_eq_true rfl, Nat.le_of_ble_eq_true rfl⟩ rfl hl.1 w hu_4 rfl (Nat.le_of_ble_eq_true rfl) ⟨Nat.zero_le _, Nat.zero_le _⟩ dX1_wagon_20 (fun H locs w => ?_)
    refine lv_if_eq (tgt := 40) hx hb dX1_wagon_23 (by decide) (fun k_5 => ?_) (fun k_5 => ?_)
    · have hf := y_ifp k_5 hf
      refine lv_iconst (v := 0) hx hb dX1_wagon_40 (by decide) ?_
      exact yret hret hf rfl w dX1_wagon_41
    · have hf := y_ifn k_5 hf
      refine lv_aload_n hx hb dX1_wagon_26 rfl (lv_at hl 0 rfl) ?_
      refine yget1 F hin1_wagon w 2 (by decide) (by decide +kernel) (v := .ref q3) rfl dX1_wagon_27 ?_
      refine lv_bipush (v := 12) hx hb dX1_wagon_30 (by decide) ?_
      refine lv_iload_n hx hb dX1_wagon_32 rfl (lv_at hl 1 rfl) ?_
      refine lv_imul hx hb dX1_wagon_33 ?_
      refine lv_iload_n hx hb dX1_wagon_34 rfl (lv_at hl 2 rfl) ?_
      refine lv_iadd hx hb dX1_wagon_35 ?_
      obtain ⟨x_6, hx_6, hf⟩ := y_bd hf
      refine yald2 F w hx_6 dX1_wagon_36 ?_
      refine lv_goto (tgt := 41) hx hb dX1_wagon_37 (by decide) ?_
      exact yret hret hf rfl w dX1_wagon_41
  · have hf := y_ifp k_2 hf
    refine lv_bipush (v := (-2)) hx hb dX1_wagon_7 (by decide) ?_
    exact yret hret hf rfl w dX1_wagon_9
theorem hin1_told : ∀ w ∈ wsX10, w ∈ wsX1_told := by decide +kernel
set_option maxHeartbeats 4000000 in
set_option maxRecDepth 100000 in
theorem b1_told_L4 {l : Launch} {D : va_G} {h0 q1 q2 q3 : Nat} {cA : ClassId} {r : Int32} {st2 : St} {p : Program} {e : Env} {s : State} {m : MethodId} {args : Array Value} {below : List Frame} {meth : Method} {c : Code} {A : Nat → Prop} {Q : State → Prop} (F : CallFix p m c cX1_told 4 s args wsX1_told RX1) (hA : ∀ q, s.heap.size ≤ q → A q) (hret : yRetI D 1 h0 q1 q2 q3 cA p l e 0 s m args below meth c cX1_told A Q .int r st2) : ∀ (n : Nat) (v1 : Int32) (v2 : Int32) (v3 : Int32) (st : St), f1_told_L4 n v1 v2 v3 st = some (r, st2) → ∀ (H : Heap) (locs : List Loc) (ls : Array Slot), Wd D 1 h0 q1 q2 q3 cA A s st H locs → lv_has ls 4 [(0, .ref h0), (1, .int v1), (2, .int v2), (3, .int v3)] → W p l e (yrm 0) s m args below meth c H locs 0 0 Q (F0 m 4 ls []) := by
  have hx := F.1
  have hb := F.2.1
  intro n
  induction n with
  | zero =>
    intro v1 v2 v3 st hf
    rw [f1_told_L4] at hf
    cases hf
  | succ n ih =>
    intro v1 v2 v3 st hf H locs ls w hl
    rw [f1_told_L4] at hf
    refine lv_iload_n hx hb dX1_told_4 rfl (lv_at hl 3 rfl) ?_
    refine lv_bipush (v := 8) hx hb dX1_told_5 (by decide) ?_
    refine lv_icmp_ge (tgt := 33) hx hb dX1_told_7 (by decide) (fun k_1 => ?_) (fun k_1 => ?_)
    · have hf := y_ifp k_1 hf
      refine lv_iload_n hx hb dX1_told_33 rfl (lv_at hl 1 rfl) ?_
      by_cases k_2 : v1 = 0
      · have hf := y_ifp k_2 hf
        refine lv_tableIn (off := 42) (tgt := 76) hx hb dX1_told_34 (by rw [k_2]; decide) (by rw [k_2]; decide) (by rw [k_2]; decide) (by decide) ?_
        refine lv_aload_n hx hb dX1_told_76 rfl (lv_at hl 0 rfl) ?_
        refine yget1 F hin1_told w 3 (by decide) (by decide +kernel) (v := .int (yG3 st)) rfl dX1_told_77 ?_
        exact yret hret hf rfl w dX1_told_80
      have hf := y_ifn k_2 hf
      by_cases k_3 : v1 = 1
      · have hf := y_ifp k_3 hf
        refine lv_tableIn (off := 47) (tgt := 81) hx hb dX1_told_34 (by rw [k_3]; decide) (by rw [k_3]; decide) (by rw [k_3]; decide) (by decide) ?_
        refine lv_aload_n hx hb dX1_told_81 rfl (lv_at hl 0 rfl) ?_
        refine yget1 F hin1_told w 4 (by decide) (by decide +kernel) (v := .int (yG4 st)) rfl dX1_told_82 ?_
        exact yret hret hf rfl w dX1_told_85
      have hf := y_ifn k_3 hf
      by_cases k_4 : v1 = 2
      · have hf := y_ifp k_4 hf
        refine lv_tableIn (off := 52) (tgt := 86) hx hb dX1_told_34 (by rw [k_4]; decide) (by rw [k_4]; decide) (by rw [k_4]; decide) (by decide) ?_
        refine lv_aload_n hx hb dX1_told_86 rfl (lv_at hl 0 rfl) ?_
        refine yget1 F hin1_told w 5 (by decide) (by decide +kernel) (v := .int (yG5 st)) rfl dX1_told_87 ?_
        exact yret hret hf rfl w dX1_told_90
      have hf := y_ifn k_4 hf
      by_cases k_5 : v1 = 3
      · have hf := y_ifp k_5 hf
        refine lv_tableIn (off := 57) (tgt := 91) hx hb dX1_told_34 (by rw [k_5]; decide) (by rw [k_5]; decide) (by rw [k_5]; decide) (by decide) ?_
        refine lv_aload_n hx hb dX1_told_91 rfl (lv_at hl 0 rfl) ?_
        refine yget1 F hin1_told w 6 (by decide) (by decide +kernel) (v := .int (yG6 st)) rfl dX1_told_92 ?_
        exact yret hret hf rfl w dX1_told_95
      have hf := y_ifn k_5 hf
      by_cases k_6 : v1 = 4
      · have hf := y_ifp k_6 hf
        refine lv_tableIn (off := 62) (tgt := 96) hx hb dX1_told_34 (by rw [k_6]; decide) (by rw [k_6]; decide) (by rw [k_6]; decide) (by decide) ?_
        refine lv_aload_n hx hb dX1_told_96 rfl (lv_at hl 0 rfl) ?_
        refine yget1 F hin1_told w 7 (by decide) (by decide +kernel) (v := .int (yG7 st)) rfl dX1_told_97 ?_
        exact yret hret hf rfl w dX1_told_100
      have hf := y_ifn k_6 hf
      by_cases k_7 : v1 = 5
      · have hf := y_ifp k_7 hf
        refine lv_tableIn (off := 67) (tgt := 101) hx hb dX1_told_34 (by rw [k_7]; decide) (by rw [k_7]; decide) (by rw [k_7]; decide) (by decide) ?_
        refine lv_aload_n hx hb dX1_told_101 rfl (lv_at hl 0 rfl) ?_
        refine yget1 F hin1_told w 8 (by decide) (by decide +kernel) (v := .int (yG8 st)) rfl dX1_told_102 ?_
        exact yret hret hf rfl w dX1_told_105
      have hf := y_ifn k_7 hf
      by_cases k_8 : v1 = 6
      · have hf := y_ifp k_8 hf
        refine lv_tableIn (off := 72) (tgt := 106) hx hb dX1_told_34 (by rw [k_8]; decide) (by rw [k_8]; decide) (by rw [k_8]; decide) (by decide) ?_
        refine lv_iload_n hx hb dX1_told_106 rfl (lv_at hl 2 rfl) ?_
        exact yret hret hf rfl w dX1_told_107
      have hf := y_ifn k_8 hf
      refine lv_tableOut (tgt := 108) hx hb dX1_told_34 (by have g0 := lv_neT (a := 0) k_2 rfl; have g1 := lv_neT (a := 1) k_3 rfl; have g2 := lv_neT (a := 2) k_4 rfl; have g3 := lv_neT (a := 3) k_5 rfl; have g4 := lv_neT (a := 4) k_6 rfl; have g5 := lv_neT (a := 5) k_7 rfl; have g6 := lv_neT (a := 6) k_8 rfl; omega) (by decide) ?_
      refine lv_bipush (v := (-2)) hx hb dX1_told_108 (by decide) ?_
      exact yret hret hf rfl w dX1_told_110
    · have hf := y_ifn k_1 hf
      refine lv_iload_n hx hb dX1_told_10 rfl (lv_at hl 2 rfl) ?_
      refine lv_aload_n hx hb dX1_told_11 rfl (lv_at hl 0 rfl) ?_
      refine yget1 F hin1_told w 0 (by decide) (by decide +kernel) (v := .ref q1) rfl dX1_told_12 ?_
      refine lv_iload_n hx hb dX1_told_15 rfl (lv_at hl 3 rfl) ?_
      obtain ⟨x_9, hx_9, hf⟩ := y_bd hf
      refine yald0 F w hx_9 dX1_told_16 ?_
      refine lv_if_le (tgt := 24) hx hb dX1_told_17 (by decide) (fun k_10 => ?_) (fun k_10 => ?_)
      · have hf := y_ifp k_10 hf
        refine lv_iconst (v := 0) hx hb dX1_told_24 (by decide) ?_
        refine lv_iadd hx hb dX1_told_25 ?_
        refine lv_istore_n (lv' := [(2, .int (v2 + 0)), (0, .ref h0), (1, .int v1), (3, .int v3)]) hx hb dX1_told_26 rfl hl (by decide) rfl (fun ls hl => ?_)
        refine lv_iinc (v := v3 + 1) (lv' := [(3, .int (v3 + 1)), (2, .int (v2 + 0)), (0, .ref h0), (1, .int v1)]) hx hb dX1_told_27 hl (k := 3) rfl rfl (by decide) rfl (fun ls hl => ?_)
        refine lv_goto (tgt := 4) hx hb dX1_told_30 (by decide) ?_
        exact ih v1 (v2 + 0) (v3 + 1) st hf _ _ _ w (lv_sub hl [2, 3, 1, 0] rfl)
      · have hf := y_ifn k_10 hf
        refine lv_iconst (v := 1) hx hb dX1_told_20 (by decide) ?_
        refine lv_goto (tgt := 25) hx hb dX1_told_21 (by decide) ?_
        refine lv_iadd hx hb dX1_told_25 ?_
        refine lv_istore_n (lv' := [(2, .int (v2 + 1)), (0, .ref h0), (1, .int v1), (3, .int v3)]) hx hb dX1_told_26 rfl hl (by decide) rfl (fun ls hl => ?_)
        refine lv_iinc (v := v3 + 1) (lv' := [(3, .int (v3 + 1)), (2, .int (v2 + 1)), (0, .ref h0), (1, .int v1)]) hx hb dX1_told_27 hl (k := 3) rfl rfl (by decide) rfl (fun ls hl => ?_)
        refine lv_goto (tgt := 4) hx hb dX1_told_30 (by decide) ?_
        exact ih v1 (v2 + 1) (v3 + 1) st hf _ _ _ w (lv_sub hl [2, 3, 1, 0] rfl)
set_option maxHeartbeats 4000000 in
set_option maxRecDepth 100000 in
theorem c1_told (l : Launch) (D : va_G) (a1 : Int32) : yMet l D 1 yX1_told wsX1_told 0 [.int a1] (f1_told a1) := by
  refine yentI (cc := cX1_told) (nL := 4) (ret := .int) (by decide) rfl (fun _ => Nat.le_of_ble_eq_true rfl) ?_
  intro h0 q1 q2 q3 cA r st2 p e s m args below meth c A Q F hA hret st hf H locs ls w hl
  have F : CallFix p m c cX1_told 4 s args wsX1_told RX1 := F
  have hx := F.1
  have hb := F.2.1
  have hl : lv_has ls 4 [(0, .ref h0), (1, .int a1)] := hl
  unfold f1_told at hf
  refine lv_iconst (v := 0) hx hb dX1_told_0 (by decide) ?_
  refine lv_istore_n (lv' := [(2, .int 0), (0, .ref h0), (1, .int a1)]) hx hb dX1_told_1 rfl hl (by decide) rfl (fun ls hl => ?_)
  refine lv_iconst (v := 0) hx hb dX1_told_2 (by decide) ?_
  refine lv_istore_n (lv' := [(3, .int 0), (2, .int 0), (0, .ref h0), (1, .int a1)]) hx hb dX1_told_3 rfl hl (by decide) rfl (fun ls hl => ?_)
  exact b1_told_L4 F hA hret 40 a1 0 0 st hf _ _ _ w (lv_sub hl [2, 3, 1, 0] rfl)
end
section
/-! The pure programs of class and reference under the invariant: what the small methods answer. -/
def Inv (st : St) : Prop := ∀ k : Nat, ∃ r c w : Nat, yG0 st k = nI r ∧ yG1 st k = nI c ∧ yG2 st k = nI w ∧ c ≤ r ∧ r ≤ 12 ∧ w ≤ 999
theorem z_nI (n : Nat) : (OfNat.ofNat n : Int32) = nI n := rfl
theorem z_rd {f : Nat → Int32} {n j : Nat} (h : j < n) (hn : n < 2 ^ 31) : yrd f n (nI j) = some (f j) := by
  have h1 := nI_in h hn
  unfold yrd
  rw [if_neg h1, nI_clamp (by omega)]
theorem z_wr {f : Nat → Int32} {n j : Nat} {x : Int32} (h : j < n) (hn : n < 2 ^ 31) : ywr f n (nI j) x = some (upd f j x) := by
  have h1 := nI_in h hn
  unfold ywr
  rw [if_neg h1, nI_clamp (by omega)]
theorem z_r8 {f : Nat → Int32} {j : Nat} (h : j < 8) : yrd f 8 (nI j) = some (f j) := z_rd h (by decide)
theorem z_r96 {f : Nat → Int32} {j : Nat} (h : j < 96) : yrd f 96 (nI j) = some (f j) := z_rd h (by decide)
theorem z_w0 {st : St} {j : Nat} {x : Int32} (h : j < 8) : yW0 st (nI j) x = some (yS0 st (upd (yG0 st) j x)) := by unfold yW0; rw [z_wr h (by decide)]; rfl
theorem z_w1 {st : St} {j : Nat} {x : Int32} (h : j < 8) : yW1 st (nI j) x = some (yS1 st (upd (yG1 st) j x)) := by unfold yW1; rw [z_wr h (by decide)]; rfl
theorem z_w2 {st : St} {j : Nat} {x : Int32} (h : j < 96) : yW2 st (nI j) x = some (yS2 st (upd (yG2 st) j x)) := by unfold yW2; rw [z_wr h (by decide)]; rfl
theorem z_it0 {j : Nat} (h : j < 8) : f0_isTrack (nI j) = some 1 := by
  unfold f0_isTrack
  rw [if_neg (nI_pos (by omega)), if_neg (show ¬ (8 : Int32) ≤ nI j from nI_ge (b := 8) h (by decide))]
theorem z_it1 {j : Nat} (h : j < 8) : f1_isTrack (nI j) = some 1 := by
  unfold f1_isTrack f1_in
  rw [if_neg (nI_pos (by omega)), if_neg (show ¬ (7 : Int32) < nI j from nI_nlt (b := j) (a := 7) (by omega) (by decide))]
  rfl
theorem z_bad (a : Int32) : (∃ j, j < 8 ∧ a = nI j) ∨ (f0_isTrack a = some 0 ∧ f1_isTrack a = some 0) := by
  unfold f0_isTrack f1_isTrack f1_in
  by_cases h : a < 0
  · right; rw [if_pos h, if_pos h]; exact ⟨rfl, rfl⟩
  · by_cases h2 : 8 ≤ a
    · right
      have h3 : (7 : Int32) < a := by
        rw [Int32.lt_iff_toInt_lt]; rw [Int32.le_iff_toInt_le] at h2
        have e7 : (7 : Int32).toInt = 7 := rfl
        have e8 : (8 : Int32).toInt = 8 := rfl
        omega
      rw [if_neg h, if_pos h2, if_neg h, if_pos h3]; exact ⟨rfl, rfl⟩
    · left
      obtain ⟨j, hj, rfl⟩ := nI_of h
      refine ⟨j, ?_, rfl⟩
      rcases Nat.lt_or_ge j 8 with q | q
      · exact q
      · exact absurd (nI_le q hj) h2
-- holds
def zH0 (st : St) : St := yS3 st (yG3 st + 1)
def zH1 (st : St) : St := (st.1, st.2.1, st.2.2.1, st.2.2.2.1 + 1, st.2.2.2.2.1 + 1, st.2.2.2.2.2.1, st.2.2.2.2.2.2.1 + 1, (if st.2.2.2.2.2.2.2.1 < st.2.2.2.2.2.2.1 + 1 then st.2.2.2.2.2.2.1 + 1 else st.2.2.2.2.2.2.2.1), st.2.2.2.2.2.2.2.2)
theorem z_h0y {st : St} {j : Nat} (hI : Inv st) (hj : j < 8) (h : yG0 st j ≠ 0) : f0_hold (nI j) st = some (1, zH1 st) := by
  obtain ⟨r, c, w, e0, e1, e2, h1, h2, h3⟩ := hI j
  have hle : ¬ yG0 st j ≤ 0 := by
    rw [e0] at h ⊢
    exact nI_nle (Nat.pos_of_ne_zero (fun q => h (by rw [q]; rfl))) (by omega)
  unfold f0_hold f0_isThere
  simp only [yP3, Option.bind_some, z_r8 hj]
  rw [if_neg (show ¬ yG0 (yS3 st (yG3 st + 1)) j ≤ 0 from hle)]
  rfl
theorem z_h0n {st : St} {j : Nat} (hj : j < 8) (h : yG0 st j = 0) : f0_hold (nI j) st = some (0, zH0 st) := by
  unfold f0_hold f0_isThere
  simp only [yP3, Option.bind_some, z_r8 hj]
  rw [if_pos (show yG0 (yS3 st (yG3 st + 1)) j ≤ 0 from by show yG0 st j ≤ 0; rw [h]; decide)]
  rfl
theorem z_h1y {st : St} {j : Nat} (hj : j < 8) (h : yG0 st j ≠ 0) : f1_holds (nI j) st = some (1, zH1 st) := by
  unfold f1_holds
  simp only [yP3, yP4, yP6, yP7, Option.bind_some, z_r8 hj]
  rw [if_neg (show ¬ yG0 (yS3 st (yG3 st + 1)) j = 0 from h)]
  by_cases q : st.2.2.2.2.2.2.2.1 < st.2.2.2.2.2.2.1 + 1
  · refine (if_neg (fun q2 => ?_)).trans ?_
    · exact absurd (show st.2.2.2.2.2.2.1 + 1 ≤ st.2.2.2.2.2.2.2.1 from q2) (Int32.not_le.mpr q)
    · unfold zH1; rw [if_pos q]; rfl
  · refine (if_pos ?_).trans ?_
    · exact (show st.2.2.2.2.2.2.1 + 1 ≤ st.2.2.2.2.2.2.2.1 from Int32.not_lt.mp q)
    · unfold zH1; rw [if_neg q]; rfl
theorem z_h1n {st : St} {j : Nat} (hj : j < 8) (h : yG0 st j = 0) : f1_holds (nI j) st = some (0, zH0 st) := by
  unfold f1_holds
  simp only [yP3, Option.bind_some, z_r8 hj]
  rw [if_pos (show yG0 (yS3 st (yG3 st + 1)) j = 0 from h)]
  rfl
-- what is let go
def zL (n a : Int32) (st : St) : St := if 0 ≤ a then yS6 st (yG6 st - n) else yS5 (yS6 st (yG6 st - n)) (yG5 st + n)
theorem z_l0 (n a : Int32) (st : St) : f0_letGo n a st = some (a, zL n a st) := by
  unfold f0_letGo zL
  simp only [yP6, yP5, Option.bind_some]
  by_cases h : 0 ≤ a
  · rw [if_pos h, if_pos h]
  · rw [if_neg h, if_neg h]; rfl
theorem z_l1 (n a : Int32) (st : St) : f1_goes n a st = some (a, zL n a st) := z_l0 n a st
theorem zL_p {n a : Int32} {st : St} (h : 0 ≤ a) : zL n a st = yS6 st (yG6 st - n) := if_pos h
theorem zL_n {n a : Int32} {st : St} (h : ¬ 0 ≤ a) : zL n a st = yS5 (yS6 st (yG6 st - n)) (yG5 st + n) := if_neg h
theorem zL_G {n a : Int32} {st : St} : yG0 (zL n a st) = yG0 st ∧ yG1 (zL n a st) = yG1 st ∧ yG2 (zL n a st) = yG2 st ∧ yG8 (zL n a st) = yG8 st := by
  unfold zL
  by_cases h : 0 ≤ a
  · rw [if_pos h]; exact ⟨rfl, rfl, rfl, rfl⟩
  · rw [if_neg h]; exact ⟨rfl, rfl, rfl, rfl⟩
theorem zL_I {n a : Int32} {st : St} (h : Inv st) : Inv (zL n a st) := by
  unfold zL
  by_cases q : 0 ≤ a
  · rw [if_pos q]; exact h
  · rw [if_neg q]; exact h
-- coming and going
def zC (j : Nat) (w : Int32) (st : St) : St := yS1 (yS2 st (upd (yG2 st) (j * 12 + (yG1 st j).toNatClampNeg) w)) (upd (yG1 st) j (yG1 st j + 1))
def zG (j : Nat) (st : St) : St := yS1 st (upd (yG1 st) j (yG1 st j - 1))
def zW (j : Nat) (st : St) : Int32 := yG2 st (j * 12 + ((yG1 st j).toNatClampNeg - 1))
theorem z_pl {j i : Nat} : nI j * 12 + nI i = nI (j * 12 + i) := by rw [show (12 : Int32) = nI 12 from rfl, pk_mul, nI_add]
theorem z_pl2 {j i : Nat} : 12 * nI j + nI i = nI (j * 12 + i) := by rw [Int32.mul_comm, z_pl]
theorem z_c0 {st : St} {j : Nat} {w : Int32} (hI : Inv st) (hj : j < 8) (h : yG1 st j ≠ yG0 st j) : f0_come (nI j) w st = some (yG1 st j + 1, zC j w st) ∧ 0 ≤ yG1 st j + 1 ∧ yG1 st j + 1 ≠ -4 := by
  obtain ⟨r, c, w', e0, e1, e2, h1, h2, h3⟩ := hI j
  have hlt : c < r := by
    rcases Nat.lt_or_ge c r with q | q
    · exact q
    · exact absurd (by rw [e0, e1, show c = r by omega]) h
  have e1c : (yG1 st j).toNatClampNeg = c := by rw [e1, nI_clamp (by omega)]
  refine ⟨?_, ?_, ?_⟩
  · unfold f0_come f0_place
    simp only [Option.bind_some, z_r8 hj]
    rw [if_pos (by rw [e0, e1]; exact nI_lt hlt (by omega))]
    unfold zC
    rw [e1c]
    simp only [e1, z_pl]
    rw [z_w2 (by omega), Option.bind_some, z_w1 hj]
    simp only [Option.bind_some]
    rfl
  · rw [e1, nI_1]; exact nI_pos' (by omega)
  · rw [e1, nI_1]; intro q
    have := nI_pos (n := c + 1) (by omega)
    rw [q] at this; exact this (by decide)
theorem z_c0F {st : St} {j : Nat} {w : Int32} (hj : j < 8) (h : yG1 st j = yG0 st j) : f0_come (nI j) w st = some (-4, st) := by
  unfold f0_come
  simp only [Option.bind_some, z_r8 hj]
  rw [if_neg (by rw [h]; exact Int32.lt_irrefl)]
theorem z_c1 {st : St} {j : Nat} {w : Int32} (hI : Inv st) (hj : j < 8) (h : yG1 st j ≠ yG0 st j) : f1_come (nI j) w st = some (0, zC j w st) := by
  obtain ⟨r, c, w', e0, e1, e2, h1, h2, h3⟩ := hI j
  have hlt : c < r := by
    rcases Nat.lt_or_ge c r with q | q
    · exact q
    · exact absurd (by rw [e0, e1, show c = r by omega]) h
  have e1c : (yG1 st j).toNatClampNeg = c := by rw [e1, nI_clamp (by omega)]
  unfold f1_come
  simp only [Option.bind_some, z_r8 hj]
  unfold zC
  rw [e1c]
  simp only [e1, z_pl2]
  rw [z_w2 (by omega), Option.bind_some, z_w1 hj]
  simp only [Option.bind_some]
  show some (0, yS1 (yS2 st (upd (yG2 st) (j * 12 + c) w)) (upd (yG1 st) j (yG1 st j + 1))) = _
  rw [e1]
theorem z_g0 {st : St} {j : Nat} (hI : Inv st) (hj : j < 8) (h : yG1 st j ≠ 0) : f0_go (nI j) st = some (zW j st, zG j st) := by
  obtain ⟨r, c, w', e0, e1, e2, h1, h2, h3⟩ := hI j
  have e1c : (yG1 st j).toNatClampNeg = c := by rw [e1, nI_clamp (by omega)]
  obtain ⟨d, rfl⟩ : ∃ d, c = d + 1 := ⟨c - 1, by
    rcases Nat.eq_zero_or_pos c with q | q
    · subst q; exact absurd e1 h
    · omega⟩
  unfold f0_go f0_place
  simp only [Option.bind_some, z_r8 hj]
  rw [if_neg h]
  rw [z_w1 hj, Option.bind_some]
  unfold zG zW
  rw [e1c]
  simp only [e1, nI_pred, z_pl]
  rw [z_r96 (by omega)]
  simp only [Option.bind_some]
  rfl
theorem z_g0E {st : St} {j : Nat} (hj : j < 8) (h : yG1 st j = 0) : f0_go (nI j) st = some (-5, st) := by
  unfold f0_go
  simp only [Option.bind_some, z_r8 hj]
  rw [if_pos h]
theorem z_la {st : St} {j : Nat} (hI : Inv st) (hj : j < 8) (h : yG1 st j ≠ 0) : f1_last (nI j) st = some (zW j st, st) := by
  obtain ⟨r, c, w', e0, e1, e2, h1, h2, h3⟩ := hI j
  have e1c : (yG1 st j).toNatClampNeg = c := by rw [e1, nI_clamp (by omega)]
  obtain ⟨d, rfl⟩ : ∃ d, c = d + 1 := ⟨c - 1, by
    rcases Nat.eq_zero_or_pos c with q | q
    · subst q; exact absurd e1 h
    · omega⟩
  unfold f1_last
  simp only [Option.bind_some, z_r8 hj]
  unfold zW
  rw [e1c]
  simp only [e1, z_pl2]
  rw [show j * 12 + (d + 1) = (j * 12 + d) + 1 by omega, nI_pred, z_r96 (by omega)]
  rfl
theorem z_f1 {st : St} {j : Nat} (hj : j < 8) : f1_isFull (nI j) st = some (if yG1 st j = yG0 st j then 1 else 0, st) := by
  unfold f1_isFull
  simp only [Option.bind_some, z_r8 hj]
  by_cases h : yG1 st j = yG0 st j
  · rw [if_pos h, if_pos h]
  · rw [if_neg h, if_neg h]
theorem zW_I {st : St} {j : Nat} (hI : Inv st) : ∃ w, w ≤ 999 ∧ zW j st = nI w := by
  obtain ⟨r, c, w, e0, e1, e2, h1, h2, h3⟩ := hI (j * 12 + ((yG1 st j).toNatClampNeg - 1))
  exact ⟨w, h3, e2⟩
theorem zC_I {st : St} {j w : Nat} (hI : Inv st) (h : yG1 st j ≠ yG0 st j) (hw : w ≤ 999) : Inv (zC j (nI w) st) := by
  intro k
  obtain ⟨r, c, w', e0, e1, e2, h1, h2, h3⟩ := hI k
  have a0 : yG0 (zC j (nI w) st) k = yG0 st k := rfl
  have a1 : yG1 (zC j (nI w) st) k = if k = j then yG1 st j + 1 else yG1 st k := rfl
  have a2 : yG2 (zC j (nI w) st) k = if k = j * 12 + (yG1 st j).toNatClampNeg then nI w else yG2 st k := rfl
  have hV : ∃ x, x ≤ 999 ∧ yG2 (zC j (nI w) st) k = nI x := by
    rw [a2]
    by_cases q : k = j * 12 + (yG1 st j).toNatClampNeg
    · rw [if_pos q]; exact ⟨w, hw, rfl⟩
    · rw [if_neg q]; exact ⟨w', h3, e2⟩
  obtain ⟨x, hx, ex⟩ := hV
  by_cases q : k = j
  · subst q
    refine ⟨r, c + 1, x, by rw [a0, e0], by rw [a1, if_pos rfl, e1, nI_1], ex, ?_, h2, hx⟩
    rcases Nat.lt_or_ge c r with q | q
    · exact q
    · exact absurd (by rw [e0, e1, show c = r by omega]) h
  · exact ⟨r, c, x, by rw [a0, e0], by rw [a1, if_neg q, e1], ex, h1, h2, hx⟩
theorem zG_I {st : St} {j : Nat} (hI : Inv st) (h : yG1 st j ≠ 0) : Inv (zG j st) ∧ yG1 (zG j st) j ≠ yG0 (zG j st) j := by
  refine ⟨?_, ?_⟩
  · intro k
    obtain ⟨r, c, w', e0, e1, e2, h1, h2, h3⟩ := hI k
    have a1 : yG1 (zG j st) k = if k = j then yG1 st j - 1 else yG1 st k := rfl
    by_cases q : k = j
    · subst q
      obtain ⟨d, rfl⟩ : ∃ d, c = d + 1 := ⟨c - 1, by
        rcases Nat.eq_zero_or_pos c with q | q
        · subst q; exact absurd e1 h
        · omega⟩
      exact ⟨r, d, w', e0, by rw [a1, if_pos rfl, e1, nI_pred], e2, by omega, h2, h3⟩
    · exact ⟨r, c, w', e0, by rw [a1, if_neg q, e1], e2, h1, h2, h3⟩
  · obtain ⟨r, c, w', e0, e1, e2, h1, h2, h3⟩ := hI j
    have a1 : yG1 (zG j st) j = yG1 st j - 1 := if_pos rfl
    obtain ⟨d, rfl⟩ : ∃ d, c = d + 1 := ⟨c - 1, by
      rcases Nat.eq_zero_or_pos c with q | q
      · subst q; exact absurd e1 h
      · omega⟩
    rw [a1, show yG0 (zG j st) j = yG0 st j from rfl, e0, e1, nI_pred]
    intro q
    have := (nI_eq (by omega) (by omega)).mp q
    omega
theorem z_01 : ¬ ((1 : Int32) = 0) := by decide
end
section
/-! The short public methods: class and reference answer alike, and leave the same state. -/
def yOK (x y : Option (Int32 × St)) : Prop := ∃ (r : Int32) (t : St), x = some (r, t) ∧ y = some (r, t) ∧ Inv t
theorem z_lt0 {b : Int32} (h : ¬ b < 1) : ¬ b < 0 := by
  rw [Int32.lt_iff_toInt_lt] at h ⊢
  have e1 : (1 : Int32).toInt = 1 := rfl
  have e0 : (0 : Int32).toInt = 0 := rfl
  omega
theorem z_nn {n : Nat} (h : n < 2 ^ 31) : nI n = 0 ↔ n = 0 := nI_eq (b := 0) h (by decide)
theorem z_u {f : Nat → Int32} {j : Nat} {x : Int32} (h : f j = x) : upd f j x = f := by
  funext k
  unfold upd
  by_cases q : k = j
  · rw [if_pos q, q, h]
  · rw [if_neg q]
theorem pu_lay (a b : Int32) {st : St} (hI : Inv st) : yOK (f0_lay a b st) (f1_lay a b st) := by
  rcases z_bad a with ⟨j, hj, rfl⟩ | ⟨h0, h1⟩
  · unfold f0_lay f1_lay f1_in f0_isThere
    simp only [Option.bind_some, z_it0 hj, z_it1 hj, if_neg z_01]
    by_cases hb : b < 1
    · simp only [if_pos hb, Option.bind_some, ↓reduceIte]; exact ⟨-2, st, rfl, rfl, hI⟩
    · by_cases hc : b ≤ 12
      · have hc' : ¬ (12 : Int32) < b := Int32.not_lt.mpr hc
        simp only [if_neg hb, if_pos hc, if_neg hc', Option.bind_some, if_neg z_01, z_r8 hj]
        obtain ⟨r, c, w, e0, e1, e2, h1, h2, h3⟩ := hI j
        obtain ⟨n, hn, rfl⟩ := nI_of2 (M := 12) (n := 12) rfl (z_lt0 hb) hc
        by_cases h : yG0 st j ≤ 0
        · have hr : r = 0 := by
            rcases Nat.eq_zero_or_pos r with q | q
            · exact q
            · rw [e0] at h; exact absurd h (nI_nle q (by omega))
          subst hr
          simp only [if_pos h, Option.bind_some, ↓reduceIte, z_w0 hj, z_w1 hj]
          refine ⟨1, yS0 st (upd (yG0 st) j (nI n)), rfl, ?_, ?_⟩
          · show some (1, yS1 (yS0 st (upd (yG0 st) j (nI n))) (upd (yG1 st) j 0)) = _
            rw [z_u (show yG1 st j = 0 from by rw [e1, show c = 0 by omega]; rfl)]
            rfl
          · intro k
            obtain ⟨r', c', w', e0', e1', e2', h1', h2', h3'⟩ := hI k
            by_cases q : k = j
            · subst q
              exact ⟨n, c, w', if_pos rfl, e1, e2', by omega, hn, h3'⟩
            · exact ⟨r', c', w', (if_neg q).trans e0', e1', e2', h1', h2', h3'⟩
        · simp only [if_neg h, Option.bind_some, if_neg z_01]; exact ⟨0, st, rfl, rfl, hI⟩
      · have hc' : (12 : Int32) < b := Int32.not_le.mp hc
        simp only [if_neg hb, if_neg hc, if_pos hc', Option.bind_some, ↓reduceIte]; exact ⟨-2, st, rfl, rfl, hI⟩
  · unfold f0_lay f1_lay
    simp only [h0, h1, Option.bind_some, ↓reduceIte]; exact ⟨-2, st, rfl, rfl, hI⟩
theorem z_le {st : St} {j : Nat} (hI : Inv st) : yG0 st j ≤ 0 ↔ yG0 st j = 0 := by
  obtain ⟨r, c, w, e0, e1, e2, h1, h2, h3⟩ := hI j
  rw [e0]
  constructor
  · intro h
    rcases Nat.eq_zero_or_pos r with q | q
    · rw [q]; rfl
    · exact absurd h (nI_nle q (by omega))
  · intro h; rw [h]; decide
theorem pu_lift (a : Int32) {st : St} (hI : Inv st) : yOK (f0_lift a st) (f1_lift a st) := by
  rcases z_bad a with ⟨j, hj, rfl⟩ | ⟨h0, h1⟩
  · unfold f0_lift f1_lift f0_isThere
    simp only [Option.bind_some, z_it0 hj, z_it1 hj, if_neg z_01, z_r8 hj, z_le hI]
    by_cases h : yG0 st j = 0
    · simp only [if_pos h, Option.bind_some, ↓reduceIte]; exact ⟨-3, st, rfl, rfl, hI⟩
    · simp only [if_neg h, Option.bind_some, if_neg z_01, z_r8 hj, z_w0 hj, z_w1 hj]
      refine ⟨_, _, rfl, rfl, ?_⟩
      intro k
      obtain ⟨r', c', w', e0', e1', e2', h1', h2', h3'⟩ := hI k
      by_cases q : k = j
      · subst q
        exact ⟨0, 0, w', if_pos rfl, if_pos rfl, e2', by omega, by omega, h3'⟩
      · exact ⟨r', c', w', (if_neg q).trans e0', (if_neg q).trans e1', e2', h1', h2', h3'⟩
  · unfold f0_lift f1_lift
    simp only [h0, h1, Option.bind_some, ↓reduceIte]; exact ⟨-2, st, rfl, rfl, hI⟩
theorem pu_couple (a b : Int32) {st : St} (hI : Inv st) : yOK (f0_couple a b st) (f1_couple a b st) := by
  rcases z_bad a with ⟨j, hj, rfl⟩ | ⟨h0, h1⟩
  · unfold f0_couple f1_couple f1_in f0_holdAndCome
    simp only [Option.bind_some, z_it0 hj, z_it1 hj, if_neg z_01]
    by_cases hb : b < 1
    · simp only [if_pos hb, Option.bind_some, ↓reduceIte]; exact ⟨-2, st, rfl, rfl, hI⟩
    · by_cases hc : b ≤ 999
      · have hc' : ¬ (999 : Int32) < b := Int32.not_lt.mpr hc
        simp only [if_neg hb, if_pos hc, if_neg hc', Option.bind_some, if_neg z_01]
        obtain ⟨n, hn, rfl⟩ := nI_of2 (M := 999) (n := 999) rfl (z_lt0 hb) hc
        by_cases h : yG0 st j = 0
        · simp only [z_h0n hj h, z_h1n hj h, Option.bind_some, ↓reduceIte]
          exact ⟨-3, _, rfl, rfl, hI⟩
        · have hI1 : Inv (zH1 st) := hI
          simp only [z_h0y hI hj h, z_h1y hj h, Option.bind_some, if_neg z_01, z_f1 hj]
          by_cases q : yG1 (zH1 st) j = yG0 (zH1 st) j
          · simp only [if_pos q, if_neg z_01, z_c0F hj q, Option.bind_some, z_l0, z_l1]
            exact ⟨_, _, rfl, rfl, zL_I hI1⟩
          · simp only [if_neg q, ↓reduceIte, (z_c0 hI1 hj q).1, z_c1 hI1 hj q, Option.bind_some, z_l0, z_l1, z_r8 hj]
            have e : yG1 (zC j (nI n) (zH1 st)) j = yG1 (zH1 st) j + 1 := if_pos rfl
            rw [e]
            exact ⟨_, _, rfl, rfl, zL_I (zC_I hI1 q hn)⟩
      · have hc' : (999 : Int32) < b := Int32.not_le.mp hc
        simp only [if_neg hb, if_neg hc, if_pos hc', Option.bind_some, ↓reduceIte]; exact ⟨-2, st, rfl, rfl, hI⟩
  · unfold f0_couple f1_couple
    simp only [h0, h1, Option.bind_some, ↓reduceIte]; exact ⟨-2, st, rfl, rfl, hI⟩
theorem pu_uncouple (a : Int32) {st : St} (hI : Inv st) : yOK (f0_uncouple a st) (f1_uncouple a st) := by
  rcases z_bad a with ⟨j, hj, rfl⟩ | ⟨h0, h1⟩
  · unfold f0_uncouple f1_uncouple
    simp only [Option.bind_some, z_it0 hj, z_it1 hj, if_neg z_01]
    by_cases h : yG0 st j = 0
    · simp only [z_h0n hj h, z_h1n hj h, Option.bind_some, ↓reduceIte]
      exact ⟨-3, _, rfl, rfl, hI⟩
    · have hI1 : Inv (zH1 st) := hI
      simp only [z_h0y hI hj h, z_h1y hj h, Option.bind_some, if_neg z_01, z_r8 hj]
      by_cases q : yG1 (zH1 st) j = 0
      · simp only [if_pos q, z_g0E hj q, Option.bind_some, z_l0, z_l1]
        exact ⟨_, _, rfl, rfl, zL_I hI1⟩
      · simp only [if_neg q, z_g0 hI1 hj q, z_la hI1 hj q, Option.bind_some, z_l0, z_l1, z_w1 hj, z_r8 hj]
        exact ⟨_, _, rfl, rfl, zL_I (zG_I hI1 q).1⟩
  · unfold f0_uncouple f1_uncouple
    simp only [h0, h1, Option.bind_some, ↓reduceIte]; exact ⟨-2, st, rfl, rfl, hI⟩
theorem pu_wagon (a b : Int32) {st : St} (hI : Inv st) : yOK (f0_wagon a b st) (f1_wagon a b st) := by
  rcases z_bad a with ⟨j, hj, rfl⟩ | ⟨h0, h1⟩
  · unfold f0_wagon f1_wagon f1_in f0_place
    simp only [Option.bind_some, z_it0 hj, z_it1 hj, if_neg z_01, z_r8 hj]
    by_cases hb : b < 0
    · simp only [if_pos hb, Option.bind_some, ↓reduceIte]; exact ⟨0, st, rfl, rfl, hI⟩
    · obtain ⟨i, hi, rfl⟩ := nI_of hb
      obtain ⟨r, c, w, e0, e1, e2, h1, h2, h3⟩ := hI j
      simp only [if_neg hb, e1]
      by_cases hc : nI i < nI c
      · have hic : i < c := (nI_ltI hi (by omega)).mp hc
        have hc' : ¬ nI c - 1 < nI i := by
          obtain ⟨d, rfl⟩ : ∃ d, c = d + 1 := ⟨c - 1, by omega⟩
          rw [nI_pred]; exact nI_nlt (by omega) (by omega)
        simp only [if_pos hc, if_neg hc', Option.bind_some, if_neg z_01, z_pl, z_pl2]
        rw [z_r96 (by omega)]
        exact ⟨_, _, rfl, rfl, hI⟩
      · have hic : c ≤ i := by
          rcases Nat.lt_or_ge i c with q | q
          · exact absurd ((nI_ltI hi (by omega)).mpr q) hc
          · exact q
        have hc' : nI c - 1 < nI i := by
          rcases Nat.eq_zero_or_pos c with q | q
          · subst q
            rw [Int32.lt_iff_toInt_lt, nI_toInt hi]
            have : (nI 0 - 1).toInt = -1 := rfl
            omega
          · obtain ⟨d, rfl⟩ : ∃ d, c = d + 1 := ⟨c - 1, by omega⟩
            rw [nI_pred]; exact nI_lt (by omega) hi
        simp only [if_neg hc, if_pos hc', Option.bind_some, ↓reduceIte]
        exact ⟨0, st, rfl, rfl, hI⟩
  · unfold f0_wagon f1_wagon
    simp only [h0, h1, Option.bind_some, ↓reduceIte]; exact ⟨-2, st, rfl, rfl, hI⟩
def z_sw (v r : Int32) (st : St) : Option (Int32 × St) := if v = 0 then some ((yG3 st), st) else if v = 1 then some ((yG4 st), st) else if v = 2 then some ((yG5 st), st) else if v = 3 then some ((yG6 st), st) else if v = 4 then some ((yG7 st), st) else if v = 5 then some ((yG8 st), st) else if v = 6 then some (r, st) else some ((-2), st)
theorem z_told {st : St} (v : Int32) : ∀ (n i : Nat) (x : Int32), i ≤ 8 → 8 < i + n → ∃ r, f0_tracksThere_L4 n x (nI i) st = some (r, st) ∧ f1_told_L4 n v x (nI i) st = z_sw v r st := by
  intro n
  induction n with
  | zero => intro i x h1 h2; omega
  | succ n ih =>
    intro i x h1 h2
    rw [f0_tracksThere_L4, f1_told_L4]
    unfold f0_isThere
    by_cases q : i = 8
    · subst q
      rw [if_pos (show (8 : Int32) ≤ nI 8 by decide), if_pos (show (8 : Int32) ≤ nI 8 by decide)]
      exact ⟨x, rfl, rfl⟩
    · have hq : ¬ (8 : Int32) ≤ nI i := nI_ge (b := 8) (by omega) (by decide)
      rw [if_neg hq, if_neg hq, z_r8 (by omega)]
      simp only [Option.bind_some, nI_1]
      by_cases h : yG0 st i ≤ 0
      · simp only [if_pos h, Option.bind_some, ↓reduceIte, Int32.add_zero]
        exact ih (i + 1) x (by omega) (by omega)
      · simp only [if_neg h, Option.bind_some, if_neg z_01]
        exact ih (i + 1) (x + 1) (by omega) (by omega)
theorem pu_told (a : Int32) {st : St} (hI : Inv st) : yOK (f0_told a st) (f1_told a st) := by
  unfold f0_told f1_told f0_tracksThere
  obtain ⟨r, e0, e1⟩ := z_told (st := st) a 40 0 0 (by omega) (by omega)
  rw [show (0 : Int32) = nI 0 from rfl] at *
  rw [e0, e1]
  simp only [Option.bind_some]
  show yOK (z_sw a r st) (z_sw a r st)
  have : ∃ r2, z_sw a r st = some (r2, st) := by
    unfold z_sw
    repeat (first | exact ⟨_, rfl⟩ | split)
  obtain ⟨r2, e2⟩ := this
  exact ⟨r2, st, e2, e2, hI⟩
end
section
/-! The tracks of a row, and the methods that go along one. -/
theorem z_sm : ∀ k, k < 48 → ((nI k).toInt64 &&& 63).toBitVec.smod 64 = BitVec.ofNat 64 k := by decide +kernel
theorem z_um : ∀ k, k < 48 → ((nI k).toInt64.toUInt64 &&& Int64.toUInt64 63).toBitVec % 64 = BitVec.ofNat 64 k := by decide +kernel
theorem z_tn : ∀ k, k < 48 → (BitVec.ofNat 64 k).toNat = k := by decide +kernel
theorem z_bits (X : BitVec 64) {k : Nat} (hk : k ≤ 45) : (X >>> k).setWidth 32 &&& 7#32 = (X.sshiftRight k).setWidth 32 &&& 7#32 := by
  apply BitVec.eq_of_getLsbD_eq
  intro b hb
  rw [BitVec.getLsbD_and, BitVec.getLsbD_and, BitVec.getLsbD_setWidth, BitVec.getLsbD_setWidth, BitVec.getLsbD_sshiftRight, BitVec.getLsbD_ushiftRight]
  by_cases h3 : b < 3
  · have h1 : ¬ 64 ≤ b := by omega
    have h2 : k + b < 64 := by omega
    simp [h1, h2]
  · have h7 : (7#32).getLsbD b = false := by
      have : ∀ b, b < 32 → ¬ b < 3 → (7#32).getLsbD b = false := by decide
      exact this b hb h3
    rw [h7, Bool.and_false, Bool.and_false]
theorem z_track (row : Int64) {i : Nat} (hi : i < 16) : ∃ j, j < 8 ∧ f0_trackOfRow row (nI i) = some (nI j) ∧ f1_trackOf row (nI i) = some (nI j) := by
  have e3 : (3 : Int32) * nI i = nI (3 * i) := pk_mul 3 i
  unfold f0_trackOfRow f1_trackOf
  rw [e3]
  have hk : 3 * i < 48 := by omega
  have hk2 : 3 * i ≤ 45 := by omega
  generalize 3 * i = k at hk hk2
  have e : (((row.toUInt64 >>> ((nI k).toInt64.toUInt64 &&& Int64.toUInt64 63)).toInt64).toInt32) &&& 7 = ((row >>> ((nI k).toInt64 &&& 63)).toInt32) &&& 7 := by
    apply Int32.toBitVec_inj.mp
    rw [Int32.toBitVec_and, Int32.toBitVec_and, Int64.toBitVec_toInt32, Int64.toBitVec_toInt32, Int64.toBitVec_shiftRight, z_sm k hk]
    rw [UInt64.toBitVec_toInt64, UInt64.toBitVec_shiftRight, z_um k hk]
    rw [BitVec.sshiftRight_eq', BitVec.ushiftRight_eq', z_tn k hk]
    rw [BitVec.signExtend_eq_setWidth_of_le _ (by decide), BitVec.signExtend_eq_setWidth_of_le _ (by decide)]
    exact z_bits _ hk2
  obtain ⟨j, hj, ej⟩ := pk_andE ((row >>> ((nI k).toInt64 &&& 63)).toInt32) (m := 7) 3 rfl
  exact ⟨j, hj, by rw [e, ej], by rw [ej]⟩
theorem z_row (a : Int32) : (∃ N, N ≤ 16 ∧ a = nI N ∧ f0_isRowLength a = some 1 ∧ f1_in a 1 16 = some 1) ∨ (f0_isRowLength a = some 0 ∧ f1_in a 1 16 = some 0) := by
  unfold f0_isRowLength f1_in
  by_cases h1 : a < 1
  · right; rw [if_pos h1]; exact ⟨rfl, rfl⟩
  · by_cases h2 : 16 < a
    · right; rw [if_neg h1, if_pos h2]; exact ⟨rfl, rfl⟩
    · left
      obtain ⟨N, hN, e⟩ := nI_of2 (x := a) (M := 16) (n := 16) rfl (z_lt0 h1) (Int32.not_lt.mp h2)
      refine ⟨N, hN, e, ?_, ?_⟩ <;> rw [if_neg h1, if_neg h2]
theorem z_chain (row : Int64) : ∀ (n i N : Nat) (x : Int32) (st : St), Inv st → N ≤ 16 → i ≤ N → N < i + n → yOK (f0_chain_L16 n row (nI N) x (nI i) st) (f1_chain_L19 n row (nI N) x (nI i) st) := by
  intro n
  induction n with
  | zero => intro i N x st _ _ _ h; omega
  | succ n ih =>
    intro i N x st hI hN hi hn
    rw [f0_chain_L16, f1_chain_L19]
    by_cases q : i = N
    · subst q
      have h : nI i ≤ nI i := Int32.le_refl _
      simp only [if_pos h, z_l0, z_l1, Option.bind_some]
      exact ⟨_, _, rfl, rfl, zL_I hI⟩
    · have h : ¬ nI N ≤ nI i := nI_ge (by omega) (by omega)
      obtain ⟨j, hj, e0, e1⟩ := z_track row (i := i) (by omega)
      simp only [if_neg h, e0, e1, Option.bind_some]
      by_cases g : yG0 st j = 0
      · simp only [z_h0n hj g, z_h1n hj g, Option.bind_some, ↓reduceIte, z_l0, z_l1]
        exact ⟨_, _, rfl, rfl, zL_I hI⟩
      · simp only [z_h0y hI hj g, z_h1y hj g, Option.bind_some, if_neg z_01, z_r8 hj, nI_1]
        exact ih (i + 1) N _ (zH1 st) hI hN (by omega) (by omega)
theorem pu_chain (a : Int64) (b : Int32) {st : St} (hI : Inv st) : yOK (f0_chain a b st) (f1_chain a b st) := by
  unfold f0_chain f1_chain
  rcases z_row b with ⟨N, hN, rfl, h0, h1⟩ | ⟨h0, h1⟩
  · simp only [h0, h1, Option.bind_some, if_neg z_01]
    exact z_chain a 40 0 N 0 st hI hN (by omega) (by omega)
  · simp only [h0, h1, Option.bind_some, ↓reduceIte]
    exact ⟨_, _, rfl, rfl, hI⟩
theorem z_survey (row : Int64) : ∀ (n i N : Nat) (x : Int32) (st : St), Inv st → N ≤ 16 → i ≤ N → N < i + n → yOK (f0_survey_L16 n row (nI N) x (nI i) st) (f1_survey_L19 n row (nI N) x (nI i) st) := by
  intro n
  induction n with
  | zero => intro i N x st _ _ _ h; omega
  | succ n ih =>
    intro i N x st hI hN hi hn
    rw [f0_survey_L16, f1_survey_L19]
    by_cases q : i = N
    · subst q
      have h : nI i ≤ nI i := Int32.le_refl _
      simp only [if_pos h]
      exact ⟨_, _, rfl, rfl, hI⟩
    · have h : ¬ nI N ≤ nI i := nI_ge (by omega) (by omega)
      obtain ⟨j, hj, e0, e1⟩ := z_track row (i := i) (by omega)
      simp only [if_neg h, e0, e1, Option.bind_some]
      by_cases g : yG0 st j = 0
      · simp only [z_h0n hj g, z_h1n hj g, Option.bind_some, ↓reduceIte, nI_1]
        exact ih (i + 1) N _ (zH0 st) hI hN (by omega) (by omega)
      · simp only [z_h0y hI hj g, z_h1y hj g, Option.bind_some, if_neg z_01, z_r8 hj, nI_1, z_l0, z_l1]
        exact ih (i + 1) N _ _ (zL_I (st := zH1 st) hI) hN (by omega) (by omega)
theorem pu_survey (a : Int64) (b : Int32) {st : St} (hI : Inv st) : yOK (f0_survey a b st) (f1_survey a b st) := by
  unfold f0_survey f1_survey
  rcases z_row b with ⟨N, hN, rfl, h0, h1⟩ | ⟨h0, h1⟩
  · simp only [h0, h1, Option.bind_some, if_neg z_01]
    exact z_survey a 40 0 N 0 st hI hN (by omega) (by omega)
  · simp only [h0, h1, Option.bind_some, ↓reduceIte]
    exact ⟨_, _, rfl, rfl, hI⟩
/-- a wagon that went and comes back: the state is as it was -/
theorem z_back {st : St} {j : Nat} (hI : Inv st) (h : yG1 st j ≠ 0) : zC j (zW j st) (zG j st) = st := by
  obtain ⟨r, c, w', e0, e1, e2, h1, h2, h3⟩ := hI j
  obtain ⟨d, rfl⟩ : ∃ d, c = d + 1 := ⟨c - 1, by
    rcases Nat.eq_zero_or_pos c with q | q
    · subst q; exact absurd e1 h
    · omega⟩
  have a1 : yG1 (zG j st) j = nI d := by
    show (if j = j then yG1 st j - 1 else yG1 st j) = nI d
    rw [if_pos rfl, e1, nI_pred]
  unfold zC
  rw [a1, nI_clamp (by omega), nI_1]
  have b2 : upd (yG2 (zG j st)) (j * 12 + d) (zW j st) = yG2 st := by
    refine z_u ?_
    unfold zW
    rw [e1, nI_clamp (by omega)]
    rfl
  have b1 : upd (yG1 (zG j st)) j (nI (d + 1)) = yG1 st := by
    funext k
    show (if k = j then nI (d + 1) else if k = j then yG1 st j - 1 else yG1 st k) = yG1 st k
    by_cases q : k = j
    · rw [if_pos q, q, e1]
    · rw [if_neg q, if_neg q]
  rw [b1, b2]
  rfl
theorem z_tour (row : Int64) : ∀ (n n' i N : Nat) (x : Int32) (st : St), Inv st → N ≤ 16 → i ≤ N → N < i + n → N + 1 < i + n' → yOK (f0_tour_L21 n row (nI N) x (nI i) st) (f1_tour_L27 n' row (nI N) x 1 (nI i) st) := by
  intro n
  induction n with
  | zero => intro n' i N x st _ _ _ h; omega
  | succ n ih =>
    intro n' i N x st hI hN hi hn hn'
    obtain ⟨m, rfl⟩ : ∃ m, n' = m + 2 := ⟨n' - 2, by omega⟩
    rw [f0_tour_L21, f1_tour_L27]
    by_cases q : i = N
    · subst q
      have h : nI i ≤ nI i := Int32.le_refl _
      simp only [if_pos h]
      exact ⟨_, _, rfl, rfl, hI⟩
    · have h : ¬ nI N ≤ nI i := nI_ge (by omega) (by omega)
      obtain ⟨j, hj, e0, e1⟩ := z_track row (i := i) (by omega)
      simp only [if_neg h, e0, e1, Option.bind_some, if_neg z_01]
      by_cases g : yG0 st j = 0
      · simp only [z_h0n hj g, z_h1n hj g, Option.bind_some, ↓reduceIte]
        exact ⟨_, _, rfl, rfl, hI⟩
      · have hI1 : Inv (zH1 st) := hI
        simp only [z_h0y hI hj g, z_h1y hj g, Option.bind_some, if_neg z_01, z_r8 hj]
        by_cases c0 : yG1 (zH1 st) j = 0
        · simp only [if_pos c0, Option.bind_some, z_l0, z_l1]
          rw [f1_tour_L27]
          refine ⟨_, _, rfl, ?_, zL_I hI1⟩
          by_cases c1 : nI N ≤ nI i + 1
          · rw [if_pos c1]
          · rw [if_neg c1, if_pos rfl]
        · unfold f0_takeOnTour
          simp only [if_neg c0, z_g0 hI1 hj c0, z_la hI1 hj c0, Option.bind_some, z_l0, z_l1, z_w1 hj, z_r8 hj, nI_1]
          by_cases c9 : zW j (zH1 st) - zW j (zH1 st) / 10 * 10 = 9
          · obtain ⟨gI, gF⟩ := zG_I hI1 c0
            simp only [if_pos c9, (z_c0 gI hj gF).1, Option.bind_some, z_back hI1 c0, Int32.add_zero]
            exact ih (m + 1) (i + 1) N x _ (zL_I hI1) hN (by omega) (by omega) (by omega)
          · simp only [if_neg c9, Option.bind_some, yP8]
            exact ih (m + 1) (i + 1) N _ _ (zL_I (st := yS8 (zG j (zH1 st)) _) (zG_I hI1 c0).1) hN (by omega) (by omega) (by omega)
theorem pu_tour (a : Int64) (b : Int32) {st : St} (hI : Inv st) : yOK (f0_tour a b st) (f1_tour a b st) := by
  unfold f0_tour f1_tour
  rcases z_row b with ⟨N, hN, rfl, h0, h1⟩ | ⟨h0, h1⟩
  · simp only [h0, h1, Option.bind_some, if_neg z_01, yP8]
    exact z_tour a 40 40 0 N 0 (yS8 st 0) hI hN (by omega) (by omega) (by omega)
  · simp only [h0, h1, Option.bind_some, ↓reduceIte]
    exact ⟨_, _, rfl, rfl, hI⟩
end
section
/-! turn, swap, shunt, sweep: the loops side by side. -/
def zX (p q : Nat) (st : St) : St := yS2 (yS2 st (upd (yG2 st) p (yG2 st q))) (upd (upd (yG2 st) p (yG2 st q)) q (yG2 st p))
theorem z_ex {p q : Nat} {st : St} (hp : p < 96) (hq : q < 96) : f0_exchangePlaces (nI p) (nI q) st = some (0, zX p q st) := by
  unfold f0_exchangePlaces
  simp only [z_r96 hp, z_r96 hq, z_w2 hp, z_w2 hq, Option.bind_some]
  rfl
theorem z_w2x {p q : Nat} {st : St} (hq : q < 96) : yW2 (yS2 st (upd (yG2 st) p (yG2 st q))) (nI q) (yG2 st p) = some (zX p q st) := z_w2 hq
theorem zX_I {p q : Nat} {st : St} (hI : Inv st) : Inv (zX p q st) := by
  intro k
  obtain ⟨r, c, w, e0, e1, e2, h1, h2, h3⟩ := hI k
  have a2 : yG2 (zX p q st) k = if k = q then yG2 st p else if k = p then yG2 st q else yG2 st k := rfl
  obtain ⟨rp, cp, wp, -, -, ep, -, -, hp⟩ := hI p
  obtain ⟨rq, cq, wq, -, -, eq, -, -, hq⟩ := hI q
  by_cases c1 : k = q
  · exact ⟨r, c, wp, e0, e1, by rw [a2, if_pos c1, ep], h1, h2, hp⟩
  · by_cases c2 : k = p
    · exact ⟨r, c, wq, e0, e1, by rw [a2, if_neg c1, if_pos c2, eq], h1, h2, hq⟩
    · exact ⟨r, c, w, e0, e1, by rw [a2, if_neg c1, if_neg c2, e2], h1, h2, h3⟩
theorem z_turn {j c : Nat} (hj : j < 8) (hc : c ≤ 12) : ∀ (n i : Nat) (st : St), Inv st → yG0 st j ≠ 0 → i ≤ c / 2 → c / 2 < i + n → yOK (f0_turn_L30 n (nI j) (nI c) (nI i) st) (f1_turn_L30 n (nI j) (nI c) (nI i) st) := by
  intro n
  induction n with
  | zero => intro i st _ _ _ h; omega
  | succ n ih =>
    intro i st hI hT hi hn
    rw [f0_turn_L30, f1_turn_L30]
    have e2 : nI c / 2 = nI (c / 2) := pk_div (d := 2) (by omega) (by decide) (by decide)
    rw [e2]
    by_cases q : i = c / 2
    · have h : nI (c / 2) ≤ nI i := by rw [q]; exact Int32.le_refl _
      simp only [if_pos h, z_l0, z_l1, Option.bind_some]
      exact ⟨_, _, rfl, rfl, zL_I hI⟩
    · have h : ¬ nI (c / 2) ≤ nI i := nI_ge (by omega) (by omega)
      have e3 : nI c - 1 - nI i = nI (c - 1 - i) := by
        rw [show (1 : Int32) = nI 1 from rfl, pk_sub (by omega), pk_sub (by omega)]
      have e4 : nI (j * 12 + c) - 1 - nI i = nI (j * 12 + (c - 1 - i)) := by
        rw [show (1 : Int32) = nI 1 from rfl, pk_sub (by omega), pk_sub (by omega), show j * 12 + c - 1 - i = j * 12 + (c - 1 - i) by omega]
      unfold f0_place
      have b1 : j * 12 + i < 96 := by omega
      have b2 : j * 12 + (c - 1 - i) < 96 := by omega
      have hI1 : Inv (zH1 st) := hI
      simp only [if_neg h, z_h0y hI hj hT, z_h1y hj hT, Option.bind_some, if_neg z_01, e3, e4, z_pl, z_pl2, nI_1, z_ex b1 b2, z_r96 b1, z_r96 b2, z_w2 b1, z_w2x b2, z_l0, z_l1]
      exact ih (i + 1) (zL 1 0 (zX (j * 12 + i) (j * 12 + (c - 1 - i)) (zH1 st))) (zL_I (zX_I hI1)) (by rw [zL_G.1]; exact hT) (by omega) (by omega)
theorem pu_turn (a : Int32) {st : St} (hI : Inv st) : yOK (f0_turn a st) (f1_turn a st) := by
  rcases z_bad a with ⟨j, hj, rfl⟩ | ⟨h0, h1⟩
  · unfold f0_turn f1_turn
    simp only [Option.bind_some, z_it0 hj, z_it1 hj, if_neg z_01]
    by_cases h : yG0 st j = 0
    · simp only [z_h0n hj h, z_h1n hj h, Option.bind_some, ↓reduceIte]
      exact ⟨-3, _, rfl, rfl, hI⟩
    · have hI1 : Inv (zH1 st) := hI
      obtain ⟨r, c, w, e0, e1, e2, h1, h2, h3⟩ := hI1 j
      simp only [z_h0y hI hj h, z_h1y hj h, Option.bind_some, if_neg z_01, z_r8 hj, e1]
      exact z_turn hj (by omega) 40 0 (zH1 st) hI1 h (by omega) (by omega)
  · unfold f0_turn f1_turn
    simp only [h0, h1, Option.bind_some, ↓reduceIte]; exact ⟨-2, st, rfl, rfl, hI⟩
theorem z_swap {a b : Nat} (ha : a < 8) (hb : b < 8) {x3 x4 : Int32} : ∀ (n i : Nat) (st : St), Inv st → yG1 st a = x3 → yG1 st b = x4 → ¬ yG0 st b < x3 → x4 ≤ yG0 st a → i ≤ 12 → 12 < i + n → ∃ r t, f0_exchangeRows_L42 n (nI a) (nI b) x3 x4 (nI i) st = some (r, t) ∧ f1_swap_L92 n (nI a) (nI b) (nI i) st = some (r, zL 3 r t) ∧ Inv t := by
  intro n
  induction n with
  | zero => intro i st _ _ _ _ _ _ h; omega
  | succ n ih =>
    intro i st hI ea eb hab hba hi hn
    rw [f0_exchangeRows_L42, f1_swap_L92]
    by_cases q : i = 12
    · subst q
      have h : (12 : Int32) ≤ nI 12 := by decide
      simp only [if_pos h, z_w1 ha, z_w1 hb, z_r8 ha, z_r8 hb, ea, eb, Option.bind_some, z_l1]
      have e : yG1 (yS1 (yS1 st (upd (yG1 st) a x4)) (upd (yG1 (yS1 st (upd (yG1 st) a x4))) b x3)) a = x4 := by
        show (if a = b then x3 else if a = a then x4 else yG1 st a) = x4
        by_cases q : a = b
        · rw [if_pos q, ← ea, ← eb, q]
        · rw [if_neg q, if_pos rfl]
      rw [e]
      refine ⟨_, _, rfl, rfl, ?_⟩
      intro k
      obtain ⟨r, c, w, e0, e1, e2, h1, h2, h3⟩ := hI k
      obtain ⟨ra, ca, wa, a0, a1, a2, ha1, ha2, ha3⟩ := hI a
      obtain ⟨rb, cb, wb, b0, b1, b2, hb1, hb2, hb3⟩ := hI b
      have d1 : yG1 (yS1 (yS1 st (upd (yG1 st) a x4)) (upd (yG1 (yS1 st (upd (yG1 st) a x4))) b x3)) k = if k = b then x3 else if k = a then x4 else yG1 st k := rfl
      rw [← ea, a1, b0] at hab
      rw [← eb, b1, a0] at hba
      have hab' : ca ≤ rb := by
        rcases Nat.lt_or_ge rb ca with q | q
        · exact absurd (nI_lt q (by omega)) hab
        · exact q
      have hba' : cb ≤ ra := (nI_leI (by omega) (by omega)).mp hba
      by_cases c1 : k = b
      · subst c1
        exact ⟨r, ca, w, e0, by rw [d1, if_pos rfl, ← ea, a1], e2, by
          have := (nI_eq (by omega) (by omega)).mp (e0.symm.trans b0); omega, h2, h3⟩
      · by_cases c2 : k = a
        · subst c2
          exact ⟨r, cb, w, e0, by rw [d1, if_neg c1, if_pos rfl, ← eb, b1], e2, by
            have := (nI_eq (by omega) (by omega)).mp (e0.symm.trans a0); omega, h2, h3⟩
        · exact ⟨r, c, w, e0, by rw [d1, if_neg c1, if_neg c2, e1], e2, h1, h2, h3⟩
    · have h : ¬ (12 : Int32) ≤ nI i := nI_ge (b := 12) (by omega) (by decide)
      have b1 : a * 12 + i < 96 := by omega
      have b2 : b * 12 + i < 96 := by omega
      unfold f0_place
      simp only [if_neg h, Option.bind_some, z_pl, z_pl2, z_ex b1 b2, z_r96 b1, z_r96 b2, z_w2 b1, z_w2x b2, nI_1]
      exact ih (i + 1) _ (zX_I hI) ea eb hab hba (by omega) (by omega)
theorem pu_swap (a b : Int32) {st : St} (hI : Inv st) : yOK (f0_swap a b st) (f1_swap a b st) := by
  rcases z_bad a with ⟨j, hj, rfl⟩ | ⟨h0, h1⟩
  · rcases z_bad b with ⟨i, hi, rfl⟩ | ⟨h0, h1⟩
    · unfold f0_swap f1_swap
      simp only [Option.bind_some, z_it0 hj, z_it1 hj, z_it0 hi, z_it1 hi, if_neg z_01]
      by_cases h : yG0 st j = 0
      · simp only [z_h0n hj h, z_h1n hj h, Option.bind_some, ↓reduceIte]
        exact ⟨-3, _, rfl, rfl, hI⟩
      · have hI1 : Inv (zH1 st) := hI
        simp only [z_h0y hI hj h, z_h1y hj h, Option.bind_some, if_neg z_01]
        by_cases g : yG0 (zH1 st) i = 0
        · simp only [z_h0n hi g, z_h1n hi g, Option.bind_some, ↓reduceIte, z_l0, z_l1]
          exact ⟨_, _, rfl, rfl, zL_I (st := zH0 (zH1 st)) hI⟩
        · have hI2 : Inv (zH1 (zH1 st)) := hI
          have hI3 : Inv (zH1 (zH1 (zH1 st))) := hI
          have h2 : yG0 (zH1 (zH1 st)) j ≠ 0 := h
          unfold f0_exchangeRows
          simp only [z_h0y hI1 hi g, z_h1y hi g, z_h0y hI2 hj h2, z_h1y hj h2, Option.bind_some, if_neg z_01, z_r8 hj, z_r8 hi]
          by_cases c1 : yG0 (zH1 (zH1 (zH1 st))) i < yG1 (zH1 (zH1 (zH1 st))) j
          · simp only [if_pos c1, Option.bind_some, z_l0, z_l1]
            exact ⟨_, _, rfl, rfl, zL_I hI3⟩
          · by_cases c2 : yG1 (zH1 (zH1 (zH1 st))) i ≤ yG0 (zH1 (zH1 (zH1 st))) j
            · simp only [if_neg c1, if_pos c2]
              obtain ⟨r, t, e0, e1, hIt⟩ := z_swap hj hi 40 0 (zH1 (zH1 (zH1 st))) hI3 rfl rfl c1 c2 (by omega) (by omega)
              rw [show (0 : Int32) = nI 0 from rfl, e0, e1]
              simp only [Option.bind_some, z_l0]
              exact ⟨_, _, rfl, rfl, zL_I hIt⟩
            · simp only [if_neg c1, if_neg c2, Option.bind_some, z_l0, z_l1]
              exact ⟨_, _, rfl, rfl, zL_I hI3⟩
    · unfold f0_swap f1_swap
      simp only [z_it0 hj, z_it1 hj, if_neg z_01, h0, h1, Option.bind_some, ↓reduceIte]; exact ⟨-2, st, rfl, rfl, hI⟩
  · unfold f0_swap f1_swap
    simp only [h0, h1, Option.bind_some, ↓reduceIte]; exact ⟨-2, st, rfl, rfl, hI⟩
theorem z_w1g {st : St} {j : Nat} (h : j < 8) : yW1 st (nI j) (yG1 st j - 1) = some (zG j st) := z_w1 h
theorem z_ne5 {w : Nat} (h : w ≤ 999) : nI w ≠ -5 := by
  intro q
  have := nI_pos (n := w) (by omega)
  rw [q] at this; exact this (by decide)
theorem z_shunt {a b N : Nat} (ha : a < 8) (hb : b < 8) (hN : N ≤ 20) : ∀ (n n' i : Nat) (st : St), Inv st → i ≤ N → N < i + n → N + 1 < i + n' → ∃ r t, f0_moveWagons_L3 n (nI a) (nI b) (nI N) (nI i) st = some (r, t) ∧ f1_shunt_L65 n' (nI a) (nI b) (nI N) (nI N) (nI i) st = some (r, zL 2 r t) ∧ Inv t := by
  intro n
  induction n with
  | zero => intro n' i st _ _ h; omega
  | succ n ih =>
    intro n' i st hI hi hn hn'
    obtain ⟨m, rfl⟩ : ∃ m, n' = m + 2 := ⟨n' - 2, by omega⟩
    rw [f0_moveWagons_L3, f1_shunt_L65]
    by_cases q : i = N
    · subst q
      have h : nI i ≤ nI i := Int32.le_refl _
      simp only [if_pos h, z_l1, Option.bind_some]
      exact ⟨_, _, rfl, rfl, hI⟩
    · have h : ¬ nI N ≤ nI i := nI_ge (by omega) (by omega)
      have hp : ¬ nI N < 0 := nI_pos (by omega)
      have fin : ∀ (x : Int32) (t : St), x < 0 → f1_shunt_L65 (m + 1) (nI a) (nI b) (nI N) x (nI i + 1) t = some (x, zL 2 x t) := by
        intro x t hx
        rw [f1_shunt_L65]
        simp only [z_l1, Option.bind_some]
        by_cases c1 : nI N ≤ nI i + 1
        · rw [if_pos c1]
        · rw [if_neg c1, if_pos hx]
      simp only [if_neg h, if_neg hp, z_r8 ha, Option.bind_some]
      by_cases c0 : yG1 st a = 0
      · simp only [if_pos c0, z_g0E ha c0, Option.bind_some, ↓reduceIte, fin (-5) st (by decide)]
        exact ⟨_, _, rfl, rfl, hI⟩
      · obtain ⟨gI, gF⟩ := zG_I hI c0
        obtain ⟨w, hw, ew⟩ := zW_I (j := a) hI
        simp only [if_neg c0, z_g0 hI ha c0, z_la hI ha c0, z_r8 ha, z_w1g ha, Option.bind_some, ew, if_neg (z_ne5 hw), z_f1 hb]
        by_cases c1 : yG1 (zG a st) b = yG0 (zG a st) b
        · simp only [if_pos c1, z_c0F hb c1, Option.bind_some, ↓reduceIte, if_neg z_01, (z_c0 gI ha gF).1, z_c1 gI ha gF, fin (-4) _ (by decide)]
          exact ⟨_, _, rfl, rfl, zC_I gI gF hw⟩
        · obtain ⟨k0, k1, k2⟩ := z_c0 (w := nI w) gI hb c1
          simp only [if_neg c1, k0, if_neg k2, z_c1 gI hb c1, Option.bind_some, ↓reduceIte, yP8, nI_1]
          exact ih (m + 1) (i + 1) (yS8 (zC b (nI w) (zG a st)) _) (zC_I gI c1 hw) (by omega) (by omega) (by omega)
theorem pu_shunt (a b c : Int32) {st : St} (hI : Inv st) : yOK (f0_shunt a b c st) (f1_shunt a b c st) := by
  rcases z_bad a with ⟨j, hj, rfl⟩ | ⟨h0, h1⟩
  · rcases z_bad b with ⟨i, hi, rfl⟩ | ⟨h0, h1⟩
    · unfold f0_shunt f1_shunt f1_in
      simp only [Option.bind_some, z_it0 hj, z_it1 hj, z_it0 hi, z_it1 hi, if_neg z_01]
      by_cases n0 : c < 0
      · simp only [if_pos n0, Option.bind_some, ↓reduceIte]; exact ⟨-2, st, rfl, rfl, hI⟩
      · by_cases n1 : c ≤ 20
        · have n2 : ¬ (20 : Int32) < c := Int32.not_lt.mpr n1
          obtain ⟨N, hN, rfl⟩ := nI_of2 (M := 20) (n := 20) rfl n0 n1
          simp only [if_neg n0, if_pos n1, if_neg n2, Option.bind_some, if_neg z_01, yP8]
          have hI0 : Inv (yS8 st 0) := hI
          by_cases h : yG0 (yS8 st 0) j = 0
          · simp only [z_h0n hj h, z_h1n hj h, Option.bind_some, ↓reduceIte]
            exact ⟨-3, _, rfl, rfl, hI⟩
          · have hI1 : Inv (zH1 (yS8 st 0)) := hI
            simp only [z_h0y hI0 hj h, z_h1y hj h, Option.bind_some, if_neg z_01]
            by_cases g : yG0 (zH1 (yS8 st 0)) i = 0
            · simp only [z_h0n hi g, z_h1n hi g, Option.bind_some, ↓reduceIte, z_l0, z_l1]
              exact ⟨_, _, rfl, rfl, zL_I (st := zH0 (zH1 (yS8 st 0))) hI⟩
            · have hI2 : Inv (zH1 (zH1 (yS8 st 0))) := hI
              unfold f0_moveWagons
              simp only [z_h0y hI1 hi g, z_h1y hi g, Option.bind_some, if_neg z_01]
              obtain ⟨r, t, e0, e1, hIt⟩ := z_shunt hj hi hN 40 40 0 (zH1 (zH1 (yS8 st 0))) hI2 (by omega) (by omega) (by omega)
              rw [show (0 : Int32) = nI 0 from rfl] at *
              rw [e0, e1]
              simp only [Option.bind_some, z_l0]
              exact ⟨_, _, rfl, rfl, zL_I hIt⟩
        · have n2 : (20 : Int32) < c := Int32.not_le.mp n1
          simp only [if_neg n0, if_neg n1, if_pos n2, Option.bind_some, ↓reduceIte]; exact ⟨-2, st, rfl, rfl, hI⟩
    · unfold f0_shunt f1_shunt
      simp only [z_it0 hj, z_it1 hj, if_neg z_01, h0, h1, Option.bind_some, ↓reduceIte]; exact ⟨-2, st, rfl, rfl, hI⟩
  · unfold f0_shunt f1_shunt
    simp only [h0, h1, Option.bind_some, ↓reduceIte]; exact ⟨-2, st, rfl, rfl, hI⟩
theorem z_s2 (d : Int32) : d - 1 - 1 = d - 2 := by
  rw [Int32.sub_eq_add_neg, Int32.sub_eq_add_neg, Int32.sub_eq_add_neg, Int32.add_assoc]; rfl
theorem z_a2 (d : Int32) : d + 1 + 1 = d + 2 := by rw [Int32.add_assoc]; rfl
theorem z_LL {a : Nat} {w : Int32} {s : St} : zL 1 (-4) (zC a w (zL 1 (-4) s)) = zL 2 (-4) (zC a w s) := by
  rw [zL_n (by decide), zL_n (by decide), zL_n (by decide)]
  simp only [zC, yS1, yS2, yS5, yS6, yG1, yG2, yG5, yG6]
  rw [z_s2, z_a2]
theorem z_par {w : Nat} (h : w ≤ 999) : ((nI w - nI w / 10 * 10) - (nI w - nI w / 10 * 10) / 2 * 2 = 1) ↔ (nI w - nI w / 2 * 2 = 1) := by
  have e1 : nI w - nI w / 10 * 10 = nI (w % 10) := pk_rem (d := 10) (by omega) (by decide) (by decide)
  have e2 : nI (w % 10) - nI (w % 10) / 2 * 2 = nI (w % 10 % 2) := pk_rem (d := 2) (by omega) (by decide) (by decide)
  have e3 : nI w - nI w / 2 * 2 = nI (w % 2) := pk_rem (d := 2) (by omega) (by decide) (by decide)
  rw [e1, e2, e3, show w % 10 % 2 = w % 2 by omega]
theorem z_sweep {a b c : Nat} (ha : a < 8) (hb : b < 8) (hc : c < 8) (hab : a ≠ b) (hac : a ≠ c) : ∀ (n n' k : Nat) (st : St), Inv st → yG1 st a = nI k → k ≤ 12 → k < n → k + 1 < n' → ∃ r t, f0_sortWagons_L8 n (nI a) (nI b) (nI c) (nI k) st = some (r, t) ∧ f1_sweep_L53 n' (nI a) (nI b) (nI c) 1 st = some (r, zL 1 r t) ∧ Inv t := by
  intro n
  induction n with
  | zero => intro n' k st _ _ _ h; omega
  | succ n ih =>
    intro n' k st hI ek hk hn hn'
    obtain ⟨m, rfl⟩ : ∃ m, n' = m + 2 := ⟨n' - 2, by omega⟩
    rw [f0_sortWagons_L8, f1_sweep_L53]
    simp only [if_neg z_01, z_r8 ha, Option.bind_some, ek]
    rcases Nat.eq_zero_or_pos k with q | q
    · subst q
      have h : nI 0 ≤ 0 := by decide
      simp only [if_pos h, z_l1, Option.bind_some]
      exact ⟨_, _, rfl, rfl, hI⟩
    · obtain ⟨d, rfl⟩ : ∃ d, k = d + 1 := ⟨k - 1, by omega⟩
      have h : ¬ nI (d + 1) ≤ 0 := nI_nle (by omega) (by omega)
      have c0 : yG1 st a ≠ 0 := by rw [ek]; exact nI_ne0 (by omega) (by omega)
      obtain ⟨gI, gF⟩ := zG_I hI c0
      obtain ⟨w, hw, ew⟩ := zW_I (j := a) hI
      have eg : yW1 st (nI a) (nI (d + 1) - 1) = some (zG a st) := by rw [← ek]; exact z_w1g ha
      have e1 : yG1 (zG a st) a = nI d := by
        show (if a = a then yG1 st a - 1 else yG1 st a) = nI d
        rw [if_pos rfl, ek, nI_pred]
      simp only [if_neg h, z_g0 hI ha c0, z_la hI ha c0, z_r8 ha, ek, eg, Option.bind_some, ew, pk_m1]
      by_cases d0 : nI w - nI w / 10 * 10 = 0
      · simp only [if_pos d0]
        rw [f1_sweep_L53]
        simp only [↓reduceIte, z_l1, Option.bind_some]
        exact ⟨_, _, rfl, rfl, gI⟩
      · by_cases d9 : nI w - nI w / 10 * 10 = 9
        · simp only [if_neg d0, if_pos d9]
          exact ih (m + 1) d _ gI e1 (by omega) (by omega) (by omega)
        · simp only [if_neg d0, if_neg d9, z_par hw]
          have key : ∀ t : Nat, t < 8 → a ≠ t → ∃ r u, ((f0_holdAndCome (nI t) (nI w) (zG a st)).bind fun u_11 => if 0 ≤ u_11.1 then (yP8 u_11.2 ((yG8 u_11.2) + 1)).bind fun st_13 => f0_sortWagons_L8 n (nI a) (nI b) (nI c) (nI d) st_13 else (f0_come (nI a) (nI w) u_11.2).bind fun u_14 => some (u_11.1, u_14.2)) = some (r, u) ∧ ((f1_holds (nI t) (zG a st)).bind fun u_34 => if u_34.1 = 0 then (f1_come (nI a) (nI w) u_34.2).bind fun u_43 => (f1_goes 1 (-3) u_43.2).bind fun u_44 => some (u_44.1, u_44.2) else (f1_isFull (nI t) u_34.2).bind fun u_36 => if u_36.1 = 0 then (f1_come (nI t) (nI w) u_36.2).bind fun u_38 => (yP8 u_38.2 ((yG8 u_38.2) + 1)).bind fun st_39 => (f1_goes 1 0 st_39).bind fun u_40 => f1_sweep_L53 (m + 1) (nI a) (nI b) (nI c) 1 u_40.2 else (f1_come (nI a) (nI w) u_36.2).bind fun u_41 => (f1_goes 2 (-4) u_41.2).bind fun u_42 => some (u_42.1, u_42.2)) = some (r, zL 1 r u) ∧ Inv u := by
            intro t ht hat
            unfold f0_holdAndCome
            by_cases g : yG0 (zG a st) t = 0
            · have m3 : ¬ (0 : Int32) ≤ -3 := by decide
              have hI0 : Inv (zH0 (zG a st)) := gI
              have gF0 : yG1 (zH0 (zG a st)) a ≠ yG0 (zH0 (zG a st)) a := gF
              simp only [z_h0n ht g, z_h1n ht g, Option.bind_some, ↓reduceIte, if_neg m3, (z_c0 hI0 ha gF0).1, z_c1 hI0 ha gF0, z_l1]
              exact ⟨_, _, rfl, rfl, zC_I hI0 gF0 hw⟩
            · have hI1 : Inv (zH1 (zG a st)) := gI
              have gF1 : yG1 (zH1 (zG a st)) a ≠ yG0 (zH1 (zG a st)) a := gF
              simp only [z_h0y gI ht g, z_h1y ht g, Option.bind_some, if_neg z_01, z_f1 ht]
              by_cases f : yG1 (zH1 (zG a st)) t = yG0 (zH1 (zG a st)) t
              · have m4 : ¬ (0 : Int32) ≤ -4 := by decide
                have hI2 : Inv (zL 1 (-4) (zH1 (zG a st))) := zL_I hI1
                have gF2 : yG1 (zL 1 (-4) (zH1 (zG a st))) a ≠ yG0 (zL 1 (-4) (zH1 (zG a st))) a := by rw [zL_G.1, zL_G.2.1]; exact gF1
                simp only [if_pos f, z_c0F ht f, Option.bind_some, if_neg z_01, if_neg m4, z_l0, z_l1, (z_c0 hI2 ha gF2).1, z_c1 hI1 ha gF1]
                exact ⟨_, _, rfl, by rw [z_LL], zC_I hI2 gF2 hw⟩
              · obtain ⟨k0, k1, k2⟩ := z_c0 (w := nI w) hI1 ht f
                simp only [if_neg f, k0, z_c1 hI1 ht f, Option.bind_some, ↓reduceIte, if_pos k1, z_l0, z_l1, yP8]
                rw [zL_p k1, zL_p (show (0 : Int32) ≤ 0 by decide)]
                refine ih (m + 1) d (yS8 (yS6 (zC t (nI w) (zH1 (zG a st))) _) _) (zC_I hI1 f hw) ?_ (by omega) (by omega) (by omega)
                show (if a = t then yG1 (zG a st) t + 1 else yG1 (zG a st) a) = nI d
                rw [if_neg hat, e1]
          by_cases p : nI w - nI w / 2 * 2 = 1
          · simp only [if_pos p]; exact key b hb hab
          · simp only [if_neg p]; exact key c hc hac
theorem pu_sweep (a b c : Int32) {st : St} (hI : Inv st) : yOK (f0_sweep a b c st) (f1_sweep a b c st) := by
  rcases z_bad a with ⟨j, hj, rfl⟩ | ⟨h0, h1⟩
  · rcases z_bad b with ⟨i, hi, rfl⟩ | ⟨h0, h1⟩
    · rcases z_bad c with ⟨k, hk, rfl⟩ | ⟨h0, h1⟩
      · unfold f0_sweep f1_sweep
        simp only [Option.bind_some, z_it0 hj, z_it1 hj, z_it0 hi, z_it1 hi, z_it0 hk, z_it1 hk, if_neg z_01]
        by_cases n0 : nI j = nI i
        · simp only [if_pos n0]; exact ⟨-2, st, rfl, rfl, hI⟩
        · by_cases n1 : nI j = nI k
          · simp only [if_neg n0, if_pos n1]; exact ⟨-2, st, rfl, rfl, hI⟩
          · simp only [if_neg n0, if_neg n1, Option.bind_some, yP8]
            have hI0 : Inv (yS8 st 0) := hI
            by_cases h : yG0 (yS8 st 0) j = 0
            · simp only [z_h0n hj h, z_h1n hj h, Option.bind_some, ↓reduceIte]
              exact ⟨-3, _, rfl, rfl, hI⟩
            · have hI1 : Inv (zH1 (yS8 st 0)) := hI
              unfold f0_sortWagons
              obtain ⟨r, cc, w, e0, e1, e2, h1, h2, h3⟩ := hI1 j
              simp only [z_h0y hI0 hj h, z_h1y hj h, Option.bind_some, if_neg z_01, z_r8 hj, e1]
              obtain ⟨r, t, e0, e1, hIt⟩ := z_sweep hj hi hk (fun q => n0 (by rw [q])) (fun q => n1 (by rw [q])) 40 40 cc (zH1 (yS8 st 0)) hI1 e1 (by omega) (by omega) (by omega)
              rw [e0, e1]
              simp only [Option.bind_some, z_l0]
              exact ⟨_, _, rfl, rfl, zL_I hIt⟩
      · unfold f0_sweep f1_sweep
        simp only [z_it0 hj, z_it1 hj, z_it0 hi, z_it1 hi, if_neg z_01, h0, h1, Option.bind_some, ↓reduceIte]; exact ⟨-2, st, rfl, rfl, hI⟩
    · unfold f0_sweep f1_sweep
      simp only [z_it0 hj, z_it1 hj, if_neg z_01, h0, h1, Option.bind_some, ↓reduceIte]; exact ⟨-2, st, rfl, rfl, hI⟩
  · unfold f0_sweep f1_sweep
    simp only [h0, h1, Option.bind_some, ↓reduceIte]; exact ⟨-2, st, rfl, rfl, hI⟩
end
section
/-! The constructors: three new arrays, all nought. -/
def zN : List Value := [.null, .null, .null, .int 0, .int 0, .int 0, .int 0, .int 0, .int 0]
def z0 : St := (fun _ => 0, fun _ => 0, fun _ => 0, 0, 0, 0, 0, 0, 0)
theorem z0_I : Inv z0 := fun _ => ⟨0, 0, 0, rfl, rfl, rfl, by decide, by decide, by decide⟩
theorem hin0_init : ∀ w ∈ wsX00, w ∈ wsX0_init := by decide +kernel
set_option maxHeartbeats 4000000 in
set_option maxRecDepth 100000 in
theorem c0_init (l : Launch) (D : va_G) (h0 sz : Nat) : Met l yX0_init wsX0_init ({ frames := 1, cells := 3, slots := 112, locals := 30 }) (va_Pc [.ref h0] (fun U => U.heap.size = sz ∧ va_P D vwCl [(h0, .inr (0, zN))] U.heap ∧ va_K D vwCl [] U ∧ va_D (fun _ => True) [(h0, .inr (0, zN))])) (va_Qv (fun (_ : Nat × Nat × Nat × ClassId) => True) (fun u t => va_P D vwCl (yw 0 h0 u.1 u.2.1 u.2.2.1 u.2.2.2 z0) t.heap ∧ va_K D vwCl [(u.2.2.2, .int)] t ∧ va_D (va_A [(h0, .inr (0, zN))] sz) (yw 0 h0 u.1 u.2.1 u.2.2.1 u.2.2.2 z0)) (va_A [(h0, .inr (0, zN))] sz)) 3 112 (va_A [(h0, .inr (0, zN))] sz) := by
  refine Met.ofW (cc := cX0_init) (maxL := 1) (ret := none) (by decide) rfl ?_
  intro p e s m args below meth c s₁ B hml hv
  obtain ⟨rfl, hsz, hP, hK, hD0⟩ := hv
  have hx := B.exec
  have hb := B.bytes
  have hr := B.returns
  have hts := atoms_spec (ws := wsX0_init) B.pre
  have hown : s.vm.findClass RX0 = some m.cls := findClass_of_methodNamed B.named
  have hlocks := B.notSynchronized
  have hin : meth.name = "<init>" := (name_of_methodNamed B.named B.method).1
  subst hsz
  have hD := hD0.self (sz := s.heap.size)
  generalize hAe : va_A [(h0, .inr (0, zN))] s.heap.size = A at hD ⊢
  have hA : ∀ q : Nat, s.heap.size ≤ q → A q := fun q h => by rw [← hAe]; exact Or.inr h
  have hS : va_S A s.heap s.heap [] := va_S.rf
  have hl := lv_entry ([.ref h0]) (n := 1) (Nat.le_of_ble_eq_true rfl)
  rw [lg_entry_eq]
  generalize (lg_sl ([.ref h0]) ++ List.replicate (1 - (lg_sl ([.ref h0])).length) Slot.unset).toArray = ls at hl ⊢
  have hl : lv_has ls 1 [(0, .ref h0)] := hl
  refine lv_aload_n hx hb dX0_init_0 rfl (lv_at hl 0 rfl) ?_
  refine W.objInit hx hb hown (hts (.methodLink RX0 1 objectInit) (by decide +kernel)) (hts (.instanceMethod objectInit) (by decide +kernel)) (hts _ (List.mem_cons_of_mem _ (List.mem_append_left _ (List.mem_of_getElem? (i := 2) rfl)))) rfl (by rw [hml]; exact hl.1) rfl dX0_init_1 (Nat.le_of_ble_eq_true rfl) (Nat.le_of_ble_eq_true rfl) ?_
  refine W.eq (g2 := F0 m 4 ls []) rfl ?_
  refine lv_aload_n hx hb dX0_init_4 rfl (lv_at hl 0 rfl) ?_
  refine lv_bipush (v := 8) hx hb dX0_init_5 (by decide) ?_
  refine va_newa (atype := .int) (ty := .int) (N' := 8) (a0 := (8, .inl (fun _ => 0))) hx hb (hts (.arrayClass .int) (by decide +kernel)) rfl hK hP hD hS hA (fun _ => rfl) (by decide) (by decide) (by decide) (Nat.le_of_ble_eq_true rfl) (Nat.le_of_ble_eq_true rfl) dX0_init_7 (fun q1 cA1 H hK hP hD hS => ?_)
  refine va_putF (D := D) (ci := 0) (v := .ref q1) (ty := .array .int) (C := RX0) (T := TX0) (N := 9) hx hb hts hin0_init tyX0 tyX0_ok nmX0 hown hK hP hD hS 0 rfl rfl 0 (by decide) (hts (.fieldLink RX0 9 "YardHolds" "rooms" "[I") (by decide +kernel)) (fun _ h9 => h9) rfl hin rfl (by decide +kernel) rfl rfl (Nat.le_of_ble_eq_true rfl) dX0_init_9 (fun H locs hP hD hS => ?_)
  have hP : va_P D vwCl [(h0, .inr (0, [.ref q1, .null, .null, .int 0, .int 0, .int 0, .int 0, .int 0, .int 0])), (q1, .inl (cA1, 8, .inl (fun _ => 0)))] H := hP
  have hD : va_D A [(h0, .inr (0, [.ref q1, .null, .null, .int 0, .int 0, .int 0, .int 0, .int 0, .int 0])), (q1, .inl (cA1, 8, .inl (fun _ => 0)))] := hD
  refine lv_aload_n hx hb dX0_init_12 rfl (lv_at hl 0 rfl) ?_
  refine lv_bipush (v := 8) hx hb dX0_init_13 (by decide) ?_
  refine va_newa (atype := .int) (ty := .int) (N' := 8) (a0 := (8, .inl (fun _ => 0))) hx hb (hts (.arrayClass .int) (by decide +kernel)) rfl hK hP hD hS hA (fun _ => rfl) (by decide) (by decide) (by decide) (Nat.le_of_ble_eq_true rfl) (Nat.le_of_ble_eq_true rfl) dX0_init_15 (fun q2 cA2 H hK hP hD hS => ?_)
  refine va_putF (D := D) (ci := 0) (v := .ref q2) (ty := .array .int) (C := RX0) (T := TX0) (N := 9) hx hb hts hin0_init tyX0 tyX0_ok nmX0 hown hK hP hD hS 0 rfl rfl 1 (by decide) (hts (.fieldLink RX0 13 "YardHolds" "counts" "[I") (by decide +kernel)) (fun _ h9 => h9) rfl hin rfl (by decide +kernel) rfl rfl (Nat.le_of_ble_eq_true rfl) dX0_init_17 (fun H locs hP hD hS => ?_)
  have hP : va_P D vwCl [(h0, .inr (0, [.ref q1, .ref q2, .null, .int 0, .int 0, .int 0, .int 0, .int 0, .int 0])), (q1, .inl (cA1, 8, .inl (fun _ => 0))), (q2, .inl (cA2, 8, .inl (fun _ => 0)))] H := hP
  have hD : va_D A [(h0, .inr (0, [.ref q1, .ref q2, .null, .int 0, .int 0, .int 0, .int 0, .int 0, .int 0])), (q1, .inl (cA1, 8, .inl (fun _ => 0))), (q2, .inl (cA2, 8, .inl (fun _ => 0)))] := hD
  refine lv_aload_n hx hb dX0_init_20 rfl (lv_at hl 0 rfl) ?_
  refine lv_bipush (v := 96) hx hb dX0_init_21 (by decide) ?_
  refine va_newa (atype := .int) (ty := .int) (N' := 96) (a0 := (96, .inl (fun _ => 0))) hx hb (hts (.arrayClass .int) (by decide +kernel)) rfl hK hP hD hS hA (fun _ => rfl) (by decide) (by decide) (by decide) (Nat.le_of_ble_eq_true rfl) (Nat.le_of_ble_eq_true rfl) dX0_init_23 (fun q3 cA3 H hK hP hD hS => ?_)
  refine va_putF (D := D) (ci := 0) (v := .ref q3) (ty := .array .int) (C := RX0) (T := TX0) (N := 9) hx hb hts hin0_init tyX0 tyX0_ok nmX0 hown hK hP hD hS 0 rfl rfl 2 (by decide) (hts (.fieldLink RX0 16 "YardHolds" "wagons" "[I") (by decide +kernel)) (fun _ h9 => h9) rfl hin rfl (by decide +kernel) rfl rfl (Nat.le_of_ble_eq_true rfl) dX0_init_25 (fun H locs hP hD hS => ?_)
  have hP : va_P D vwCl [(h0, .inr (0, [.ref q1, .ref q2, .ref q3, .int 0, .int 0, .int 0, .int 0, .int 0, .int 0])), (q1, .inl (cA1, 8, .inl (fun _ => 0))), (q2, .inl (cA2, 8, .inl (fun _ => 0))), (q3, .inl (cA3, 96, .inl (fun _ => 0)))] H := hP
  have hD : va_D A [(h0, .inr (0, [.ref q1, .ref q2, .ref q3, .int 0, .int 0, .int 0, .int 0, .int 0, .int 0])), (q1, .inl (cA1, 8, .inl (fun _ => 0))), (q2, .inl (cA2, 8, .inl (fun _ => 0))), (q3, .inl (cA3, 96, .inl (fun _ => 0)))] := hD
  have r1 : s.vm.findClass ("[" ++ FieldType.int.toString) = some cA1 := (hK.2 0 _ rfl).2
  have r2 : s.vm.findClass ("[" ++ FieldType.int.toString) = some cA2 := (hK.2 1 _ rfl).2
  have r3 : s.vm.findClass ("[" ++ FieldType.int.toString) = some cA3 := (hK.2 2 _ rfl).2
  obtain rfl := Option.some.inj (r1.symm.trans r2)
  obtain rfl := Option.some.inj (r1.symm.trans r3)
  have hK9 := hK.sub (tys' := [(cA1, .int)]) [0] rfl
  refine W.widen (k := 3) (n := 112) (by decide) (by decide) ?_
  exact W.vret hx hb hr (fun t ht hW => ⟨⟨(q1, q2, q3, cA1), rfl, trivial, by rw [ht]; exact hP, va_K.moved hW.alike hK9, hD⟩, hS.F ht⟩) hS.2.2 dX0_init_28
theorem hin1_init : ∀ w ∈ wsX10, w ∈ wsX1_init := by decide +kernel
set_option maxHeartbeats 4000000 in
set_option maxRecDepth 100000 in
theorem c1_init (l : Launch) (D : va_G) (h0 sz : Nat) : Met l yX1_init wsX1_init ({ frames := 1, cells := 3, slots := 112, locals := 30 }) (va_Pc [.ref h0] (fun U => U.heap.size = sz ∧ va_P D vwCl [(h0, .inr (1, zN))] U.heap ∧ va_K D vwCl [] U ∧ va_D (fun _ => True) [(h0, .inr (1, zN))])) (va_Qv (fun (_ : Nat × Nat × Nat × ClassId) => True) (fun u t => va_P D vwCl (yw 1 h0 u.1 u.2.1 u.2.2.1 u.2.2.2 z0) t.heap ∧ va_K D vwCl [(u.2.2.2, .int)] t ∧ va_D (va_A [(h0, .inr (1, zN))] sz) (yw 1 h0 u.1 u.2.1 u.2.2.1 u.2.2.2 z0)) (va_A [(h0, .inr (1, zN))] sz)) 3 112 (va_A [(h0, .inr (1, zN))] sz) := by
  refine Met.ofW (cc := cX1_init) (maxL := 1) (ret := none) (by decide) rfl ?_
  intro p e s m args below meth c s₁ B hml hv
  obtain ⟨rfl, hsz, hP, hK, hD0⟩ := hv
  have hx := B.exec
  have hb := B.bytes
  have hr := B.returns
  have hts := atoms_spec (ws := wsX1_init) B.pre
  have hown : s.vm.findClass RX1 = some m.cls := findClass_of_methodNamed B.named
  have hlocks := B.notSynchronized
  have hin : meth.name = "<init>" := (name_of_methodNamed B.named B.method).1
  subst hsz
  have hD := hD0.self (sz := s.heap.size)
  generalize hAe : va_A [(h0, .inr (1, zN))] s.heap.size = A at hD ⊢
  have hA : ∀ q : Nat, s.heap.size ≤ q → A q := fun q h => by rw [← hAe]; exact Or.inr h
  have hS : va_S A s.heap s.heap [] := va_S.rf
  have hl := lv_entry ([.ref h0]) (n := 1) (Nat.le_of_ble_eq_true rfl)
  rw [lg_entry_eq]
  generalize (lg_sl ([.ref h0]) ++ List.replicate (1 - (lg_sl ([.ref h0])).length) Slot.unset).toArray = ls at hl ⊢
  have hl : lv_has ls 1 [(0, .ref h0)] := hl
  refine lv_aload_n hx hb dX1_init_0 rfl (lv_at hl 0 rfl) ?_
  refine W.objInit hx hb hown (hts (.methodLink RX1 1 objectInit) (by decide +kernel)) (hts (.instanceMethod objectInit) (by decide +kernel)) (hts _ (List.mem_cons_of_mem _ (List.mem_append_left _ (List.mem_of_getElem? (i := 2) rfl)))) rfl (by rw [hml]; exact hl.1) rfl dX1_init_1 (Nat.le_of_ble_eq_true rfl) (Nat.le_of_ble_eq_true rfl) ?_
  refine W.eq (g2 := F0 m 4 ls []) rfl ?_
  refine lv_aload_n hx hb dX1_init_4 rfl (lv_at hl 0 rfl) ?_
  refine lv_bipush (v := 8) hx hb dX1_init_5 (by decide) ?_
  refine va_newa (atype := .int) (ty := .int) (N' := 8) (a0 := (8, .inl (fun _ => 0))) hx hb (hts (.arrayClass .int) (by decide +kernel)) rfl hK hP hD hS hA (fun _ => rfl) (by decide) (by decide) (by decide) (Nat.le_of_ble_eq_true rfl) (Nat.le_of_ble_eq_true rfl) dX1_init_7 (fun q1 cA1 H hK hP hD hS => ?_)
  refine va_putF (D := D) (ci := 1) (v := .ref q1) (ty := .array .int) (C := RX1) (T := TX1) (N := 9) hx hb hts hin1_init tyX1 tyX1_ok nmX1 hown hK hP hD hS 0 rfl rfl 0 (by decide) (hts (.fieldLink RX1 9 "YardHoldsModel" "rooms" "[I") (by decide +kernel)) (fun _ h9 => h9) rfl hin rfl (by decide +kernel) rfl rfl (Nat.le_of_ble_eq_true rfl) dX1_init_9 (fun H locs hP hD hS => ?_)
  have hP : va_P D vwCl [(h0, .inr (1, [.ref q1, .null, .null, .int 0, .int 0, .int 0, .int 0, .int 0, .int 0])), (q1, .inl (cA1, 8, .inl (fun _ => 0)))] H := hP
  have hD : va_D A [(h0, .inr (1, [.ref q1, .null, .null, .int 0, .int 0, .int 0, .int 0, .int 0, .int 0])), (q1, .inl (cA1, 8, .inl (fun _ => 0)))] := hD
  refine lv_aload_n hx hb dX1_init_12 rfl (lv_at hl 0 rfl) ?_
  refine lv_bipush (v := 8) hx hb dX1_init_13 (by decide) ?_
  refine va_newa (atype := .int) (ty := .int) (N' := 8) (a0 := (8, .inl (fun _ => 0))) hx hb (hts (.arrayClass .int) (by decide +kernel)) rfl hK hP hD hS hA (fun _ => rfl) (by decide) (by decide) (by decide) (Nat.le_of_ble_eq_true rfl) (Nat.le_of_ble_eq_true rfl) dX1_init_15 (fun q2 cA2 H hK hP hD hS => ?_)
  refine va_putF (D := D) (ci := 1) (v := .ref q2) (ty := .array .int) (C := RX1) (T := TX1) (N := 9) hx hb hts hin1_init tyX1 tyX1_ok nmX1 hown hK hP hD hS 0 rfl rfl 1 (by decide) (hts (.fieldLink RX1 13 "YardHoldsModel" "sizes" "[I") (by decide +kernel)) (fun _ h9 => h9) rfl hin rfl (by decide +kernel) rfl rfl (Nat.le_of_ble_eq_true rfl) dX1_init_17 (fun H locs hP hD hS => ?_)
  have hP : va_P D vwCl [(h0, .inr (1, [.ref q1, .ref q2, .null, .int 0, .int 0, .int 0, .int 0, .int 0, .int 0])), (q1, .inl (cA1, 8, .inl (fun _ => 0))), (q2, .inl (cA2, 8, .inl (fun _ => 0)))] H := hP
  have hD : va_D A [(h0, .inr (1, [.ref q1, .ref q2, .null, .int 0, .int 0, .int 0, .int 0, .int 0, .int 0])), (q1, .inl (cA1, 8, .inl (fun _ => 0))), (q2, .inl (cA2, 8, .inl (fun _ => 0)))] := hD
  refine lv_aload_n hx hb dX1_init_20 rfl (lv_at hl 0 rfl) ?_
  refine lv_bipush (v := 96) hx hb dX1_init_21 (by decide) ?_
  refine va_newa (atype := .int) (ty := .int) (N' := 96) (a0 := (96, .inl (fun _ => 0))) hx hb (hts (.arrayClass .int) (by decide +kernel)) rfl hK hP hD hS hA (fun _ => rfl) (by decide) (by decide) (by decide) (Nat.le_of_ble_eq_true rfl) (Nat.le_of_ble_eq_true rfl) dX1_init_23 (fun q3 cA3 H hK hP hD hS => ?_)
  refine va_putF (D := D) (ci := 1) (v := .ref q3) (ty := .array .int) (C := RX1) (T := TX1) (N := 9) hx hb hts hin1_init tyX1 tyX1_ok nmX1 hown hK hP hD hS 0 rfl rfl 2 (by decide) (hts (.fieldLink RX1 16 "YardHoldsModel" "wagons" "[I") (by decide +kernel)) (fun _ h9 => h9) rfl hin rfl (by decide +kernel) rfl rfl (Nat.le_of_ble_eq_true rfl) dX1_init_25 (fun H locs hP hD hS => ?_)
  have hP : va_P D vwCl [(h0, .inr (1, [.ref q1, .ref q2, .ref q3, .int 0, .int 0, .int 0, .int 0, .int 0, .int 0])), (q1, .inl (cA1, 8, .inl (fun _ => 0))), (q2, .inl (cA2, 8, .inl (fun _ => 0))), (q3, .inl (cA3, 96, .inl (fun _ => 0)))] H := hP
  have hD : va_D A [(h0, .inr (1, [.ref q1, .ref q2, .ref q3, .int 0, .int 0, .int 0, .int 0, .int 0, .int 0])), (q1, .inl (cA1, 8, .inl (fun _ => 0))), (q2, .inl (cA2, 8, .inl (fun _ => 0))), (q3, .inl (cA3, 96, .inl (fun _ => 0)))] := hD
  have r1 : s.vm.findClass ("[" ++ FieldType.int.toString) = some cA1 := (hK.2 0 _ rfl).2
  have r2 : s.vm.findClass ("[" ++ FieldType.int.toString) = some cA2 := (hK.2 1 _ rfl).2
  have r3 : s.vm.findClass ("[" ++ FieldType.int.toString) = some cA3 := (hK.2 2 _ rfl).2
  obtain rfl := Option.some.inj (r1.symm.trans r2)
  obtain rfl := Option.some.inj (r1.symm.trans r3)
  have hK9 := hK.sub (tys' := [(cA1, .int)]) [0] rfl
  refine W.widen (k := 3) (n := 112) (by decide) (by decide) ?_
  exact W.vret hx hb hr (fun t ht hW => ⟨⟨(q1, q2, q3, cA1), rfl, trivial, by rw [ht]; exact hP, va_K.moved hW.alike hK9, hD⟩, hS.F ht⟩) hS.2.2 dX1_init_28
section YL
variable {p : Program} {l : Launch} {e : Env} {R : Room} {s : State} {m : MethodId} {args : Array Value} {below : List Frame} {meth : Method} {c : Code} {H : Heap} {locs : List Loc} {cells slots : Nat} {Q : State → Prop} {cc : ByteArray} {pc nL : Nat} {ls : Array Slot} {rest : List Value} {Ts : List Cond} {own : String} {D : va_G} {ci h0 q1 q2 q3 : Nat} {cA : ClassId} {A : Nat → Prop} {st : St}
/-- a call from the law: the other object stands beside, and stays -/
theorem ycallL {cj b0 b1 b2 b3 : Nat} {cB : ClassId} {su : St} {y : MethodName} {ws ws' : List Cond} {k maxL index n : Nat} {ret : Option FieldType} {bytes : ByteArray} {av : List Value} {f : St → Option (Int32 × St)} {C : String} {T : u_T} {N : Nat} {r : Int32} {st2 : St} {stk : List Value} (F : CallFix p m c cc nL s args Ts own) (hA : ∀ q, s.heap.size ≤ q → A q) (hM : yMet l D ci y ws k av f) (hT : GoodIn Ts (wsV own index C y ws)) (hw : ws = Cond.code y bytes maxL ret :: ws') (hd : y.cls = C ∧ y.cls ≠ "java/lang/invoke/MethodHandle" ∧ y.cls ≠ "java/lang/invoke/VarHandle" ∧ (parseMethodDescriptor y.desc).map (fun d => d.parameters.length) = some n) (hcl : vwCl[ci]? = some (C, T, N)) (hR : k + 1 ≤ R.frames ∧ 8 + (maxL + 11) + 30 * k ≤ R.locals) (hn : av.length = n) (hls : ls.size = nL) (hK : va_K D vwCl [(cA, .int)] s) (hP : va_P D vwCl (yw ci h0 q1 q2 q3 cA st ++ yw cj b0 b1 b2 b3 cB su) H) (hD : va_D A (yw ci h0 q1 q2 q3 cA st ++ yw cj b0 b1 b2 b3 cB su)) (hS : va_S A s.heap H locs) (hf : f st = some (r, st2)) (hst : stk = av.reverse ++ .ref h0 :: rest) (hroom : (rest.map fun v => v.category).sum ≤ 8) (hcs : cells ≤ R.cells ∧ slots ≤ R.slots) (hdg : decode cc pc = .ok (.invokevirtual index, 3)) (kk : ∀ (H1 : Heap) (locs1 : List Loc), va_P D vwCl (yw cj b0 b1 b2 b3 cB su ++ yw ci h0 q1 q2 q3 cA st2) H1 → va_D A (yw cj b0 b1 b2 b3 cB su ++ yw ci h0 q1 q2 q3 cA st2) → va_S A s.heap H1 locs1 → W p l e R s m args below meth c H1 locs1 cells slots Q (F0 m (pc + 3) ls (.int r :: rest))) : W p l e R s m args below meth c H locs cells slots Q (F0 m pc ls stk) := by
  have hPc : va_P D vwCl (yw ci h0 q1 q2 q3 cA st) H := hP.sub [0, 1, 2, 3] rfl
  have hDc : va_D A (yw ci h0 q1 q2 q3 cA st) := hD.sub [0, 1, 2, 3] (by decide) rfl
  have hFc : ∀ q, va_A (yw ci h0 q1 q2 q3 cA st) H.size q → A q := va_free hD hS hA [0, 1, 2, 3] rfl
  refine va_calli (va_runV (As := av) (rest := rest) F (hM h0 q1 q2 q3 cA H.size st st2 r hf) (cwV n F.2.2.2.2 hT hw rfl rfl hd hR) ⟨fun a U g mk q => by obtain ⟨q0, q1, qP, qK, qD⟩ := q; exact ⟨q0, q1, qP, va_K.moved (u := U) (U := U.calling g mk a) (Vm.Alike.refl U.vm) qK, qD⟩, va_recv hK hPc hcl (q0 := 0) rfl, fun U hU hW => ⟨rfl, by rw [hU], by rw [hU]; exact hPc, va_K.moved hW.alike hK, hDc.weaken (fun _ _ _ _ => trivial)⟩⟩ rfl hn hls hst (lv_room hroom) hdg ⟨hcs.1, hcs.2⟩) hS (fun q _ h => hFc q h) hFc (fun r2 u t H1 locs1 ht hvm hw hB hz1 hk1 hS => ?_)
  obtain ⟨rfl, rfl⟩ := hw
  obtain ⟨hP1, hK1, hD1⟩ := hB
  rw [ht] at hP1
  obtain ⟨hP, hD⟩ := va_join (wr := yw cj b0 b1 b2 b3 cB su) hP hD [0, 1, 2, 3] [4, 5, 6, 7] rfl rfl (by decide) (by decide) hk1 hFc hP1 hD1
  exact kk H1 locs1 hP hD hS
end YL
end
section
/-! THE CLAIM OUT OF ONE WALK OF THE LAW'S BODY. Your part is whole_start (and what it stands on); all else here is the same for every law, but numbers. -/
def R_law : String := "YardHoldsLaw"
def lw_P (b : Addr) (xs : List Int32) (args : Array Value) (s : State) : Prop := args = #[.ref b] ∧ s.IntsAt b xs ∧ xs.length ≤ 2048 ∧ (Jvm.Cond.and given_1 narrow_1).before args s = true
def lw_Q (_ : Array Value) (s : State) (o : Outcome) (t : State) : Prop := o = .returned (some (.int 1)) ∧ Framed s o t [] 8 242
def lw_Z (below : List Frame) (a : Array Value) (s : State) : State → Prop := fun t => ∃ o, t.status = .running ∧ Ended t below o ∧ lw_Q a s o t
/-- the law's own end, with 1 on the stack, nothing written that was there before, its room as the claim has it -/
theorem lw_ret {p : Program} {l : Launch} {e : Env} {s : State} {m : MethodId} {below : List Frame} {meth : Method} {c : Code} {b : Nat} (hx : p.tables.exec = Jvm.exec) (hb : c.code = code) (hr : meth.sig.returnType = ret) (hlocks : meth.locks = false) {pc : Nat} {H : Heap} {ls : Array Slot} (hdg : decode code pc = .ok (.ireturn, 1)) : W p l e room_1 s m #[Value.ref b] below meth c H [] 8 242 (lw_Z below #[Value.ref b] s) (F0 m pc ls [.int 1]) := by
  intro T hT X
  obtain ⟨fs, hret, hrun, hended, hW, hframe⟩ := X.leave (v := some (.int 1)) (hlocks := hlocks) (fun h => by rw [hr] at h; cases h)
  have hmeth' : T.vm.method? m = some meth := X.method'
  refine ⟨T.setFrames fs, ?_, .returned (some (.int 1)), hrun, hended, rfl, ⟨_, rfl⟩, hW, hframe⟩
  jvm_step X.here [X.here.top, hx, hb, hdg, hmeth', hr, ret, narrow_b1]
  (try refine ⟨rfl, ?_⟩); (try refine ⟨rfl, ?_⟩)
  first | (intro acts; rw [hret _ acts rfl rfl rfl]) | rw [hret _ _ rfl rfl rfl]
  exact Steps.refl _
/-- what holds at the law's entry: the machine, the code, the tables' words (any of lw_tbl by 'hts w (by decide +kernel)'), the script of L ints xs at the cell b, what the Statement gives of the start (any of its parts by flat_of_before) -/
def lw_At (p : Program) (s : State) (m : MethodId) (meth : Method) (c : Code) (b L : Nat) (xs : Nat → Int32) : Prop :=
  p.tables.exec = Jvm.exec ∧ c.code = code ∧ meth.sig.returnType = ret ∧ c.maxLocals = 4 ∧ s.vm.findClass R_law = some m.cls ∧ (∀ w ∈ lw_tbl, w.before #[Value.ref b] s = true) ∧ va_X b L xs s s.heap ∧ b < s.heap.size ∧ meth.locks = false ∧ (Jvm.Cond.and given_1 narrow_1).before #[Value.ref b] s = true
set_option maxHeartbeats 4000000 in
set_option maxRecDepth 100000 in
/-- THE LAW'S LOOP: at its head both objects hold one state, which keeps the invariant -/
theorem law_loop {p : Program} {l : Launch} {e : Env} {s : State} {m : MethodId} {below : List Frame} {meth : Method} {c : Code} {D : va_G} {b L : Nat} {xs : Nat → Int32} (hL : L ≤ 2048) (C0 : lw_At p s m meth c b L xs) {x0 x1 x2 x3 m0 m1 m2 m3 : Nat} {cA cB : ClassId} (hK0 : va_K D vwCl [(cA, .int)] s) (hK1 : va_K D vwCl [(cB, .int)] s) :
    ∀ (n i : Nat), i ≤ L → L + 1 ≤ i + n → ∀ (st : St), Inv st → ∀ (H : Heap) (locs : List Loc), va_P D vwCl (yw 0 x0 x1 x2 x3 cA st ++ yw 1 m0 m1 m2 m3 cB st) H → va_D (fun q : Nat => s.heap.size ≤ q) (yw 0 x0 x1 x2 x3 cA st ++ yw 1 m0 m1 m2 m3 cB st) → va_S (fun q : Nat => s.heap.size ≤ q) s.heap H locs → ∀ (ls : Array Slot), lv_has ls 4 [(0, .ref b), (1, .ref x0), (2, .ref m0), (3, .int (nI i))] → W p l e room_1 s m #[Value.ref b] below meth c H locs 8 242 (lw_Z below #[Value.ref b] s) (F0 m 18 ls []) := by
  obtain ⟨hx, hb, hr, hml, hown, hts0, hX, hbl, hlocks, hgv⟩ := C0
  have hts : ∀ w ∈ wsL_law, w.before #[Value.ref b] s = true := fun w h => hts0 w (wsL_law_in w h)
  have hown : s.vm.findClass RL = some m.cls := hown
  have F : CallFix p m c cL_law 4 s #[Value.ref b] wsL_law RL := ⟨hx, hb, hml, hown, hts⟩
  have hA : ∀ q : Nat, s.heap.size ≤ q → (fun q : Nat => s.heap.size ≤ q) q := fun _ h => h
  have hbA : ¬ (fun q : Nat => s.heap.size ≤ q) b := Nat.not_le.mpr hbl
  intro n
  induction n with
  | zero =>
    intro i h1 h2
    exact absurd h2 (by omega)
  | succ n ih =>
    intro i hi hin st hI H locs hP hD hS ls hl
    refine lv_iload_n hx hb dL_law_18 rfl (lv_at hl 3 rfl) ?_
    refine lv_aload_n hx hb dL_law_19 rfl (lv_at hl 0 rfl) ?_
    refine va_slen hx hb hX hbl hbA hS dL_law_20 ?_
    refine lv_iconst (v := 4) hx hb dL_law_21 (by decide) ?_
    refine lv_isub hx hb dL_law_22 ?_
    refine lv_icmp_gt (tgt := 605) hx hb dL_law_23 (by decide) (fun k_0 => ?_) (fun k_0 => ?_)
    · refine lv_iconst (v := 1) hx hb dL_law_605 (by decide) ?_
      refine va_forget (fun q hq => hS.2.2 q hq) ?_
      exact lw_ret hx hb hr hlocks dL_law_606
    · have hlt : i + 4 ≤ L := by
        have e1 : (nI L - nI 4).toInt = (L : Int) - (4 : Nat) := pk_sub_toInt (by omega) (by decide)
        have e2 : ¬ (nI L - nI 4).toInt < (nI i).toInt := fun h => k_0 (Int32.lt_iff_toInt_lt.mpr h)
        rw [e1, nI_toInt (by omega)] at e2
        omega
      have h_0 : vp_in (nI i) L := vp_in_nI (by omega) (by omega)
      have h_1 : vp_in (nI i + 1) L := by rw [nI_1]; exact vp_in_nI (by omega) (by omega)
      have h_2 : vp_in (nI i + 2) L := by rw [show (2 : Int32) = nI 2 from rfl, nI_add]; exact vp_in_nI (by omega) (by omega)
      have h_3 : vp_in (nI i + 3) L := by rw [show (3 : Int32) = nI 3 from rfl, nI_add]; exact vp_in_nI (by omega) (by omega)
      obtain ⟨w1, ew1⟩ : ∃ y, y = xs (nI i + 1).toNatClampNeg := ⟨_, rfl⟩
      obtain ⟨w2, ew2⟩ : ∃ y, y = xs (nI i + 2).toNatClampNeg := ⟨_, rfl⟩
      obtain ⟨w3, ew3⟩ : ∃ y, y = xs (nI i + 3).toNatClampNeg := ⟨_, rfl⟩
      have fin : ∀ (t : St) (H : Heap) (locs : List Loc) (ls : Array Slot), Inv t → va_P D vwCl (yw 0 x0 x1 x2 x3 cA t ++ yw 1 m0 m1 m2 m3 cB t) H → va_D (fun q : Nat => s.heap.size ≤ q) (yw 0 x0 x1 x2 x3 cA t ++ yw 1 m0 m1 m2 m3 cB t) → va_S (fun q : Nat => s.heap.size ≤ q) s.heap H locs → lv_has ls 4 [(0, .ref b), (1, .ref x0), (2, .ref m0), (3, .int (nI i))] → W p l e room_1 s m #[Value.ref b] below meth c H locs 8 242 (lw_Z below #[Value.ref b] s) (F0 m 599 ls []) := by
        intro t H locs ls hIt hP hD hS hl
        refine lv_iinc (v := nI (i + 4)) (lv' := [(3, .int (nI (i + 4))), (0, .ref b), (1, .ref x0), (2, .ref m0)]) hx hb dL_law_599 hl (k := 3) rfl (nI_add i 4) (by decide) rfl (fun ls hl => ?_)
        refine lv_goto (tgt := 18) hx hb dL_law_602 (by decide) ?_
        exact ih (i + 4) (by omega) (by omega) t hIt H locs hP hD hS ls (lv_sub hl [1, 2, 3, 0] rfl)
      refine lv_aload_n hx hb dL_law_26 rfl (lv_at hl 0 rfl) ?_
      refine lv_iload_n hx hb dL_law_27 rfl (lv_at hl 3 rfl) ?_
      refine va_sld hx hb hX hbl hbA hS h_0 dL_law_28 ?_
      refine lv_bipush (v := 15) hx hb dL_law_29 (by decide) ?_
      refine lv_iand hx hb dL_law_31 ?_
      generalize xs (nI i).toNatClampNeg &&& 15 = z
      by_cases k_1 : z = 0
      · refine lv_tableIn (off := 68) (tgt := 100) hx hb dL_law_32 (by rw [k_1]; decide) (by rw [k_1]; decide) (by rw [k_1]; decide) (by decide) ?_
        obtain ⟨r, t, hf0, hf1, hIt⟩ := pu_lay w1 w2 hI
        refine lv_aload_n hx hb dL_law_100 rfl (lv_at hl 1 rfl) ?_
        refine lv_aload_n hx hb dL_law_101 rfl (lv_at hl 0 rfl) ?_
        refine lv_iload_n hx hb dL_law_102 rfl (lv_at hl 3 rfl) ?_
        refine lv_iconst (v := 1) hx hb dL_law_103 (by decide) ?_
        refine lv_iadd hx hb dL_law_104 ?_
        refine va_sld hx hb hX hbl hbA hS h_1 dL_law_105 ?_
        rw [← ew1]
        refine lv_aload_n hx hb dL_law_106 rfl (lv_at hl 0 rfl) ?_
        refine lv_iload_n hx hb dL_law_107 rfl (lv_at hl 3 rfl) ?_
        refine lv_iconst (v := 2) hx hb dL_law_108 (by decide) ?_
        refine lv_iadd hx hb dL_law_109 ?_
        refine va_sld hx hb hX hbl hbA hS h_2 dL_law_110 ?_
        rw [← ew2]
        refine ycallL (n := 2) (r := r) (st2 := t) (rest := []) F hA (c0_lay l D w1 w2) gL_law_X0_lay rfl (by decide +kernel) rfl ⟨Nat.le_of_ble_eq_true rfl, Nat.le_of_ble_eq_true rfl⟩ rfl hl.1 hK0 hP hD hS hf0 rfl (Nat.le_of_ble_eq_true rfl) ⟨Nat.le_of_ble_eq_true rfl, Nat.le_of_ble_eq_true rfl⟩ dL_law_111 (fun H locs hP hD hS => ?_)
        refine lv_aload_n hx hb dL_law_114 rfl (lv_at hl 2 rfl) ?_
        refine lv_aload_n hx hb dL_law_115 rfl (lv_at hl 0 rfl) ?_
        refine lv_iload_n hx hb dL_law_116 rfl (lv_at hl 3 rfl) ?_
        refine lv_iconst (v := 1) hx hb dL_law_117 (by decide) ?_
        refine lv_iadd hx hb dL_law_118 ?_
        refine va_sld hx hb hX hbl hbA hS h_1 dL_law_119 ?_
        rw [← ew1]
        refine lv_aload_n hx hb dL_law_120 rfl (lv_at hl 0 rfl) ?_
        refine lv_iload_n hx hb dL_law_121 rfl (lv_at hl 3 rfl) ?_
        refine lv_iconst (v := 2) hx hb dL_law_122 (by decide) ?_
        refine lv_iadd hx hb dL_law_123 ?_
        refine va_sld hx hb hX hbl hbA hS h_2 dL_law_124 ?_
        rw [← ew2]
        refine ycallL (n := 2) (r := r) (st2 := t) (rest := [.int r]) F hA (c1_lay l D w1 w2) gL_law_X1_lay rfl (by decide +kernel) rfl ⟨Nat.le_of_ble_eq_true rfl, Nat.le_of_ble_eq_true rfl⟩ rfl hl.1 hK1 hP hD hS hf1 rfl (Nat.le_of_ble_eq_true rfl) ⟨Nat.le_of_ble_eq_true rfl, Nat.le_of_ble_eq_true rfl⟩ dL_law_125 (fun H locs hP hD hS => ?_)
        refine lv_icmp_eq (tgt := 599) hx hb dL_law_128 (by decide) (fun _ => ?_) (fun kq => absurd rfl kq)
        exact fin t H locs ls hIt hP hD hS hl
      by_cases k_2 : z = 1
      · refine lv_tableIn (off := 101) (tgt := 133) hx hb dL_law_32 (by rw [k_2]; decide) (by rw [k_2]; decide) (by rw [k_2]; decide) (by decide) ?_
        obtain ⟨r, t, hf0, hf1, hIt⟩ := pu_lift w1 hI
        refine lv_aload_n hx hb dL_law_133 rfl (lv_at hl 1 rfl) ?_
        refine lv_aload_n hx hb dL_law_134 rfl (lv_at hl 0 rfl) ?_
        refine lv_iload_n hx hb dL_law_135 rfl (lv_at hl 3 rfl) ?_
        refine lv_iconst (v := 1) hx hb dL_law_136 (by decide) ?_
        refine lv_iadd hx hb dL_law_137 ?_
        refine va_sld hx hb hX hbl hbA hS h_1 dL_law_138 ?_
        rw [← ew1]
        refine ycallL (n := 1) (r := r) (st2 := t) (rest := []) F hA (c0_lift l D w1) gL_law_X0_lift rfl (by decide +kernel) rfl ⟨Nat.le_of_ble_eq_true rfl, Nat.le_of_ble_eq_true rfl⟩ rfl hl.1 hK0 hP hD hS hf0 rfl (Nat.le_of_ble_eq_true rfl) ⟨Nat.le_of_ble_eq_true rfl, Nat.le_of_ble_eq_true rfl⟩ dL_law_139 (fun H locs hP hD hS => ?_)
        refine lv_aload_n hx hb dL_law_142 rfl (lv_at hl 2 rfl) ?_
        refine lv_aload_n hx hb dL_law_143 rfl (lv_at hl 0 rfl) ?_
        refine lv_iload_n hx hb dL_law_144 rfl (lv_at hl 3 rfl) ?_
        refine lv_iconst (v := 1) hx hb dL_law_145 (by decide) ?_
        refine lv_iadd hx hb dL_law_146 ?_
        refine va_sld hx hb hX hbl hbA hS h_1 dL_law_147 ?_
        rw [← ew1]
        refine ycallL (n := 1) (r := r) (st2 := t) (rest := [.int r]) F hA (c1_lift l D w1) gL_law_X1_lift rfl (by decide +kernel) rfl ⟨Nat.le_of_ble_eq_true rfl, Nat.le_of_ble_eq_true rfl⟩ rfl hl.1 hK1 hP hD hS hf1 rfl (Nat.le_of_ble_eq_true rfl) ⟨Nat.le_of_ble_eq_true rfl, Nat.le_of_ble_eq_true rfl⟩ dL_law_148 (fun H locs hP hD hS => ?_)
        refine lv_icmp_eq (tgt := 599) hx hb dL_law_151 (by decide) (fun _ => ?_) (fun kq => absurd rfl kq)
        exact fin t H locs ls hIt hP hD hS hl
      by_cases k_3 : z = 2
      · refine lv_tableIn (off := 124) (tgt := 156) hx hb dL_law_32 (by rw [k_3]; decide) (by rw [k_3]; decide) (by rw [k_3]; decide) (by decide) ?_
        obtain ⟨r, t, hf0, hf1, hIt⟩ := pu_couple w1 w2 hI
        refine lv_aload_n hx hb dL_law_156 rfl (lv_at hl 1 rfl) ?_
        refine lv_aload_n hx hb dL_law_157 rfl (lv_at hl 0 rfl) ?_
        refine lv_iload_n hx hb dL_law_158 rfl (lv_at hl 3 rfl) ?_
        refine lv_iconst (v := 1) hx hb dL_law_159 (by decide) ?_
        refine lv_iadd hx hb dL_law_160 ?_
        refine va_sld hx hb hX hbl hbA hS h_1 dL_law_161 ?_
        rw [← ew1]
        refine lv_aload_n hx hb dL_law_162 rfl (lv_at hl 0 rfl) ?_
        refine lv_iload_n hx hb dL_law_163 rfl (lv_at hl 3 rfl) ?_
        refine lv_iconst (v := 2) hx hb dL_law_164 (by decide) ?_
        refine lv_iadd hx hb dL_law_165 ?_
        refine va_sld hx hb hX hbl hbA hS h_2 dL_law_166 ?_
        rw [← ew2]
        refine ycallL (n := 2) (r := r) (st2 := t) (rest := []) F hA (c0_couple l D w1 w2) gL_law_X0_couple rfl (by decide +kernel) rfl ⟨Nat.le_of_ble_eq_true rfl, Nat.le_of_ble_eq_true rfl⟩ rfl hl.1 hK0 hP hD hS hf0 rfl (Nat.le_of_ble_eq_true rfl) ⟨Nat.le_of_ble_eq_true rfl, Nat.le_of_ble_eq_true rfl⟩ dL_law_167 (fun H locs hP hD hS => ?_)
        refine lv_aload_n hx hb dL_law_170 rfl (lv_at hl 2 rfl) ?_
        refine lv_aload_n hx hb dL_law_171 rfl (lv_at hl 0 rfl) ?_
        refine lv_iload_n hx hb dL_law_172 rfl (lv_at hl 3 rfl) ?_
        refine lv_iconst (v := 1) hx hb dL_law_173 (by decide) ?_
        refine lv_iadd hx hb dL_law_174 ?_
        refine va_sld hx hb hX hbl hbA hS h_1 dL_law_175 ?_
        rw [← ew1]
        refine lv_aload_n hx hb dL_law_176 rfl (lv_at hl 0 rfl) ?_
        refine lv_iload_n hx hb dL_law_177 rfl (lv_at hl 3 rfl) ?_
        refine lv_iconst (v := 2) hx hb dL_law_178 (by decide) ?_
        refine lv_iadd hx hb dL_law_179 ?_
        refine va_sld hx hb hX hbl hbA hS h_2 dL_law_180 ?_
        rw [← ew2]
        refine ycallL (n := 2) (r := r) (st2 := t) (rest := [.int r]) F hA (c1_couple l D w1 w2) gL_law_X1_couple rfl (by decide +kernel) rfl ⟨Nat.le_of_ble_eq_true rfl, Nat.le_of_ble_eq_true rfl⟩ rfl hl.1 hK1 hP hD hS hf1 rfl (Nat.le_of_ble_eq_true rfl) ⟨Nat.le_of_ble_eq_true rfl, Nat.le_of_ble_eq_true rfl⟩ dL_law_181 (fun H locs hP hD hS => ?_)
        refine lv_icmp_eq (tgt := 599) hx hb dL_law_184 (by decide) (fun _ => ?_) (fun kq => absurd rfl kq)
        exact fin t H locs ls hIt hP hD hS hl
      by_cases k_4 : z = 3
      · refine lv_tableIn (off := 157) (tgt := 189) hx hb dL_law_32 (by rw [k_4]; decide) (by rw [k_4]; decide) (by rw [k_4]; decide) (by decide) ?_
        obtain ⟨r, t, hf0, hf1, hIt⟩ := pu_uncouple w1 hI
        refine lv_aload_n hx hb dL_law_189 rfl (lv_at hl 1 rfl) ?_
        refine lv_aload_n hx hb dL_law_190 rfl (lv_at hl 0 rfl) ?_
        refine lv_iload_n hx hb dL_law_191 rfl (lv_at hl 3 rfl) ?_
        refine lv_iconst (v := 1) hx hb dL_law_192 (by decide) ?_
        refine lv_iadd hx hb dL_law_193 ?_
        refine va_sld hx hb hX hbl hbA hS h_1 dL_law_194 ?_
        rw [← ew1]
        refine ycallL (n := 1) (r := r) (st2 := t) (rest := []) F hA (c0_uncouple l D w1) gL_law_X0_uncouple rfl (by decide +kernel) rfl ⟨Nat.le_of_ble_eq_true rfl, Nat.le_of_ble_eq_true rfl⟩ rfl hl.1 hK0 hP hD hS hf0 rfl (Nat.le_of_ble_eq_true rfl) ⟨Nat.le_of_ble_eq_true rfl, Nat.le_of_ble_eq_true rfl⟩ dL_law_195 (fun H locs hP hD hS => ?_)
        refine lv_aload_n hx hb dL_law_198 rfl (lv_at hl 2 rfl) ?_
        refine lv_aload_n hx hb dL_law_199 rfl (lv_at hl 0 rfl) ?_
        refine lv_iload_n hx hb dL_law_200 rfl (lv_at hl 3 rfl) ?_
        refine lv_iconst (v := 1) hx hb dL_law_201 (by decide) ?_
        refine lv_iadd hx hb dL_law_202 ?_
        refine va_sld hx hb hX hbl hbA hS h_1 dL_law_203 ?_
        rw [← ew1]
        refine ycallL (n := 1) (r := r) (st2 := t) (rest := [.int r]) F hA (c1_uncouple l D w1) gL_law_X1_uncouple rfl (by decide +kernel) rfl ⟨Nat.le_of_ble_eq_true rfl, Nat.le_of_ble_eq_true rfl⟩ rfl hl.1 hK1 hP hD hS hf1 rfl (Nat.le_of_ble_eq_true rfl) ⟨Nat.le_of_ble_eq_true rfl, Nat.le_of_ble_eq_true rfl⟩ dL_law_204 (fun H locs hP hD hS => ?_)
        refine lv_icmp_eq (tgt := 599) hx hb dL_law_207 (by decide) (fun _ => ?_) (fun kq => absurd rfl kq)
        exact fin t H locs ls hIt hP hD hS hl
      by_cases k_5 : z = 4
      · refine lv_tableIn (off := 180) (tgt := 212) hx hb dL_law_32 (by rw [k_5]; decide) (by rw [k_5]; decide) (by rw [k_5]; decide) (by decide) ?_
        obtain ⟨r, t, hf0, hf1, hIt⟩ := pu_shunt w1 w2 w3 hI
        refine lv_aload_n hx hb dL_law_212 rfl (lv_at hl 1 rfl) ?_
        refine lv_aload_n hx hb dL_law_213 rfl (lv_at hl 0 rfl) ?_
        refine lv_iload_n hx hb dL_law_214 rfl (lv_at hl 3 rfl) ?_
        refine lv_iconst (v := 1) hx hb dL_law_215 (by decide) ?_
        refine lv_iadd hx hb dL_law_216 ?_
        refine va_sld hx hb hX hbl hbA hS h_1 dL_law_217 ?_
        rw [← ew1]
        refine lv_aload_n hx hb dL_law_218 rfl (lv_at hl 0 rfl) ?_
        refine lv_iload_n hx hb dL_law_219 rfl (lv_at hl 3 rfl) ?_
        refine lv_iconst (v := 2) hx hb dL_law_220 (by decide) ?_
        refine lv_iadd hx hb dL_law_221 ?_
        refine va_sld hx hb hX hbl hbA hS h_2 dL_law_222 ?_
        rw [← ew2]
        refine lv_aload_n hx hb dL_law_223 rfl (lv_at hl 0 rfl) ?_
        refine lv_iload_n hx hb dL_law_224 rfl (lv_at hl 3 rfl) ?_
        refine lv_iconst (v := 3) hx hb dL_law_225 (by decide) ?_
        refine lv_iadd hx hb dL_law_226 ?_
        refine va_sld hx hb hX hbl hbA hS h_3 dL_law_227 ?_
        rw [← ew3]
        refine ycallL (n := 3) (r := r) (st2 := t) (rest := []) F hA (c0_shunt l D w1 w2 w3) gL_law_X0_shunt rfl (by decide +kernel) rfl ⟨Nat.le_of_ble_eq_true rfl, Nat.le_of_ble_eq_true rfl⟩ rfl hl.1 hK0 hP hD hS hf0 rfl (Nat.le_of_ble_eq_true rfl) ⟨Nat.le_of_ble_eq_true rfl, Nat.le_of_ble_eq_true rfl⟩ dL_law_228 (fun H locs hP hD hS => ?_)
        refine lv_aload_n hx hb dL_law_231 rfl (lv_at hl 2 rfl) ?_
        refine lv_aload_n hx hb dL_law_232 rfl (lv_at hl 0 rfl) ?_
        refine lv_iload_n hx hb dL_law_233 rfl (lv_at hl 3 rfl) ?_
        refine lv_iconst (v := 1) hx hb dL_law_234 (by decide) ?_
        refine lv_iadd hx hb dL_law_235 ?_
        refine va_sld hx hb hX hbl hbA hS h_1 dL_law_236 ?_
        rw [← ew1]
        refine lv_aload_n hx hb dL_law_237 rfl (lv_at hl 0 rfl) ?_
        refine lv_iload_n hx hb dL_law_238 rfl (lv_at hl 3 rfl) ?_
        refine lv_iconst (v := 2) hx hb dL_law_239 (by decide) ?_
        refine lv_iadd hx hb dL_law_240 ?_
        refine va_sld hx hb hX hbl hbA hS h_2 dL_law_241 ?_
        rw [← ew2]
        refine lv_aload_n hx hb dL_law_242 rfl (lv_at hl 0 rfl) ?_
        refine lv_iload_n hx hb dL_law_243 rfl (lv_at hl 3 rfl) ?_
        refine lv_iconst (v := 3) hx hb dL_law_244 (by decide) ?_
        refine lv_iadd hx hb dL_law_245 ?_
        refine va_sld hx hb hX hbl hbA hS h_3 dL_law_246 ?_
        rw [← ew3]
        refine ycallL (n := 3) (r := r) (st2 := t) (rest := [.int r]) F hA (c1_shunt l D w1 w2 w3) gL_law_X1_shunt rfl (by decide +kernel) rfl ⟨Nat.le_of_ble_eq_true rfl, Nat.le_of_ble_eq_true rfl⟩ rfl hl.1 hK1 hP hD hS hf1 rfl (Nat.le_of_ble_eq_true rfl) ⟨Nat.le_of_ble_eq_true rfl, Nat.le_of_ble_eq_true rfl⟩ dL_law_247 (fun H locs hP hD hS => ?_)
        refine lv_icmp_eq (tgt := 599) hx hb dL_law_250 (by decide) (fun _ => ?_) (fun kq => absurd rfl kq)
        exact fin t H locs ls hIt hP hD hS hl
      by_cases k_6 : z = 5
      · refine lv_tableIn (off := 223) (tgt := 255) hx hb dL_law_32 (by rw [k_6]; decide) (by rw [k_6]; decide) (by rw [k_6]; decide) (by decide) ?_
        obtain ⟨r, t, hf0, hf1, hIt⟩ := pu_sweep w1 w2 w3 hI
        refine lv_aload_n hx hb dL_law_255 rfl (lv_at hl 1 rfl) ?_
        refine lv_aload_n hx hb dL_law_256 rfl (lv_at hl 0 rfl) ?_
        refine lv_iload_n hx hb dL_law_257 rfl (lv_at hl 3 rfl) ?_
        refine lv_iconst (v := 1) hx hb dL_law_258 (by decide) ?_
        refine lv_iadd hx hb dL_law_259 ?_
        refine va_sld hx hb hX hbl hbA hS h_1 dL_law_260 ?_
        rw [← ew1]
        refine lv_aload_n hx hb dL_law_261 rfl (lv_at hl 0 rfl) ?_
        refine lv_iload_n hx hb dL_law_262 rfl (lv_at hl 3 rfl) ?_
        refine lv_iconst (v := 2) hx hb dL_law_263 (by decide) ?_
        refine lv_iadd hx hb dL_law_264 ?_
        refine va_sld hx hb hX hbl hbA hS h_2 dL_law_265 ?_
        rw [← ew2]
        refine lv_aload_n hx hb dL_law_266 rfl (lv_at hl 0 rfl) ?_
        refine lv_iload_n hx hb dL_law_267 rfl (lv_at hl 3 rfl) ?_
        refine lv_iconst (v := 3) hx hb dL_law_268 (by decide) ?_
        refine lv_iadd hx hb dL_law_269 ?_
        refine va_sld hx hb hX hbl hbA hS h_3 dL_law_270 ?_
        rw [← ew3]
        refine ycallL (n := 3) (r := r) (st2 := t) (rest := []) F hA (c0_sweep l D w1 w2 w3) gL_law_X0_sweep rfl (by decide +kernel) rfl ⟨Nat.le_of_ble_eq_true rfl, Nat.le_of_ble_eq_true rfl⟩ rfl hl.1 hK0 hP hD hS hf0 rfl (Nat.le_of_ble_eq_true rfl) ⟨Nat.le_of_ble_eq_true rfl, Nat.le_of_ble_eq_true rfl⟩ dL_law_271 (fun H locs hP hD hS => ?_)
        refine lv_aload_n hx hb dL_law_274 rfl (lv_at hl 2 rfl) ?_
        refine lv_aload_n hx hb dL_law_275 rfl (lv_at hl 0 rfl) ?_
        refine lv_iload_n hx hb dL_law_276 rfl (lv_at hl 3 rfl) ?_
        refine lv_iconst (v := 1) hx hb dL_law_277 (by decide) ?_
        refine lv_iadd hx hb dL_law_278 ?_
        refine va_sld hx hb hX hbl hbA hS h_1 dL_law_279 ?_
        rw [← ew1]
        refine lv_aload_n hx hb dL_law_280 rfl (lv_at hl 0 rfl) ?_
        refine lv_iload_n hx hb dL_law_281 rfl (lv_at hl 3 rfl) ?_
        refine lv_iconst (v := 2) hx hb dL_law_282 (by decide) ?_
        refine lv_iadd hx hb dL_law_283 ?_
        refine va_sld hx hb hX hbl hbA hS h_2 dL_law_284 ?_
        rw [← ew2]
        refine lv_aload_n hx hb dL_law_285 rfl (lv_at hl 0 rfl) ?_
        refine lv_iload_n hx hb dL_law_286 rfl (lv_at hl 3 rfl) ?_
        refine lv_iconst (v := 3) hx hb dL_law_287 (by decide) ?_
        refine lv_iadd hx hb dL_law_288 ?_
        refine va_sld hx hb hX hbl hbA hS h_3 dL_law_289 ?_
        rw [← ew3]
        refine ycallL (n := 3) (r := r) (st2 := t) (rest := [.int r]) F hA (c1_sweep l D w1 w2 w3) gL_law_X1_sweep rfl (by decide +kernel) rfl ⟨Nat.le_of_ble_eq_true rfl, Nat.le_of_ble_eq_true rfl⟩ rfl hl.1 hK1 hP hD hS hf1 rfl (Nat.le_of_ble_eq_true rfl) ⟨Nat.le_of_ble_eq_true rfl, Nat.le_of_ble_eq_true rfl⟩ dL_law_290 (fun H locs hP hD hS => ?_)
        refine lv_icmp_eq (tgt := 599) hx hb dL_law_293 (by decide) (fun _ => ?_) (fun kq => absurd rfl kq)
        exact fin t H locs ls hIt hP hD hS hl
      by_cases k_7 : z = 6
      · refine lv_tableIn (off := 266) (tgt := 298) hx hb dL_law_32 (by rw [k_7]; decide) (by rw [k_7]; decide) (by rw [k_7]; decide) (by decide) ?_
        obtain ⟨r, t, hf0, hf1, hIt⟩ := pu_tour (((w1.toInt64 <<< ((32 : Int32).toInt64 &&& 63)) ||| (w2.toInt64 &&& 4294967295))) w3 hI
        refine lv_aload_n hx hb dL_law_298 rfl (lv_at hl 1 rfl) ?_
        refine lv_aload_n hx hb dL_law_299 rfl (lv_at hl 0 rfl) ?_
        refine lv_iload_n hx hb dL_law_300 rfl (lv_at hl 3 rfl) ?_
        refine lv_iconst (v := 1) hx hb dL_law_301 (by decide) ?_
        refine lv_iadd hx hb dL_law_302 ?_
        refine va_sld hx hb hX hbl hbA hS h_1 dL_law_303 ?_
        rw [← ew1]
        refine lv_i2l hx hb dL_law_304 rfl ?_
        refine lv_bipush (v := 32) hx hb dL_law_305 (by decide) ?_
        refine lv_lshl hx hb dL_law_307 rfl ?_
        refine lv_aload_n hx hb dL_law_308 rfl (lv_at hl 0 rfl) ?_
        refine lv_iload_n hx hb dL_law_309 rfl (lv_at hl 3 rfl) ?_
        refine lv_iconst (v := 2) hx hb dL_law_310 (by decide) ?_
        refine lv_iadd hx hb dL_law_311 ?_
        refine va_sld hx hb hX hbl hbA hS h_2 dL_law_312 ?_
        rw [← ew2]
        refine lv_i2l hx hb dL_law_313 rfl ?_
        refine lv_ldc2 hx hb hown (hts (.constantLong RL 40 4294967295) (by decide +kernel)) dL_law_314 ?_
        refine lv_land hx hb dL_law_317 ?_
        refine lv_lor hx hb dL_law_318 ?_
        refine lv_aload_n hx hb dL_law_319 rfl (lv_at hl 0 rfl) ?_
        refine lv_iload_n hx hb dL_law_320 rfl (lv_at hl 3 rfl) ?_
        refine lv_iconst (v := 3) hx hb dL_law_321 (by decide) ?_
        refine lv_iadd hx hb dL_law_322 ?_
        refine va_sld hx hb hX hbl hbA hS h_3 dL_law_323 ?_
        rw [← ew3]
        refine ycallL (n := 2) (r := r) (st2 := t) (rest := []) F hA (c0_tour l D (((w1.toInt64 <<< ((32 : Int32).toInt64 &&& 63)) ||| (w2.toInt64 &&& 4294967295))) w3) gL_law_X0_tour rfl (by decide +kernel) rfl ⟨Nat.le_of_ble_eq_true rfl, Nat.le_of_ble_eq_true rfl⟩ rfl hl.1 hK0 hP hD hS hf0 rfl (Nat.le_of_ble_eq_true rfl) ⟨Nat.le_of_ble_eq_true rfl, Nat.le_of_ble_eq_true rfl⟩ dL_law_324 (fun H locs hP hD hS => ?_)
        refine lv_aload_n hx hb dL_law_327 rfl (lv_at hl 2 rfl) ?_
        refine lv_aload_n hx hb dL_law_328 rfl (lv_at hl 0 rfl) ?_
        refine lv_iload_n hx hb dL_law_329 rfl (lv_at hl 3 rfl) ?_
        refine lv_iconst (v := 1) hx hb dL_law_330 (by decide) ?_
        refine lv_iadd hx hb dL_law_331 ?_
        refine va_sld hx hb hX hbl hbA hS h_1 dL_law_332 ?_
        rw [← ew1]
        refine lv_i2l hx hb dL_law_333 rfl ?_
        refine lv_bipush (v := 32) hx hb dL_law_334 (by decide) ?_
        refine lv_lshl hx hb dL_law_336 rfl ?_
        refine lv_aload_n hx hb dL_law_337 rfl (lv_at hl 0 rfl) ?_
        refine lv_iload_n hx hb dL_law_338 rfl (lv_at hl 3 rfl) ?_
        refine lv_iconst (v := 2) hx hb dL_law_339 (by decide) ?_
        refine lv_iadd hx hb dL_law_340 ?_
        refine va_sld hx hb hX hbl hbA hS h_2 dL_law_341 ?_
        rw [← ew2]
        refine lv_i2l hx hb dL_law_342 rfl ?_
        refine lv_ldc2 hx hb hown (hts (.constantLong RL 40 4294967295) (by decide +kernel)) dL_law_343 ?_
        refine lv_land hx hb dL_law_346 ?_
        refine lv_lor hx hb dL_law_347 ?_
        refine lv_aload_n hx hb dL_law_348 rfl (lv_at hl 0 rfl) ?_
        refine lv_iload_n hx hb dL_law_349 rfl (lv_at hl 3 rfl) ?_
        refine lv_iconst (v := 3) hx hb dL_law_350 (by decide) ?_
        refine lv_iadd hx hb dL_law_351 ?_
        refine va_sld hx hb hX hbl hbA hS h_3 dL_law_352 ?_
        rw [← ew3]
        refine ycallL (n := 2) (r := r) (st2 := t) (rest := [.int r]) F hA (c1_tour l D (((w1.toInt64 <<< ((32 : Int32).toInt64 &&& 63)) ||| (w2.toInt64 &&& 4294967295))) w3) gL_law_X1_tour rfl (by decide +kernel) rfl ⟨Nat.le_of_ble_eq_true rfl, Nat.le_of_ble_eq_true rfl⟩ rfl hl.1 hK1 hP hD hS hf1 rfl (Nat.le_of_ble_eq_true rfl) ⟨Nat.le_of_ble_eq_true rfl, Nat.le_of_ble_eq_true rfl⟩ dL_law_353 (fun H locs hP hD hS => ?_)
        refine lv_icmp_eq (tgt := 599) hx hb dL_law_356 (by decide) (fun _ => ?_) (fun kq => absurd rfl kq)
        exact fin t H locs ls hIt hP hD hS hl
      by_cases k_8 : z = 7
      · refine lv_tableIn (off := 329) (tgt := 361) hx hb dL_law_32 (by rw [k_8]; decide) (by rw [k_8]; decide) (by rw [k_8]; decide) (by decide) ?_
        obtain ⟨r, t, hf0, hf1, hIt⟩ := pu_chain (((w1.toInt64 <<< ((32 : Int32).toInt64 &&& 63)) ||| (w2.toInt64 &&& 4294967295))) w3 hI
        refine lv_aload_n hx hb dL_law_361 rfl (lv_at hl 1 rfl) ?_
        refine lv_aload_n hx hb dL_law_362 rfl (lv_at hl 0 rfl) ?_
        refine lv_iload_n hx hb dL_law_363 rfl (lv_at hl 3 rfl) ?_
        refine lv_iconst (v := 1) hx hb dL_law_364 (by decide) ?_
        refine lv_iadd hx hb dL_law_365 ?_
        refine va_sld hx hb hX hbl hbA hS h_1 dL_law_366 ?_
        rw [← ew1]
        refine lv_i2l hx hb dL_law_367 rfl ?_
        refine lv_bipush (v := 32) hx hb dL_law_368 (by decide) ?_
        refine lv_lshl hx hb dL_law_370 rfl ?_
        refine lv_aload_n hx hb dL_law_371 rfl (lv_at hl 0 rfl) ?_
        refine lv_iload_n hx hb dL_law_372 rfl (lv_at hl 3 rfl) ?_
        refine lv_iconst (v := 2) hx hb dL_law_373 (by decide) ?_
        refine lv_iadd hx hb dL_law_374 ?_
        refine va_sld hx hb hX hbl hbA hS h_2 dL_law_375 ?_
        rw [← ew2]
        refine lv_i2l hx hb dL_law_376 rfl ?_
        refine lv_ldc2 hx hb hown (hts (.constantLong RL 40 4294967295) (by decide +kernel)) dL_law_377 ?_
        refine lv_land hx hb dL_law_380 ?_
        refine lv_lor hx hb dL_law_381 ?_
        refine lv_aload_n hx hb dL_law_382 rfl (lv_at hl 0 rfl) ?_
        refine lv_iload_n hx hb dL_law_383 rfl (lv_at hl 3 rfl) ?_
        refine lv_iconst (v := 3) hx hb dL_law_384 (by decide) ?_
        refine lv_iadd hx hb dL_law_385 ?_
        refine va_sld hx hb hX hbl hbA hS h_3 dL_law_386 ?_
        rw [← ew3]
        refine ycallL (n := 2) (r := r) (st2 := t) (rest := []) F hA (c0_chain l D (((w1.toInt64 <<< ((32 : Int32).toInt64 &&& 63)) ||| (w2.toInt64 &&& 4294967295))) w3) gL_law_X0_chain rfl (by decide +kernel) rfl ⟨Nat.le_of_ble_eq_true rfl, Nat.le_of_ble_eq_true rfl⟩ rfl hl.1 hK0 hP hD hS hf0 rfl (Nat.le_of_ble_eq_true rfl) ⟨Nat.le_of_ble_eq_true rfl, Nat.le_of_ble_eq_true rfl⟩ dL_law_387 (fun H locs hP hD hS => ?_)
        refine lv_aload_n hx hb dL_law_390 rfl (lv_at hl 2 rfl) ?_
        refine lv_aload_n hx hb dL_law_391 rfl (lv_at hl 0 rfl) ?_
        refine lv_iload_n hx hb dL_law_392 rfl (lv_at hl 3 rfl) ?_
        refine lv_iconst (v := 1) hx hb dL_law_393 (by decide) ?_
        refine lv_iadd hx hb dL_law_394 ?_
        refine va_sld hx hb hX hbl hbA hS h_1 dL_law_395 ?_
        rw [← ew1]
        refine lv_i2l hx hb dL_law_396 rfl ?_
        refine lv_bipush (v := 32) hx hb dL_law_397 (by decide) ?_
        refine lv_lshl hx hb dL_law_399 rfl ?_
        refine lv_aload_n hx hb dL_law_400 rfl (lv_at hl 0 rfl) ?_
        refine lv_iload_n hx hb dL_law_401 rfl (lv_at hl 3 rfl) ?_
        refine lv_iconst (v := 2) hx hb dL_law_402 (by decide) ?_
        refine lv_iadd hx hb dL_law_403 ?_
        refine va_sld hx hb hX hbl hbA hS h_2 dL_law_404 ?_
        rw [← ew2]
        refine lv_i2l hx hb dL_law_405 rfl ?_
        refine lv_ldc2 hx hb hown (hts (.constantLong RL 40 4294967295) (by decide +kernel)) dL_law_406 ?_
        refine lv_land hx hb dL_law_409 ?_
        refine lv_lor hx hb dL_law_410 ?_
        refine lv_aload_n hx hb dL_law_411 rfl (lv_at hl 0 rfl) ?_
        refine lv_iload_n hx hb dL_law_412 rfl (lv_at hl 3 rfl) ?_
        refine lv_iconst (v := 3) hx hb dL_law_413 (by decide) ?_
        refine lv_iadd hx hb dL_law_414 ?_
        refine va_sld hx hb hX hbl hbA hS h_3 dL_law_415 ?_
        rw [← ew3]
        refine ycallL (n := 2) (r := r) (st2 := t) (rest := [.int r]) F hA (c1_chain l D (((w1.toInt64 <<< ((32 : Int32).toInt64 &&& 63)) ||| (w2.toInt64 &&& 4294967295))) w3) gL_law_X1_chain rfl (by decide +kernel) rfl ⟨Nat.le_of_ble_eq_true rfl, Nat.le_of_ble_eq_true rfl⟩ rfl hl.1 hK1 hP hD hS hf1 rfl (Nat.le_of_ble_eq_true rfl) ⟨Nat.le_of_ble_eq_true rfl, Nat.le_of_ble_eq_true rfl⟩ dL_law_416 (fun H locs hP hD hS => ?_)
        refine lv_icmp_eq (tgt := 599) hx hb dL_law_419 (by decide) (fun _ => ?_) (fun kq => absurd rfl kq)
        exact fin t H locs ls hIt hP hD hS hl
      by_cases k_9 : z = 8
      · refine lv_tableIn (off := 392) (tgt := 424) hx hb dL_law_32 (by rw [k_9]; decide) (by rw [k_9]; decide) (by rw [k_9]; decide) (by decide) ?_
        obtain ⟨r, t, hf0, hf1, hIt⟩ := pu_survey (((w1.toInt64 <<< ((32 : Int32).toInt64 &&& 63)) ||| (w2.toInt64 &&& 4294967295))) w3 hI
        refine lv_aload_n hx hb dL_law_424 rfl (lv_at hl 1 rfl) ?_
        refine lv_aload_n hx hb dL_law_425 rfl (lv_at hl 0 rfl) ?_
        refine lv_iload_n hx hb dL_law_426 rfl (lv_at hl 3 rfl) ?_
        refine lv_iconst (v := 1) hx hb dL_law_427 (by decide) ?_
        refine lv_iadd hx hb dL_law_428 ?_
        refine va_sld hx hb hX hbl hbA hS h_1 dL_law_429 ?_
        rw [← ew1]
        refine lv_i2l hx hb dL_law_430 rfl ?_
        refine lv_bipush (v := 32) hx hb dL_law_431 (by decide) ?_
        refine lv_lshl hx hb dL_law_433 rfl ?_
        refine lv_aload_n hx hb dL_law_434 rfl (lv_at hl 0 rfl) ?_
        refine lv_iload_n hx hb dL_law_435 rfl (lv_at hl 3 rfl) ?_
        refine lv_iconst (v := 2) hx hb dL_law_436 (by decide) ?_
        refine lv_iadd hx hb dL_law_437 ?_
        refine va_sld hx hb hX hbl hbA hS h_2 dL_law_438 ?_
        rw [← ew2]
        refine lv_i2l hx hb dL_law_439 rfl ?_
        refine lv_ldc2 hx hb hown (hts (.constantLong RL 40 4294967295) (by decide +kernel)) dL_law_440 ?_
        refine lv_land hx hb dL_law_443 ?_
        refine lv_lor hx hb dL_law_444 ?_
        refine lv_aload_n hx hb dL_law_445 rfl (lv_at hl 0 rfl) ?_
        refine lv_iload_n hx hb dL_law_446 rfl (lv_at hl 3 rfl) ?_
        refine lv_iconst (v := 3) hx hb dL_law_447 (by decide) ?_
        refine lv_iadd hx hb dL_law_448 ?_
        refine va_sld hx hb hX hbl hbA hS h_3 dL_law_449 ?_
        rw [← ew3]
        refine ycallL (n := 2) (r := r) (st2 := t) (rest := []) F hA (c0_survey l D (((w1.toInt64 <<< ((32 : Int32).toInt64 &&& 63)) ||| (w2.toInt64 &&& 4294967295))) w3) gL_law_X0_survey rfl (by decide +kernel) rfl ⟨Nat.le_of_ble_eq_true rfl, Nat.le_of_ble_eq_true rfl⟩ rfl hl.1 hK0 hP hD hS hf0 rfl (Nat.le_of_ble_eq_true rfl) ⟨Nat.le_of_ble_eq_true rfl, Nat.le_of_ble_eq_true rfl⟩ dL_law_450 (fun H locs hP hD hS => ?_)
        refine lv_aload_n hx hb dL_law_453 rfl (lv_at hl 2 rfl) ?_
        refine lv_aload_n hx hb dL_law_454 rfl (lv_at hl 0 rfl) ?_
        refine lv_iload_n hx hb dL_law_455 rfl (lv_at hl 3 rfl) ?_
        refine lv_iconst (v := 1) hx hb dL_law_456 (by decide) ?_
        refine lv_iadd hx hb dL_law_457 ?_
        refine va_sld hx hb hX hbl hbA hS h_1 dL_law_458 ?_
        rw [← ew1]
        refine lv_i2l hx hb dL_law_459 rfl ?_
        refine lv_bipush (v := 32) hx hb dL_law_460 (by decide) ?_
        refine lv_lshl hx hb dL_law_462 rfl ?_
        refine lv_aload_n hx hb dL_law_463 rfl (lv_at hl 0 rfl) ?_
        refine lv_iload_n hx hb dL_law_464 rfl (lv_at hl 3 rfl) ?_
        refine lv_iconst (v := 2) hx hb dL_law_465 (by decide) ?_
        refine lv_iadd hx hb dL_law_466 ?_
        refine va_sld hx hb hX hbl hbA hS h_2 dL_law_467 ?_
        rw [← ew2]
        refine lv_i2l hx hb dL_law_468 rfl ?_
        refine lv_ldc2 hx hb hown (hts (.constantLong RL 40 4294967295) (by decide +kernel)) dL_law_469 ?_
        refine lv_land hx hb dL_law_472 ?_
        refine lv_lor hx hb dL_law_473 ?_
        refine lv_aload_n hx hb dL_law_474 rfl (lv_at hl 0 rfl) ?_
        refine lv_iload_n hx hb dL_law_475 rfl (lv_at hl 3 rfl) ?_
        refine lv_iconst (v := 3) hx hb dL_law_476 (by decide) ?_
        refine lv_iadd hx hb dL_law_477 ?_
        refine va_sld hx hb hX hbl hbA hS h_3 dL_law_478 ?_
        rw [← ew3]
        refine ycallL (n := 2) (r := r) (st2 := t) (rest := [.int r]) F hA (c1_survey l D (((w1.toInt64 <<< ((32 : Int32).toInt64 &&& 63)) ||| (w2.toInt64 &&& 4294967295))) w3) gL_law_X1_survey rfl (by decide +kernel) rfl ⟨Nat.le_of_ble_eq_true rfl, Nat.le_of_ble_eq_true rfl⟩ rfl hl.1 hK1 hP hD hS hf1 rfl (Nat.le_of_ble_eq_true rfl) ⟨Nat.le_of_ble_eq_true rfl, Nat.le_of_ble_eq_true rfl⟩ dL_law_479 (fun H locs hP hD hS => ?_)
        refine lv_icmp_eq (tgt := 599) hx hb dL_law_482 (by decide) (fun _ => ?_) (fun kq => absurd rfl kq)
        exact fin t H locs ls hIt hP hD hS hl
      by_cases k_10 : z = 9
      · refine lv_tableIn (off := 455) (tgt := 487) hx hb dL_law_32 (by rw [k_10]; decide) (by rw [k_10]; decide) (by rw [k_10]; decide) (by decide) ?_
        obtain ⟨r, t, hf0, hf1, hIt⟩ := pu_turn w1 hI
        refine lv_aload_n hx hb dL_law_487 rfl (lv_at hl 1 rfl) ?_
        refine lv_aload_n hx hb dL_law_488 rfl (lv_at hl 0 rfl) ?_
        refine lv_iload_n hx hb dL_law_489 rfl (lv_at hl 3 rfl) ?_
        refine lv_iconst (v := 1) hx hb dL_law_490 (by decide) ?_
        refine lv_iadd hx hb dL_law_491 ?_
        refine va_sld hx hb hX hbl hbA hS h_1 dL_law_492 ?_
        rw [← ew1]
        refine ycallL (n := 1) (r := r) (st2 := t) (rest := []) F hA (c0_turn l D w1) gL_law_X0_turn rfl (by decide +kernel) rfl ⟨Nat.le_of_ble_eq_true rfl, Nat.le_of_ble_eq_true rfl⟩ rfl hl.1 hK0 hP hD hS hf0 rfl (Nat.le_of_ble_eq_true rfl) ⟨Nat.le_of_ble_eq_true rfl, Nat.le_of_ble_eq_true rfl⟩ dL_law_493 (fun H locs hP hD hS => ?_)
        refine lv_aload_n hx hb dL_law_496 rfl (lv_at hl 2 rfl) ?_
        refine lv_aload_n hx hb dL_law_497 rfl (lv_at hl 0 rfl) ?_
        refine lv_iload_n hx hb dL_law_498 rfl (lv_at hl 3 rfl) ?_
        refine lv_iconst (v := 1) hx hb dL_law_499 (by decide) ?_
        refine lv_iadd hx hb dL_law_500 ?_
        refine va_sld hx hb hX hbl hbA hS h_1 dL_law_501 ?_
        rw [← ew1]
        refine ycallL (n := 1) (r := r) (st2 := t) (rest := [.int r]) F hA (c1_turn l D w1) gL_law_X1_turn rfl (by decide +kernel) rfl ⟨Nat.le_of_ble_eq_true rfl, Nat.le_of_ble_eq_true rfl⟩ rfl hl.1 hK1 hP hD hS hf1 rfl (Nat.le_of_ble_eq_true rfl) ⟨Nat.le_of_ble_eq_true rfl, Nat.le_of_ble_eq_true rfl⟩ dL_law_502 (fun H locs hP hD hS => ?_)
        refine lv_icmp_eq (tgt := 599) hx hb dL_law_505 (by decide) (fun _ => ?_) (fun kq => absurd rfl kq)
        exact fin t H locs ls hIt hP hD hS hl
      by_cases k_11 : z = 10
      · refine lv_tableIn (off := 478) (tgt := 510) hx hb dL_law_32 (by rw [k_11]; decide) (by rw [k_11]; decide) (by rw [k_11]; decide) (by decide) ?_
        obtain ⟨r, t, hf0, hf1, hIt⟩ := pu_swap w1 w2 hI
        refine lv_aload_n hx hb dL_law_510 rfl (lv_at hl 1 rfl) ?_
        refine lv_aload_n hx hb dL_law_511 rfl (lv_at hl 0 rfl) ?_
        refine lv_iload_n hx hb dL_law_512 rfl (lv_at hl 3 rfl) ?_
        refine lv_iconst (v := 1) hx hb dL_law_513 (by decide) ?_
        refine lv_iadd hx hb dL_law_514 ?_
        refine va_sld hx hb hX hbl hbA hS h_1 dL_law_515 ?_
        rw [← ew1]
        refine lv_aload_n hx hb dL_law_516 rfl (lv_at hl 0 rfl) ?_
        refine lv_iload_n hx hb dL_law_517 rfl (lv_at hl 3 rfl) ?_
        refine lv_iconst (v := 2) hx hb dL_law_518 (by decide) ?_
        refine lv_iadd hx hb dL_law_519 ?_
        refine va_sld hx hb hX hbl hbA hS h_2 dL_law_520 ?_
        rw [← ew2]
        refine ycallL (n := 2) (r := r) (st2 := t) (rest := []) F hA (c0_swap l D w1 w2) gL_law_X0_swap rfl (by decide +kernel) rfl ⟨Nat.le_of_ble_eq_true rfl, Nat.le_of_ble_eq_true rfl⟩ rfl hl.1 hK0 hP hD hS hf0 rfl (Nat.le_of_ble_eq_true rfl) ⟨Nat.le_of_ble_eq_true rfl, Nat.le_of_ble_eq_true rfl⟩ dL_law_521 (fun H locs hP hD hS => ?_)
        refine lv_aload_n hx hb dL_law_524 rfl (lv_at hl 2 rfl) ?_
        refine lv_aload_n hx hb dL_law_525 rfl (lv_at hl 0 rfl) ?_
        refine lv_iload_n hx hb dL_law_526 rfl (lv_at hl 3 rfl) ?_
        refine lv_iconst (v := 1) hx hb dL_law_527 (by decide) ?_
        refine lv_iadd hx hb dL_law_528 ?_
        refine va_sld hx hb hX hbl hbA hS h_1 dL_law_529 ?_
        rw [← ew1]
        refine lv_aload_n hx hb dL_law_530 rfl (lv_at hl 0 rfl) ?_
        refine lv_iload_n hx hb dL_law_531 rfl (lv_at hl 3 rfl) ?_
        refine lv_iconst (v := 2) hx hb dL_law_532 (by decide) ?_
        refine lv_iadd hx hb dL_law_533 ?_
        refine va_sld hx hb hX hbl hbA hS h_2 dL_law_534 ?_
        rw [← ew2]
        refine ycallL (n := 2) (r := r) (st2 := t) (rest := [.int r]) F hA (c1_swap l D w1 w2) gL_law_X1_swap rfl (by decide +kernel) rfl ⟨Nat.le_of_ble_eq_true rfl, Nat.le_of_ble_eq_true rfl⟩ rfl hl.1 hK1 hP hD hS hf1 rfl (Nat.le_of_ble_eq_true rfl) ⟨Nat.le_of_ble_eq_true rfl, Nat.le_of_ble_eq_true rfl⟩ dL_law_535 (fun H locs hP hD hS => ?_)
        refine lv_icmp_eq (tgt := 599) hx hb dL_law_538 (by decide) (fun _ => ?_) (fun kq => absurd rfl kq)
        exact fin t H locs ls hIt hP hD hS hl
      by_cases k_12 : z = 11
      · refine lv_tableIn (off := 511) (tgt := 543) hx hb dL_law_32 (by rw [k_12]; decide) (by rw [k_12]; decide) (by rw [k_12]; decide) (by decide) ?_
        obtain ⟨r, t, hf0, hf1, hIt⟩ := pu_wagon w1 w2 hI
        refine lv_aload_n hx hb dL_law_543 rfl (lv_at hl 1 rfl) ?_
        refine lv_aload_n hx hb dL_law_544 rfl (lv_at hl 0 rfl) ?_
        refine lv_iload_n hx hb dL_law_545 rfl (lv_at hl 3 rfl) ?_
        refine lv_iconst (v := 1) hx hb dL_law_546 (by decide) ?_
        refine lv_iadd hx hb dL_law_547 ?_
        refine va_sld hx hb hX hbl hbA hS h_1 dL_law_548 ?_
        rw [← ew1]
        refine lv_aload_n hx hb dL_law_549 rfl (lv_at hl 0 rfl) ?_
        refine lv_iload_n hx hb dL_law_550 rfl (lv_at hl 3 rfl) ?_
        refine lv_iconst (v := 2) hx hb dL_law_551 (by decide) ?_
        refine lv_iadd hx hb dL_law_552 ?_
        refine va_sld hx hb hX hbl hbA hS h_2 dL_law_553 ?_
        rw [← ew2]
        refine ycallL (n := 2) (r := r) (st2 := t) (rest := []) F hA (c0_wagon l D w1 w2) gL_law_X0_wagon rfl (by decide +kernel) rfl ⟨Nat.le_of_ble_eq_true rfl, Nat.le_of_ble_eq_true rfl⟩ rfl hl.1 hK0 hP hD hS hf0 rfl (Nat.le_of_ble_eq_true rfl) ⟨Nat.le_of_ble_eq_true rfl, Nat.le_of_ble_eq_true rfl⟩ dL_law_554 (fun H locs hP hD hS => ?_)
        refine lv_aload_n hx hb dL_law_557 rfl (lv_at hl 2 rfl) ?_
        refine lv_aload_n hx hb dL_law_558 rfl (lv_at hl 0 rfl) ?_
        refine lv_iload_n hx hb dL_law_559 rfl (lv_at hl 3 rfl) ?_
        refine lv_iconst (v := 1) hx hb dL_law_560 (by decide) ?_
        refine lv_iadd hx hb dL_law_561 ?_
        refine va_sld hx hb hX hbl hbA hS h_1 dL_law_562 ?_
        rw [← ew1]
        refine lv_aload_n hx hb dL_law_563 rfl (lv_at hl 0 rfl) ?_
        refine lv_iload_n hx hb dL_law_564 rfl (lv_at hl 3 rfl) ?_
        refine lv_iconst (v := 2) hx hb dL_law_565 (by decide) ?_
        refine lv_iadd hx hb dL_law_566 ?_
        refine va_sld hx hb hX hbl hbA hS h_2 dL_law_567 ?_
        rw [← ew2]
        refine ycallL (n := 2) (r := r) (st2 := t) (rest := [.int r]) F hA (c1_wagon l D w1 w2) gL_law_X1_wagon rfl (by decide +kernel) rfl ⟨Nat.le_of_ble_eq_true rfl, Nat.le_of_ble_eq_true rfl⟩ rfl hl.1 hK1 hP hD hS hf1 rfl (Nat.le_of_ble_eq_true rfl) ⟨Nat.le_of_ble_eq_true rfl, Nat.le_of_ble_eq_true rfl⟩ dL_law_568 (fun H locs hP hD hS => ?_)
        refine lv_icmp_eq (tgt := 599) hx hb dL_law_571 (by decide) (fun _ => ?_) (fun kq => absurd rfl kq)
        exact fin t H locs ls hIt hP hD hS hl
      by_cases k_13 : z = 12
      · refine lv_tableIn (off := 544) (tgt := 576) hx hb dL_law_32 (by rw [k_13]; decide) (by rw [k_13]; decide) (by rw [k_13]; decide) (by decide) ?_
        obtain ⟨r, t, hf0, hf1, hIt⟩ := pu_told w1 hI
        refine lv_aload_n hx hb dL_law_576 rfl (lv_at hl 1 rfl) ?_
        refine lv_aload_n hx hb dL_law_577 rfl (lv_at hl 0 rfl) ?_
        refine lv_iload_n hx hb dL_law_578 rfl (lv_at hl 3 rfl) ?_
        refine lv_iconst (v := 1) hx hb dL_law_579 (by decide) ?_
        refine lv_iadd hx hb dL_law_580 ?_
        refine va_sld hx hb hX hbl hbA hS h_1 dL_law_581 ?_
        rw [← ew1]
        refine ycallL (n := 1) (r := r) (st2 := t) (rest := []) F hA (c0_told l D w1) gL_law_X0_told rfl (by decide +kernel) rfl ⟨Nat.le_of_ble_eq_true rfl, Nat.le_of_ble_eq_true rfl⟩ rfl hl.1 hK0 hP hD hS hf0 rfl (Nat.le_of_ble_eq_true rfl) ⟨Nat.le_of_ble_eq_true rfl, Nat.le_of_ble_eq_true rfl⟩ dL_law_582 (fun H locs hP hD hS => ?_)
        refine lv_aload_n hx hb dL_law_585 rfl (lv_at hl 2 rfl) ?_
        refine lv_aload_n hx hb dL_law_586 rfl (lv_at hl 0 rfl) ?_
        refine lv_iload_n hx hb dL_law_587 rfl (lv_at hl 3 rfl) ?_
        refine lv_iconst (v := 1) hx hb dL_law_588 (by decide) ?_
        refine lv_iadd hx hb dL_law_589 ?_
        refine va_sld hx hb hX hbl hbA hS h_1 dL_law_590 ?_
        rw [← ew1]
        refine ycallL (n := 1) (r := r) (st2 := t) (rest := [.int r]) F hA (c1_told l D w1) gL_law_X1_told rfl (by decide +kernel) rfl ⟨Nat.le_of_ble_eq_true rfl, Nat.le_of_ble_eq_true rfl⟩ rfl hl.1 hK1 hP hD hS hf1 rfl (Nat.le_of_ble_eq_true rfl) ⟨Nat.le_of_ble_eq_true rfl, Nat.le_of_ble_eq_true rfl⟩ dL_law_591 (fun H locs hP hD hS => ?_)
        refine lv_icmp_eq (tgt := 599) hx hb dL_law_594 (by decide) (fun _ => ?_) (fun kq => absurd rfl kq)
        exact fin t H locs ls hIt hP hD hS hl
      refine lv_tableOut (tgt := 599) hx hb dL_law_32 (by have g0 := lv_neT (a := 0) k_1 rfl; have g1 := lv_neT (a := 1) k_2 rfl; have g2 := lv_neT (a := 2) k_3 rfl; have g3 := lv_neT (a := 3) k_4 rfl; have g4 := lv_neT (a := 4) k_5 rfl; have g5 := lv_neT (a := 5) k_6 rfl; have g6 := lv_neT (a := 6) k_7 rfl; have g7 := lv_neT (a := 7) k_8 rfl; have g8 := lv_neT (a := 8) k_9 rfl; have g9 := lv_neT (a := 9) k_10 rfl; have g10 := lv_neT (a := 10) k_11 rfl; have g11 := lv_neT (a := 11) k_12 rfl; have g12 := lv_neT (a := 12) k_13 rfl; omega) (by decide) ?_
      exact fin st H locs ls hI hP hD hS hl
end
section
set_option maxHeartbeats 4000000 in
set_option maxRecDepth 100000 in
/-- THE LAW, from its entry -/
theorem whole_start {p : Program} {e : Env} {s : State} {m : MethodId} {below : List Frame} {meth : Method} {c : Code} (l : Launch) {b L : Nat} {xs : Nat → Int32} (hL : L ≤ 2048) (C0 : lw_At p s m meth c b L xs) : W p l e room_1 s m #[Value.ref b] below meth c s.heap [] 0 0 (lw_Z below #[Value.ref b] s) (entryFrame m ([Value.ref b] : List Value).toArray 4) := by
  obtain ⟨hx, hb, hr, hml, hown, hts0, hX, hbl, hlocks, hgv⟩ := id C0
  have hts : ∀ w ∈ wsL_law, w.before #[Value.ref b] s = true := fun w h => hts0 w (wsL_law_in w h)
  have hown : s.vm.findClass RL = some m.cls := hown
  have hA : ∀ q : Nat, s.heap.size ≤ q → (fun q : Nat => s.heap.size ≤ q) q := fun _ h => h
  have hbA : ¬ (fun q : Nat => s.heap.size ≤ q) b := Nat.not_le.mpr hbl
  obtain ⟨c0, iS0, hKn0⟩ := u_known (C := RX0) (T := TX0) (N := 9) (n := 9) hts inlX0 (hts (.instantiable RX0 9) (by decide +kernel))
  obtain ⟨c1, iS1, hKn1⟩ := u_known (C := RX1) (T := TX1) (N := 9) (n := 9) hts inlX1 (hts (.instantiable RX1 9) (by decide +kernel))
  obtain ⟨D, hKc⟩ : ∃ (D : va_G), ∀ (k : Nat) (q : vw_C), vwCl[k]? = some q → u_Kn s q.1 q.2.1 q.2.2 (D.1 k) (D.2 k) := by
    refine ⟨(fun k => if k = 0 then c0 else c1, fun k => if k = 0 then iS0 else iS1), ?_⟩
    intro k q hq
    match k, hq with
    | 0, hq => cases hq; exact hKn0
    | 1, hq => cases hq; exact hKn1
    | k + 2, hq => simp [vwCl] at hq
  have hS : va_S (fun q : Nat => s.heap.size ≤ q) s.heap s.heap [] := va_S.rf
  have hK : va_K D vwCl [] s := ⟨hKc, fun k q h => by simp at h⟩
  have hP : va_P D vwCl [] s.heap := fun k q h => by simp at h
  have hD : va_D (fun q : Nat => s.heap.size ≤ q) [] := ⟨fun i j p q h => by simp at h, fun k q h => by simp at h⟩
  have hl := lv_entry ([.ref b]) (n := 4) (Nat.le_of_ble_eq_true rfl)
  rw [lg_entry_eq]
  generalize (lg_sl ([.ref b]) ++ List.replicate (4 - (lg_sl ([.ref b])).length) Slot.unset).toArray = ls at hl ⊢
  have hl : lv_has ls 4 [(0, .ref b)] := hl
  refine va_new (ci := 0) (fs := zN) (C := RX0) (T := TX0) (N := 9) hx hb hts inlX0 tyX0 tyX0_ok hown (hts (.classLink RL 7 RX0) (by decide +kernel)) (hts (.instantiable RX0 9) (by decide +kernel)) (hts (.initialized RX0) (by decide +kernel)) hK hP hD hS hA rfl (fun j hj => by rcases (show j = 0 ∨ j = 1 ∨ j = 2 ∨ j = 3 ∨ j = 4 ∨ j = 5 ∨ j = 6 ∨ j = 7 ∨ j = 8 by omega) with rfl | rfl | rfl | rfl | rfl | rfl | rfl | rfl | rfl <;> rfl) (Nat.le_of_ble_eq_true rfl) (Nat.le_of_ble_eq_true rfl) dL_law_0 (fun x0 H hP hD hS => ?_)
  have hP : va_P D vwCl ([(x0, .inr (0, zN))]) H := hP
  have hD : va_D (fun q : Nat => s.heap.size ≤ q) ([(x0, .inr (0, zN))]) := hD
  refine W.widen (k := 1) (n := 9) (by omega) (by omega) ?_
  refine lv_dup hx hb dL_law_3 rfl ?_
  have hPc := hP.sub (ws' := [(x0, .inr (0, zN))]) [0] rfl
  have hDc := hD.sub (ws' := [(x0, .inr (0, zN))]) [0] (by decide) rfl
  have hKc := hK.sub (tys' := []) [] rfl
  have hFc := va_free (wc := [(x0, .inr (0, zN))]) hD hS hA [0] rfl
  refine va_callv (va_runI (As := []) (rest := [.ref x0]) ⟨hx, hb, hml, hown, hts⟩ (c0_init l D x0 H.size) (cwI 0 hts gL_law_X0_init rfl rfl rfl (hts (.initialized RX0) (by decide +kernel)) (hts (.methodLink RL 9 yX0_init) (by decide +kernel)) (hts (.instanceMethod yX0_init) (by decide +kernel)) rfl (by decide +kernel) ⟨Nat.le_of_ble_eq_true rfl, Nat.le_of_ble_eq_true rfl⟩) ⟨fun a U g mk q => by obtain ⟨q0, q1, qP, qK, qD⟩ := q; exact ⟨q0, q1, qP, va_K.moved (u := U) (U := U.calling g mk a) (Vm.Alike.refl U.vm) qK, qD⟩, fun U hU hW => ⟨rfl, by rw [hU], by rw [hU]; exact hPc, va_K.moved hW.alike hKc, hDc.weaken (fun _ _ _ _ => trivial)⟩⟩ rfl rfl hl.1 rfl (lv_room (Nat.le_of_ble_eq_true rfl)) dL_law_4 ⟨Nat.le_of_ble_eq_true rfl, Nat.le_of_ble_eq_true rfl⟩) hS (fun q _ h => hFc q h) hFc (fun u t H1 locs1 ht hvm hw hB hz1 hk1 hS => ?_)
  obtain ⟨x1, x2, x3, cA⟩ := u
  obtain ⟨hP1, hK1, hD1⟩ := hB
  rw [ht] at hP1
  have hK0 : va_K D vwCl [(cA, .int)] s := va_K.moved hvm.symm hK1
  obtain ⟨hP, hD⟩ := va_join (wr := []) (w1 := yw 0 x0 x1 x2 x3 cA z0) hP hD [0] [] rfl rfl (by decide) (by decide) hk1 hFc hP1 hD1
  have hP : va_P D vwCl (yw 0 x0 x1 x2 x3 cA z0) H1 := hP
  have hD : va_D (fun q : Nat => s.heap.size ≤ q) (yw 0 x0 x1 x2 x3 cA z0) := hD
  refine W.widen (k := 4) (n := 121) (by omega) (by omega) ?_
  refine lv_astore_n (lv' := [(1, .ref x0), (0, .ref b)]) hx hb dL_law_7 rfl hl (by decide) rfl (fun ls hl => ?_)
  refine va_new (ci := 1) (fs := zN) (C := RX1) (T := TX1) (N := 9) hx hb hts inlX1 tyX1 tyX1_ok hown (hts (.classLink RL 10 RX1) (by decide +kernel)) (hts (.instantiable RX1 9) (by decide +kernel)) (hts (.initialized RX1) (by decide +kernel)) hK hP hD hS hA rfl (fun j hj => by rcases (show j = 0 ∨ j = 1 ∨ j = 2 ∨ j = 3 ∨ j = 4 ∨ j = 5 ∨ j = 6 ∨ j = 7 ∨ j = 8 by omega) with rfl | rfl | rfl | rfl | rfl | rfl | rfl | rfl | rfl <;> rfl) (Nat.le_of_ble_eq_true rfl) (Nat.le_of_ble_eq_true rfl) dL_law_8 (fun m0 H hP hD hS => ?_)
  have hP : va_P D vwCl (yw 0 x0 x1 x2 x3 cA z0 ++ [(m0, .inr (1, zN))]) H := hP
  have hD : va_D (fun q : Nat => s.heap.size ≤ q) (yw 0 x0 x1 x2 x3 cA z0 ++ [(m0, .inr (1, zN))]) := hD
  refine W.widen (k := 5) (n := 130) (by omega) (by omega) ?_
  refine lv_dup hx hb dL_law_11 rfl ?_
  have hPc := hP.sub (ws' := [(m0, .inr (1, zN))]) [4] rfl
  have hDc := hD.sub (ws' := [(m0, .inr (1, zN))]) [4] (by decide) rfl
  have hKc := hK.sub (tys' := []) [] rfl
  have hFc := va_free (wc := [(m0, .inr (1, zN))]) hD hS hA [4] rfl
  refine va_callv (va_runI (As := []) (rest := [.ref m0]) ⟨hx, hb, hml, hown, hts⟩ (c1_init l D m0 H.size) (cwI 0 hts gL_law_X1_init rfl rfl rfl (hts (.initialized RX1) (by decide +kernel)) (hts (.methodLink RL 12 yX1_init) (by decide +kernel)) (hts (.instanceMethod yX1_init) (by decide +kernel)) rfl (by decide +kernel) ⟨Nat.le_of_ble_eq_true rfl, Nat.le_of_ble_eq_true rfl⟩) ⟨fun a U g mk q => by obtain ⟨q0, q1, qP, qK, qD⟩ := q; exact ⟨q0, q1, qP, va_K.moved (u := U) (U := U.calling g mk a) (Vm.Alike.refl U.vm) qK, qD⟩, fun U hU hW => ⟨rfl, by rw [hU], by rw [hU]; exact hPc, va_K.moved hW.alike hKc, hDc.weaken (fun _ _ _ _ => trivial)⟩⟩ rfl rfl hl.1 rfl (lv_room (Nat.le_of_ble_eq_true rfl)) dL_law_12 ⟨Nat.le_of_ble_eq_true rfl, Nat.le_of_ble_eq_true rfl⟩) hS (fun q _ h => hFc q h) hFc (fun u t H1 locs1 ht hvm hw hB hz1 hk1 hS => ?_)
  obtain ⟨m1, m2, m3, cB⟩ := u
  obtain ⟨hP1, hK1, hD1⟩ := hB
  rw [ht] at hP1
  have hK1 : va_K D vwCl [(cB, .int)] s := va_K.moved hvm.symm hK1
  obtain ⟨hP, hD⟩ := va_join (wr := yw 0 x0 x1 x2 x3 cA z0) (w1 := yw 1 m0 m1 m2 m3 cB z0) hP hD [4] [0, 1, 2, 3] rfl rfl (by decide) (by decide) hk1 hFc hP1 hD1
  have hP : va_P D vwCl (yw 0 x0 x1 x2 x3 cA z0 ++ yw 1 m0 m1 m2 m3 cB z0) H1 := hP
  have hD : va_D (fun q : Nat => s.heap.size ≤ q) (yw 0 x0 x1 x2 x3 cA z0 ++ yw 1 m0 m1 m2 m3 cB z0) := hD
  refine W.widen (k := 8) (n := 242) (by omega) (by omega) ?_
  refine lv_astore_n (lv' := [(2, .ref m0), (1, .ref x0), (0, .ref b)]) hx hb dL_law_15 rfl hl (by decide) rfl (fun ls hl => ?_)
  refine lv_iconst (v := 0) hx hb dL_law_16 (by decide) ?_
  refine lv_istore_n (lv' := [(3, .int 0), (2, .ref m0), (1, .ref x0), (0, .ref b)]) hx hb dL_law_17 rfl hl (by decide) rfl (fun ls hl => ?_)
  exact law_loop hL C0 hK0 hK1 (L + 1) 0 (Nat.zero_le L) (by omega) z0 z0_I _ _ hP hD hS ls (lv_sub hl [3, 2, 1, 0] rfl)
set_option maxHeartbeats 4000000 in
theorem lw_walk (l : Launch) (b : Addr) (xs : List Int32) : MetFree l x (headSpec (Jvm.Cond.code x code maxLocals ret :: tables_1) room_1) (lw_P b xs) (fun _ _ _ _ _ => True) lw_Q := by
  refine MetFree.of_bodyS (code := code) (maxLocals := maxLocals) (ret := ret) (by decide) ?_ ?_
  · intro args s m h hn
    obtain ⟨meth, c, h1, h2, h3, h4, h5, h6, -, -⟩ := Cond.code_spec hn (atoms_spec (ws := Jvm.Cond.code x code maxLocals ret :: tables_1) h _ List.mem_cons_self)
    exact ⟨meth, c, h1, h2, h3, h4, h5, h6⟩
  · intro p e s m args below meth c s₁ B hml0 hP _
    obtain ⟨rfl, hx, hbd, hgv⟩ := hP
    obtain ⟨scr, harrAt, hlist, hof, hsmall⟩ := hx
    obtain ⟨hcb, hkn, -, -⟩ := State.arrayAt?_spec harrAt
    have hown : s.vm.findClass R_law = some m.cls := findClass_of_methodNamed B.named
    have hts0 : ∀ c ∈ (Jvm.Cond.code x code maxLocals ret :: tables_1), c.before #[Value.ref b] s = true := atoms_spec (ws := Jvm.Cond.code x code maxLocals ret :: tables_1) B.pre
    have hts : ∀ w ∈ lw_tbl, w.before #[Value.ref b] s = true := k2_hts_sels lw_privs (fun w hw => hts0 w (List.mem_cons_of_mem _ hw)) lw_privs_ok
    have hml : c.maxLocals = 4 := B.maxLocals_eq (hts0 _ List.mem_cons_self)
    have X₀ : Stand p l e room_1 s m #[Value.ref b] below meth c s₁ [] 0 0 := Stand.of_body B
    have hh0 : s₁.heap = s.heap := by rw [B.state]; rfl
    have hsz : scr.slots.size = xs.length := by rw [← Array.length_toList, hlist, List.length_map]
    have hval : ∀ j : Nat, j < xs.length → scr.slots[j]? = some (.int (xs.getD j 0)) := fun j hj => by
      rw [← Array.getElem?_toList, hlist]
      simp [hj]
    have hbl : b < s.heap.size := (Array.getElem?_eq_some_iff.mp hcb).1
    have hX : va_X b xs.length (fun j => xs.getD j 0) s s.heap := ⟨scr, hcb, hof, hkn, hsz, hval⟩
    have K : W p l e room_1 s m #[Value.ref b] below meth c s₁.heap [] 0 0 (lw_Z below #[Value.ref b] s) (entryFrame m ([Value.ref b] : List Value).toArray 4) := by
      rw [hh0]
      exact whole_start l hbd ⟨B.exec, B.bytes, B.returns, hml, hown, hts, hX, hbl, B.notSynchronized, hgv⟩
    obtain ⟨t, a1, o, b1, b2, b3⟩ := K s₁ rfl X₀
    exact ⟨t, o, a1, b1, b2, b3⟩
theorem lw_pre_spec {args : Array Value} {s : State} (h : (Jvm.Cond.and given_1 narrow_1).before args s = true) (hr : rest_1_c.before args s = true) : ∃ (b : Addr) (xs : List Int32), lw_P b xs args s := by
  have hs := flat_of_before _ h
  have hq := flat_of_before _ hr
  have hc : (Cond.count 1).before args s = true := hs _ (by decide +kernel)
  have harr : (Cond.arrayOf (.arg 0) .int).before args s = true := hs _ (by decide +kernel)
  have hle : (Cond.le (.length (.arg 0)) (.int 2048)).before args s = true := hs _ (by decide +kernel)
  have hlen : (Cond.isInt (.length (.arg 0))).before args s = true := hq _ (by decide +kernel)
  have hall : (Cond.all (.arg 0) (.isInt (.elem (.arg 0) (.index 0)))).before args s = true := hq _ (by decide +kernel)
  obtain ⟨b, xs, hb, hx⟩ := State.ints_of_pre rfl harr hlen hall
  have hsm : xs.length < 2 ^ 31 := hx.choose_spec.2.2.2
  have hev : (Term.length (.arg 0)).eval args s none [] s = some (.int xs.length.toInt32) := hx.length_eval hb
  have hv := Cond.le_ints hev (show (Term.int 2048).eval args s none [] s = some (.int 2048) from rfl)
  have hd : xs.length.toInt32 ≤ 2048 := by
    simpa [Cond.before, Cond.holds, hv] using hle
  have hN : xs.length ≤ 2048 := (Int32.ofNat_le_ofNat hsm (by decide)).mp (show Int32.ofNat xs.length ≤ Int32.ofNat 2048 from hd)
  exact ⟨b, xs, Cond.one_arg hc (show args[0]? = some (.ref b) from hb), hx, hN, h⟩
theorem lw_comes (l : Launch) : Comes l x (Jvm.Cond.code x code maxLocals ret :: tables_1) room_1 (fun tb e args s => Calls_1 tb e args s ∧ rest_1 tb e args s ∧ Pre_1 tb e args s)
    (fun _ _ args s o t => lw_Q args s o t) := by
  intro p e ha hc hk s m args below hf hfit hheap happ hpre
  obtain ⟨b, xs, hP⟩ := lw_pre_spec hpre.2.2 hpre.2.1
  obtain ⟨k, o, h1, h2, h3, hQ⟩ := lw_walk l b xs p e ha hc hk s m args below hf ((Spec.applies_iff_loose hf).mp happ).1 hP trivial
  exact ⟨k, o, h1, h2, h3, hQ⟩
theorem lw_frame {s t : State} {o : Outcome} {args : Array Value} (h : Framed s o t [] 8 242) :
    Framed s o t (fieldLocs frame_1_writes args s ++ arrayLocs frame_1_arrays args s ++ staticLocs frame_1_statics s) 8 242 := h
theorem lw_limb (L : Cond) (hL : ∀ (args : Array Value) (s t : State), L.after args s (.returned (some (.int 1))) t = true) :
    ArmFor flags0 classFile x code maxLocals ret World_1 tables_1 room_1 Calls_1 rest_1 Pre_1
      (fun tb e a s o t => postC L tb e a s o t ∧ Framed s o t (fieldLocs frame_1_writes a s ++ arrayLocs frame_1_arrays a s ++ staticLocs frame_1_statics s) 8 242) := by
  intro l _ _ _ p e ha hc hk s m args below hf hfit hheap happ hpre
  obtain ⟨k, o, h1, h2, h3, rfl, hF⟩ := lw_comes l p e ha hc hk s m args below hf hfit hheap happ hpre
  exact ⟨k, _, h1, h2, h3, hL args s _, lw_frame hF⟩
theorem i_vc : Claimed_1_1 ∧ Claimed_1_2 := ⟨lw_limb limb_1_1 (fun args s t => by simp [limb_1_1, Cond.after, Cond.holds, Cond.value]), lw_limb limb_1_2 (fun args s t => Cond.after_iff.mpr (by
  first | (rw [show limb_1_2 = Cond.eq .result (.int 1) from rfl, Cond.eq_ints (x := 1) (y := 1) rfl rfl]; simp; done) | (simp [limb_1_2, Cond.value, Term.eval]; done)))⟩
end
