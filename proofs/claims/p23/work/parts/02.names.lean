/-! ===== BEGIN words of one list among another's, by their places ===== -/
theorem goodIn_r {big : List Cond} (ws : List Cond) (ps : List Nat) (hp : ws = ps.filterMap (fun i => big[i]?)) (h : ws.all goodWord = true) : GoodIn big ws := by
  intro w hw
  have h1 := List.all_eq_true.mp h w hw
  rw [hp] at hw
  obtain ⟨i, -, hi⟩ := List.mem_filterMap.mp hw
  have hm : w ∈ big := by first | exact List.mem_of_getElem? hi | exact List.getElem?_mem hi
  exact ⟨hm, good_of_word h1⟩
theorem goodIn_app {big a b : List Cond} (ha : GoodIn big a) (hb : GoodIn big b) : GoodIn big (a ++ b) := fun w h => (List.mem_append.mp h).elim (ha w) (hb w)
theorem goodIn_ca {big a b : List Cond} {c : Cond} (ha : GoodIn big (c :: a)) (hb : GoodIn big b) : GoodIn big (c :: (a ++ b)) := fun w h => (List.mem_cons.mp h).elim (fun e => ha w (List.mem_cons.mpr (Or.inl e))) (fun h => (List.mem_append.mp h).elim (fun h => ha w (List.mem_cons.mpr (Or.inr h))) (hb w))
theorem goodIn_sub {big ws : List Cond} (hm : ∀ w ∈ ws, w ∈ big) (h : ws.all goodWord = true) : GoodIn big ws := fun w hw => ⟨hm w hw, good_of_word (List.all_eq_true.mp h w hw)⟩
/-! ===== END ===== -/

/-! ===== BEGIN printed: names, fields, word lists, decode rows ===== -/
def RX0 : String := "DrawerSlips$Archive"
def TX0 : u_T := fun k => match k with
  | 0 => ("DrawerSlips$Archive", "settings", "[I", true)
  | 1 => ("DrawerSlips$Archive", "places", "LDrawerSlips$Slip;", true)
  | 2 => ("DrawerSlips$Archive", "lately", "LDrawerSlips$Lately;", true)
  | 3 => ("DrawerSlips$Archive", "readsWaiting", "I", false)
  | 4 => ("DrawerSlips$Archive", "writesWaiting", "I", false)
  | 5 => ("DrawerSlips$Archive", "nextNumber", "I", false)
  | 6 => ("DrawerSlips$Archive", "now", "I", false)
  | 7 => ("DrawerSlips$Archive", "arm", "I", false)
  | 8 => ("DrawerSlips$Archive", "longestWait", "I", false)
  | 9 => ("DrawerSlips$Archive", "drawersGone", "I", false)
  | 10 => ("DrawerSlips$Archive", "batches", "I", false)
  | 11 => ("DrawerSlips$Archive", "batchSort", "I", false)
  | 12 => ("DrawerSlips$Archive", "batchSlips", "I", false)
  | _ => ("DrawerSlips$Archive", "readsAhead", "I", false)
def tyX0 : Nat → FieldType := fun k => match k with
  | 0 => .array .int
  | 1 => .object "DrawerSlips$Slip"
  | 2 => .object "DrawerSlips$Lately"
  | 3 => .int
  | 4 => .int
  | 5 => .int
  | 6 => .int
  | 7 => .int
  | 8 => .int
  | 9 => .int
  | 10 => .int
  | 11 => .int
  | 12 => .int
  | _ => .int
abbrev wsX00 : List Cond := u_ws RX0 TX0 14
theorem nmX0 : ∀ a, a < 14 → ∀ b, b < 14 → a ≠ b → (TX0 a).2.1 ≠ (TX0 b).2.1 := by decide +kernel
theorem tyX0_ok : ∀ k, k < 14 → parseFieldDescriptor (TX0 k).2.2.1 = some (tyX0 k) := by decide +kernel
abbrev cX0_init : ByteArray := prog_2_method_1_code
def yX0_init : MethodName := ⟨RX0, "<init>", "()V"⟩
abbrev cX0_copyFrom : ByteArray := prog_2_method_2_code
def yX0_copyFrom : MethodName := ⟨RX0, "copyFrom", "(LDrawerSlips$Archive;)V"⟩
abbrev cX0_adjust : ByteArray := prog_2_method_3_code
def yX0_adjust : MethodName := ⟨RX0, "adjust", "(II)I"⟩
abbrev cX0_accept : ByteArray := prog_2_method_4_code
def yX0_accept : MethodName := ⟨RX0, "accept", "(III)I"⟩
abbrev cX0_tearUp : ByteArray := prog_2_method_5_code
def yX0_tearUp : MethodName := ⟨RX0, "tearUp", "(I)I"⟩
abbrev cX0_stand : ByteArray := prog_2_method_6_code
def yX0_stand : MethodName := ⟨RX0, "stand", "(I)I"⟩
abbrev cX0_remove : ByteArray := prog_2_method_7_code
def yX0_remove : MethodName := ⟨RX0, "remove", "(LDrawerSlips$Slip;)V"⟩
abbrev cX0_countWaiting : ByteArray := prog_2_method_8_code
def yX0_countWaiting : MethodName := ⟨RX0, "countWaiting", "(II)V"⟩
abbrev cX0_slipsThatWait : ByteArray := prog_2_method_9_code
def yX0_slipsThatWait : MethodName := ⟨RX0, "slipsThatWait", "()I"⟩
abbrev cX0_find : ByteArray := prog_2_method_10_code
def yX0_find : MethodName := ⟨RX0, "find", "(I)LDrawerSlips$Slip;"⟩
abbrev cX0_freePlace : ByteArray := prog_2_method_11_code
def yX0_freePlace : MethodName := ⟨RX0, "freePlace", "()LDrawerSlips$Slip;"⟩
abbrev cX0_hostFor : ByteArray := prog_2_method_12_code
def yX0_hostFor : MethodName := ⟨RX0, "hostFor", "(III)LDrawerSlips$Slip;"⟩
abbrev cX0_ranked : ByteArray := prog_2_method_13_code
def yX0_ranked : MethodName := ⟨RX0, "ranked", "(II)LDrawerSlips$Slip;"⟩
abbrev cX0_slipsAheadOf : ByteArray := prog_2_method_14_code
def yX0_slipsAheadOf : MethodName := ⟨RX0, "slipsAheadOf", "(LDrawerSlips$Slip;)I"⟩
abbrev cX0_age : ByteArray := prog_2_method_15_code
def yX0_age : MethodName := ⟨RX0, "age", "(LDrawerSlips$Slip;)I"⟩
abbrev cX0_isTooOld : ByteArray := prog_2_method_16_code
def yX0_isTooOld : MethodName := ⟨RX0, "isTooOld", "(LDrawerSlips$Slip;)Z"⟩
abbrev cX0_amount : ByteArray := prog_2_method_17_code
def yX0_amount : MethodName := ⟨RX0, "amount", "(I)I"⟩
abbrev cX0_reason : ByteArray := prog_2_method_18_code
def yX0_reason : MethodName := ⟨RX0, "reason", "()I"⟩
abbrev cX0_chosen : ByteArray := prog_2_method_19_code
def yX0_chosen : MethodName := ⟨RX0, "chosen", "(I)LDrawerSlips$Slip;"⟩
abbrev cX0_newSort : ByteArray := prog_2_method_20_code
def yX0_newSort : MethodName := ⟨RX0, "newSort", "()I"⟩
abbrev cX0_oldest : ByteArray := prog_2_method_21_code
def yX0_oldest : MethodName := ⟨RX0, "oldest", "(I)LDrawerSlips$Slip;"⟩
abbrev cX0_leastFrom : ByteArray := prog_2_method_22_code
def yX0_leastFrom : MethodName := ⟨RX0, "leastFrom", "(II)LDrawerSlips$Slip;"⟩
abbrev cX0_drawersTo : ByteArray := prog_2_method_23_code
def yX0_drawersTo : MethodName := ⟨RX0, "drawersTo", "(LDrawerSlips$Slip;)I"⟩
abbrev cX0_minutesFor : ByteArray := prog_2_method_24_code
def yX0_minutesFor : MethodName := ⟨RX0, "minutesFor", "(LDrawerSlips$Slip;)I"⟩
abbrev cX0_serveNext : ByteArray := prog_2_method_25_code
def yX0_serveNext : MethodName := ⟨RX0, "serveNext", "()V"⟩
abbrev cX0_beginBatch : ByteArray := prog_2_method_26_code
def yX0_beginBatch : MethodName := ⟨RX0, "beginBatch", "(I)V"⟩
def RX1 : String := "DrawerSlips$History"
def TX1 : u_T := fun k => match k with
  | 0 => ("DrawerSlips$History", "states", "[LDrawerSlips$Archive;", true)
  | 1 => ("DrawerSlips$History", "place", "I", false)
  | _ => ("DrawerSlips$History", "kept", "I", false)
def tyX1 : Nat → FieldType := fun k => match k with
  | 0 => .array (.object "DrawerSlips$Archive")
  | 1 => .int
  | _ => .int
abbrev wsX10 : List Cond := u_ws RX1 TX1 3
theorem nmX1 : ∀ a, a < 3 → ∀ b, b < 3 → a ≠ b → (TX1 a).2.1 ≠ (TX1 b).2.1 := by decide +kernel
theorem tyX1_ok : ∀ k, k < 3 → parseFieldDescriptor (TX1 k).2.2.1 = some (tyX1 k) := by decide +kernel
abbrev cX1_init : ByteArray := prog_3_method_1_code
def yX1_init : MethodName := ⟨RX1, "<init>", "()V"⟩
abbrev cX1_stateAt : ByteArray := prog_3_method_2_code
def yX1_stateAt : MethodName := ⟨RX1, "stateAt", "(I)LDrawerSlips$Archive;"⟩
abbrev cX1_prepare : ByteArray := prog_3_method_3_code
def yX1_prepare : MethodName := ⟨RX1, "prepare", "(LDrawerSlips$Archive;)V"⟩
abbrev cX1_keep : ByteArray := prog_3_method_4_code
def yX1_keep : MethodName := ⟨RX1, "keep", "()V"⟩
def RX2 : String := "DrawerSlips$Lately"
def TX2 : u_T := fun k => match k with
  | 0 => ("DrawerSlips$Lately", "numbers", "[I", true)
  | 1 => ("DrawerSlips$Lately", "waits", "[I", true)
  | 2 => ("DrawerSlips$Lately", "sorts", "[I", true)
  | _ => ("DrawerSlips$Lately", "served", "I", false)
def tyX2 : Nat → FieldType := fun k => match k with
  | 0 => .array .int
  | 1 => .array .int
  | 2 => .array .int
  | _ => .int
abbrev wsX20 : List Cond := u_ws RX2 TX2 4
theorem nmX2 : ∀ a, a < 4 → ∀ b, b < 4 → a ≠ b → (TX2 a).2.1 ≠ (TX2 b).2.1 := by decide +kernel
theorem tyX2_ok : ∀ k, k < 4 → parseFieldDescriptor (TX2 k).2.2.1 = some (tyX2 k) := by decide +kernel
abbrev cX2_init : ByteArray := prog_4_method_1_code
def yX2_init : MethodName := ⟨RX2, "<init>", "()V"⟩
abbrev cX2_copyFrom : ByteArray := prog_4_method_2_code
def yX2_copyFrom : MethodName := ⟨RX2, "copyFrom", "(LDrawerSlips$Lately;)V"⟩
abbrev cX2_append : ByteArray := prog_4_method_3_code
def yX2_append : MethodName := ⟨RX2, "append", "(III)V"⟩
abbrev cX2_has : ByteArray := prog_4_method_4_code
def yX2_has : MethodName := ⟨RX2, "has", "(I)Z"⟩
abbrev cX2_numberOf : ByteArray := prog_4_method_5_code
def yX2_numberOf : MethodName := ⟨RX2, "numberOf", "(I)I"⟩
abbrev cX2_waitOf : ByteArray := prog_4_method_6_code
def yX2_waitOf : MethodName := ⟨RX2, "waitOf", "(I)I"⟩
abbrev cX2_sortOf : ByteArray := prog_4_method_7_code
def yX2_sortOf : MethodName := ⟨RX2, "sortOf", "(I)I"⟩
abbrev cX2_place : ByteArray := prog_4_method_8_code
def yX2_place : MethodName := ⟨RX2, "place", "(I)I"⟩
def RX3 : String := "DrawerSlips$Pad"
def TX3 : u_T := fun k => match k with
  | 0 => ("DrawerSlips$Pad", "signs", "[I", true)
  | _ => ("DrawerSlips$Pad", "length", "I", false)
def tyX3 : Nat → FieldType := fun k => match k with
  | 0 => .array .int
  | _ => .int
abbrev wsX30 : List Cond := u_ws RX3 TX3 2
theorem nmX3 : ∀ a, a < 2 → ∀ b, b < 2 → a ≠ b → (TX3 a).2.1 ≠ (TX3 b).2.1 := by decide +kernel
theorem tyX3_ok : ∀ k, k < 2 → parseFieldDescriptor (TX3 k).2.2.1 = some (tyX3 k) := by decide +kernel
abbrev cX3_init : ByteArray := prog_5_method_1_code
def yX3_init : MethodName := ⟨RX3, "<init>", "()V"⟩
def RX4 : String := "DrawerSlips$Reader"
def TX4 : u_T := fun k => match k with
  | 0 => ("DrawerSlips$Reader", "pad", "LDrawerSlips$Pad;", true)
  | 1 => ("DrawerSlips$Reader", "at", "I", false)
  | 2 => ("DrawerSlips$Reader", "kind", "I", false)
  | 3 => ("DrawerSlips$Reader", "number", "I", false)
  | _ => ("DrawerSlips$Reader", "more", "I", false)
def tyX4 : Nat → FieldType := fun k => match k with
  | 0 => .object "DrawerSlips$Pad"
  | 1 => .int
  | 2 => .int
  | 3 => .int
  | _ => .int
abbrev wsX40 : List Cond := u_ws RX4 TX4 5
theorem nmX4 : ∀ a, a < 5 → ∀ b, b < 5 → a ≠ b → (TX4 a).2.1 ≠ (TX4 b).2.1 := by decide +kernel
theorem tyX4_ok : ∀ k, k < 5 → parseFieldDescriptor (TX4 k).2.2.1 = some (tyX4 k) := by decide +kernel
abbrev cX4_init : ByteArray := prog_6_method_1_code
def yX4_init : MethodName := ⟨RX4, "<init>", "(LDrawerSlips$Pad;)V"⟩
def RX5 : String := "DrawerSlips$Slip"
def TX5 : u_T := fun k => match k with
  | 0 => ("DrawerSlips$Slip", "rest", "LDrawerSlips$Slip;", true)
  | 1 => ("DrawerSlips$Slip", "waits", "Z", false)
  | 2 => ("DrawerSlips$Slip", "number", "I", false)
  | 3 => ("DrawerSlips$Slip", "writes", "I", false)
  | 4 => ("DrawerSlips$Slip", "first", "I", false)
  | 5 => ("DrawerSlips$Slip", "many", "I", false)
  | 6 => ("DrawerSlips$Slip", "came", "I", false)
  | _ => ("DrawerSlips$Slip", "joins", "I", false)
def tyX5 : Nat → FieldType := fun k => match k with
  | 0 => .object "DrawerSlips$Slip"
  | 1 => .boolean
  | 2 => .int
  | 3 => .int
  | 4 => .int
  | 5 => .int
  | 6 => .int
  | _ => .int
abbrev wsX50 : List Cond := u_ws RX5 TX5 8
theorem nmX5 : ∀ a, a < 8 → ∀ b, b < 8 → a ≠ b → (TX5 a).2.1 ≠ (TX5 b).2.1 := by decide +kernel
theorem tyX5_ok : ∀ k, k < 8 → parseFieldDescriptor (TX5 k).2.2.1 = some (tyX5 k) := by decide +kernel
abbrev cX5_init : ByteArray := prog_7_method_1_code
def yX5_init : MethodName := ⟨RX5, "<init>", "(LDrawerSlips$Slip;)V"⟩
abbrev cX5_copyFrom : ByteArray := prog_7_method_2_code
def yX5_copyFrom : MethodName := ⟨RX5, "copyFrom", "(LDrawerSlips$Slip;)V"⟩
abbrev cX5_last : ByteArray := prog_7_method_3_code
def yX5_last : MethodName := ⟨RX5, "last", "()I"⟩
abbrev cX5_isOfSort : ByteArray := prog_7_method_4_code
def yX5_isOfSort : MethodName := ⟨RX5, "isOfSort", "(I)Z"⟩
abbrev cX5_isAheadOf : ByteArray := prog_7_method_5_code
def yX5_isAheadOf : MethodName := ⟨RX5, "isAheadOf", "(LDrawerSlips$Slip;)Z"⟩
def RX6 : String := "DrawerSlips$Slot"
def TX6 : u_T := fun k => match k with
  | 0 => ("DrawerSlips$Slot", "state", "LDrawerSlips$Archive;", true)
  | _ => ("DrawerSlips$Slot", "isFilled", "Z", false)
def tyX6 : Nat → FieldType := fun k => match k with
  | 0 => .object "DrawerSlips$Archive"
  | _ => .boolean
abbrev wsX60 : List Cond := u_ws RX6 TX6 2
theorem nmX6 : ∀ a, a < 2 → ∀ b, b < 2 → a ≠ b → (TX6 a).2.1 ≠ (TX6 b).2.1 := by decide +kernel
theorem tyX6_ok : ∀ k, k < 2 → parseFieldDescriptor (TX6 k).2.2.1 = some (tyX6 k) := by decide +kernel
abbrev cX6_init : ByteArray := prog_8_method_1_code
def yX6_init : MethodName := ⟨RX6, "<init>", "()V"⟩
def RX7 : String := "DrawerSlips"
def TX7 : u_T := fun k => match k with
  | 0 => ("DrawerSlips", "archive", "LDrawerSlips$Archive;", true)
  | 1 => ("DrawerSlips", "trial", "LDrawerSlips$Archive;", true)
  | 2 => ("DrawerSlips", "history", "LDrawerSlips$History;", true)
  | 3 => ("DrawerSlips", "firstSlot", "LDrawerSlips$Slot;", true)
  | 4 => ("DrawerSlips", "secondSlot", "LDrawerSlips$Slot;", true)
  | 5 => ("DrawerSlips", "pad", "LDrawerSlips$Pad;", true)
  | _ => ("DrawerSlips", "reader", "LDrawerSlips$Reader;", true)
def tyX7 : Nat → FieldType := fun k => match k with
  | 0 => .object "DrawerSlips$Archive"
  | 1 => .object "DrawerSlips$Archive"
  | 2 => .object "DrawerSlips$History"
  | 3 => .object "DrawerSlips$Slot"
  | 4 => .object "DrawerSlips$Slot"
  | 5 => .object "DrawerSlips$Pad"
  | _ => .object "DrawerSlips$Reader"
abbrev wsX70 : List Cond := u_ws RX7 TX7 7
theorem nmX7 : ∀ a, a < 7 → ∀ b, b < 7 → a ≠ b → (TX7 a).2.1 ≠ (TX7 b).2.1 := by decide +kernel
theorem tyX7_ok : ∀ k, k < 7 → parseFieldDescriptor (TX7 k).2.2.1 = some (tyX7 k) := by decide +kernel
abbrev cX7_init : ByteArray := prog_1_method_1_code
def yX7_init : MethodName := ⟨RX7, "<init>", "()V"⟩
abbrev cX7_set : ByteArray := prog_1_method_2_code
def yX7_set : MethodName := ⟨RX7, "set", "(II)I"⟩
abbrev cX7_slip : ByteArray := prog_1_method_3_code
def yX7_slip : MethodName := ⟨RX7, "slip", "(III)I"⟩
abbrev cX7_tear : ByteArray := prog_1_method_4_code
def yX7_tear : MethodName := ⟨RX7, "tear", "(I)I"⟩
abbrev cX7_serve : ByteArray := prog_1_method_5_code
def yX7_serve : MethodName := ⟨RX7, "serve", "(I)I"⟩
abbrev cX7_pass : ByteArray := prog_1_method_6_code
def yX7_pass : MethodName := ⟨RX7, "pass", "(I)I"⟩
abbrev cX7_settled : ByteArray := prog_1_method_7_code
def yX7_settled : MethodName := ⟨RX7, "settled", "(I)I"⟩
abbrev cX7_serveSlips : ByteArray := prog_1_method_8_code
def yX7_serveSlips : MethodName := ⟨RX7, "serveSlips", "(I)I"⟩
abbrev cX7_of : ByteArray := prog_1_method_9_code
def yX7_of : MethodName := ⟨RX7, "of", "(II)I"⟩
abbrev cX7_waiting : ByteArray := prog_1_method_10_code
def yX7_waiting : MethodName := ⟨RX7, "waiting", "(II)I"⟩
abbrev cX7_log : ByteArray := prog_1_method_11_code
def yX7_log : MethodName := ⟨RX7, "log", "(II)I"⟩
abbrev cX7_count : ByteArray := prog_1_method_12_code
def yX7_count : MethodName := ⟨RX7, "count", "(I)I"⟩
abbrev cX7_next : ByteArray := prog_1_method_13_code
def yX7_next : MethodName := ⟨RX7, "next", "(I)I"⟩
abbrev cX7_servedIn : ByteArray := prog_1_method_14_code
def yX7_servedIn : MethodName := ⟨RX7, "servedIn", "(I)I"⟩
abbrev cX7_all : ByteArray := prog_1_method_15_code
def yX7_all : MethodName := ⟨RX7, "all", "(I)I"⟩
abbrev cX7_joined : ByteArray := prog_1_method_16_code
def yX7_joined : MethodName := ⟨RX7, "joined", "(III)I"⟩
abbrev cX7_isSlip : ByteArray := prog_1_method_26_code
def yX7_isSlip : MethodName := ⟨RX7, "isSlip", "(III)Z"⟩
abbrev cX7_isIndexOf : ByteArray := prog_1_method_27_code
def yX7_isIndexOf : MethodName := ⟨RX7, "isIndexOf", "([II)Z"⟩
abbrev cX7_valueAt : ByteArray := prog_1_method_28_code
def yX7_valueAt : MethodName := ⟨RX7, "valueAt", "([II)I"⟩
abbrev cX7_copyRow : ByteArray := prog_1_method_29_code
def yX7_copyRow : MethodName := ⟨RX7, "copyRow", "([I[I)V"⟩
def RX8 : String := "DrawerSlipsModel"
def TX8 : u_T := fun k => match k with
  | _ => ("", "", "", false)
def tyX8 : Nat → FieldType := fun k => match k with
  | _ => .int
abbrev wsX80 : List Cond := u_ws RX8 TX8 0
theorem nmX8 : ∀ a, a < 0 → ∀ b, b < 0 → a ≠ b → (TX8 a).2.1 ≠ (TX8 b).2.1 := by decide +kernel
theorem tyX8_ok : ∀ k, k < 0 → parseFieldDescriptor (TX8 k).2.2.1 = some (tyX8 k) := by decide +kernel
def RJ9 : String := "java/lang/Math"
def TJ9 : u_T := fun k => match k with
  | _ => ("", "", "", false)
def tyJ9 : Nat → FieldType := fun k => match k with
  | _ => .int
abbrev wsJ90 : List Cond := u_ws RJ9 TJ9 0
theorem nmJ9 : ∀ a, a < 0 → ∀ b, b < 0 → a ≠ b → (TJ9 a).2.1 ≠ (TJ9 b).2.1 := by decide +kernel
theorem tyJ9_ok : ∀ k, k < 0 → parseFieldDescriptor (TJ9 k).2.2.1 = some (tyJ9 k) := by decide +kernel
abbrev cJ9_abs_0f7a4 : ByteArray := prog_11_method_59_code
def yJ9_abs_0f7a4 : MethodName := ⟨RJ9, "abs", "(I)I"⟩
abbrev cJ9_max_7cf53 : ByteArray := prog_11_method_65_code
def yJ9_max_7cf53 : MethodName := ⟨RJ9, "max", "(II)I"⟩
abbrev cJ9_min_7cf53 : ByteArray := prog_11_method_69_code
def yJ9_min_7cf53 : MethodName := ⟨RJ9, "min", "(II)I"⟩
def RL : String := "DrawerSlipsLaw"
abbrev cL_cell : ByteArray := method_2_code
def yL_cell : MethodName := ⟨RL, "cell", "([II)I"⟩
abbrev cL_low : ByteArray := method_3_code
def yL_low : MethodName := ⟨RL, "low", "(II)I"⟩
abbrev cL_far : ByteArray := method_4_code
def yL_far : MethodName := ⟨RL, "far", "(II)I"⟩
abbrev cL_lowest : ByteArray := method_5_code
def yL_lowest : MethodName := ⟨RL, "lowest", "(LDrawerSlips;II)I"⟩
abbrev cL_oldest : ByteArray := method_6_code
def yL_oldest : MethodName := ⟨RL, "oldest", "(LDrawerSlips;I)I"⟩
abbrev cL_inOrder : ByteArray := method_7_code
def yL_inOrder : MethodName := ⟨RL, "inOrder", "(LDrawerSlips;I)Z"⟩
abbrev cL_next : ByteArray := method_8_code
def yL_next : MethodName := ⟨RL, "next", "(LDrawerSlips;I)I"⟩
abbrev cL_served : ByteArray := method_9_code
def yL_served : MethodName := ⟨RL, "served", "(LDrawerSlips;I)I"⟩
abbrev cL_comes : ByteArray := method_10_code
def yL_comes : MethodName := ⟨RL, "comes", "(LDrawerSlips;III)Z"⟩
abbrev cL_law : ByteArray := code
def yL_law : MethodName := ⟨RL, "law", "([I)Z"⟩
abbrev vwCl : List vw_C := [(RX0, TX0, 14), (RX1, TX1, 3), (RX2, TX2, 4), (RX3, TX3, 2), (RX4, TX4, 5), (RX5, TX5, 8), (RX6, TX6, 2), (RX7, TX7, 7)]
-- the words of all methods of the class, and of the law's own ones
def wsC : List Cond := [.code yX2_init cX2_init 1 none,
  .methodLink RX2 1 objectInit,
  .instanceMethod objectInit,
  .code objectInit ⟨#[0xb1]⟩ 1 none,
  .arrayClass .int,
  .fieldLink RX2 9 "DrawerSlips$Lately" "numbers" "[I",
  .fieldLink RX2 13 "DrawerSlips$Lately" "waits" "[I",
  .fieldLink RX2 16 "DrawerSlips$Lately" "sorts" "[I",
  .code yX7_copyRow cX7_copyRow 3 none,
  .code yX5_init cX5_init 2 none,
  .methodLink RX5 1 objectInit,
  .fieldLink RX5 7 "DrawerSlips$Slip" "rest" "LDrawerSlips$Slip;",
  .code yX0_init cX0_init 3 none,
  .methodLink RX0 3 objectInit,
  .fieldLink RX0 13 "DrawerSlips$Archive" "settings" "[I",
  .classLink RX0 18 RX2,
  .instantiable RX2 4,
  .initialized RX2,
  .fieldLink RX0 21 "DrawerSlips$Archive" "lately" "LDrawerSlips$Lately;",
  .classLink RX0 29 RX5,
  .instantiable RX5 8,
  .initialized RX5,
  .fieldLink RX0 34 "DrawerSlips$Archive" "places" "LDrawerSlips$Slip;",
  .instanceMethod yX2_init,
  .static yX7_copyRow,
  .initialized RX7,
  .instanceMethod yX5_init,
  .code yX5_copyFrom cX5_copyFrom 2 none,
  .fieldLink RX5 13 "DrawerSlips$Slip" "waits" "Z",
  .fieldLink RX5 17 "DrawerSlips$Slip" "number" "I",
  .fieldLink RX5 21 "DrawerSlips$Slip" "writes" "I",
  .fieldLink RX5 24 "DrawerSlips$Slip" "first" "I",
  .fieldLink RX5 27 "DrawerSlips$Slip" "many" "I",
  .fieldLink RX5 30 "DrawerSlips$Slip" "came" "I",
  .fieldLink RX5 33 "DrawerSlips$Slip" "joins" "I",
  .code yX2_copyFrom cX2_copyFrom 2 none,
  .fieldLink RX2 25 "DrawerSlips$Lately" "served" "I",
  .code yX0_copyFrom cX0_copyFrom 4 none,
  .fieldLink RX0 47 "DrawerSlips$Archive" "readsWaiting" "I",
  .fieldLink RX0 51 "DrawerSlips$Archive" "writesWaiting" "I",
  .fieldLink RX0 54 "DrawerSlips$Archive" "nextNumber" "I",
  .fieldLink RX0 57 "DrawerSlips$Archive" "now" "I",
  .fieldLink RX0 60 "DrawerSlips$Archive" "arm" "I",
  .fieldLink RX0 63 "DrawerSlips$Archive" "longestWait" "I",
  .fieldLink RX0 66 "DrawerSlips$Archive" "drawersGone" "I",
  .fieldLink RX0 69 "DrawerSlips$Archive" "batches" "I",
  .fieldLink RX0 72 "DrawerSlips$Archive" "batchSort" "I",
  .fieldLink RX0 75 "DrawerSlips$Archive" "batchSlips" "I",
  .fieldLink RX0 78 "DrawerSlips$Archive" "readsAhead" "I",
  .instanceMethod yX5_copyFrom,
  .selects RX5 yX5_copyFrom yX5_copyFrom,
  .instanceMethod yX2_copyFrom,
  .selects RX2 yX2_copyFrom yX2_copyFrom,
  .code yX7_isIndexOf cX7_isIndexOf 2 (some .boolean),
  .code yX7_valueAt cX7_valueAt 2 (some .int),
  .code yX0_adjust cX0_adjust 4 (some .int),
  .static yX7_isIndexOf,
  .static yX7_valueAt,
  .code yX7_isSlip cX7_isSlip 3 (some .boolean),
  .code yX5_isOfSort cX5_isOfSort 2 (some .boolean),
  .code yX5_last cX5_last 1 (some .int),
  .code yX0_hostFor cX0_hostFor 7 (some (.object "DrawerSlips$Slip")),
  .instanceMethod yX5_isOfSort,
  .selects RX5 yX5_isOfSort yX5_isOfSort,
  .instanceMethod yX5_last,
  .selects RX5 yX5_last yX5_last,
  .code yX0_freePlace cX0_freePlace 2 (some (.object "DrawerSlips$Slip")),
  .code yX0_countWaiting cX0_countWaiting 3 none,
  .code yX0_accept cX0_accept 6 (some .int),
  .static yX7_isSlip,
  .methodLink RX0 99 yX0_hostFor,
  .instanceMethod yX0_hostFor,
  .selects RX0 yX0_hostFor yX0_hostFor,
  .initialized RX0,
  .methodLink RX0 112 yX0_freePlace,
  .instanceMethod yX0_freePlace,
  .selects RX0 yX0_freePlace yX0_freePlace,
  .methodLink RX0 129 yX0_countWaiting,
  .instanceMethod yX0_countWaiting,
  .selects RX0 yX0_countWaiting yX0_countWaiting,
  .code yX0_find cX0_find 3 (some (.object "DrawerSlips$Slip")),
  .code yX0_remove cX0_remove 2 none,
  .code yX0_age cX0_age 2 (some .int),
  .code yX0_tearUp cX0_tearUp 3 (some .int),
  .methodLink RX0 133 yX0_find,
  .instanceMethod yX0_find,
  .selects RX0 yX0_find yX0_find,
  .methodLink RX0 137 yX0_remove,
  .instanceMethod yX0_remove,
  .selects RX0 yX0_remove yX0_remove,
  .methodLink RX0 140 yX0_age,
  .instanceMethod yX0_age,
  .selects RX0 yX0_age yX0_age,
  .code yX0_stand cX0_stand 2 (some .int),
  .constant RX0 144 (99999),
  .code yX0_slipsThatWait cX0_slipsThatWait 1 (some .int),
  .code yX5_isAheadOf cX5_isAheadOf 2 (some .boolean),
  .code yX0_slipsAheadOf cX0_slipsAheadOf 4 (some .int),
  .instanceMethod yX5_isAheadOf,
  .selects RX5 yX5_isAheadOf yX5_isAheadOf,
  .code yX0_ranked cX0_ranked 4 (some (.object "DrawerSlips$Slip")),
  .methodLink RX0 153 yX0_slipsAheadOf,
  .instanceMethod yX0_slipsAheadOf,
  .selects RX0 yX0_slipsAheadOf yX0_slipsAheadOf,
  .code yX0_isTooOld cX0_isTooOld 2 (some .boolean),
  .code yX0_amount cX0_amount 2 (some .int),
  .code yX0_leastFrom cX0_leastFrom 5 (some (.object "DrawerSlips$Slip")),
  .code yX0_newSort cX0_newSort 1 (some .int),
  .code yX0_oldest cX0_oldest 4 (some (.object "DrawerSlips$Slip")),
  .code yX0_reason cX0_reason 4 (some .int),
  .methodLink RX0 163 yX0_leastFrom,
  .instanceMethod yX0_leastFrom,
  .selects RX0 yX0_leastFrom yX0_leastFrom,
  .methodLink RX0 167 yX0_newSort,
  .instanceMethod yX0_newSort,
  .selects RX0 yX0_newSort yX0_newSort,
  .methodLink RX0 170 yX0_oldest,
  .instanceMethod yX0_oldest,
  .selects RX0 yX0_oldest yX0_oldest,
  .methodLink RX0 173 yX0_isTooOld,
  .instanceMethod yX0_isTooOld,
  .selects RX0 yX0_isTooOld yX0_isTooOld,
  .code yX0_chosen cX0_chosen 2 (some (.object "DrawerSlips$Slip")),
  .code yX0_drawersTo cX0_drawersTo 2 (some .int),
  .methodLink RX0 176 Lib.Math.abs.name,
  .static Lib.Math.abs.name,
  .initialized "java/lang/Math",
  .code Lib.Math.abs.name Lib.Math.abs.code 1 (some .int),
  .code yX0_minutesFor cX0_minutesFor 2 (some .int),
  .methodLink RX0 182 yX0_drawersTo,
  .instanceMethod yX0_drawersTo,
  .selects RX0 yX0_drawersTo yX0_drawersTo,
  .code yX0_beginBatch cX0_beginBatch 2 none,
  .code yX2_append cX2_append 5 none,
  .code yX0_serveNext cX0_serveNext 3 none,
  .methodLink RX0 198 Lib.Math.min.name,
  .static Lib.Math.min.name,
  .code Lib.Math.min.name Lib.Math.min.code 2 (some .int),
  .methodLink RX0 202 Lib.Math.max.name,
  .static Lib.Math.max.name,
  .code Lib.Math.max.name Lib.Math.max.code 2 (some .int),
  .methodLink RX0 185 yX0_reason,
  .instanceMethod yX0_reason,
  .selects RX0 yX0_reason yX0_reason,
  .methodLink RX0 188 yX0_chosen,
  .instanceMethod yX0_chosen,
  .selects RX0 yX0_chosen yX0_chosen,
  .methodLink RX0 191 yX0_beginBatch,
  .instanceMethod yX0_beginBatch,
  .selects RX0 yX0_beginBatch yX0_beginBatch,
  .methodLink RX0 195 yX0_minutesFor,
  .instanceMethod yX0_minutesFor,
  .selects RX0 yX0_minutesFor yX0_minutesFor,
  .instanceMethod yX2_append,
  .selects RX2 yX2_append yX2_append,
  .code yX1_init cX1_init 2 none,
  .methodLink RX1 3 objectInit,
  .classLink RX1 9 RX0,
  .fieldLink RX1 11 "DrawerSlips$History" "states" "[LDrawerSlips$Archive;",
  .instantiable RX0 14,
  .instanceMethod yX0_init,
  .code yX1_stateAt cX1_stateAt 2 (some (.object "DrawerSlips$Archive")),
  .code yX1_prepare cX1_prepare 3 none,
  .fieldLink RX1 16 "DrawerSlips$History" "place" "I",
  .methodLink RX1 20 yX1_stateAt,
  .instanceMethod yX1_stateAt,
  .selects RX1 yX1_stateAt yX1_stateAt,
  .initialized RX1,
  .instanceMethod yX0_copyFrom,
  .selects RX0 yX0_copyFrom yX0_copyFrom,
  .code yX1_keep cX1_keep 1 none,
  .fieldLink RX1 28 "DrawerSlips$History" "kept" "I",
  .methodLink RX1 31 Lib.Math.min.name,
  .code yX2_init cX2_init 1 none,
  .code yX2_has cX2_has 2 (some .boolean),
  .code yX2_place cX2_place 2 (some .int),
  .code yX2_numberOf cX2_numberOf 2 (some .int),
  .methodLink RX2 33 yX2_place,
  .instanceMethod yX2_place,
  .selects RX2 yX2_place yX2_place,
  .code yX2_waitOf cX2_waitOf 2 (some .int),
  .code yX2_sortOf cX2_sortOf 2 (some .int),
  .code yX3_init cX3_init 1 none,
  .methodLink RX3 3 objectInit,
  .fieldLink RX3 11 "DrawerSlips$Pad" "signs" "[I",
  .code yX2_init cX2_init 1 none,
  .code yX2_init cX2_init 1 none,
  .code yX2_init cX2_init 1 none,
  .code yX2_init cX2_init 1 none,
  .code yX2_init cX2_init 1 none,
  .code yX2_init cX2_init 1 none,
  .code yX2_init cX2_init 1 none,
  .initialized RX3,
  .code yX2_init cX2_init 1 none,
  .code yX2_init cX2_init 1 none,
  .code yX2_init cX2_init 1 none,
  .code yX2_init cX2_init 1 none,
  .code yX4_init cX4_init 2 none,
  .methodLink RX4 3 objectInit,
  .fieldLink RX4 9 "DrawerSlips$Reader" "pad" "LDrawerSlips$Pad;",
  .code yX2_init cX2_init 1 none,
  .code yX2_init cX2_init 1 none,
  .code yX2_init cX2_init 1 none,
  .code yX2_init cX2_init 1 none,
  .code yX2_init cX2_init 1 none,
  .code yX2_init cX2_init 1 none,
  .code yX2_init cX2_init 1 none,
  .code yX2_init cX2_init 1 none,
  .code yX2_init cX2_init 1 none,
  .code yX2_init cX2_init 1 none,
  .code yX2_init cX2_init 1 none,
  .initialized RX4,
  .code yX2_init cX2_init 1 none,
  .code yX2_init cX2_init 1 none,
  .code yX2_init cX2_init 1 none,
  .code yX2_init cX2_init 1 none,
  .code yX2_init cX2_init 1 none,
  .code yX2_init cX2_init 1 none,
  .code yX2_init cX2_init 1 none,
  .code yX2_init cX2_init 1 none,
  .code yX2_init cX2_init 1 none,
  .code yX2_init cX2_init 1 none,
  .code yX2_init cX2_init 1 none,
  .code yX2_init cX2_init 1 none,
  .code yX2_init cX2_init 1 none,
  .code yX2_init cX2_init 1 none,
  .code yX2_init cX2_init 1 none,
  .code yX2_init cX2_init 1 none,
  .code yX2_init cX2_init 1 none,
  .code yX2_init cX2_init 1 none,
  .code yX2_init cX2_init 1 none,
  .code yX2_init cX2_init 1 none,
  .code yX2_init cX2_init 1 none,
  .code yX2_init cX2_init 1 none,
  .code yX2_init cX2_init 1 none,
  .code yX2_init cX2_init 1 none,
  .code yX6_init cX6_init 1 none,
  .methodLink RX6 1 objectInit,
  .classLink RX6 7 RX0,
  .fieldLink RX6 10 "DrawerSlips$Slot" "state" "LDrawerSlips$Archive;",
  .code yX7_init cX7_init 1 none,
  .methodLink RX7 1 objectInit,
  .classLink RX7 7 RX0,
  .fieldLink RX7 10 "DrawerSlips" "archive" "LDrawerSlips$Archive;",
  .fieldLink RX7 16 "DrawerSlips" "trial" "LDrawerSlips$Archive;",
  .classLink RX7 19 RX1,
  .instantiable RX1 3,
  .fieldLink RX7 22 "DrawerSlips" "history" "LDrawerSlips$History;",
  .classLink RX7 26 RX6,
  .instantiable RX6 2,
  .initialized RX6,
  .fieldLink RX7 29 "DrawerSlips" "firstSlot" "LDrawerSlips$Slot;",
  .fieldLink RX7 33 "DrawerSlips" "secondSlot" "LDrawerSlips$Slot;",
  .classLink RX7 36 RX3,
  .instantiable RX3 2,
  .fieldLink RX7 39 "DrawerSlips" "pad" "LDrawerSlips$Pad;",
  .classLink RX7 43 RX4,
  .instantiable RX4 5,
  .fieldLink RX7 48 "DrawerSlips" "reader" "LDrawerSlips$Reader;",
  .instanceMethod yX1_init,
  .instanceMethod yX6_init,
  .instanceMethod yX3_init,
  .instanceMethod yX4_init,
  .code yX7_settled cX7_settled 2 (some .int),
  .instanceMethod yX1_keep,
  .selects RX1 yX1_keep yX1_keep,
  .code yX7_set cX7_set 3 (some .int),
  .instanceMethod yX1_prepare,
  .selects RX1 yX1_prepare yX1_prepare,
  .instanceMethod yX0_adjust,
  .selects RX0 yX0_adjust yX0_adjust,
  .methodLink RX7 60 yX7_settled,
  .instanceMethod yX7_settled,
  .selects RX7 yX7_settled yX7_settled,
  .code yX7_slip cX7_slip 4 (some .int),
  .instanceMethod yX0_accept,
  .selects RX0 yX0_accept yX0_accept,
  .code yX7_tear cX7_tear 2 (some .int),
  .instanceMethod yX0_tearUp,
  .selects RX0 yX0_tearUp yX0_tearUp,
  .code yX7_serveSlips cX7_serveSlips 4 (some .int),
  .methodLink RX7 84 Lib.Math.min.name,
  .constant RX7 99 (99999),
  .instanceMethod yX0_slipsThatWait,
  .selects RX0 yX0_slipsThatWait yX0_slipsThatWait,
  .instanceMethod yX0_serveNext,
  .selects RX0 yX0_serveNext yX0_serveNext,
  .code yX7_serve cX7_serve 2 (some .int),
  .methodLink RX7 71 yX7_serveSlips,
  .instanceMethod yX7_serveSlips,
  .selects RX7 yX7_serveSlips yX7_serveSlips,
  .code yX7_pass cX7_pass 2 (some .int),
  .instanceMethod yX0_stand,
  .selects RX0 yX0_stand yX0_stand,
  .code yX7_of cX7_of 4 (some .int),
  .code yX7_waiting cX7_waiting 4 (some .int),
  .instanceMethod yX0_ranked,
  .selects RX0 yX0_ranked yX0_ranked,
  .code yX7_log cX7_log 3 (some .int),
  .instanceMethod yX2_has,
  .selects RX2 yX2_has yX2_has,
  .instanceMethod yX2_numberOf,
  .selects RX2 yX2_numberOf yX2_numberOf,
  .instanceMethod yX2_waitOf,
  .selects RX2 yX2_waitOf yX2_waitOf,
  .instanceMethod yX2_sortOf,
  .selects RX2 yX2_sortOf yX2_sortOf,
  .code yX7_count cX7_count 2 (some .int),
  .instanceMethod yX0_amount,
  .selects RX0 yX0_amount yX0_amount,
  .code yX7_next cX7_next 4 (some .int),
  .code yX7_servedIn cX7_servedIn 3 (some .int),
  .code yX7_all cX7_all 4 (some .int),
  .code yX7_joined cX7_joined 5 (some .int),
  .methodLink RX7 176 yX7_isSlip,
  .code yX2_init cX2_init 1 none,
  .code yX2_init cX2_init 1 none,
  .code yX2_init cX2_init 1 none,
  .code yX2_init cX2_init 1 none,
  .code yX2_init cX2_init 1 none,
  .code yX2_init cX2_init 1 none,
  .code yX2_init cX2_init 1 none,
  .code yX2_init cX2_init 1 none,
  .code yX2_init cX2_init 1 none,
  .code yX2_init cX2_init 1 none,
  .code yX2_init cX2_init 1 none,
  .code yX2_init cX2_init 1 none,
  .code yX2_init cX2_init 1 none,
  .code yX2_init cX2_init 1 none,
  .code yX2_init cX2_init 1 none,
  .code yX2_init cX2_init 1 none,
  .code yX2_init cX2_init 1 none,
  .code yX2_init cX2_init 1 none,
  .code yX2_init cX2_init 1 none,
  .code yX2_init cX2_init 1 none,
  .code yX2_init cX2_init 1 none,
  .code yX2_init cX2_init 1 none,
  .code yX2_init cX2_init 1 none,
  .code yJ9_abs_0f7a4 cJ9_abs_0f7a4 1 (some .int),
  .code yJ9_max_7cf53 cJ9_max_7cf53 2 (some .int),
  .code yJ9_min_7cf53 cJ9_min_7cf53 2 (some .int)] ++ (wsX00 ++ wsX10 ++ wsX20 ++ wsX30 ++ wsX40 ++ wsX50 ++ wsX60 ++ wsX70)
def wsG : List Cond := [.code yL_cell cL_cell 2 (some .int),
  .constant RL 7 (16810009),
  .code yL_low cL_low 2 (some .int),
  .constant RL 8 (2147483647),
  .code yL_far cL_far 2 (some .int),
  .code yL_lowest cL_lowest 5 (some .int),
  .methodLink RL 9 yX7_count,
  .instanceMethod yX7_count,
  .selects RX7 yX7_count yX7_count,
  .methodLink RL 15 yX7_waiting,
  .instanceMethod yX7_waiting,
  .selects RX7 yX7_waiting yX7_waiting,
  .methodLink RL 19 yX7_of,
  .instanceMethod yX7_of,
  .selects RX7 yX7_of yX7_of,
  .code yL_oldest cL_oldest 6 (some .int),
  .code yL_inOrder cL_inOrder 8 (some .boolean),
  .code yL_next cL_next 7 (some .int),
  .methodLink RL 22 yX7_next,
  .instanceMethod yX7_next,
  .selects RX7 yX7_next yX7_next,
  .methodLink RL 25 yL_lowest,
  .static yL_lowest,
  .initialized RL,
  .methodLink RL 31 yL_oldest,
  .static yL_oldest,
  .code yL_served cL_served 19 (some .int),
  .methodLink RL 35 yL_next,
  .static yL_next,
  .methodLink RL 37 yX7_serve,
  .instanceMethod yX7_serve,
  .selects RX7 yX7_serve yX7_serve,
  .methodLink RL 40 yL_far,
  .static yL_far,
  .methodLink RL 43 yX7_servedIn,
  .instanceMethod yX7_servedIn,
  .selects RX7 yX7_servedIn yX7_servedIn,
  .methodLink RL 46 yX7_log,
  .instanceMethod yX7_log,
  .selects RX7 yX7_log yX7_log,
  .code yL_comes cL_comes 9 (some .boolean),
  .methodLink RL 49 yX7_joined,
  .instanceMethod yX7_joined,
  .selects RX7 yX7_joined yX7_joined,
  .methodLink RL 53 yX7_slip,
  .instanceMethod yX7_slip,
  .selects RX7 yX7_slip yX7_slip] ++ wsC
theorem wsC_all : wsC.all goodWord = true := by decide +kernel
theorem wsG_all : wsG.all goodWord = true := by decide +kernel
theorem uC_0 : (.code yX2_init cX2_init 1 none : Cond) ∈ wsC := List.mem_of_getElem? (i := 0) rfl
theorem uC_1 : (.methodLink RX2 1 objectInit : Cond) ∈ wsC := List.mem_of_getElem? (i := 1) rfl
theorem uC_2 : (.instanceMethod objectInit : Cond) ∈ wsC := List.mem_of_getElem? (i := 2) rfl
theorem uC_3 : (.code objectInit ⟨#[0xb1]⟩ 1 none : Cond) ∈ wsC := List.mem_of_getElem? (i := 3) rfl
theorem uC_4 : (.arrayClass .int : Cond) ∈ wsC := List.mem_of_getElem? (i := 4) rfl
theorem uC_5 : (.fieldLink RX2 9 "DrawerSlips$Lately" "numbers" "[I" : Cond) ∈ wsC := List.mem_of_getElem? (i := 5) rfl
theorem uC_6 : (.fieldLink RX2 13 "DrawerSlips$Lately" "waits" "[I" : Cond) ∈ wsC := List.mem_of_getElem? (i := 6) rfl
theorem uC_7 : (.fieldLink RX2 16 "DrawerSlips$Lately" "sorts" "[I" : Cond) ∈ wsC := List.mem_of_getElem? (i := 7) rfl
theorem uC_8 : (.code yX7_copyRow cX7_copyRow 3 none : Cond) ∈ wsC := List.mem_of_getElem? (i := 8) rfl
theorem uC_9 : (.code yX5_init cX5_init 2 none : Cond) ∈ wsC := List.mem_of_getElem? (i := 9) rfl
theorem uC_10 : (.methodLink RX5 1 objectInit : Cond) ∈ wsC := List.mem_of_getElem? (i := 10) rfl
theorem uC_11 : (.fieldLink RX5 7 "DrawerSlips$Slip" "rest" "LDrawerSlips$Slip;" : Cond) ∈ wsC := List.mem_of_getElem? (i := 11) rfl
theorem uC_12 : (.code yX0_init cX0_init 3 none : Cond) ∈ wsC := List.mem_of_getElem? (i := 12) rfl
theorem uC_13 : (.methodLink RX0 3 objectInit : Cond) ∈ wsC := List.mem_of_getElem? (i := 13) rfl
theorem uC_14 : (.fieldLink RX0 13 "DrawerSlips$Archive" "settings" "[I" : Cond) ∈ wsC := List.mem_of_getElem? (i := 14) rfl
theorem uC_15 : (.classLink RX0 18 RX2 : Cond) ∈ wsC := List.mem_of_getElem? (i := 15) rfl
theorem uC_16 : (.instantiable RX2 4 : Cond) ∈ wsC := List.mem_of_getElem? (i := 16) rfl
theorem uC_17 : (.initialized RX2 : Cond) ∈ wsC := List.mem_of_getElem? (i := 17) rfl
theorem uC_18 : (.fieldLink RX0 21 "DrawerSlips$Archive" "lately" "LDrawerSlips$Lately;" : Cond) ∈ wsC := List.mem_of_getElem? (i := 18) rfl
theorem uC_19 : (.classLink RX0 29 RX5 : Cond) ∈ wsC := List.mem_of_getElem? (i := 19) rfl
theorem uC_20 : (.instantiable RX5 8 : Cond) ∈ wsC := List.mem_of_getElem? (i := 20) rfl
theorem uC_21 : (.initialized RX5 : Cond) ∈ wsC := List.mem_of_getElem? (i := 21) rfl
theorem uC_22 : (.fieldLink RX0 34 "DrawerSlips$Archive" "places" "LDrawerSlips$Slip;" : Cond) ∈ wsC := List.mem_of_getElem? (i := 22) rfl
theorem uC_23 : (.instanceMethod yX2_init : Cond) ∈ wsC := List.mem_of_getElem? (i := 23) rfl
theorem uC_24 : (.static yX7_copyRow : Cond) ∈ wsC := List.mem_of_getElem? (i := 24) rfl
theorem uC_25 : (.initialized RX7 : Cond) ∈ wsC := List.mem_of_getElem? (i := 25) rfl
theorem uC_26 : (.instanceMethod yX5_init : Cond) ∈ wsC := List.mem_of_getElem? (i := 26) rfl
theorem uC_27 : (.code yX5_copyFrom cX5_copyFrom 2 none : Cond) ∈ wsC := List.mem_of_getElem? (i := 27) rfl
theorem uC_28 : (.fieldLink RX5 13 "DrawerSlips$Slip" "waits" "Z" : Cond) ∈ wsC := List.mem_of_getElem? (i := 28) rfl
theorem uC_29 : (.fieldLink RX5 17 "DrawerSlips$Slip" "number" "I" : Cond) ∈ wsC := List.mem_of_getElem? (i := 29) rfl
theorem uC_30 : (.fieldLink RX5 21 "DrawerSlips$Slip" "writes" "I" : Cond) ∈ wsC := List.mem_of_getElem? (i := 30) rfl
theorem uC_31 : (.fieldLink RX5 24 "DrawerSlips$Slip" "first" "I" : Cond) ∈ wsC := List.mem_of_getElem? (i := 31) rfl
theorem uC_32 : (.fieldLink RX5 27 "DrawerSlips$Slip" "many" "I" : Cond) ∈ wsC := List.mem_of_getElem? (i := 32) rfl
theorem uC_33 : (.fieldLink RX5 30 "DrawerSlips$Slip" "came" "I" : Cond) ∈ wsC := List.mem_of_getElem? (i := 33) rfl
theorem uC_34 : (.fieldLink RX5 33 "DrawerSlips$Slip" "joins" "I" : Cond) ∈ wsC := List.mem_of_getElem? (i := 34) rfl
theorem uC_35 : (.code yX2_copyFrom cX2_copyFrom 2 none : Cond) ∈ wsC := List.mem_of_getElem? (i := 35) rfl
theorem uC_36 : (.fieldLink RX2 25 "DrawerSlips$Lately" "served" "I" : Cond) ∈ wsC := List.mem_of_getElem? (i := 36) rfl
theorem uC_37 : (.code yX0_copyFrom cX0_copyFrom 4 none : Cond) ∈ wsC := List.mem_of_getElem? (i := 37) rfl
theorem uC_38 : (.fieldLink RX0 47 "DrawerSlips$Archive" "readsWaiting" "I" : Cond) ∈ wsC := List.mem_of_getElem? (i := 38) rfl
theorem uC_39 : (.fieldLink RX0 51 "DrawerSlips$Archive" "writesWaiting" "I" : Cond) ∈ wsC := List.mem_of_getElem? (i := 39) rfl
theorem uC_40 : (.fieldLink RX0 54 "DrawerSlips$Archive" "nextNumber" "I" : Cond) ∈ wsC := List.mem_of_getElem? (i := 40) rfl
theorem uC_41 : (.fieldLink RX0 57 "DrawerSlips$Archive" "now" "I" : Cond) ∈ wsC := List.mem_of_getElem? (i := 41) rfl
theorem uC_42 : (.fieldLink RX0 60 "DrawerSlips$Archive" "arm" "I" : Cond) ∈ wsC := List.mem_of_getElem? (i := 42) rfl
theorem uC_43 : (.fieldLink RX0 63 "DrawerSlips$Archive" "longestWait" "I" : Cond) ∈ wsC := List.mem_of_getElem? (i := 43) rfl
theorem uC_44 : (.fieldLink RX0 66 "DrawerSlips$Archive" "drawersGone" "I" : Cond) ∈ wsC := List.mem_of_getElem? (i := 44) rfl
theorem uC_45 : (.fieldLink RX0 69 "DrawerSlips$Archive" "batches" "I" : Cond) ∈ wsC := List.mem_of_getElem? (i := 45) rfl
theorem uC_46 : (.fieldLink RX0 72 "DrawerSlips$Archive" "batchSort" "I" : Cond) ∈ wsC := List.mem_of_getElem? (i := 46) rfl
theorem uC_47 : (.fieldLink RX0 75 "DrawerSlips$Archive" "batchSlips" "I" : Cond) ∈ wsC := List.mem_of_getElem? (i := 47) rfl
theorem uC_48 : (.fieldLink RX0 78 "DrawerSlips$Archive" "readsAhead" "I" : Cond) ∈ wsC := List.mem_of_getElem? (i := 48) rfl
theorem uC_49 : (.instanceMethod yX5_copyFrom : Cond) ∈ wsC := List.mem_of_getElem? (i := 49) rfl
theorem uC_50 : (.selects RX5 yX5_copyFrom yX5_copyFrom : Cond) ∈ wsC := List.mem_of_getElem? (i := 50) rfl
theorem uC_51 : (.instanceMethod yX2_copyFrom : Cond) ∈ wsC := List.mem_of_getElem? (i := 51) rfl
theorem uC_52 : (.selects RX2 yX2_copyFrom yX2_copyFrom : Cond) ∈ wsC := List.mem_of_getElem? (i := 52) rfl
theorem uC_53 : (.code yX7_isIndexOf cX7_isIndexOf 2 (some .boolean) : Cond) ∈ wsC := List.mem_of_getElem? (i := 53) rfl
theorem uC_54 : (.code yX7_valueAt cX7_valueAt 2 (some .int) : Cond) ∈ wsC := List.mem_of_getElem? (i := 54) rfl
theorem uC_55 : (.code yX0_adjust cX0_adjust 4 (some .int) : Cond) ∈ wsC := List.mem_of_getElem? (i := 55) rfl
theorem uC_56 : (.static yX7_isIndexOf : Cond) ∈ wsC := List.mem_of_getElem? (i := 56) rfl
theorem uC_57 : (.static yX7_valueAt : Cond) ∈ wsC := List.mem_of_getElem? (i := 57) rfl
theorem uC_58 : (.code yX7_isSlip cX7_isSlip 3 (some .boolean) : Cond) ∈ wsC := List.mem_of_getElem? (i := 58) rfl
theorem uC_59 : (.code yX5_isOfSort cX5_isOfSort 2 (some .boolean) : Cond) ∈ wsC := List.mem_of_getElem? (i := 59) rfl
theorem uC_60 : (.code yX5_last cX5_last 1 (some .int) : Cond) ∈ wsC := List.mem_of_getElem? (i := 60) rfl
theorem uC_61 : (.code yX0_hostFor cX0_hostFor 7 (some (.object "DrawerSlips$Slip")) : Cond) ∈ wsC := List.mem_of_getElem? (i := 61) rfl
theorem uC_62 : (.instanceMethod yX5_isOfSort : Cond) ∈ wsC := List.mem_of_getElem? (i := 62) rfl
theorem uC_63 : (.selects RX5 yX5_isOfSort yX5_isOfSort : Cond) ∈ wsC := List.mem_of_getElem? (i := 63) rfl
theorem uC_64 : (.instanceMethod yX5_last : Cond) ∈ wsC := List.mem_of_getElem? (i := 64) rfl
theorem uC_65 : (.selects RX5 yX5_last yX5_last : Cond) ∈ wsC := List.mem_of_getElem? (i := 65) rfl
theorem uC_66 : (.code yX0_freePlace cX0_freePlace 2 (some (.object "DrawerSlips$Slip")) : Cond) ∈ wsC := List.mem_of_getElem? (i := 66) rfl
theorem uC_67 : (.code yX0_countWaiting cX0_countWaiting 3 none : Cond) ∈ wsC := List.mem_of_getElem? (i := 67) rfl
theorem uC_68 : (.code yX0_accept cX0_accept 6 (some .int) : Cond) ∈ wsC := List.mem_of_getElem? (i := 68) rfl
theorem uC_69 : (.static yX7_isSlip : Cond) ∈ wsC := List.mem_of_getElem? (i := 69) rfl
theorem uC_70 : (.methodLink RX0 99 yX0_hostFor : Cond) ∈ wsC := List.mem_of_getElem? (i := 70) rfl
theorem uC_71 : (.instanceMethod yX0_hostFor : Cond) ∈ wsC := List.mem_of_getElem? (i := 71) rfl
theorem uC_72 : (.selects RX0 yX0_hostFor yX0_hostFor : Cond) ∈ wsC := List.mem_of_getElem? (i := 72) rfl
theorem uC_73 : (.initialized RX0 : Cond) ∈ wsC := List.mem_of_getElem? (i := 73) rfl
theorem uC_74 : (.methodLink RX0 112 yX0_freePlace : Cond) ∈ wsC := List.mem_of_getElem? (i := 74) rfl
theorem uC_75 : (.instanceMethod yX0_freePlace : Cond) ∈ wsC := List.mem_of_getElem? (i := 75) rfl
theorem uC_76 : (.selects RX0 yX0_freePlace yX0_freePlace : Cond) ∈ wsC := List.mem_of_getElem? (i := 76) rfl
theorem uC_77 : (.methodLink RX0 129 yX0_countWaiting : Cond) ∈ wsC := List.mem_of_getElem? (i := 77) rfl
theorem uC_78 : (.instanceMethod yX0_countWaiting : Cond) ∈ wsC := List.mem_of_getElem? (i := 78) rfl
theorem uC_79 : (.selects RX0 yX0_countWaiting yX0_countWaiting : Cond) ∈ wsC := List.mem_of_getElem? (i := 79) rfl
theorem uC_80 : (.code yX0_find cX0_find 3 (some (.object "DrawerSlips$Slip")) : Cond) ∈ wsC := List.mem_of_getElem? (i := 80) rfl
theorem uC_81 : (.code yX0_remove cX0_remove 2 none : Cond) ∈ wsC := List.mem_of_getElem? (i := 81) rfl
theorem uC_82 : (.code yX0_age cX0_age 2 (some .int) : Cond) ∈ wsC := List.mem_of_getElem? (i := 82) rfl
theorem uC_83 : (.code yX0_tearUp cX0_tearUp 3 (some .int) : Cond) ∈ wsC := List.mem_of_getElem? (i := 83) rfl
theorem uC_84 : (.methodLink RX0 133 yX0_find : Cond) ∈ wsC := List.mem_of_getElem? (i := 84) rfl
theorem uC_85 : (.instanceMethod yX0_find : Cond) ∈ wsC := List.mem_of_getElem? (i := 85) rfl
theorem uC_86 : (.selects RX0 yX0_find yX0_find : Cond) ∈ wsC := List.mem_of_getElem? (i := 86) rfl
theorem uC_87 : (.methodLink RX0 137 yX0_remove : Cond) ∈ wsC := List.mem_of_getElem? (i := 87) rfl
theorem uC_88 : (.instanceMethod yX0_remove : Cond) ∈ wsC := List.mem_of_getElem? (i := 88) rfl
theorem uC_89 : (.selects RX0 yX0_remove yX0_remove : Cond) ∈ wsC := List.mem_of_getElem? (i := 89) rfl
theorem uC_90 : (.methodLink RX0 140 yX0_age : Cond) ∈ wsC := List.mem_of_getElem? (i := 90) rfl
theorem uC_91 : (.instanceMethod yX0_age : Cond) ∈ wsC := List.mem_of_getElem? (i := 91) rfl
theorem uC_92 : (.selects RX0 yX0_age yX0_age : Cond) ∈ wsC := List.mem_of_getElem? (i := 92) rfl
theorem uC_93 : (.code yX0_stand cX0_stand 2 (some .int) : Cond) ∈ wsC := List.mem_of_getElem? (i := 93) rfl
theorem uC_94 : (.constant RX0 144 (99999) : Cond) ∈ wsC := List.mem_of_getElem? (i := 94) rfl
theorem uC_95 : (.code yX0_slipsThatWait cX0_slipsThatWait 1 (some .int) : Cond) ∈ wsC := List.mem_of_getElem? (i := 95) rfl
theorem uC_96 : (.code yX5_isAheadOf cX5_isAheadOf 2 (some .boolean) : Cond) ∈ wsC := List.mem_of_getElem? (i := 96) rfl
theorem uC_97 : (.code yX0_slipsAheadOf cX0_slipsAheadOf 4 (some .int) : Cond) ∈ wsC := List.mem_of_getElem? (i := 97) rfl
theorem uC_98 : (.instanceMethod yX5_isAheadOf : Cond) ∈ wsC := List.mem_of_getElem? (i := 98) rfl
theorem uC_99 : (.selects RX5 yX5_isAheadOf yX5_isAheadOf : Cond) ∈ wsC := List.mem_of_getElem? (i := 99) rfl
theorem uC_100 : (.code yX0_ranked cX0_ranked 4 (some (.object "DrawerSlips$Slip")) : Cond) ∈ wsC := List.mem_of_getElem? (i := 100) rfl
theorem uC_101 : (.methodLink RX0 153 yX0_slipsAheadOf : Cond) ∈ wsC := List.mem_of_getElem? (i := 101) rfl
theorem uC_102 : (.instanceMethod yX0_slipsAheadOf : Cond) ∈ wsC := List.mem_of_getElem? (i := 102) rfl
theorem uC_103 : (.selects RX0 yX0_slipsAheadOf yX0_slipsAheadOf : Cond) ∈ wsC := List.mem_of_getElem? (i := 103) rfl
theorem uC_104 : (.code yX0_isTooOld cX0_isTooOld 2 (some .boolean) : Cond) ∈ wsC := List.mem_of_getElem? (i := 104) rfl
theorem uC_105 : (.code yX0_amount cX0_amount 2 (some .int) : Cond) ∈ wsC := List.mem_of_getElem? (i := 105) rfl
theorem uC_106 : (.code yX0_leastFrom cX0_leastFrom 5 (some (.object "DrawerSlips$Slip")) : Cond) ∈ wsC := List.mem_of_getElem? (i := 106) rfl
theorem uC_107 : (.code yX0_newSort cX0_newSort 1 (some .int) : Cond) ∈ wsC := List.mem_of_getElem? (i := 107) rfl
theorem uC_108 : (.code yX0_oldest cX0_oldest 4 (some (.object "DrawerSlips$Slip")) : Cond) ∈ wsC := List.mem_of_getElem? (i := 108) rfl
theorem uC_109 : (.code yX0_reason cX0_reason 4 (some .int) : Cond) ∈ wsC := List.mem_of_getElem? (i := 109) rfl
theorem uC_110 : (.methodLink RX0 163 yX0_leastFrom : Cond) ∈ wsC := List.mem_of_getElem? (i := 110) rfl
theorem uC_111 : (.instanceMethod yX0_leastFrom : Cond) ∈ wsC := List.mem_of_getElem? (i := 111) rfl
theorem uC_112 : (.selects RX0 yX0_leastFrom yX0_leastFrom : Cond) ∈ wsC := List.mem_of_getElem? (i := 112) rfl
theorem uC_113 : (.methodLink RX0 167 yX0_newSort : Cond) ∈ wsC := List.mem_of_getElem? (i := 113) rfl
theorem uC_114 : (.instanceMethod yX0_newSort : Cond) ∈ wsC := List.mem_of_getElem? (i := 114) rfl
theorem uC_115 : (.selects RX0 yX0_newSort yX0_newSort : Cond) ∈ wsC := List.mem_of_getElem? (i := 115) rfl
theorem uC_116 : (.methodLink RX0 170 yX0_oldest : Cond) ∈ wsC := List.mem_of_getElem? (i := 116) rfl
theorem uC_117 : (.instanceMethod yX0_oldest : Cond) ∈ wsC := List.mem_of_getElem? (i := 117) rfl
theorem uC_118 : (.selects RX0 yX0_oldest yX0_oldest : Cond) ∈ wsC := List.mem_of_getElem? (i := 118) rfl
theorem uC_119 : (.methodLink RX0 173 yX0_isTooOld : Cond) ∈ wsC := List.mem_of_getElem? (i := 119) rfl
theorem uC_120 : (.instanceMethod yX0_isTooOld : Cond) ∈ wsC := List.mem_of_getElem? (i := 120) rfl
theorem uC_121 : (.selects RX0 yX0_isTooOld yX0_isTooOld : Cond) ∈ wsC := List.mem_of_getElem? (i := 121) rfl
theorem uC_122 : (.code yX0_chosen cX0_chosen 2 (some (.object "DrawerSlips$Slip")) : Cond) ∈ wsC := List.mem_of_getElem? (i := 122) rfl
theorem uC_123 : (.code yX0_drawersTo cX0_drawersTo 2 (some .int) : Cond) ∈ wsC := List.mem_of_getElem? (i := 123) rfl
theorem uC_124 : (.methodLink RX0 176 Lib.Math.abs.name : Cond) ∈ wsC := List.mem_of_getElem? (i := 124) rfl
theorem uC_125 : (.static Lib.Math.abs.name : Cond) ∈ wsC := List.mem_of_getElem? (i := 125) rfl
theorem uC_126 : (.initialized "java/lang/Math" : Cond) ∈ wsC := List.mem_of_getElem? (i := 126) rfl
theorem uC_127 : (.code Lib.Math.abs.name Lib.Math.abs.code 1 (some .int) : Cond) ∈ wsC := List.mem_of_getElem? (i := 127) rfl
theorem uC_128 : (.code yX0_minutesFor cX0_minutesFor 2 (some .int) : Cond) ∈ wsC := List.mem_of_getElem? (i := 128) rfl
theorem uC_129 : (.methodLink RX0 182 yX0_drawersTo : Cond) ∈ wsC := List.mem_of_getElem? (i := 129) rfl
theorem uC_130 : (.instanceMethod yX0_drawersTo : Cond) ∈ wsC := List.mem_of_getElem? (i := 130) rfl
theorem uC_131 : (.selects RX0 yX0_drawersTo yX0_drawersTo : Cond) ∈ wsC := List.mem_of_getElem? (i := 131) rfl
theorem uC_132 : (.code yX0_beginBatch cX0_beginBatch 2 none : Cond) ∈ wsC := List.mem_of_getElem? (i := 132) rfl
theorem uC_133 : (.code yX2_append cX2_append 5 none : Cond) ∈ wsC := List.mem_of_getElem? (i := 133) rfl
theorem uC_134 : (.code yX0_serveNext cX0_serveNext 3 none : Cond) ∈ wsC := List.mem_of_getElem? (i := 134) rfl
theorem uC_135 : (.methodLink RX0 198 Lib.Math.min.name : Cond) ∈ wsC := List.mem_of_getElem? (i := 135) rfl
theorem uC_136 : (.static Lib.Math.min.name : Cond) ∈ wsC := List.mem_of_getElem? (i := 136) rfl
theorem uC_137 : (.code Lib.Math.min.name Lib.Math.min.code 2 (some .int) : Cond) ∈ wsC := List.mem_of_getElem? (i := 137) rfl
theorem uC_138 : (.methodLink RX0 202 Lib.Math.max.name : Cond) ∈ wsC := List.mem_of_getElem? (i := 138) rfl
theorem uC_139 : (.static Lib.Math.max.name : Cond) ∈ wsC := List.mem_of_getElem? (i := 139) rfl
theorem uC_140 : (.code Lib.Math.max.name Lib.Math.max.code 2 (some .int) : Cond) ∈ wsC := List.mem_of_getElem? (i := 140) rfl
theorem uC_141 : (.methodLink RX0 185 yX0_reason : Cond) ∈ wsC := List.mem_of_getElem? (i := 141) rfl
theorem uC_142 : (.instanceMethod yX0_reason : Cond) ∈ wsC := List.mem_of_getElem? (i := 142) rfl
theorem uC_143 : (.selects RX0 yX0_reason yX0_reason : Cond) ∈ wsC := List.mem_of_getElem? (i := 143) rfl
theorem uC_144 : (.methodLink RX0 188 yX0_chosen : Cond) ∈ wsC := List.mem_of_getElem? (i := 144) rfl
theorem uC_145 : (.instanceMethod yX0_chosen : Cond) ∈ wsC := List.mem_of_getElem? (i := 145) rfl
theorem uC_146 : (.selects RX0 yX0_chosen yX0_chosen : Cond) ∈ wsC := List.mem_of_getElem? (i := 146) rfl
theorem uC_147 : (.methodLink RX0 191 yX0_beginBatch : Cond) ∈ wsC := List.mem_of_getElem? (i := 147) rfl
theorem uC_148 : (.instanceMethod yX0_beginBatch : Cond) ∈ wsC := List.mem_of_getElem? (i := 148) rfl
theorem uC_149 : (.selects RX0 yX0_beginBatch yX0_beginBatch : Cond) ∈ wsC := List.mem_of_getElem? (i := 149) rfl
theorem uC_150 : (.methodLink RX0 195 yX0_minutesFor : Cond) ∈ wsC := List.mem_of_getElem? (i := 150) rfl
theorem uC_151 : (.instanceMethod yX0_minutesFor : Cond) ∈ wsC := List.mem_of_getElem? (i := 151) rfl
theorem uC_152 : (.selects RX0 yX0_minutesFor yX0_minutesFor : Cond) ∈ wsC := List.mem_of_getElem? (i := 152) rfl
theorem uC_153 : (.instanceMethod yX2_append : Cond) ∈ wsC := List.mem_of_getElem? (i := 153) rfl
theorem uC_154 : (.selects RX2 yX2_append yX2_append : Cond) ∈ wsC := List.mem_of_getElem? (i := 154) rfl
theorem uC_155 : (.code yX1_init cX1_init 2 none : Cond) ∈ wsC := List.mem_of_getElem? (i := 155) rfl
theorem uC_156 : (.methodLink RX1 3 objectInit : Cond) ∈ wsC := List.mem_of_getElem? (i := 156) rfl
theorem uC_157 : (.classLink RX1 9 RX0 : Cond) ∈ wsC := List.mem_of_getElem? (i := 157) rfl
theorem uC_158 : (.fieldLink RX1 11 "DrawerSlips$History" "states" "[LDrawerSlips$Archive;" : Cond) ∈ wsC := List.mem_of_getElem? (i := 158) rfl
theorem uC_159 : (.instantiable RX0 14 : Cond) ∈ wsC := List.mem_of_getElem? (i := 159) rfl
theorem uC_160 : (.instanceMethod yX0_init : Cond) ∈ wsC := List.mem_of_getElem? (i := 160) rfl
theorem uC_161 : (.code yX1_stateAt cX1_stateAt 2 (some (.object "DrawerSlips$Archive")) : Cond) ∈ wsC := List.mem_of_getElem? (i := 161) rfl
theorem uC_162 : (.code yX1_prepare cX1_prepare 3 none : Cond) ∈ wsC := List.mem_of_getElem? (i := 162) rfl
theorem uC_163 : (.fieldLink RX1 16 "DrawerSlips$History" "place" "I" : Cond) ∈ wsC := List.mem_of_getElem? (i := 163) rfl
theorem uC_164 : (.methodLink RX1 20 yX1_stateAt : Cond) ∈ wsC := List.mem_of_getElem? (i := 164) rfl
theorem uC_165 : (.instanceMethod yX1_stateAt : Cond) ∈ wsC := List.mem_of_getElem? (i := 165) rfl
theorem uC_166 : (.selects RX1 yX1_stateAt yX1_stateAt : Cond) ∈ wsC := List.mem_of_getElem? (i := 166) rfl
theorem uC_167 : (.initialized RX1 : Cond) ∈ wsC := List.mem_of_getElem? (i := 167) rfl
theorem uC_168 : (.instanceMethod yX0_copyFrom : Cond) ∈ wsC := List.mem_of_getElem? (i := 168) rfl
theorem uC_169 : (.selects RX0 yX0_copyFrom yX0_copyFrom : Cond) ∈ wsC := List.mem_of_getElem? (i := 169) rfl
theorem uC_170 : (.code yX1_keep cX1_keep 1 none : Cond) ∈ wsC := List.mem_of_getElem? (i := 170) rfl
theorem uC_171 : (.fieldLink RX1 28 "DrawerSlips$History" "kept" "I" : Cond) ∈ wsC := List.mem_of_getElem? (i := 171) rfl
theorem uC_172 : (.methodLink RX1 31 Lib.Math.min.name : Cond) ∈ wsC := List.mem_of_getElem? (i := 172) rfl
theorem uC_174 : (.code yX2_has cX2_has 2 (some .boolean) : Cond) ∈ wsC := List.mem_of_getElem? (i := 174) rfl
theorem uC_175 : (.code yX2_place cX2_place 2 (some .int) : Cond) ∈ wsC := List.mem_of_getElem? (i := 175) rfl
theorem uC_176 : (.code yX2_numberOf cX2_numberOf 2 (some .int) : Cond) ∈ wsC := List.mem_of_getElem? (i := 176) rfl
theorem uC_177 : (.methodLink RX2 33 yX2_place : Cond) ∈ wsC := List.mem_of_getElem? (i := 177) rfl
theorem uC_178 : (.instanceMethod yX2_place : Cond) ∈ wsC := List.mem_of_getElem? (i := 178) rfl
theorem uC_179 : (.selects RX2 yX2_place yX2_place : Cond) ∈ wsC := List.mem_of_getElem? (i := 179) rfl
theorem uC_180 : (.code yX2_waitOf cX2_waitOf 2 (some .int) : Cond) ∈ wsC := List.mem_of_getElem? (i := 180) rfl
theorem uC_181 : (.code yX2_sortOf cX2_sortOf 2 (some .int) : Cond) ∈ wsC := List.mem_of_getElem? (i := 181) rfl
theorem uC_182 : (.code yX3_init cX3_init 1 none : Cond) ∈ wsC := List.mem_of_getElem? (i := 182) rfl
theorem uC_183 : (.methodLink RX3 3 objectInit : Cond) ∈ wsC := List.mem_of_getElem? (i := 183) rfl
theorem uC_184 : (.fieldLink RX3 11 "DrawerSlips$Pad" "signs" "[I" : Cond) ∈ wsC := List.mem_of_getElem? (i := 184) rfl
theorem uC_192 : (.initialized RX3 : Cond) ∈ wsC := List.mem_of_getElem? (i := 192) rfl
theorem uC_197 : (.code yX4_init cX4_init 2 none : Cond) ∈ wsC := List.mem_of_getElem? (i := 197) rfl
theorem uC_198 : (.methodLink RX4 3 objectInit : Cond) ∈ wsC := List.mem_of_getElem? (i := 198) rfl
theorem uC_199 : (.fieldLink RX4 9 "DrawerSlips$Reader" "pad" "LDrawerSlips$Pad;" : Cond) ∈ wsC := List.mem_of_getElem? (i := 199) rfl
theorem uC_211 : (.initialized RX4 : Cond) ∈ wsC := List.mem_of_getElem? (i := 211) rfl
theorem uC_236 : (.code yX6_init cX6_init 1 none : Cond) ∈ wsC := List.mem_of_getElem? (i := 236) rfl
theorem uC_237 : (.methodLink RX6 1 objectInit : Cond) ∈ wsC := List.mem_of_getElem? (i := 237) rfl
theorem uC_238 : (.classLink RX6 7 RX0 : Cond) ∈ wsC := List.mem_of_getElem? (i := 238) rfl
theorem uC_239 : (.fieldLink RX6 10 "DrawerSlips$Slot" "state" "LDrawerSlips$Archive;" : Cond) ∈ wsC := List.mem_of_getElem? (i := 239) rfl
theorem uC_240 : (.code yX7_init cX7_init 1 none : Cond) ∈ wsC := List.mem_of_getElem? (i := 240) rfl
theorem uC_241 : (.methodLink RX7 1 objectInit : Cond) ∈ wsC := List.mem_of_getElem? (i := 241) rfl
theorem uC_242 : (.classLink RX7 7 RX0 : Cond) ∈ wsC := List.mem_of_getElem? (i := 242) rfl
theorem uC_243 : (.fieldLink RX7 10 "DrawerSlips" "archive" "LDrawerSlips$Archive;" : Cond) ∈ wsC := List.mem_of_getElem? (i := 243) rfl
theorem uC_244 : (.fieldLink RX7 16 "DrawerSlips" "trial" "LDrawerSlips$Archive;" : Cond) ∈ wsC := List.mem_of_getElem? (i := 244) rfl
theorem uC_245 : (.classLink RX7 19 RX1 : Cond) ∈ wsC := List.mem_of_getElem? (i := 245) rfl
theorem uC_246 : (.instantiable RX1 3 : Cond) ∈ wsC := List.mem_of_getElem? (i := 246) rfl
theorem uC_247 : (.fieldLink RX7 22 "DrawerSlips" "history" "LDrawerSlips$History;" : Cond) ∈ wsC := List.mem_of_getElem? (i := 247) rfl
theorem uC_248 : (.classLink RX7 26 RX6 : Cond) ∈ wsC := List.mem_of_getElem? (i := 248) rfl
theorem uC_249 : (.instantiable RX6 2 : Cond) ∈ wsC := List.mem_of_getElem? (i := 249) rfl
theorem uC_250 : (.initialized RX6 : Cond) ∈ wsC := List.mem_of_getElem? (i := 250) rfl
theorem uC_251 : (.fieldLink RX7 29 "DrawerSlips" "firstSlot" "LDrawerSlips$Slot;" : Cond) ∈ wsC := List.mem_of_getElem? (i := 251) rfl
theorem uC_252 : (.fieldLink RX7 33 "DrawerSlips" "secondSlot" "LDrawerSlips$Slot;" : Cond) ∈ wsC := List.mem_of_getElem? (i := 252) rfl
theorem uC_253 : (.classLink RX7 36 RX3 : Cond) ∈ wsC := List.mem_of_getElem? (i := 253) rfl
theorem uC_254 : (.instantiable RX3 2 : Cond) ∈ wsC := List.mem_of_getElem? (i := 254) rfl
theorem uC_255 : (.fieldLink RX7 39 "DrawerSlips" "pad" "LDrawerSlips$Pad;" : Cond) ∈ wsC := List.mem_of_getElem? (i := 255) rfl
theorem uC_256 : (.classLink RX7 43 RX4 : Cond) ∈ wsC := List.mem_of_getElem? (i := 256) rfl
theorem uC_257 : (.instantiable RX4 5 : Cond) ∈ wsC := List.mem_of_getElem? (i := 257) rfl
theorem uC_258 : (.fieldLink RX7 48 "DrawerSlips" "reader" "LDrawerSlips$Reader;" : Cond) ∈ wsC := List.mem_of_getElem? (i := 258) rfl
theorem uC_259 : (.instanceMethod yX1_init : Cond) ∈ wsC := List.mem_of_getElem? (i := 259) rfl
theorem uC_260 : (.instanceMethod yX6_init : Cond) ∈ wsC := List.mem_of_getElem? (i := 260) rfl
theorem uC_261 : (.instanceMethod yX3_init : Cond) ∈ wsC := List.mem_of_getElem? (i := 261) rfl
theorem uC_262 : (.instanceMethod yX4_init : Cond) ∈ wsC := List.mem_of_getElem? (i := 262) rfl
theorem uC_263 : (.code yX7_settled cX7_settled 2 (some .int) : Cond) ∈ wsC := List.mem_of_getElem? (i := 263) rfl
theorem uC_264 : (.instanceMethod yX1_keep : Cond) ∈ wsC := List.mem_of_getElem? (i := 264) rfl
theorem uC_265 : (.selects RX1 yX1_keep yX1_keep : Cond) ∈ wsC := List.mem_of_getElem? (i := 265) rfl
theorem uC_266 : (.code yX7_set cX7_set 3 (some .int) : Cond) ∈ wsC := List.mem_of_getElem? (i := 266) rfl
theorem uC_267 : (.instanceMethod yX1_prepare : Cond) ∈ wsC := List.mem_of_getElem? (i := 267) rfl
theorem uC_268 : (.selects RX1 yX1_prepare yX1_prepare : Cond) ∈ wsC := List.mem_of_getElem? (i := 268) rfl
theorem uC_269 : (.instanceMethod yX0_adjust : Cond) ∈ wsC := List.mem_of_getElem? (i := 269) rfl
theorem uC_270 : (.selects RX0 yX0_adjust yX0_adjust : Cond) ∈ wsC := List.mem_of_getElem? (i := 270) rfl
theorem uC_271 : (.methodLink RX7 60 yX7_settled : Cond) ∈ wsC := List.mem_of_getElem? (i := 271) rfl
theorem uC_272 : (.instanceMethod yX7_settled : Cond) ∈ wsC := List.mem_of_getElem? (i := 272) rfl
theorem uC_273 : (.selects RX7 yX7_settled yX7_settled : Cond) ∈ wsC := List.mem_of_getElem? (i := 273) rfl
theorem uC_274 : (.code yX7_slip cX7_slip 4 (some .int) : Cond) ∈ wsC := List.mem_of_getElem? (i := 274) rfl
theorem uC_275 : (.instanceMethod yX0_accept : Cond) ∈ wsC := List.mem_of_getElem? (i := 275) rfl
theorem uC_276 : (.selects RX0 yX0_accept yX0_accept : Cond) ∈ wsC := List.mem_of_getElem? (i := 276) rfl
theorem uC_277 : (.code yX7_tear cX7_tear 2 (some .int) : Cond) ∈ wsC := List.mem_of_getElem? (i := 277) rfl
theorem uC_278 : (.instanceMethod yX0_tearUp : Cond) ∈ wsC := List.mem_of_getElem? (i := 278) rfl
theorem uC_279 : (.selects RX0 yX0_tearUp yX0_tearUp : Cond) ∈ wsC := List.mem_of_getElem? (i := 279) rfl
theorem uC_280 : (.code yX7_serveSlips cX7_serveSlips 4 (some .int) : Cond) ∈ wsC := List.mem_of_getElem? (i := 280) rfl
theorem uC_281 : (.methodLink RX7 84 Lib.Math.min.name : Cond) ∈ wsC := List.mem_of_getElem? (i := 281) rfl
theorem uC_282 : (.constant RX7 99 (99999) : Cond) ∈ wsC := List.mem_of_getElem? (i := 282) rfl
theorem uC_283 : (.instanceMethod yX0_slipsThatWait : Cond) ∈ wsC := List.mem_of_getElem? (i := 283) rfl
theorem uC_284 : (.selects RX0 yX0_slipsThatWait yX0_slipsThatWait : Cond) ∈ wsC := List.mem_of_getElem? (i := 284) rfl
theorem uC_285 : (.instanceMethod yX0_serveNext : Cond) ∈ wsC := List.mem_of_getElem? (i := 285) rfl
theorem uC_286 : (.selects RX0 yX0_serveNext yX0_serveNext : Cond) ∈ wsC := List.mem_of_getElem? (i := 286) rfl
theorem uC_287 : (.code yX7_serve cX7_serve 2 (some .int) : Cond) ∈ wsC := List.mem_of_getElem? (i := 287) rfl
theorem uC_288 : (.methodLink RX7 71 yX7_serveSlips : Cond) ∈ wsC := List.mem_of_getElem? (i := 288) rfl
theorem uC_289 : (.instanceMethod yX7_serveSlips : Cond) ∈ wsC := List.mem_of_getElem? (i := 289) rfl
theorem uC_290 : (.selects RX7 yX7_serveSlips yX7_serveSlips : Cond) ∈ wsC := List.mem_of_getElem? (i := 290) rfl
theorem uC_291 : (.code yX7_pass cX7_pass 2 (some .int) : Cond) ∈ wsC := List.mem_of_getElem? (i := 291) rfl
theorem uC_292 : (.instanceMethod yX0_stand : Cond) ∈ wsC := List.mem_of_getElem? (i := 292) rfl
theorem uC_293 : (.selects RX0 yX0_stand yX0_stand : Cond) ∈ wsC := List.mem_of_getElem? (i := 293) rfl
theorem uC_294 : (.code yX7_of cX7_of 4 (some .int) : Cond) ∈ wsC := List.mem_of_getElem? (i := 294) rfl
theorem uC_295 : (.code yX7_waiting cX7_waiting 4 (some .int) : Cond) ∈ wsC := List.mem_of_getElem? (i := 295) rfl
theorem uC_296 : (.instanceMethod yX0_ranked : Cond) ∈ wsC := List.mem_of_getElem? (i := 296) rfl
theorem uC_297 : (.selects RX0 yX0_ranked yX0_ranked : Cond) ∈ wsC := List.mem_of_getElem? (i := 297) rfl
theorem uC_298 : (.code yX7_log cX7_log 3 (some .int) : Cond) ∈ wsC := List.mem_of_getElem? (i := 298) rfl
theorem uC_299 : (.instanceMethod yX2_has : Cond) ∈ wsC := List.mem_of_getElem? (i := 299) rfl
theorem uC_300 : (.selects RX2 yX2_has yX2_has : Cond) ∈ wsC := List.mem_of_getElem? (i := 300) rfl
theorem uC_301 : (.instanceMethod yX2_numberOf : Cond) ∈ wsC := List.mem_of_getElem? (i := 301) rfl
theorem uC_302 : (.selects RX2 yX2_numberOf yX2_numberOf : Cond) ∈ wsC := List.mem_of_getElem? (i := 302) rfl
theorem uC_303 : (.instanceMethod yX2_waitOf : Cond) ∈ wsC := List.mem_of_getElem? (i := 303) rfl
theorem uC_304 : (.selects RX2 yX2_waitOf yX2_waitOf : Cond) ∈ wsC := List.mem_of_getElem? (i := 304) rfl
theorem uC_305 : (.instanceMethod yX2_sortOf : Cond) ∈ wsC := List.mem_of_getElem? (i := 305) rfl
theorem uC_306 : (.selects RX2 yX2_sortOf yX2_sortOf : Cond) ∈ wsC := List.mem_of_getElem? (i := 306) rfl
theorem uC_307 : (.code yX7_count cX7_count 2 (some .int) : Cond) ∈ wsC := List.mem_of_getElem? (i := 307) rfl
theorem uC_308 : (.instanceMethod yX0_amount : Cond) ∈ wsC := List.mem_of_getElem? (i := 308) rfl
theorem uC_309 : (.selects RX0 yX0_amount yX0_amount : Cond) ∈ wsC := List.mem_of_getElem? (i := 309) rfl
theorem uC_310 : (.code yX7_next cX7_next 4 (some .int) : Cond) ∈ wsC := List.mem_of_getElem? (i := 310) rfl
theorem uC_311 : (.code yX7_servedIn cX7_servedIn 3 (some .int) : Cond) ∈ wsC := List.mem_of_getElem? (i := 311) rfl
theorem uC_312 : (.code yX7_all cX7_all 4 (some .int) : Cond) ∈ wsC := List.mem_of_getElem? (i := 312) rfl
theorem uC_313 : (.code yX7_joined cX7_joined 5 (some .int) : Cond) ∈ wsC := List.mem_of_getElem? (i := 313) rfl
theorem uC_314 : (.methodLink RX7 176 yX7_isSlip : Cond) ∈ wsC := List.mem_of_getElem? (i := 314) rfl
theorem uC_338 : (.code yJ9_abs_0f7a4 cJ9_abs_0f7a4 1 (some .int) : Cond) ∈ wsC := List.mem_of_getElem? (i := 338) rfl
theorem uC_339 : (.code yJ9_max_7cf53 cJ9_max_7cf53 2 (some .int) : Cond) ∈ wsC := List.mem_of_getElem? (i := 339) rfl
theorem uC_340 : (.code yJ9_min_7cf53 cJ9_min_7cf53 2 (some .int) : Cond) ∈ wsC := List.mem_of_getElem? (i := 340) rfl
theorem uG_0 : (.code yL_cell cL_cell 2 (some .int) : Cond) ∈ wsG := List.mem_of_getElem? (i := 0) rfl
theorem uG_1 : (.constant RL 7 (16810009) : Cond) ∈ wsG := List.mem_of_getElem? (i := 1) rfl
theorem uG_2 : (.code yL_low cL_low 2 (some .int) : Cond) ∈ wsG := List.mem_of_getElem? (i := 2) rfl
theorem uG_3 : (.constant RL 8 (2147483647) : Cond) ∈ wsG := List.mem_of_getElem? (i := 3) rfl
theorem uG_4 : (.code yL_far cL_far 2 (some .int) : Cond) ∈ wsG := List.mem_of_getElem? (i := 4) rfl
theorem uG_5 : (.code yL_lowest cL_lowest 5 (some .int) : Cond) ∈ wsG := List.mem_of_getElem? (i := 5) rfl
theorem uG_6 : (.methodLink RL 9 yX7_count : Cond) ∈ wsG := List.mem_of_getElem? (i := 6) rfl
theorem uG_7 : (.instanceMethod yX7_count : Cond) ∈ wsG := List.mem_of_getElem? (i := 7) rfl
theorem uG_8 : (.selects RX7 yX7_count yX7_count : Cond) ∈ wsG := List.mem_of_getElem? (i := 8) rfl
theorem uG_9 : (.methodLink RL 15 yX7_waiting : Cond) ∈ wsG := List.mem_of_getElem? (i := 9) rfl
theorem uG_10 : (.instanceMethod yX7_waiting : Cond) ∈ wsG := List.mem_of_getElem? (i := 10) rfl
theorem uG_11 : (.selects RX7 yX7_waiting yX7_waiting : Cond) ∈ wsG := List.mem_of_getElem? (i := 11) rfl
theorem uG_12 : (.methodLink RL 19 yX7_of : Cond) ∈ wsG := List.mem_of_getElem? (i := 12) rfl
theorem uG_13 : (.instanceMethod yX7_of : Cond) ∈ wsG := List.mem_of_getElem? (i := 13) rfl
theorem uG_14 : (.selects RX7 yX7_of yX7_of : Cond) ∈ wsG := List.mem_of_getElem? (i := 14) rfl
theorem uG_15 : (.code yL_oldest cL_oldest 6 (some .int) : Cond) ∈ wsG := List.mem_of_getElem? (i := 15) rfl
theorem uG_16 : (.code yL_inOrder cL_inOrder 8 (some .boolean) : Cond) ∈ wsG := List.mem_of_getElem? (i := 16) rfl
theorem uG_17 : (.code yL_next cL_next 7 (some .int) : Cond) ∈ wsG := List.mem_of_getElem? (i := 17) rfl
theorem uG_18 : (.methodLink RL 22 yX7_next : Cond) ∈ wsG := List.mem_of_getElem? (i := 18) rfl
theorem uG_19 : (.instanceMethod yX7_next : Cond) ∈ wsG := List.mem_of_getElem? (i := 19) rfl
theorem uG_20 : (.selects RX7 yX7_next yX7_next : Cond) ∈ wsG := List.mem_of_getElem? (i := 20) rfl
theorem uG_21 : (.methodLink RL 25 yL_lowest : Cond) ∈ wsG := List.mem_of_getElem? (i := 21) rfl
theorem uG_22 : (.static yL_lowest : Cond) ∈ wsG := List.mem_of_getElem? (i := 22) rfl
theorem uG_23 : (.initialized RL : Cond) ∈ wsG := List.mem_of_getElem? (i := 23) rfl
theorem uG_24 : (.methodLink RL 31 yL_oldest : Cond) ∈ wsG := List.mem_of_getElem? (i := 24) rfl
theorem uG_25 : (.static yL_oldest : Cond) ∈ wsG := List.mem_of_getElem? (i := 25) rfl
theorem uG_26 : (.code yL_served cL_served 19 (some .int) : Cond) ∈ wsG := List.mem_of_getElem? (i := 26) rfl
theorem uG_27 : (.methodLink RL 35 yL_next : Cond) ∈ wsG := List.mem_of_getElem? (i := 27) rfl
theorem uG_28 : (.static yL_next : Cond) ∈ wsG := List.mem_of_getElem? (i := 28) rfl
theorem uG_29 : (.methodLink RL 37 yX7_serve : Cond) ∈ wsG := List.mem_of_getElem? (i := 29) rfl
theorem uG_30 : (.instanceMethod yX7_serve : Cond) ∈ wsG := List.mem_of_getElem? (i := 30) rfl
theorem uG_31 : (.selects RX7 yX7_serve yX7_serve : Cond) ∈ wsG := List.mem_of_getElem? (i := 31) rfl
theorem uG_32 : (.methodLink RL 40 yL_far : Cond) ∈ wsG := List.mem_of_getElem? (i := 32) rfl
theorem uG_33 : (.static yL_far : Cond) ∈ wsG := List.mem_of_getElem? (i := 33) rfl
theorem uG_34 : (.methodLink RL 43 yX7_servedIn : Cond) ∈ wsG := List.mem_of_getElem? (i := 34) rfl
theorem uG_35 : (.instanceMethod yX7_servedIn : Cond) ∈ wsG := List.mem_of_getElem? (i := 35) rfl
theorem uG_36 : (.selects RX7 yX7_servedIn yX7_servedIn : Cond) ∈ wsG := List.mem_of_getElem? (i := 36) rfl
theorem uG_37 : (.methodLink RL 46 yX7_log : Cond) ∈ wsG := List.mem_of_getElem? (i := 37) rfl
theorem uG_38 : (.instanceMethod yX7_log : Cond) ∈ wsG := List.mem_of_getElem? (i := 38) rfl
theorem uG_39 : (.selects RX7 yX7_log yX7_log : Cond) ∈ wsG := List.mem_of_getElem? (i := 39) rfl
theorem uG_40 : (.code yL_comes cL_comes 9 (some .boolean) : Cond) ∈ wsG := List.mem_of_getElem? (i := 40) rfl
theorem uG_41 : (.methodLink RL 49 yX7_joined : Cond) ∈ wsG := List.mem_of_getElem? (i := 41) rfl
theorem uG_42 : (.instanceMethod yX7_joined : Cond) ∈ wsG := List.mem_of_getElem? (i := 42) rfl
theorem uG_43 : (.selects RX7 yX7_joined yX7_joined : Cond) ∈ wsG := List.mem_of_getElem? (i := 43) rfl
theorem uG_44 : (.methodLink RL 53 yX7_slip : Cond) ∈ wsG := List.mem_of_getElem? (i := 44) rfl
theorem uG_45 : (.instanceMethod yX7_slip : Cond) ∈ wsG := List.mem_of_getElem? (i := 45) rfl
theorem uG_46 : (.selects RX7 yX7_slip yX7_slip : Cond) ∈ wsG := List.mem_of_getElem? (i := 46) rfl
theorem wsCG : ∀ w ∈ wsC, w ∈ wsG := fun _ h => List.mem_append_right _ h
theorem hU_X0 : ∀ w ∈ wsX00, w ∈ wsC := fun _ h => List.mem_append_right _ (List.mem_append_left _ (List.mem_append_left _ (List.mem_append_left _ (List.mem_append_left _ (List.mem_append_left _ (List.mem_append_left _ (List.mem_append_left _ h)))))))
theorem hU_X1 : ∀ w ∈ wsX10, w ∈ wsC := fun _ h => List.mem_append_right _ (List.mem_append_left _ (List.mem_append_left _ (List.mem_append_left _ (List.mem_append_left _ (List.mem_append_left _ (List.mem_append_left _ (List.mem_append_right _ h)))))))
theorem hU_X2 : ∀ w ∈ wsX20, w ∈ wsC := fun _ h => List.mem_append_right _ (List.mem_append_left _ (List.mem_append_left _ (List.mem_append_left _ (List.mem_append_left _ (List.mem_append_left _ (List.mem_append_right _ h))))))
theorem hU_X3 : ∀ w ∈ wsX30, w ∈ wsC := fun _ h => List.mem_append_right _ (List.mem_append_left _ (List.mem_append_left _ (List.mem_append_left _ (List.mem_append_left _ (List.mem_append_right _ h)))))
theorem hU_X4 : ∀ w ∈ wsX40, w ∈ wsC := fun _ h => List.mem_append_right _ (List.mem_append_left _ (List.mem_append_left _ (List.mem_append_left _ (List.mem_append_right _ h))))
theorem hU_X5 : ∀ w ∈ wsX50, w ∈ wsC := fun _ h => List.mem_append_right _ (List.mem_append_left _ (List.mem_append_left _ (List.mem_append_right _ h)))
theorem hU_X6 : ∀ w ∈ wsX60, w ∈ wsC := fun _ h => List.mem_append_right _ (List.mem_append_left _ (List.mem_append_right _ h))
theorem hU_X7 : ∀ w ∈ wsX70, w ∈ wsC := fun _ h => List.mem_append_right _ (List.mem_append_right _ h)
def wsX2_init : List Cond := .code yX2_init cX2_init 1 none :: wsC
def wsX7_copyRow : List Cond := .code yX7_copyRow cX7_copyRow 3 none :: wsC
def wsX5_init : List Cond := .code yX5_init cX5_init 2 none :: wsC
def wsX0_init : List Cond := .code yX0_init cX0_init 3 none :: wsC
def wsX5_copyFrom : List Cond := .code yX5_copyFrom cX5_copyFrom 2 none :: wsC
def wsX2_copyFrom : List Cond := .code yX2_copyFrom cX2_copyFrom 2 none :: wsC
def wsX0_copyFrom : List Cond := .code yX0_copyFrom cX0_copyFrom 4 none :: wsC
def wsX7_isIndexOf : List Cond := .code yX7_isIndexOf cX7_isIndexOf 2 (some .boolean) :: wsC
def wsX7_valueAt : List Cond := .code yX7_valueAt cX7_valueAt 2 (some .int) :: wsC
def wsX0_adjust : List Cond := .code yX0_adjust cX0_adjust 4 (some .int) :: wsC
def wsX7_isSlip : List Cond := .code yX7_isSlip cX7_isSlip 3 (some .boolean) :: wsC
def wsX5_isOfSort : List Cond := .code yX5_isOfSort cX5_isOfSort 2 (some .boolean) :: wsC
def wsX5_last : List Cond := .code yX5_last cX5_last 1 (some .int) :: wsC
def wsX0_hostFor : List Cond := .code yX0_hostFor cX0_hostFor 7 (some (.object "DrawerSlips$Slip")) :: wsC
def wsX0_freePlace : List Cond := .code yX0_freePlace cX0_freePlace 2 (some (.object "DrawerSlips$Slip")) :: wsC
def wsX0_countWaiting : List Cond := .code yX0_countWaiting cX0_countWaiting 3 none :: wsC
def wsX0_accept : List Cond := .code yX0_accept cX0_accept 6 (some .int) :: wsC
def wsX0_find : List Cond := .code yX0_find cX0_find 3 (some (.object "DrawerSlips$Slip")) :: wsC
def wsX0_remove : List Cond := .code yX0_remove cX0_remove 2 none :: wsC
def wsX0_age : List Cond := .code yX0_age cX0_age 2 (some .int) :: wsC
def wsX0_tearUp : List Cond := .code yX0_tearUp cX0_tearUp 3 (some .int) :: wsC
def wsX0_stand : List Cond := .code yX0_stand cX0_stand 2 (some .int) :: wsC
def wsX0_slipsThatWait : List Cond := .code yX0_slipsThatWait cX0_slipsThatWait 1 (some .int) :: wsC
def wsX5_isAheadOf : List Cond := .code yX5_isAheadOf cX5_isAheadOf 2 (some .boolean) :: wsC
def wsX0_slipsAheadOf : List Cond := .code yX0_slipsAheadOf cX0_slipsAheadOf 4 (some .int) :: wsC
def wsX0_ranked : List Cond := .code yX0_ranked cX0_ranked 4 (some (.object "DrawerSlips$Slip")) :: wsC
def wsX0_isTooOld : List Cond := .code yX0_isTooOld cX0_isTooOld 2 (some .boolean) :: wsC
def wsX0_amount : List Cond := .code yX0_amount cX0_amount 2 (some .int) :: wsC
def wsX0_leastFrom : List Cond := .code yX0_leastFrom cX0_leastFrom 5 (some (.object "DrawerSlips$Slip")) :: wsC
def wsX0_newSort : List Cond := .code yX0_newSort cX0_newSort 1 (some .int) :: wsC
def wsX0_oldest : List Cond := .code yX0_oldest cX0_oldest 4 (some (.object "DrawerSlips$Slip")) :: wsC
def wsX0_reason : List Cond := .code yX0_reason cX0_reason 4 (some .int) :: wsC
def wsX0_chosen : List Cond := .code yX0_chosen cX0_chosen 2 (some (.object "DrawerSlips$Slip")) :: wsC
def wsX0_drawersTo : List Cond := .code yX0_drawersTo cX0_drawersTo 2 (some .int) :: wsC
def wsX0_minutesFor : List Cond := .code yX0_minutesFor cX0_minutesFor 2 (some .int) :: wsC
def wsX0_beginBatch : List Cond := .code yX0_beginBatch cX0_beginBatch 2 none :: wsC
def wsX2_append : List Cond := .code yX2_append cX2_append 5 none :: wsC
def wsX0_serveNext : List Cond := .code yX0_serveNext cX0_serveNext 3 none :: wsC
def wsX1_init : List Cond := .code yX1_init cX1_init 2 none :: wsC
def wsX1_stateAt : List Cond := .code yX1_stateAt cX1_stateAt 2 (some (.object "DrawerSlips$Archive")) :: wsC
def wsX1_prepare : List Cond := .code yX1_prepare cX1_prepare 3 none :: wsC
def wsX1_keep : List Cond := .code yX1_keep cX1_keep 1 none :: wsC
def wsX2_has : List Cond := .code yX2_has cX2_has 2 (some .boolean) :: wsC
def wsX2_place : List Cond := .code yX2_place cX2_place 2 (some .int) :: wsC
def wsX2_numberOf : List Cond := .code yX2_numberOf cX2_numberOf 2 (some .int) :: wsC
def wsX2_waitOf : List Cond := .code yX2_waitOf cX2_waitOf 2 (some .int) :: wsC
def wsX2_sortOf : List Cond := .code yX2_sortOf cX2_sortOf 2 (some .int) :: wsC
def wsX3_init : List Cond := .code yX3_init cX3_init 1 none :: wsC
def wsX4_init : List Cond := .code yX4_init cX4_init 2 none :: wsC
def wsX6_init : List Cond := .code yX6_init cX6_init 1 none :: wsC
def wsX7_init : List Cond := .code yX7_init cX7_init 1 none :: wsC
def wsX7_settled : List Cond := .code yX7_settled cX7_settled 2 (some .int) :: wsC
def wsX7_set : List Cond := .code yX7_set cX7_set 3 (some .int) :: wsC
def wsX7_slip : List Cond := .code yX7_slip cX7_slip 4 (some .int) :: wsC
def wsX7_tear : List Cond := .code yX7_tear cX7_tear 2 (some .int) :: wsC
def wsX7_serveSlips : List Cond := .code yX7_serveSlips cX7_serveSlips 4 (some .int) :: wsC
def wsX7_serve : List Cond := .code yX7_serve cX7_serve 2 (some .int) :: wsC
def wsX7_pass : List Cond := .code yX7_pass cX7_pass 2 (some .int) :: wsC
def wsX7_of : List Cond := .code yX7_of cX7_of 4 (some .int) :: wsC
def wsX7_waiting : List Cond := .code yX7_waiting cX7_waiting 4 (some .int) :: wsC
def wsX7_log : List Cond := .code yX7_log cX7_log 3 (some .int) :: wsC
def wsX7_count : List Cond := .code yX7_count cX7_count 2 (some .int) :: wsC
def wsX7_next : List Cond := .code yX7_next cX7_next 4 (some .int) :: wsC
def wsX7_servedIn : List Cond := .code yX7_servedIn cX7_servedIn 3 (some .int) :: wsC
def wsX7_all : List Cond := .code yX7_all cX7_all 4 (some .int) :: wsC
def wsX7_joined : List Cond := .code yX7_joined cX7_joined 5 (some .int) :: wsC
def wsJ9_abs_0f7a4 : List Cond := .code yJ9_abs_0f7a4 cJ9_abs_0f7a4 1 (some .int) :: wsC
def wsJ9_max_7cf53 : List Cond := .code yJ9_max_7cf53 cJ9_max_7cf53 2 (some .int) :: wsC
def wsJ9_min_7cf53 : List Cond := .code yJ9_min_7cf53 cJ9_min_7cf53 2 (some .int) :: wsC
def wsL_cell : List Cond := .code yL_cell cL_cell 2 (some .int) :: wsG
def wsL_low : List Cond := .code yL_low cL_low 2 (some .int) :: wsG
def wsL_far : List Cond := .code yL_far cL_far 2 (some .int) :: wsG
def wsL_lowest : List Cond := .code yL_lowest cL_lowest 5 (some .int) :: wsG
def wsL_oldest : List Cond := .code yL_oldest cL_oldest 6 (some .int) :: wsG
def wsL_inOrder : List Cond := .code yL_inOrder cL_inOrder 8 (some .boolean) :: wsG
def wsL_next : List Cond := .code yL_next cL_next 7 (some .int) :: wsG
def wsL_served : List Cond := .code yL_served cL_served 19 (some .int) :: wsG
def wsL_comes : List Cond := .code yL_comes cL_comes 9 (some .boolean) :: wsG
theorem zgB_ {U : List Cond} (hU : U.all goodWord = true) {c1 c2 : Cond} (h : c2 ∈ U) : GoodIn (c1 :: U) (c2 :: U) := fun w hw => (List.mem_cons.mp hw).elim (fun e => ⟨List.mem_cons_of_mem _ (e ▸ h), good_of_word (List.all_eq_true.mp hU w (e ▸ h))⟩) (fun h2 => ⟨List.mem_cons_of_mem _ h2, good_of_word (List.all_eq_true.mp hU w h2)⟩)
theorem zgX_ {U : List Cond} (hU : U.all goodWord = true) {c1 : Cond} {as bs : List Cond} (ha : ∀ w ∈ as, w ∈ U) (hb : GoodIn (c1 :: U) bs) : GoodIn (c1 :: U) (as ++ bs) := fun w hw => (List.mem_append.mp hw).elim (fun h => ⟨List.mem_cons_of_mem _ (ha w h), good_of_word (List.all_eq_true.mp hU w (ha w h))⟩) (hb w)
theorem zgV_ {U : List Cond} (hU : U.all goodWord = true) {c1 c2 : Cond} {own : String} {idx : Nat} {C : String} {y : MethodName} (h : c2 ∈ U) (h1 : Cond.methodLink own idx y ∈ U) (h2 : Cond.instanceMethod y ∈ U) (h3 : Cond.selects C y y ∈ U) (h4 : Cond.initialized C ∈ U) : GoodIn (c1 :: U) (wsV own idx C y (c2 :: U)) :=
  zgX_ hU (fun w hw => by
    simp only [List.mem_cons, List.not_mem_nil, or_false] at hw
    rcases hw with rfl | rfl | rfl | rfl
    · exact h1
    · exact h2
    · exact h3
    · exact h4) (zgB_ hU h)
theorem zgS_ {U : List Cond} (hU : U.all goodWord = true) {c1 c2 : Cond} {own : String} {idx : Nat} {y : MethodName} (h : c2 ∈ U) (h1 : Cond.methodLink own idx y ∈ U) (h2 : Cond.static y ∈ U) (h4 : Cond.initialized y.cls ∈ U) : GoodIn (c1 :: U) (va_wsS own idx y (c2 :: U)) :=
  zgX_ hU (fun w hw => by
    simp only [List.mem_cons, List.not_mem_nil, or_false] at hw
    rcases hw with rfl | rfl | rfl
    · exact h1
    · exact h2
    · exact h4) (zgB_ hU h)
/-- a class's method called by a law's own one -/
theorem zgVG_ {c1 c2 : Cond} {own : String} {idx : Nat} {D : String} {y : MethodName} (h : c2 ∈ wsC) (h1 : Cond.methodLink own idx y ∈ wsG) (h2 : Cond.instanceMethod y ∈ wsG) (h3 : Cond.selects D y y ∈ wsG) (h4 : Cond.initialized D ∈ wsG) : GoodIn (c1 :: wsG) (wsV own idx D y (c2 :: wsC)) :=
  zgX_ wsG_all (fun w hw => by
    simp only [List.mem_cons, List.not_mem_nil, or_false] at hw
    rcases hw with rfl | rfl | rfl | rfl
    · exact h1
    · exact h2
    · exact h3
    · exact h4) (fun w hw => (List.mem_cons.mp hw).elim (fun e => ⟨List.mem_cons_of_mem _ (wsCG w (e ▸ h)), good_of_word (List.all_eq_true.mp wsC_all w (e ▸ h))⟩) (fun h2 => ⟨List.mem_cons_of_mem _ (wsCG w h2), good_of_word (List.all_eq_true.mp wsC_all w h2)⟩))
