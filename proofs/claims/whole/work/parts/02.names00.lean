/-! ===== BEGIN words of one list among another's, by their places ===== -/
theorem goodIn_r {big : List Cond} (ws : List Cond) (ps : List Nat) (hp : ws = ps.filterMap (fun i => big[i]?)) (h : ws.all goodWord = true) : GoodIn big ws := by
  intro w hw
  have h1 := List.all_eq_true.mp h w hw
  rw [hp] at hw
  obtain ⟨i, -, hi⟩ := List.mem_filterMap.mp hw
  have hm : w ∈ big := by first | exact List.mem_of_getElem? hi | exact List.getElem?_mem hi
  exact ⟨hm, good_of_word h1⟩
theorem goodIn_app {big a b : List Cond} (ha : GoodIn big a) (hb : GoodIn big b) : GoodIn big (a ++ b) := fun w h => (List.mem_append.mp h).elim (ha w) (hb w)
theorem goodIn_ca {big a b : List Cond} {c : Cond} (ha : GoodIn big (c :: a)) (hb : GoodIn big b) : GoodIn big (c :: (a ++ b)) := fun w h => (List.mem_cons.mp h).elim (fun e => ha w (List.mem_cons.mpr (Or.inl e))) (fun h => (List.mem_append.mp h).elim (fun h => ha w (List.mem_cons.mpr (Or.inr h))) (hb w))
theorem goodIn_sub {big ws : List Cond} (hm : ∀ w ∈ ws, w ∈ big) (h : ws.all goodWord = true) : GoodIn big ws := fun w hw => ⟨hm w hw, good_of_word (List.all_eq_true.mp h w hw)⟩
/-! ===== END ===== -/

/-! ===== BEGIN printed: names, fields, word lists, decode rows ===== -/
def RX0 : String := "KinCutlery$Rows"
def TX0 : u_T := fun k => match k with
  | 0 => ("KinCutlery$Rows", "cells", "[I", true)
  | _ => ("KinCutlery$Rows", "count", "I", false)
def tyX0 : Nat → FieldType := fun k => match k with
  | 0 => .array .int
  | _ => .int
abbrev wsX00 : List Cond := u_ws RX0 TX0 2
theorem nmX0 : ∀ a, a < 2 → ∀ b, b < 2 → a ≠ b → (TX0 a).2.1 ≠ (TX0 b).2.1 := by decide +kernel
theorem tyX0_ok : ∀ k, k < 2 → parseFieldDescriptor (TX0 k).2.2.1 = some (tyX0 k) := by decide +kernel
abbrev cX0_init : ByteArray := prog_2_method_1_code
def yX0_init : MethodName := ⟨RX0, "<init>", "()V"⟩
abbrev cX0_has : ByteArray := prog_2_method_2_code
def yX0_has : MethodName := ⟨RX0, "has", "(II)Z"⟩
def RX1 : String := "KinCutlery$Sheet"
def TX1 : u_T := fun k => match k with
  | 0 => ("KinCutlery$Sheet", "items", "[J", true)
  | 1 => ("KinCutlery$Sheet", "sort", "I", false)
  | _ => ("KinCutlery$Sheet", "length", "I", false)
def tyX1 : Nat → FieldType := fun k => match k with
  | 0 => .array .long
  | 1 => .int
  | _ => .int
abbrev wsX10 : List Cond := u_ws RX1 TX1 3
theorem nmX1 : ∀ a, a < 3 → ∀ b, b < 3 → a ≠ b → (TX1 a).2.1 ≠ (TX1 b).2.1 := by decide +kernel
theorem tyX1_ok : ∀ k, k < 3 → parseFieldDescriptor (TX1 k).2.2.1 = some (tyX1 k) := by decide +kernel
abbrev cX1_init : ByteArray := prog_3_method_1_code
def yX1_init : MethodName := ⟨RX1, "<init>", "()V"⟩
abbrev cX1_become : ByteArray := prog_3_method_2_code
def yX1_become : MethodName := ⟨RX1, "become", "(II)V"⟩
def RX2 : String := "KinCutlery$Shelf"
def TX2 : u_T := fun k => match k with
  | 0 => ("KinCutlery$Shelf", "what", "I", false)
  | 1 => ("KinCutlery$Shelf", "number", "I", false)
  | 2 => ("KinCutlery$Shelf", "sort", "I", false)
  | _ => ("KinCutlery$Shelf", "length", "I", false)
def tyX2 : Nat → FieldType := fun k => match k with
  | 0 => .int
  | 1 => .int
  | 2 => .int
  | _ => .int
abbrev wsX20 : List Cond := u_ws RX2 TX2 4
theorem nmX2 : ∀ a, a < 4 → ∀ b, b < 4 → a ≠ b → (TX2 a).2.1 ≠ (TX2 b).2.1 := by decide +kernel
theorem tyX2_ok : ∀ k, k < 4 → parseFieldDescriptor (TX2 k).2.2.1 = some (tyX2 k) := by decide +kernel
abbrev cX2_init : ByteArray := prog_4_method_1_code
def yX2_init : MethodName := ⟨RX2, "<init>", "()V"⟩
abbrev cX2_holdGuest : ByteArray := prog_4_method_2_code
def yX2_holdGuest : MethodName := ⟨RX2, "holdGuest", "(I)V"⟩
abbrev cX2_holdRow : ByteArray := prog_4_method_3_code
def yX2_holdRow : MethodName := ⟨RX2, "holdRow", "(LKinCutlery$Sheet;)V"⟩
def RX3 : String := "KinCutlery$Stage"
def TX3 : u_T := fun k => match k with
  | 0 => ("KinCutlery$Stage", "bodies", "[I", true)
  | 1 => ("KinCutlery$Stage", "traced", "I", false)
  | 2 => ("KinCutlery$Stage", "kind", "I", false)
  | 3 => ("KinCutlery$Stage", "n", "I", false)
  | 4 => ("KinCutlery$Stage", "a", "I", false)
  | _ => ("KinCutlery$Stage", "broken", "Z", false)
def tyX3 : Nat → FieldType := fun k => match k with
  | 0 => .array .int
  | 1 => .int
  | 2 => .int
  | 3 => .int
  | 4 => .int
  | _ => .boolean
abbrev wsX30 : List Cond := u_ws RX3 TX3 6
theorem nmX3 : ∀ a, a < 6 → ∀ b, b < 6 → a ≠ b → (TX3 a).2.1 ≠ (TX3 b).2.1 := by decide +kernel
theorem tyX3_ok : ∀ k, k < 6 → parseFieldDescriptor (TX3 k).2.2.1 = some (tyX3 k) := by decide +kernel
abbrev cX3_init : ByteArray := prog_5_method_1_code
def yX3_init : MethodName := ⟨RX3, "<init>", "()V"⟩
abbrev cX3_perform : ByteArray := prog_5_method_2_code
def yX3_perform : MethodName := ⟨RX3, "perform", "(IIIII)I"⟩
abbrev cX3_own : ByteArray := prog_5_method_3_code
def yX3_own : MethodName := ⟨RX3, "own", "(III)I"⟩
abbrev cX3_run : ByteArray := prog_5_method_4_code
def yX3_run : MethodName := ⟨RX3, "run", "(III)I"⟩
abbrev cX3_begin : ByteArray := prog_5_method_5_code
def yX3_begin : MethodName := ⟨RX3, "begin", "(I)V"⟩
abbrev cX3_parted : ByteArray := prog_5_method_6_code
def yX3_parted : MethodName := ⟨RX3, "parted", "(I)I"⟩
def RX4 : String := "KinCutlery$Table"
def TX4 : u_T := fun k => match k with
  | 0 => ("KinCutlery$Table", "laws", "[I", true)
  | 1 => ("KinCutlery$Table", "kind", "[I", true)
  | 2 => ("KinCutlery$Table", "holds", "[I", true)
  | 3 => ("KinCutlery$Table", "gone", "[I", true)
  | 4 => ("KinCutlery$Table", "tells", "[I", true)
  | 5 => ("KinCutlery$Table", "drowned", "I", false)
  | 6 => ("KinCutlery$Table", "count", "I", false)
  | 7 => ("KinCutlery$Table", "course", "I", false)
  | 8 => ("KinCutlery$Table", "told", "I", false)
  | _ => ("KinCutlery$Table", "z", "I", false)
def tyX4 : Nat → FieldType := fun k => match k with
  | 0 => .array .int
  | 1 => .array .int
  | 2 => .array .int
  | 3 => .array .int
  | 4 => .array .int
  | 5 => .int
  | 6 => .int
  | 7 => .int
  | 8 => .int
  | _ => .int
abbrev wsX40 : List Cond := u_ws RX4 TX4 10
theorem nmX4 : ∀ a, a < 10 → ∀ b, b < 10 → a ≠ b → (TX4 a).2.1 ≠ (TX4 b).2.1 := by decide +kernel
theorem tyX4_ok : ∀ k, k < 10 → parseFieldDescriptor (TX4 k).2.2.1 = some (tyX4 k) := by decide +kernel
abbrev cX4_init : ByteArray := prog_6_method_1_code
def yX4_init : MethodName := ⟨RX4, "<init>", "()V"⟩
abbrev cX4_clear : ByteArray := prog_6_method_2_code
def yX4_clear : MethodName := ⟨RX4, "clear", "()V"⟩
abbrev cX4_copyFrom : ByteArray := prog_6_method_3_code
def yX4_copyFrom : MethodName := ⟨RX4, "copyFrom", "(LKinCutlery$Table;)V"⟩
abbrev cX4_has : ByteArray := prog_6_method_4_code
def yX4_has : MethodName := ⟨RX4, "has", "(I)Z"⟩
abbrev cX4_everyone : ByteArray := prog_6_method_5_code
def yX4_everyone : MethodName := ⟨RX4, "everyone", "()I"⟩
abbrev cX4_isDrowned : ByteArray := prog_6_method_6_code
def yX4_isDrowned : MethodName := ⟨RX4, "isDrowned", "(I)Z"⟩
abbrev cX4_drown : ByteArray := prog_6_method_7_code
def yX4_drown : MethodName := ⟨RX4, "drown", "(IZ)V"⟩
abbrev cX4_seat : ByteArray := prog_6_method_8_code
def yX4_seat : MethodName := ⟨RX4, "seat", "(II)I"⟩
abbrev cX4_next : ByteArray := prog_6_method_9_code
def yX4_next : MethodName := ⟨RX4, "next", "()I"⟩
abbrev cX4_takes : ByteArray := prog_6_method_10_code
def yX4_takes : MethodName := ⟨RX4, "takes", "(I)I"⟩
abbrev cX4_needs : ByteArray := prog_6_method_11_code
def yX4_needs : MethodName := ⟨RX4, "needs", "(I)I"⟩
abbrev cX4_costs : ByteArray := prog_6_method_12_code
def yX4_costs : MethodName := ⟨RX4, "costs", "(I)I"⟩
abbrev cX4_serve : ByteArray := prog_6_method_13_code
def yX4_serve : MethodName := ⟨RX4, "serve", "()V"⟩
abbrev cX4_teller : ByteArray := prog_6_method_14_code
def yX4_teller : MethodName := ⟨RX4, "teller", "()I"⟩
abbrev cX4_tellNext : ByteArray := prog_6_method_15_code
def yX4_tellNext : MethodName := ⟨RX4, "tellNext", "(I)V"⟩
abbrev cX4_serveByDraws : ByteArray := prog_6_method_16_code
def yX4_serveByDraws : MethodName := ⟨RX4, "serveByDraws", "()V"⟩
abbrev cX4_drawn : ByteArray := prog_6_method_17_code
def yX4_drawn : MethodName := ⟨RX4, "drawn", "()I"⟩
abbrev cX4_toldBehind : ByteArray := prog_6_method_18_code
def yX4_toldBehind : MethodName := ⟨RX4, "toldBehind", "(I)I"⟩
abbrev cX4_coursesUntilTelling : ByteArray := prog_6_method_19_code
def yX4_coursesUntilTelling : MethodName := ⟨RX4, "coursesUntilTelling", "(II)I"⟩
abbrev cX4_coursesUntilDrowned : ByteArray := prog_6_method_20_code
def yX4_coursesUntilDrowned : MethodName := ⟨RX4, "coursesUntilDrowned", "(II)I"⟩
abbrev cX4_coursesUntilWhole : ByteArray := prog_6_method_21_code
def yX4_coursesUntilWhole : MethodName := ⟨RX4, "coursesUntilWhole", "(I)I"⟩
abbrev cX4_deepestAlive : ByteArray := prog_6_method_22_code
def yX4_deepestAlive : MethodName := ⟨RX4, "deepestAlive", "()I"⟩
abbrev cX4_goneTogether : ByteArray := prog_6_method_23_code
def yX4_goneTogether : MethodName := ⟨RX4, "goneTogether", "()I"⟩
abbrev cX4_tellers : ByteArray := prog_6_method_24_code
def yX4_tellers : MethodName := ⟨RX4, "tellers", "()I"⟩
abbrev cX4_piecesOf : ByteArray := prog_6_method_25_code
def yX4_piecesOf : MethodName := ⟨RX4, "piecesOf", "(I)I"⟩
abbrev cX4_piecesUntil : ByteArray := prog_6_method_26_code
def yX4_piecesUntil : MethodName := ⟨RX4, "piecesUntil", "(I)I"⟩
abbrev cX4_holdersOf : ByteArray := prog_6_method_27_code
def yX4_holdersOf : MethodName := ⟨RX4, "holdersOf", "(I)I"⟩
abbrev cX4_gap : ByteArray := prog_6_method_28_code
def yX4_gap : MethodName := ⟨RX4, "gap", "()I"⟩
def RX5 : String := "KinCutlery$Tape"
def TX5 : u_T := fun k => match k with
  | 0 => ("KinCutlery$Tape", "bytes", "[B", true)
  | 1 => ("KinCutlery$Tape", "length", "I", false)
  | 2 => ("KinCutlery$Tape", "place", "I", false)
  | 3 => ("KinCutlery$Tape", "after", "I", false)
  | 4 => ("KinCutlery$Tape", "sort", "I", false)
  | _ => ("KinCutlery$Tape", "number", "I", false)
def tyX5 : Nat → FieldType := fun k => match k with
  | 0 => .array .byte
  | 1 => .int
  | 2 => .int
  | 3 => .int
  | 4 => .int
  | _ => .int
abbrev wsX50 : List Cond := u_ws RX5 TX5 6
theorem nmX5 : ∀ a, a < 6 → ∀ b, b < 6 → a ≠ b → (TX5 a).2.1 ≠ (TX5 b).2.1 := by decide +kernel
theorem tyX5_ok : ∀ k, k < 6 → parseFieldDescriptor (TX5 k).2.2.1 = some (tyX5 k) := by decide +kernel
abbrev cX5_init : ByteArray := prog_7_method_1_code
def yX5_init : MethodName := ⟨RX5, "<init>", "()V"⟩
abbrev cX5_readInto : ByteArray := prog_7_method_2_code
def yX5_readInto : MethodName := ⟨RX5, "readInto", "(LKinCutlery$Table;)Z"⟩
abbrev cX5_readSentence : ByteArray := prog_7_method_3_code
def yX5_readSentence : MethodName := ⟨RX5, "readSentence", "(LKinCutlery$Table;)Z"⟩
abbrev cX5_readGuest : ByteArray := prog_7_method_4_code
def yX5_readGuest : MethodName := ⟨RX5, "readGuest", "(LKinCutlery$Table;I)Z"⟩
abbrev cX5_readStop : ByteArray := prog_7_method_5_code
def yX5_readStop : MethodName := ⟨RX5, "readStop", "()Z"⟩
abbrev cX5_isStop : ByteArray := prog_7_method_6_code
def yX5_isStop : MethodName := ⟨RX5, "isStop", "()Z"⟩
abbrev cX5_readNumber : ByteArray := prog_7_method_7_code
def yX5_readNumber : MethodName := ⟨RX5, "readNumber", "(I)Z"⟩
abbrev cX5_step : ByteArray := prog_7_method_8_code
def yX5_step : MethodName := ⟨RX5, "step", "()V"⟩
abbrev cX5_sortAt : ByteArray := prog_7_method_9_code
def yX5_sortAt : MethodName := ⟨RX5, "sortAt", "(I)I"⟩
abbrev cX5_isName : ByteArray := prog_7_method_10_code
def yX5_isName : MethodName := ⟨RX5, "isName", "(Ljava/lang/String;)Z"⟩
abbrev cX5_kindNamed : ByteArray := prog_7_method_11_code
def yX5_kindNamed : MethodName := ⟨RX5, "kindNamed", "()I"⟩
abbrev cX5_lawNamed : ByteArray := prog_7_method_12_code
def yX5_lawNamed : MethodName := ⟨RX5, "lawNamed", "()I"⟩
def RX6 : String := "KinCutlery"
def TX6 : u_T := fun k => match k with
  | 0 => ("KinCutlery", "now", "LKinCutlery$Table;", true)
  | 1 => ("KinCutlery", "tried", "LKinCutlery$Table;", true)
  | 2 => ("KinCutlery", "kept", "LKinCutlery$Table;", true)
  | 3 => ("KinCutlery", "keptAny", "Z", false)
  | 4 => ("KinCutlery", "tape", "LKinCutlery$Tape;", true)
  | 5 => ("KinCutlery", "rows", "LKinCutlery$Rows;", true)
  | 6 => ("KinCutlery", "sheets", "[LKinCutlery$Sheet;", true)
  | 7 => ("KinCutlery", "shelves", "[LKinCutlery$Shelf;", true)
  | _ => ("KinCutlery", "stage", "LKinCutlery$Stage;", true)
def tyX6 : Nat → FieldType := fun k => match k with
  | 0 => .object "KinCutlery$Table"
  | 1 => .object "KinCutlery$Table"
  | 2 => .object "KinCutlery$Table"
  | 3 => .boolean
  | 4 => .object "KinCutlery$Tape"
  | 5 => .object "KinCutlery$Rows"
  | 6 => .array (.object "KinCutlery$Sheet")
  | 7 => .array (.object "KinCutlery$Shelf")
  | _ => .object "KinCutlery$Stage"
abbrev wsX60 : List Cond := u_ws RX6 TX6 9
theorem nmX6 : ∀ a, a < 9 → ∀ b, b < 9 → a ≠ b → (TX6 a).2.1 ≠ (TX6 b).2.1 := by decide +kernel
theorem tyX6_ok : ∀ k, k < 9 → parseFieldDescriptor (TX6 k).2.2.1 = some (tyX6 k) := by decide +kernel
abbrev cX6_init : ByteArray := prog_1_method_1_code
def yX6_init : MethodName := ⟨RX6, "<init>", "()V"⟩
abbrev cX6_feed : ByteArray := prog_1_method_2_code
def yX6_feed : MethodName := ⟨RX6, "feed", "(JI)I"⟩
abbrev cX6_feast : ByteArray := prog_1_method_3_code
def yX6_feast : MethodName := ⟨RX6, "feast", "()I"⟩
abbrev cX6_set : ByteArray := prog_1_method_4_code
def yX6_set : MethodName := ⟨RX6, "set", "(II)I"⟩
abbrev cX6_lawOf : ByteArray := prog_1_method_5_code
def yX6_lawOf : MethodName := ⟨RX6, "lawOf", "(I)I"⟩
abbrev cX6_guest : ByteArray := prog_1_method_6_code
def yX6_guest : MethodName := ⟨RX6, "guest", "(II)I"⟩
abbrev cX6_of : ByteArray := prog_1_method_7_code
def yX6_of : MethodName := ⟨RX6, "of", "(II)I"⟩
abbrev cX6_does : ByteArray := prog_1_method_8_code
def yX6_does : MethodName := ⟨RX6, "does", "(II)I"⟩
abbrev cX6_mind : ByteArray := prog_1_method_9_code
def yX6_mind : MethodName := ⟨RX6, "mind", "(II)I"⟩
abbrev cX6_give : ByteArray := prog_1_method_10_code
def yX6_give : MethodName := ⟨RX6, "give", "(II)I"⟩
abbrev cX6_sink : ByteArray := prog_1_method_11_code
def yX6_sink : MethodName := ⟨RX6, "sink", "(III)I"⟩
abbrev cX6_courses : ByteArray := prog_1_method_12_code
def yX6_courses : MethodName := ⟨RX6, "courses", "(I)I"⟩
abbrev cX6_seed : ByteArray := prog_1_method_13_code
def yX6_seed : MethodName := ⟨RX6, "seed", "(I)I"⟩
abbrev cX6_course : ByteArray := prog_1_method_14_code
def yX6_course : MethodName := ⟨RX6, "course", "()I"⟩
abbrev cX6_luck : ByteArray := prog_1_method_15_code
def yX6_luck : MethodName := ⟨RX6, "luck", "(I)I"⟩
abbrev cX6_state : ByteArray := prog_1_method_16_code
def yX6_state : MethodName := ⟨RX6, "state", "(I)I"⟩
abbrev cX6_deep : ByteArray := prog_1_method_17_code
def yX6_deep : MethodName := ⟨RX6, "deep", "(II)I"⟩
abbrev cX6_speaks : ByteArray := prog_1_method_18_code
def yX6_speaks : MethodName := ⟨RX6, "speaks", "(I)I"⟩
abbrev cX6_sinks : ByteArray := prog_1_method_19_code
def yX6_sinks : MethodName := ⟨RX6, "sinks", "(I)I"⟩
abbrev cX6_whole : ByteArray := prog_1_method_20_code
def yX6_whole : MethodName := ⟨RX6, "whole", "()I"⟩
abbrev cX6_tale : ByteArray := prog_1_method_21_code
def yX6_tale : MethodName := ⟨RX6, "tale", "(I)I"⟩
abbrev cX6_pieceFor : ByteArray := prog_1_method_22_code
def yX6_pieceFor : MethodName := ⟨RX6, "pieceFor", "(II)I"⟩
abbrev cX6_kindFor : ByteArray := prog_1_method_23_code
def yX6_kindFor : MethodName := ⟨RX6, "kindFor", "(II)I"⟩
abbrev cX6_goneFor : ByteArray := prog_1_method_24_code
def yX6_goneFor : MethodName := ⟨RX6, "goneFor", "(II)I"⟩
abbrev cX6_depthFor : ByteArray := prog_1_method_25_code
def yX6_depthFor : MethodName := ⟨RX6, "depthFor", "(I)I"⟩
abbrev cX6_strangersFor : ByteArray := prog_1_method_26_code
def yX6_strangersFor : MethodName := ⟨RX6, "strangersFor", "(II)I"⟩
abbrev cX6_reaches : ByteArray := prog_1_method_27_code
def yX6_reaches : MethodName := ⟨RX6, "reaches", "(III)Z"⟩
abbrev cX6_fits : ByteArray := prog_1_method_28_code
def yX6_fits : MethodName := ⟨RX6, "fits", "(III)I"⟩
abbrev cX6_goesAs : ByteArray := prog_1_method_29_code
def yX6_goesAs : MethodName := ⟨RX6, "goesAs", "(LKinCutlery$Sheet;)Z"⟩
abbrev cX6_triedTale : ByteArray := prog_1_method_30_code
def yX6_triedTale : MethodName := ⟨RX6, "triedTale", "(I)I"⟩
abbrev cX6_odds : ByteArray := prog_1_method_31_code
def yX6_odds : MethodName := ⟨RX6, "odds", "(III)J"⟩
abbrev cX6_hope : ByteArray := prog_1_method_32_code
def yX6_hope : MethodName := ⟨RX6, "hope", "(II)J"⟩
abbrev cX6_waysToChoose : ByteArray := prog_1_method_33_code
def yX6_waysToChoose : MethodName := ⟨RX6, "waysToChoose", "(II)J"⟩
abbrev cX6_partOf : ByteArray := prog_1_method_34_code
def yX6_partOf : MethodName := ⟨RX6, "partOf", "(JJI)J"⟩
abbrev cX6_commonDivisor : ByteArray := prog_1_method_35_code
def yX6_commonDivisor : MethodName := ⟨RX6, "commonDivisor", "(JJ)J"⟩
abbrev cX6_prove : ByteArray := prog_1_method_36_code
def yX6_prove : MethodName := ⟨RX6, "prove", "(II)I"⟩
abbrev cX6_row : ByteArray := prog_1_method_37_code
def yX6_row : MethodName := ⟨RX6, "row", "(II)I"⟩
abbrev cX6_alterRow : ByteArray := prog_1_method_38_code
def yX6_alterRow : MethodName := ⟨RX6, "alterRow", "(III)I"⟩
abbrev cX6_judge : ByteArray := prog_1_method_39_code
def yX6_judge : MethodName := ⟨RX6, "judge", "(I)I"⟩
abbrev cX6_triedCell : ByteArray := prog_1_method_40_code
def yX6_triedCell : MethodName := ⟨RX6, "triedCell", "(II)I"⟩
abbrev cX6_minds : ByteArray := prog_1_method_41_code
def yX6_minds : MethodName := ⟨RX6, "minds", "(IIII)I"⟩
abbrev cX6_sheet : ByteArray := prog_1_method_42_code
def yX6_sheet : MethodName := ⟨RX6, "sheet", "(III)I"⟩
abbrev cX6_put : ByteArray := prog_1_method_43_code
def yX6_put : MethodName := ⟨RX6, "put", "(III)I"⟩
abbrev cX6_item : ByteArray := prog_1_method_44_code
def yX6_item : MethodName := ⟨RX6, "item", "(III)I"⟩
abbrev cX6_narrowed : ByteArray := prog_1_method_45_code
def yX6_narrowed : MethodName := ⟨RX6, "narrowed", "(II)I"⟩
abbrev cX6_shelf : ByteArray := prog_1_method_46_code
def yX6_shelf : MethodName := ⟨RX6, "shelf", "(III)I"⟩
abbrev cX6_taken : ByteArray := prog_1_method_47_code
def yX6_taken : MethodName := ⟨RX6, "taken", "(II)I"⟩
abbrev cX6_act : ByteArray := prog_1_method_48_code
def yX6_act : MethodName := ⟨RX6, "act", "(III)I"⟩
abbrev cX6_trace : ByteArray := prog_1_method_49_code
def yX6_trace : MethodName := ⟨RX6, "trace", "(I)I"⟩
abbrev cX6_heldNow : ByteArray := prog_1_method_50_code
def yX6_heldNow : MethodName := ⟨RX6, "heldNow", "(LKinCutlery$Shelf;)I"⟩
abbrev cX6_isUnder : ByteArray := prog_1_method_51_code
def yX6_isUnder : MethodName := ⟨RX6, "isUnder", "(II)Z"⟩
abbrev cX6_many : ByteArray := prog_1_method_52_code
def yX6_many : MethodName := ⟨RX6, "many", "(I)I"⟩
abbrev cX6_keep : ByteArray := prog_1_method_53_code
def yX6_keep : MethodName := ⟨RX6, "keep", "()I"⟩
abbrev cX6_again : ByteArray := prog_1_method_54_code
def yX6_again : MethodName := ⟨RX6, "again", "()I"⟩
abbrev cX6_within : ByteArray := prog_1_method_55_code
def yX6_within : MethodName := ⟨RX6, "within", "(III)Z"⟩
abbrev cX6_held : ByteArray := prog_1_method_56_code
def yX6_held : MethodName := ⟨RX6, "held", "(I)I"⟩
def RX7 : String := "KinCutleryModel"
def TX7 : u_T := fun k => match k with
  | 0 => ("KinCutleryModel", "s", "[I", true)
  | 1 => ("KinCutleryModel", "held", "[I", true)
  | 2 => ("KinCutleryModel", "aside", "[I", true)
  | 3 => ("KinCutleryModel", "before", "[I", true)
  | 4 => ("KinCutleryModel", "isHeld", "Z", false)
  | 5 => ("KinCutleryModel", "tape", "[I", true)
  | 6 => ("KinCutleryModel", "taped", "I", false)
  | 7 => ("KinCutleryModel", "token", "I", false)
  | 8 => ("KinCutleryModel", "from", "I", false)
  | 9 => ("KinCutleryModel", "to", "I", false)
  | 10 => ("KinCutleryModel", "value", "I", false)
  | 11 => ("KinCutleryModel", "isWrong", "Z", false)
  | 12 => ("KinCutleryModel", "rows", "[I", true)
  | 13 => ("KinCutleryModel", "rowN", "I", false)
  | 14 => ("KinCutleryModel", "sortOf", "[I", true)
  | 15 => ("KinCutleryModel", "sizeOf", "[I", true)
  | 16 => ("KinCutleryModel", "numbers", "[I", true)
  | 17 => ("KinCutleryModel", "holdsWhat", "[I", true)
  | 18 => ("KinCutleryModel", "holdsWhich", "[I", true)
  | 19 => ("KinCutleryModel", "holdsMany", "[I", true)
  | 20 => ("KinCutleryModel", "bodies", "[I", true)
  | 21 => ("KinCutleryModel", "ran", "I", false)
  | 22 => ("KinCutleryModel", "actKind", "I", false)
  | 23 => ("KinCutleryModel", "actN", "I", false)
  | 24 => ("KinCutleryModel", "actA", "I", false)
  | _ => ("KinCutleryModel", "isParted", "Z", false)
def tyX7 : Nat → FieldType := fun k => match k with
  | 0 => .array .int
  | 1 => .array .int
  | 2 => .array .int
  | 3 => .array .int
  | 4 => .boolean
  | 5 => .array .int
  | 6 => .int
  | 7 => .int
  | 8 => .int
  | 9 => .int
  | 10 => .int
  | 11 => .boolean
  | 12 => .array .int
  | 13 => .int
  | 14 => .array .int
  | 15 => .array .int
  | 16 => .array .int
  | 17 => .array .int
  | 18 => .array .int
  | 19 => .array .int
  | 20 => .array .int
  | 21 => .int
  | 22 => .int
  | 23 => .int
  | 24 => .int
  | _ => .boolean
abbrev wsX70 : List Cond := u_ws RX7 TX7 26
theorem nmX7 : ∀ a, a < 26 → ∀ b, b < 26 → a ≠ b → (TX7 a).2.1 ≠ (TX7 b).2.1 := by decide +kernel
theorem tyX7_ok : ∀ k, k < 26 → parseFieldDescriptor (TX7 k).2.2.1 = some (tyX7 k) := by decide +kernel
abbrev cX7_init : ByteArray := prog_9_method_1_code
def yX7_init : MethodName := ⟨RX7, "<init>", "()V"⟩
abbrev cX7_begins : ByteArray := prog_9_method_2_code
def yX7_begins : MethodName := ⟨RX7, "begins", "()V"⟩
abbrev cX7_isIn : ByteArray := prog_9_method_3_code
def yX7_isIn : MethodName := ⟨RX7, "isIn", "(JJJ)Z"⟩
abbrev cX7_isOne : ByteArray := prog_9_method_4_code
def yX7_isOne : MethodName := ⟨RX7, "isOne", "(I)Z"⟩
abbrev cX7_its : ByteArray := prog_9_method_5_code
def yX7_its : MethodName := ⟨RX7, "its", "(II)I"⟩
abbrev cX7_becomes : ByteArray := prog_9_method_6_code
def yX7_becomes : MethodName := ⟨RX7, "becomes", "(II)I"⟩
abbrev cX7_copyRow : ByteArray := prog_9_method_7_code
def yX7_copyRow : MethodName := ⟨RX7, "copyRow", "([I[I)V"⟩
abbrev cX7_least : ByteArray := prog_9_method_8_code
def yX7_least : MethodName := ⟨RX7, "least", "(II)I"⟩
abbrev cX7_greatest : ByteArray := prog_9_method_9_code
def yX7_greatest : MethodName := ⟨RX7, "greatest", "(II)I"⟩
abbrev cX7_within : ByteArray := prog_9_method_10_code
def yX7_within : MethodName := ⟨RX7, "within", "(I)I"⟩
abbrev cX7_size : ByteArray := prog_9_method_11_code
def yX7_size : MethodName := ⟨RX7, "size", "(I)I"⟩
abbrev cX7_isUnder : ByteArray := prog_9_method_12_code
def yX7_isUnder : MethodName := ⟨RX7, "isUnder", "(II)Z"⟩
abbrev cX7_feed : ByteArray := prog_9_method_13_code
def yX7_feed : MethodName := ⟨RX7, "feed", "(JI)I"⟩
abbrev cX7_isAlpha : ByteArray := prog_9_method_14_code
def yX7_isAlpha : MethodName := ⟨RX7, "isAlpha", "(I)Z"⟩
abbrev cX7_isDigit : ByteArray := prog_9_method_15_code
def yX7_isDigit : MethodName := ⟨RX7, "isDigit", "(I)Z"⟩
abbrev cX7_byteAt : ByteArray := prog_9_method_16_code
def yX7_byteAt : MethodName := ⟨RX7, "byteAt", "(I)I"⟩
abbrev cX7_nextToken : ByteArray := prog_9_method_17_code
def yX7_nextToken : MethodName := ⟨RX7, "nextToken", "()V"⟩
abbrev cX7_needs : ByteArray := prog_9_method_18_code
def yX7_needs : MethodName := ⟨RX7, "needs", "(Z)V"⟩
abbrev cX7_isName : ByteArray := prog_9_method_19_code
def yX7_isName : MethodName := ⟨RX7, "isName", "(IIIII)Z"⟩
abbrev cX7_isSame : ByteArray := prog_9_method_20_code
def yX7_isSame : MethodName := ⟨RX7, "isSame", "(IIII)Z"⟩
abbrev cX7_isFour : ByteArray := prog_9_method_21_code
def yX7_isFour : MethodName := ⟨RX7, "isFour", "(IIII)Z"⟩
abbrev cX7_isFive : ByteArray := prog_9_method_22_code
def yX7_isFive : MethodName := ⟨RX7, "isFive", "(IIIII)Z"⟩
abbrev cX7_kindHere : ByteArray := prog_9_method_23_code
def yX7_kindHere : MethodName := ⟨RX7, "kindHere", "()I"⟩
abbrev cX7_numberTo : ByteArray := prog_9_method_24_code
def yX7_numberTo : MethodName := ⟨RX7, "numberTo", "(II)V"⟩
abbrev cX7_guestHere : ByteArray := prog_9_method_25_code
def yX7_guestHere : MethodName := ⟨RX7, "guestHere", "(I)V"⟩
abbrev cX7_lawHere : ByteArray := prog_9_method_26_code
def yX7_lawHere : MethodName := ⟨RX7, "lawHere", "()I"⟩
abbrev cX7_mostOf : ByteArray := prog_9_method_27_code
def yX7_mostOf : MethodName := ⟨RX7, "mostOf", "(I)I"⟩
abbrev cX7_itemHere : ByteArray := prog_9_method_28_code
def yX7_itemHere : MethodName := ⟨RX7, "itemHere", "()V"⟩
abbrev cX7_feast : ByteArray := prog_9_method_29_code
def yX7_feast : MethodName := ⟨RX7, "feast", "()I"⟩
abbrev cX7_set : ByteArray := prog_9_method_30_code
def yX7_set : MethodName := ⟨RX7, "set", "(II)I"⟩
abbrev cX7_lawOf : ByteArray := prog_9_method_31_code
def yX7_lawOf : MethodName := ⟨RX7, "lawOf", "(I)I"⟩
abbrev cX7_comes : ByteArray := prog_9_method_32_code
def yX7_comes : MethodName := ⟨RX7, "comes", "(II)V"⟩
abbrev cX7_isPiece : ByteArray := prog_9_method_33_code
def yX7_isPiece : MethodName := ⟨RX7, "isPiece", "(I)Z"⟩
abbrev cX7_guest : ByteArray := prog_9_method_34_code
def yX7_guest : MethodName := ⟨RX7, "guest", "(II)I"⟩
abbrev cX7_next : ByteArray := prog_9_method_35_code
def yX7_next : MethodName := ⟨RX7, "next", "()I"⟩
abbrev cX7_takes : ByteArray := prog_9_method_36_code
def yX7_takes : MethodName := ⟨RX7, "takes", "(I)I"⟩
abbrev cX7_needsOf : ByteArray := prog_9_method_37_code
def yX7_needsOf : MethodName := ⟨RX7, "needsOf", "(I)I"⟩
abbrev cX7_costs : ByteArray := prog_9_method_38_code
def yX7_costs : MethodName := ⟨RX7, "costs", "(I)I"⟩
abbrev cX7_of : ByteArray := prog_9_method_39_code
def yX7_of : MethodName := ⟨RX7, "of", "(II)I"⟩
abbrev cX7_does : ByteArray := prog_9_method_40_code
def yX7_does : MethodName := ⟨RX7, "does", "(II)I"⟩
abbrev cX7_mind : ByteArray := prog_9_method_41_code
def yX7_mind : MethodName := ⟨RX7, "mind", "(II)I"⟩
abbrev cX7_give : ByteArray := prog_9_method_42_code
def yX7_give : MethodName := ⟨RX7, "give", "(II)I"⟩
abbrev cX7_sink : ByteArray := prog_9_method_43_code
def yX7_sink : MethodName := ⟨RX7, "sink", "(III)I"⟩
abbrev cX7_teller : ByteArray := prog_9_method_44_code
def yX7_teller : MethodName := ⟨RX7, "teller", "()I"⟩
abbrev cX7_tellsNext : ByteArray := prog_9_method_45_code
def yX7_tellsNext : MethodName := ⟨RX7, "tellsNext", "(I)V"⟩
abbrev cX7_goesOn : ByteArray := prog_9_method_46_code
def yX7_goesOn : MethodName := ⟨RX7, "goesOn", "()V"⟩
abbrev cX7_goesOnMany : ByteArray := prog_9_method_47_code
def yX7_goesOnMany : MethodName := ⟨RX7, "goesOnMany", "(I)V"⟩
abbrev cX7_courses : ByteArray := prog_9_method_48_code
def yX7_courses : MethodName := ⟨RX7, "courses", "(I)I"⟩
abbrev cX7_seed : ByteArray := prog_9_method_49_code
def yX7_seed : MethodName := ⟨RX7, "seed", "(I)I"⟩
abbrev cX7_drawn : ByteArray := prog_9_method_50_code
def yX7_drawn : MethodName := ⟨RX7, "drawn", "()I"⟩
abbrev cX7_course : ByteArray := prog_9_method_51_code
def yX7_course : MethodName := ⟨RX7, "course", "()I"⟩
abbrev cX7_luck : ByteArray := prog_9_method_52_code
def yX7_luck : MethodName := ⟨RX7, "luck", "(I)I"⟩
abbrev cX7_drownedOnes : ByteArray := prog_9_method_53_code
def yX7_drownedOnes : MethodName := ⟨RX7, "drownedOnes", "()I"⟩
abbrev cX7_goneOfAll : ByteArray := prog_9_method_54_code
def yX7_goneOfAll : MethodName := ⟨RX7, "goneOfAll", "()I"⟩
abbrev cX7_pieces : ByteArray := prog_9_method_55_code
def yX7_pieces : MethodName := ⟨RX7, "pieces", "()I"⟩
abbrev cX7_gap : ByteArray := prog_9_method_56_code
def yX7_gap : MethodName := ⟨RX7, "gap", "()I"⟩
abbrev cX7_state : ByteArray := prog_9_method_57_code
def yX7_state : MethodName := ⟨RX7, "state", "(I)I"⟩
abbrev cX7_deep : ByteArray := prog_9_method_58_code
def yX7_deep : MethodName := ⟨RX7, "deep", "(II)I"⟩
abbrev cX7_speaksBy : ByteArray := prog_9_method_59_code
def yX7_speaksBy : MethodName := ⟨RX7, "speaksBy", "(II)I"⟩
abbrev cX7_speaks : ByteArray := prog_9_method_60_code
def yX7_speaks : MethodName := ⟨RX7, "speaks", "(I)I"⟩
abbrev cX7_sinks : ByteArray := prog_9_method_61_code
def yX7_sinks : MethodName := ⟨RX7, "sinks", "(I)I"⟩
abbrev cX7_whole : ByteArray := prog_9_method_62_code
def yX7_whole : MethodName := ⟨RX7, "whole", "()I"⟩
abbrev cX7_taleBy : ByteArray := prog_9_method_63_code
def yX7_taleBy : MethodName := ⟨RX7, "taleBy", "(I)I"⟩
abbrev cX7_tale : ByteArray := prog_9_method_64_code
def yX7_tale : MethodName := ⟨RX7, "tale", "(I)I"⟩
abbrev cX7_isShort : ByteArray := prog_9_method_65_code
def yX7_isShort : MethodName := ⟨RX7, "isShort", "(I)Z"⟩
abbrev cX7_mostBy : ByteArray := prog_9_method_66_code
def yX7_mostBy : MethodName := ⟨RX7, "mostBy", "(III)I"⟩
abbrev cX7_pieceFor : ByteArray := prog_9_method_67_code
def yX7_pieceFor : MethodName := ⟨RX7, "pieceFor", "(II)I"⟩
abbrev cX7_kindFor : ByteArray := prog_9_method_68_code
def yX7_kindFor : MethodName := ⟨RX7, "kindFor", "(II)I"⟩
abbrev cX7_goneFor : ByteArray := prog_9_method_69_code
def yX7_goneFor : MethodName := ⟨RX7, "goneFor", "(II)I"⟩
abbrev cX7_depthFor : ByteArray := prog_9_method_70_code
def yX7_depthFor : MethodName := ⟨RX7, "depthFor", "(I)I"⟩
abbrev cX7_taleOf : ByteArray := prog_9_method_71_code
def yX7_taleOf : MethodName := ⟨RX7, "taleOf", "(II)I"⟩
abbrev cX7_strangersFor : ByteArray := prog_9_method_72_code
def yX7_strangersFor : MethodName := ⟨RX7, "strangersFor", "(II)I"⟩
abbrev cX7_product : ByteArray := prog_9_method_73_code
def yX7_product : MethodName := ⟨RX7, "product", "(I)J"⟩
abbrev cX7_partOf : ByteArray := prog_9_method_74_code
def yX7_partOf : MethodName := ⟨RX7, "partOf", "(JJI)J"⟩
abbrev cX7_isTold : ByteArray := prog_9_method_75_code
def yX7_isTold : MethodName := ⟨RX7, "isTold", "(I)Z"⟩
abbrev cX7_fits : ByteArray := prog_9_method_76_code
def yX7_fits : MethodName := ⟨RX7, "fits", "(III)I"⟩
abbrev cX7_odds : ByteArray := prog_9_method_77_code
def yX7_odds : MethodName := ⟨RX7, "odds", "(III)J"⟩
abbrev cX7_hope : ByteArray := prog_9_method_78_code
def yX7_hope : MethodName := ⟨RX7, "hope", "(II)J"⟩
abbrev cX7_prove : ByteArray := prog_9_method_79_code
def yX7_prove : MethodName := ⟨RX7, "prove", "(II)I"⟩
abbrev cX7_isRow : ByteArray := prog_9_method_80_code
def yX7_isRow : MethodName := ⟨RX7, "isRow", "(II)Z"⟩
abbrev cX7_row : ByteArray := prog_9_method_81_code
def yX7_row : MethodName := ⟨RX7, "row", "(II)I"⟩
abbrev cX7_alterRow : ByteArray := prog_9_method_82_code
def yX7_alterRow : MethodName := ⟨RX7, "alterRow", "(III)I"⟩
abbrev cX7_judge : ByteArray := prog_9_method_83_code
def yX7_judge : MethodName := ⟨RX7, "judge", "(I)I"⟩
abbrev cX7_isSheet : ByteArray := prog_9_method_84_code
def yX7_isSheet : MethodName := ⟨RX7, "isSheet", "(I)Z"⟩
abbrev cX7_isShelf : ByteArray := prog_9_method_85_code
def yX7_isShelf : MethodName := ⟨RX7, "isShelf", "(I)Z"⟩
abbrev cX7_sheet : ByteArray := prog_9_method_86_code
def yX7_sheet : MethodName := ⟨RX7, "sheet", "(III)I"⟩
abbrev cX7_put : ByteArray := prog_9_method_87_code
def yX7_put : MethodName := ⟨RX7, "put", "(III)I"⟩
abbrev cX7_lacks : ByteArray := prog_9_method_88_code
def yX7_lacks : MethodName := ⟨RX7, "lacks", "(II)I"⟩
abbrev cX7_item : ByteArray := prog_9_method_89_code
def yX7_item : MethodName := ⟨RX7, "item", "(III)I"⟩
abbrev cX7_minds : ByteArray := prog_9_method_90_code
def yX7_minds : MethodName := ⟨RX7, "minds", "(IIII)I"⟩
abbrev cX7_shelf : ByteArray := prog_9_method_91_code
def yX7_shelf : MethodName := ⟨RX7, "shelf", "(III)I"⟩
abbrev cX7_heldOn : ByteArray := prog_9_method_92_code
def yX7_heldOn : MethodName := ⟨RX7, "heldOn", "(I)I"⟩
abbrev cX7_taken : ByteArray := prog_9_method_93_code
def yX7_taken : MethodName := ⟨RX7, "taken", "(II)I"⟩
abbrev cX7_runs : ByteArray := prog_9_method_94_code
def yX7_runs : MethodName := ⟨RX7, "runs", "(I)V"⟩
abbrev cX7_liftsPlain : ByteArray := prog_9_method_95_code
def yX7_liftsPlain : MethodName := ⟨RX7, "liftsPlain", "(I)I"⟩
abbrev cX7_liftsOfActuary : ByteArray := prog_9_method_96_code
def yX7_liftsOfActuary : MethodName := ⟨RX7, "liftsOfActuary", "(I)I"⟩
abbrev cX7_lifts : ByteArray := prog_9_method_97_code
def yX7_lifts : MethodName := ⟨RX7, "lifts", "(I)I"⟩
abbrev cX7_cutsPlain : ByteArray := prog_9_method_98_code
def yX7_cutsPlain : MethodName := ⟨RX7, "cutsPlain", "(I)I"⟩
abbrev cX7_cuts : ByteArray := prog_9_method_99_code
def yX7_cuts : MethodName := ⟨RX7, "cuts", "(I)I"⟩
abbrev cX7_partsPlain : ByteArray := prog_9_method_100_code
def yX7_partsPlain : MethodName := ⟨RX7, "partsPlain", "(I)I"⟩
abbrev cX7_parts : ByteArray := prog_9_method_101_code
def yX7_parts : MethodName := ⟨RX7, "parts", "(I)I"⟩
abbrev cX7_tellsPlain : ByteArray := prog_9_method_102_code
def yX7_tellsPlain : MethodName := ⟨RX7, "tellsPlain", "(I)I"⟩
abbrev cX7_tells : ByteArray := prog_9_method_103_code
def yX7_tells : MethodName := ⟨RX7, "tells", "(I)I"⟩
abbrev cX7_act : ByteArray := prog_9_method_104_code
def yX7_act : MethodName := ⟨RX7, "act", "(III)I"⟩
abbrev cX7_trace : ByteArray := prog_9_method_105_code
def yX7_trace : MethodName := ⟨RX7, "trace", "(I)I"⟩
abbrev cX7_many : ByteArray := prog_9_method_106_code
def yX7_many : MethodName := ⟨RX7, "many", "(I)I"⟩
abbrev cX7_keep : ByteArray := prog_9_method_107_code
def yX7_keep : MethodName := ⟨RX7, "keep", "()I"⟩
abbrev cX7_again : ByteArray := prog_9_method_108_code
def yX7_again : MethodName := ⟨RX7, "again", "()I"⟩
def RJx145de : String := "java/io/Serializable"
def TJx145de : u_T := fun k => match k with
  | _ => ("", "", "", false)
def tyJx145de : Nat → FieldType := fun k => match k with
  | _ => .int
abbrev wsJx145de0 : List Cond := u_ws RJx145de TJx145de 0
theorem nmJx145de : ∀ a, a < 0 → ∀ b, b < 0 → a ≠ b → (TJx145de a).2.1 ≠ (TJx145de b).2.1 := by decide +kernel
theorem tyJx145de_ok : ∀ k, k < 0 → parseFieldDescriptor (TJx145de k).2.2.1 = some (tyJx145de k) := by decide +kernel
def RJx9f9b0 : String := "java/lang/CharSequence"
def TJx9f9b0 : u_T := fun k => match k with
  | _ => ("", "", "", false)
def tyJx9f9b0 : Nat → FieldType := fun k => match k with
  | _ => .int
abbrev wsJx9f9b00 : List Cond := u_ws RJx9f9b0 TJx9f9b0 0
theorem nmJx9f9b0 : ∀ a, a < 0 → ∀ b, b < 0 → a ≠ b → (TJx9f9b0 a).2.1 ≠ (TJx9f9b0 b).2.1 := by decide +kernel
theorem tyJx9f9b0_ok : ∀ k, k < 0 → parseFieldDescriptor (TJx9f9b0 k).2.2.1 = some (tyJx9f9b0 k) := by decide +kernel
def RJxb160c : String := "java/lang/Comparable"
def TJxb160c : u_T := fun k => match k with
  | _ => ("", "", "", false)
def tyJxb160c : Nat → FieldType := fun k => match k with
  | _ => .int
abbrev wsJxb160c0 : List Cond := u_ws RJxb160c TJxb160c 0
theorem nmJxb160c : ∀ a, a < 0 → ∀ b, b < 0 → a ≠ b → (TJxb160c a).2.1 ≠ (TJxb160c b).2.1 := by decide +kernel
theorem tyJxb160c_ok : ∀ k, k < 0 → parseFieldDescriptor (TJxb160c k).2.2.1 = some (tyJxb160c k) := by decide +kernel
def RJ6 : String := "java/lang/Integer"
def TJ6 : u_T := fun k => match k with
  | _ => ("", "", "", false)
def tyJ6 : Nat → FieldType := fun k => match k with
  | _ => .int
abbrev wsJ60 : List Cond := u_ws RJ6 TJ6 0
theorem nmJ6 : ∀ a, a < 0 → ∀ b, b < 0 → a ≠ b → (TJ6 a).2.1 ≠ (TJ6 b).2.1 := by decide +kernel
theorem tyJ6_ok : ∀ k, k < 0 → parseFieldDescriptor (TJ6 k).2.2.1 = some (tyJ6 k) := by decide +kernel
abbrev cJ6_bitCount_0f7a4 : ByteArray := prog_10_method_49_code
def yJ6_bitCount_0f7a4 : MethodName := ⟨RJ6, "bitCount", "(I)I"⟩
def RJ9 : String := "java/lang/Math"
def TJ9 : u_T := fun k => match k with
  | _ => ("", "", "", false)
def tyJ9 : Nat → FieldType := fun k => match k with
  | _ => .int
abbrev wsJ90 : List Cond := u_ws RJ9 TJ9 0
theorem nmJ9 : ∀ a, a < 0 → ∀ b, b < 0 → a ≠ b → (TJ9 a).2.1 ≠ (TJ9 b).2.1 := by decide +kernel
theorem tyJ9_ok : ∀ k, k < 0 → parseFieldDescriptor (TJ9 k).2.2.1 = some (tyJ9 k) := by decide +kernel
abbrev cJ9_max_7cf53 : ByteArray := prog_11_method_65_code
def yJ9_max_7cf53 : MethodName := ⟨RJ9, "max", "(II)I"⟩
abbrev cJ9_min_7cf53 : ByteArray := prog_11_method_69_code
def yJ9_min_7cf53 : MethodName := ⟨RJ9, "min", "(II)I"⟩
def RJ0 : String := "java/lang/String"
def TJ0 : u_T := fun k => match k with
  | _ => ("", "", "", false)
def tyJ0 : Nat → FieldType := fun k => match k with
  | _ => .int
abbrev wsJ00 : List Cond := u_ws RJ0 TJ0 0
theorem nmJ0 : ∀ a, a < 0 → ∀ b, b < 0 → a ≠ b → (TJ0 a).2.1 ≠ (TJ0 b).2.1 := by decide +kernel
theorem tyJ0_ok : ∀ k, k < 0 → parseFieldDescriptor (TJ0 k).2.2.1 = some (tyJ0 k) := by decide +kernel
abbrev cJ0_length_8abf5 : ByteArray := prog_12_method_54_code
def yJ0_length_8abf5 : MethodName := ⟨RJ0, "length", "()I"⟩
abbrev cJ0_charAt_5068e : ByteArray := prog_12_method_56_code
def yJ0_charAt_5068e : MethodName := ⟨RJ0, "charAt", "(I)C"⟩
abbrev cJ0_coder_7d493 : ByteArray := prog_12_method_152_code
def yJ0_coder_7d493 : MethodName := ⟨RJ0, "coder", "()B"⟩
abbrev cJ0_isLatin1_aae02 : ByteArray := prog_12_method_154_code
def yJ0_isLatin1_aae02 : MethodName := ⟨RJ0, "isLatin1", "()Z"⟩
abbrev cJ0_checkIndex_df160 : ByteArray := prog_12_method_155_code
def yJ0_checkIndex_df160 : MethodName := ⟨RJ0, "checkIndex", "(II)V"⟩
def RJ1 : String := "java/lang/StringLatin1"
def TJ1 : u_T := fun k => match k with
  | _ => ("", "", "", false)
def tyJ1 : Nat → FieldType := fun k => match k with
  | _ => .int
abbrev wsJ10 : List Cond := u_ws RJ1 TJ1 0
theorem nmJ1 : ∀ a, a < 0 → ∀ b, b < 0 → a ≠ b → (TJ1 a).2.1 ≠ (TJ1 b).2.1 := by decide +kernel
theorem tyJ1_ok : ∀ k, k < 0 → parseFieldDescriptor (TJ1 k).2.2.1 = some (tyJ1 k) := by decide +kernel
abbrev cJ1_charAt_3b067 : ByteArray := prog_13_method_2_code
def yJ1_charAt_3b067 : MethodName := ⟨RJ1, "charAt", "([BI)C"⟩
def RJ2 : String := "java/lang/StringUTF16"
def TJ2 : u_T := fun k => match k with
  | _ => ("", "", "", false)
def tyJ2 : Nat → FieldType := fun k => match k with
  | _ => .int
abbrev wsJ20 : List Cond := u_ws RJ2 TJ2 0
theorem nmJ2 : ∀ a, a < 0 → ∀ b, b < 0 → a ≠ b → (TJ2 a).2.1 ≠ (TJ2 b).2.1 := by decide +kernel
theorem tyJ2_ok : ∀ k, k < 0 → parseFieldDescriptor (TJ2 k).2.2.1 = some (tyJ2 k) := by decide +kernel
abbrev cJ2_getChar_3b067 : ByteArray := prog_14_method_5_code
def yJ2_getChar_3b067 : MethodName := ⟨RJ2, "getChar", "([BI)C"⟩
abbrev cJ2_length_9d52b : ByteArray := prog_14_method_6_code
def yJ2_length_9d52b : MethodName := ⟨RJ2, "length", "([B)I"⟩
abbrev cJ2_charAt_3b067 : ByteArray := prog_14_method_83_code
def yJ2_charAt_3b067 : MethodName := ⟨RJ2, "charAt", "([BI)C"⟩
abbrev cJ2_checkIndex_2214a : ByteArray := prog_14_method_91_code
def yJ2_checkIndex_2214a : MethodName := ⟨RJ2, "checkIndex", "(I[B)V"⟩
def RJ10 : String := "java/lang/System"
def TJ10 : u_T := fun k => match k with
  | _ => ("", "", "", false)
def tyJ10 : Nat → FieldType := fun k => match k with
  | _ => .int
abbrev wsJ100 : List Cond := u_ws RJ10 TJ10 0
theorem nmJ10 : ∀ a, a < 0 → ∀ b, b < 0 → a ≠ b → (TJ10 a).2.1 ≠ (TJ10 b).2.1 := by decide +kernel
theorem tyJ10_ok : ∀ k, k < 0 → parseFieldDescriptor (TJ10 k).2.2.1 = some (tyJ10 k) := by decide +kernel
def RJxfd54e : String := "java/lang/constant/Constable"
def TJxfd54e : u_T := fun k => match k with
  | _ => ("", "", "", false)
def tyJxfd54e : Nat → FieldType := fun k => match k with
  | _ => .int
abbrev wsJxfd54e0 : List Cond := u_ws RJxfd54e TJxfd54e 0
theorem nmJxfd54e : ∀ a, a < 0 → ∀ b, b < 0 → a ≠ b → (TJxfd54e a).2.1 ≠ (TJxfd54e b).2.1 := by decide +kernel
theorem tyJxfd54e_ok : ∀ k, k < 0 → parseFieldDescriptor (TJxfd54e k).2.2.1 = some (tyJxfd54e k) := by decide +kernel
def RJx3cf43 : String := "java/lang/constant/ConstantDesc"
def TJx3cf43 : u_T := fun k => match k with
  | _ => ("", "", "", false)
def tyJx3cf43 : Nat → FieldType := fun k => match k with
  | _ => .int
abbrev wsJx3cf430 : List Cond := u_ws RJx3cf43 TJx3cf43 0
theorem nmJx3cf43 : ∀ a, a < 0 → ∀ b, b < 0 → a ≠ b → (TJx3cf43 a).2.1 ≠ (TJx3cf43 b).2.1 := by decide +kernel
theorem tyJx3cf43_ok : ∀ k, k < 0 → parseFieldDescriptor (TJx3cf43 k).2.2.1 = some (tyJx3cf43 k) := by decide +kernel
def RJ7 : String := "java/util/Arrays"
def TJ7 : u_T := fun k => match k with
  | _ => ("", "", "", false)
def tyJ7 : Nat → FieldType := fun k => match k with
  | _ => .int
abbrev wsJ70 : List Cond := u_ws RJ7 TJ7 0
theorem nmJ7 : ∀ a, a < 0 → ∀ b, b < 0 → a ≠ b → (TJ7 a).2.1 ≠ (TJ7 b).2.1 := by decide +kernel
theorem tyJ7_ok : ∀ k, k < 0 → parseFieldDescriptor (TJ7 k).2.2.1 = some (tyJ7 k) := by decide +kernel
abbrev cJ7_fill_d0a16 : ByteArray := prog_16_method_101_code
def yJ7_fill_d0a16 : MethodName := ⟨RJ7, "fill", "([JJ)V"⟩
def RJ3 : String := "jdk/internal/util/Preconditions"
def TJ3 : u_T := fun k => match k with
  | _ => ("", "", "", false)
def tyJ3 : Nat → FieldType := fun k => match k with
  | _ => .int
abbrev wsJ30 : List Cond := u_ws RJ3 TJ3 0
theorem nmJ3 : ∀ a, a < 0 → ∀ b, b < 0 → a ≠ b → (TJ3 a).2.1 ≠ (TJ3 b).2.1 := by decide +kernel
theorem tyJ3_ok : ∀ k, k < 0 → parseFieldDescriptor (TJ3 k).2.2.1 = some (tyJ3 k) := by decide +kernel
abbrev cJ3_checkIndex_8e157 : ByteArray := prog_17_method_11_code
def yJ3_checkIndex_8e157 : MethodName := ⟨RJ3, "checkIndex", "(IILjava/util/function/BiFunction;)I"⟩
def RL : String := "KinCutleryLaw"
def wsX0_init : List Cond := .code yX0_init cX0_init 1 none :: ([.methodLink RX0 3 objectInit, .instanceMethod objectInit, .code objectInit ⟨#[0xb1]⟩ 1 none, .arrayClass .int, .fieldLink RX0 9 "KinCutlery$Rows" "cells" "[I"] ++ wsX00)
def wsX6_within : List Cond := .code yX6_within cX6_within 3 (some .boolean) :: ([])
def wsX0_has : List Cond := .code yX0_has cX0_has 3 (some .boolean) :: ([.fieldLink RX0 15 "KinCutlery$Rows" "count" "I", .static yX6_within, .initialized RX6, .code yX6_within cX6_within 3 (some .boolean)] ++ wsX00)
def wsX1_init : List Cond := .code yX1_init cX1_init 1 none :: ([.methodLink RX1 3 objectInit, .instanceMethod objectInit, .code objectInit ⟨#[0xb1]⟩ 1 none, .arrayClass .long, .fieldLink RX1 9 "KinCutlery$Sheet" "items" "[J", .fieldLink RX1 15 "KinCutlery$Sheet" "sort" "I"] ++ wsX10)
def wsJ7_fill_d0a16 : List Cond := .code yJ7_fill_d0a16 cJ7_fill_d0a16 5 none :: ([])
def wsX1_become : List Cond := .code yX1_become cX1_become 3 none :: ([.fieldLink RX1 15 "KinCutlery$Sheet" "sort" "I", .fieldLink RX1 19 "KinCutlery$Sheet" "length" "I", .fieldLink RX1 9 "KinCutlery$Sheet" "items" "[J", .methodLink RX1 22 yJ7_fill_d0a16, .static yJ7_fill_d0a16, .initialized RJ7, .code yJ7_fill_d0a16 cJ7_fill_d0a16 5 none] ++ wsX10)
def wsX2_init : List Cond := .code yX2_init cX2_init 1 none :: ([.methodLink RX2 3 objectInit, .instanceMethod objectInit, .code objectInit ⟨#[0xb1]⟩ 1 none, .fieldLink RX2 9 "KinCutlery$Shelf" "what" "I"] ++ wsX20)
def wsX2_holdGuest : List Cond := .code yX2_holdGuest cX2_holdGuest 2 none :: ([.fieldLink RX2 9 "KinCutlery$Shelf" "what" "I", .fieldLink RX2 15 "KinCutlery$Shelf" "number" "I"] ++ wsX20)
def wsX2_holdRow : List Cond := .code yX2_holdRow cX2_holdRow 2 none :: ([.fieldLink RX2 18 "KinCutlery$Sheet" "sort" "I", .fieldLink RX2 9 "KinCutlery$Shelf" "what" "I", .fieldLink RX2 23 "KinCutlery$Shelf" "sort" "I", .fieldLink RX2 24 "KinCutlery$Sheet" "length" "I", .fieldLink RX2 27 "KinCutlery$Shelf" "length" "I"] ++ wsX10 ++ wsX20)
def wsX3_init : List Cond := .code yX3_init cX3_init 1 none :: ([.methodLink RX3 3 objectInit, .instanceMethod objectInit, .code objectInit ⟨#[0xb1]⟩ 1 none, .arrayClass .int, .fieldLink RX3 9 "KinCutlery$Stage" "bodies" "[I"] ++ wsX30)
def wsX3_begin : List Cond := .code yX3_begin cX3_begin 2 none :: ([.fieldLink RX3 15 "KinCutlery$Stage" "traced" "I", .fieldLink RX3 9 "KinCutlery$Stage" "bodies" "[I"] ++ wsX30)
def wsX3_parted : List Cond := .code yX3_parted cX3_parted 2 (some .int) :: ([.fieldLink RX3 29 "KinCutlery$Stage" "a" "I", .fieldLink RX3 26 "KinCutlery$Stage" "n" "I", .fieldLink RX3 19 "KinCutlery$Stage" "broken" "Z"] ++ wsX30)
def wsX3_own : List Cond := .code yX3_own cX3_own 4 (some .int) :: ([.fieldLink RX3 23 "KinCutlery$Stage" "kind" "I", .methodLink RX3 39 yX3_run, .instanceMethod yX3_run, .selects RX3 yX3_run yX3_run, .initialized RX3, .code yX3_run cX3_run 5 (some .int), .fieldLink RX3 19 "KinCutlery$Stage" "broken" "Z", .fieldLink RX3 26 "KinCutlery$Stage" "n" "I", .fieldLink RX3 29 "KinCutlery$Stage" "a" "I", .methodLink RX3 42 yX3_begin, .instanceMethod yX3_begin, .selects RX3 yX3_begin yX3_begin, .code yX3_begin cX3_begin 2 none, .fieldLink RX3 15 "KinCutlery$Stage" "traced" "I", .fieldLink RX3 9 "KinCutlery$Stage" "bodies" "[I", .methodLink RX3 32 yX3_own, .instanceMethod yX3_own, .selects RX3 yX3_own yX3_own, .methodLink RX3 46 yX3_parted, .instanceMethod yX3_parted, .selects RX3 yX3_parted yX3_parted, .code yX3_parted cX3_parted 2 (some .int)] ++ wsX30)
def wsX3_run : List Cond := .code yX3_run cX3_run 5 (some .int) :: ([.fieldLink RX3 19 "KinCutlery$Stage" "broken" "Z", .fieldLink RX3 26 "KinCutlery$Stage" "n" "I", .fieldLink RX3 29 "KinCutlery$Stage" "a" "I", .methodLink RX3 42 yX3_begin, .instanceMethod yX3_begin, .selects RX3 yX3_begin yX3_begin, .initialized RX3, .code yX3_begin cX3_begin 2 none, .fieldLink RX3 15 "KinCutlery$Stage" "traced" "I", .fieldLink RX3 9 "KinCutlery$Stage" "bodies" "[I", .methodLink RX3 32 yX3_own, .instanceMethod yX3_own, .selects RX3 yX3_own yX3_own, .methodLink RX3 46 yX3_parted, .instanceMethod yX3_parted, .selects RX3 yX3_parted yX3_parted, .code yX3_parted cX3_parted 2 (some .int), .methodLink RX3 39 yX3_run, .instanceMethod yX3_run, .selects RX3 yX3_run yX3_run, .code yX3_own cX3_own 4 (some .int), .fieldLink RX3 23 "KinCutlery$Stage" "kind" "I"] ++ wsX30)
def wsX3_perform : List Cond := .code yX3_perform cX3_perform 7 (some .int) :: ([.fieldLink RX3 15 "KinCutlery$Stage" "traced" "I", .fieldLink RX3 19 "KinCutlery$Stage" "broken" "Z", .fieldLink RX3 23 "KinCutlery$Stage" "kind" "I", .fieldLink RX3 26 "KinCutlery$Stage" "n" "I", .fieldLink RX3 29 "KinCutlery$Stage" "a" "I", .methodLink RX3 32 yX3_own, .instanceMethod yX3_own, .selects RX3 yX3_own yX3_own, .initialized RX3, .code yX3_own cX3_own 4 (some .int), .methodLink RX3 39 yX3_run, .instanceMethod yX3_run, .selects RX3 yX3_run yX3_run, .code yX3_run cX3_run 5 (some .int), .methodLink RX3 42 yX3_begin, .instanceMethod yX3_begin, .selects RX3 yX3_begin yX3_begin, .code yX3_begin cX3_begin 2 none, .fieldLink RX3 9 "KinCutlery$Stage" "bodies" "[I", .methodLink RX3 46 yX3_parted, .instanceMethod yX3_parted, .selects RX3 yX3_parted yX3_parted, .code yX3_parted cX3_parted 2 (some .int)] ++ wsX30)
def wsX4_clear : List Cond := .code yX4_clear cX4_clear 1 none :: ([.fieldLink RX4 9 "KinCutlery$Table" "laws" "[I", .methodLink RX4 37 arraycopyName, .native arraycopyName, .static arraycopyName, .initialized "java/lang/System", .fieldLink RX4 43 "KinCutlery$Table" "drowned" "I", .fieldLink RX4 46 "KinCutlery$Table" "count" "I", .fieldLink RX4 49 "KinCutlery$Table" "course" "I", .fieldLink RX4 52 "KinCutlery$Table" "told" "I"] ++ wsX40)
def wsX4_init : List Cond := .code yX4_init cX4_init 1 none :: ([.methodLink RX4 3 objectInit, .instanceMethod objectInit, .code objectInit ⟨#[0xb1]⟩ 1 none, .arrayClass .int, .fieldLink RX4 9 "KinCutlery$Table" "laws" "[I", .fieldLink RX4 15 "KinCutlery$Table" "kind" "[I", .fieldLink RX4 18 "KinCutlery$Table" "holds" "[I", .fieldLink RX4 21 "KinCutlery$Table" "gone" "[I", .fieldLink RX4 24 "KinCutlery$Table" "tells" "[I", .fieldLink RX4 27 "KinCutlery$Table" "z" "I", .methodLink RX4 31 yX4_clear, .instanceMethod yX4_clear, .selects RX4 yX4_clear yX4_clear, .initialized RX4, .code yX4_clear cX4_clear 1 none, .methodLink RX4 37 arraycopyName, .native arraycopyName, .static arraycopyName, .initialized "java/lang/System", .fieldLink RX4 43 "KinCutlery$Table" "drowned" "I", .fieldLink RX4 46 "KinCutlery$Table" "count" "I", .fieldLink RX4 49 "KinCutlery$Table" "course" "I", .fieldLink RX4 52 "KinCutlery$Table" "told" "I"] ++ wsX40)
def wsX4_copyFrom : List Cond := .code yX4_copyFrom cX4_copyFrom 2 none :: ([.fieldLink RX4 9 "KinCutlery$Table" "laws" "[I", .methodLink RX4 37 arraycopyName, .native arraycopyName, .static arraycopyName, .initialized "java/lang/System", .fieldLink RX4 15 "KinCutlery$Table" "kind" "[I", .fieldLink RX4 18 "KinCutlery$Table" "holds" "[I", .fieldLink RX4 21 "KinCutlery$Table" "gone" "[I", .fieldLink RX4 24 "KinCutlery$Table" "tells" "[I", .fieldLink RX4 43 "KinCutlery$Table" "drowned" "I", .fieldLink RX4 46 "KinCutlery$Table" "count" "I", .fieldLink RX4 49 "KinCutlery$Table" "course" "I", .fieldLink RX4 52 "KinCutlery$Table" "told" "I", .fieldLink RX4 27 "KinCutlery$Table" "z" "I"] ++ wsX40)
def wsX4_has : List Cond := .code yX4_has cX4_has 2 (some .boolean) :: ([.fieldLink RX4 46 "KinCutlery$Table" "count" "I", .static yX6_within, .initialized RX6, .code yX6_within cX6_within 3 (some .boolean)] ++ wsX40)
def wsX4_everyone : List Cond := .code yX4_everyone cX4_everyone 1 (some .int) :: ([.fieldLink RX4 46 "KinCutlery$Table" "count" "I"] ++ wsX40)
def wsX4_isDrowned : List Cond := .code yX4_isDrowned cX4_isDrowned 2 (some .boolean) :: ([.fieldLink RX4 43 "KinCutlery$Table" "drowned" "I"] ++ wsX40)
def wsX4_drown : List Cond := .code yX4_drown cX4_drown 3 none :: ([.fieldLink RX4 43 "KinCutlery$Table" "drowned" "I"] ++ wsX40)
def wsX4_seat : List Cond := .code yX4_seat cX4_seat 4 (some .int) :: ([.fieldLink RX4 46 "KinCutlery$Table" "count" "I", .fieldLink RX4 15 "KinCutlery$Table" "kind" "[I", .fieldLink RX4 18 "KinCutlery$Table" "holds" "[I", .fieldLink RX4 21 "KinCutlery$Table" "gone" "[I", .fieldLink RX4 24 "KinCutlery$Table" "tells" "[I", .methodLink RX4 59 yX4_drown, .instanceMethod yX4_drown, .selects RX4 yX4_drown yX4_drown, .initialized RX4, .code yX4_drown cX4_drown 3 none, .fieldLink RX4 43 "KinCutlery$Table" "drowned" "I"] ++ wsX40)
def wsX4_next : List Cond := .code yX4_next cX4_next 1 (some .int) :: ([.fieldLink RX4 52 "KinCutlery$Table" "told" "I"] ++ wsX40)
def wsX4_takes : List Cond := .code yX4_takes cX4_takes 2 (some .int) :: ([.fieldLink RX4 15 "KinCutlery$Table" "kind" "[I", .fieldLink RX4 9 "KinCutlery$Table" "laws" "[I", .fieldLink RX4 18 "KinCutlery$Table" "holds" "[I", .methodLink RX4 63 yX4_next, .instanceMethod yX4_next, .selects RX4 yX4_next yX4_next, .initialized RX4, .code yX4_next cX4_next 1 (some .int), .fieldLink RX4 52 "KinCutlery$Table" "told" "I"] ++ wsX40)
def wsX4_needs : List Cond := .code yX4_needs cX4_needs 2 (some .int) :: ([.fieldLink RX4 15 "KinCutlery$Table" "kind" "[I", .fieldLink RX4 9 "KinCutlery$Table" "laws" "[I", .fieldLink RX4 21 "KinCutlery$Table" "gone" "[I"] ++ wsX40)
def wsX4_costs : List Cond := .code yX4_costs cX4_costs 2 (some .int) :: ([.fieldLink RX4 15 "KinCutlery$Table" "kind" "[I", .fieldLink RX4 9 "KinCutlery$Table" "laws" "[I"] ++ wsX40)
def wsX6_held : List Cond := .code yX6_held cX6_held 1 (some .int) :: ([.methodLink RX6 293 Lib.Math.min.name, .static Lib.Math.min.name, .initialized "java/lang/Math", .code Lib.Math.min.name Lib.Math.min.code 2 (some .int), .methodLink RX6 177 Lib.Math.max.name, .static Lib.Math.max.name, .code Lib.Math.max.name Lib.Math.max.code 2 (some .int)])
def wsX4_teller : List Cond := .code yX4_teller cX4_teller 3 (some .int) :: ([.fieldLink RX4 46 "KinCutlery$Table" "count" "I", .fieldLink RX4 18 "KinCutlery$Table" "holds" "[I", .fieldLink RX4 21 "KinCutlery$Table" "gone" "[I", .methodLink RX4 63 yX4_next, .instanceMethod yX4_next, .selects RX4 yX4_next yX4_next, .initialized RX4, .code yX4_next cX4_next 1 (some .int), .fieldLink RX4 52 "KinCutlery$Table" "told" "I", .methodLink RX4 67 yX4_isDrowned, .instanceMethod yX4_isDrowned, .selects RX4 yX4_isDrowned yX4_isDrowned, .code yX4_isDrowned cX4_isDrowned 2 (some .boolean), .fieldLink RX4 43 "KinCutlery$Table" "drowned" "I", .methodLink RX4 85 yX4_needs, .instanceMethod yX4_needs, .selects RX4 yX4_needs yX4_needs, .code yX4_needs cX4_needs 2 (some .int), .fieldLink RX4 15 "KinCutlery$Table" "kind" "[I", .fieldLink RX4 9 "KinCutlery$Table" "laws" "[I"] ++ wsX40)
def wsX4_tellNext : List Cond := .code yX4_tellNext cX4_tellNext 3 none :: ([.constant RX4 91 (99999), .fieldLink RX4 52 "KinCutlery$Table" "told" "I", .methodLink RX4 92 Lib.Math.min.name, .static Lib.Math.min.name, .initialized "java/lang/Math", .code Lib.Math.min.name Lib.Math.min.code 2 (some .int), .fieldLink RX4 24 "KinCutlery$Table" "tells" "[I", .fieldLink RX4 21 "KinCutlery$Table" "gone" "[I", .methodLink RX4 88 yX4_costs, .instanceMethod yX4_costs, .selects RX4 yX4_costs yX4_costs, .initialized RX4, .code yX4_costs cX4_costs 2 (some .int), .fieldLink RX4 15 "KinCutlery$Table" "kind" "[I", .fieldLink RX4 9 "KinCutlery$Table" "laws" "[I", .static yX6_held, .initialized RX6, .code yX6_held cX6_held 1 (some .int), .methodLink RX6 293 Lib.Math.min.name, .methodLink RX6 177 Lib.Math.max.name, .static Lib.Math.max.name, .code Lib.Math.max.name Lib.Math.max.code 2 (some .int)] ++ wsX40)
def wsX4_serve_r1 : List Cond := [Cond.fieldLink RX4 46 "KinCutlery$Table" "count" "I", Cond.fieldLink RX4 21 "KinCutlery$Table" "gone" "[I", Cond.fieldLink RX4 9 "KinCutlery$Table" "laws" "[I", Cond.fieldLink RX4 49 "KinCutlery$Table" "course" "I", Cond.methodLink RX4 67 yX4_isDrowned, Cond.instanceMethod yX4_isDrowned, Cond.selects RX4 yX4_isDrowned yX4_isDrowned, Cond.initialized RX4, Cond.code yX4_isDrowned cX4_isDrowned 2 (some .boolean), Cond.fieldLink RX4 43 "KinCutlery$Table" "drowned" "I", Cond.methodLink RX4 71 yX4_takes, Cond.instanceMethod yX4_takes, Cond.selects RX4 yX4_takes yX4_takes, Cond.code yX4_takes cX4_takes 2 (some .int), Cond.fieldLink RX4 15 "KinCutlery$Table" "kind" "[I", Cond.fieldLink RX4 18 "KinCutlery$Table" "holds" "[I", Cond.methodLink RX4 63 yX4_next, Cond.instanceMethod yX4_next, Cond.selects RX4 yX4_next yX4_next, Cond.code yX4_next cX4_next 1 (some .int), Cond.fieldLink RX4 52 "KinCutlery$Table" "told" "I", Cond.static yX6_held, Cond.initialized RX6, Cond.code yX6_held cX6_held 1 (some .int)]
def wsX4_serve_r2 : List Cond := [Cond.methodLink RX6 293 Lib.Math.min.name, Cond.static Lib.Math.min.name, Cond.initialized "java/lang/Math", Cond.code Lib.Math.min.name Lib.Math.min.code 2 (some .int), Cond.methodLink RX6 177 Lib.Math.max.name, Cond.static Lib.Math.max.name, Cond.code Lib.Math.max.name Lib.Math.max.code 2 (some .int), Cond.methodLink RX4 78 yX4_teller, Cond.instanceMethod yX4_teller, Cond.selects RX4 yX4_teller yX4_teller, Cond.code yX4_teller cX4_teller 3 (some .int), Cond.methodLink RX4 85 yX4_needs, Cond.instanceMethod yX4_needs, Cond.selects RX4 yX4_needs yX4_needs, Cond.code yX4_needs cX4_needs 2 (some .int), Cond.methodLink RX4 81 yX4_tellNext, Cond.instanceMethod yX4_tellNext, Cond.selects RX4 yX4_tellNext yX4_tellNext, Cond.code yX4_tellNext cX4_tellNext 3 none, Cond.constant RX4 91 (99999), Cond.methodLink RX4 92 Lib.Math.min.name, Cond.fieldLink RX4 24 "KinCutlery$Table" "tells" "[I", Cond.methodLink RX4 88 yX4_costs, Cond.instanceMethod yX4_costs]
def wsX4_serve_r3 : List Cond := [Cond.selects RX4 yX4_costs yX4_costs, Cond.code yX4_costs cX4_costs 2 (some .int), Cond.methodLink RX4 59 yX4_drown, Cond.instanceMethod yX4_drown, Cond.selects RX4 yX4_drown yX4_drown, Cond.code yX4_drown cX4_drown 3 none]
def wsX4_serve : List Cond := .code yX4_serve cX4_serve 3 none :: ((wsX4_serve_r1 ++ (wsX4_serve_r2 ++ wsX4_serve_r3)) ++ wsX40)
def wsX4_drawn : List Cond := .code yX4_drawn cX4_drawn 1 (some .int) :: ([.fieldLink RX4 27 "KinCutlery$Table" "z" "I", .constant RX4 104 (1103515245)] ++ wsX40)
def wsX4_serveByDraws_r1 : List Cond := [Cond.fieldLink RX4 46 "KinCutlery$Table" "count" "I", Cond.fieldLink RX4 9 "KinCutlery$Table" "laws" "[I", Cond.fieldLink RX4 18 "KinCutlery$Table" "holds" "[I", Cond.methodLink RX4 98 yX4_drawn, Cond.instanceMethod yX4_drawn, Cond.selects RX4 yX4_drawn yX4_drawn, Cond.initialized RX4, Cond.code yX4_drawn cX4_drawn 1 (some .int), Cond.fieldLink RX4 27 "KinCutlery$Table" "z" "I", Cond.constant RX4 104 (1103515245), Cond.methodLink RX4 101 yX4_serve, Cond.instanceMethod yX4_serve, Cond.selects RX4 yX4_serve yX4_serve, Cond.code yX4_serve cX4_serve 3 none, Cond.fieldLink RX4 21 "KinCutlery$Table" "gone" "[I", Cond.fieldLink RX4 49 "KinCutlery$Table" "course" "I", Cond.methodLink RX4 67 yX4_isDrowned, Cond.instanceMethod yX4_isDrowned, Cond.selects RX4 yX4_isDrowned yX4_isDrowned, Cond.code yX4_isDrowned cX4_isDrowned 2 (some .boolean), Cond.fieldLink RX4 43 "KinCutlery$Table" "drowned" "I", Cond.methodLink RX4 71 yX4_takes, Cond.instanceMethod yX4_takes, Cond.selects RX4 yX4_takes yX4_takes]
def wsX4_serveByDraws_r2 : List Cond := [Cond.code yX4_takes cX4_takes 2 (some .int), Cond.fieldLink RX4 15 "KinCutlery$Table" "kind" "[I", Cond.methodLink RX4 63 yX4_next, Cond.instanceMethod yX4_next, Cond.selects RX4 yX4_next yX4_next, Cond.code yX4_next cX4_next 1 (some .int), Cond.fieldLink RX4 52 "KinCutlery$Table" "told" "I", Cond.static yX6_held, Cond.initialized RX6, Cond.code yX6_held cX6_held 1 (some .int), Cond.methodLink RX6 293 Lib.Math.min.name, Cond.static Lib.Math.min.name, Cond.initialized "java/lang/Math", Cond.code Lib.Math.min.name Lib.Math.min.code 2 (some .int), Cond.methodLink RX6 177 Lib.Math.max.name, Cond.static Lib.Math.max.name, Cond.code Lib.Math.max.name Lib.Math.max.code 2 (some .int), Cond.methodLink RX4 78 yX4_teller, Cond.instanceMethod yX4_teller, Cond.selects RX4 yX4_teller yX4_teller, Cond.code yX4_teller cX4_teller 3 (some .int), Cond.methodLink RX4 85 yX4_needs, Cond.instanceMethod yX4_needs, Cond.selects RX4 yX4_needs yX4_needs]
def wsX4_serveByDraws_r3 : List Cond := [Cond.code yX4_needs cX4_needs 2 (some .int), Cond.methodLink RX4 81 yX4_tellNext, Cond.instanceMethod yX4_tellNext, Cond.selects RX4 yX4_tellNext yX4_tellNext, Cond.code yX4_tellNext cX4_tellNext 3 none, Cond.constant RX4 91 (99999), Cond.methodLink RX4 92 Lib.Math.min.name, Cond.fieldLink RX4 24 "KinCutlery$Table" "tells" "[I", Cond.methodLink RX4 88 yX4_costs, Cond.instanceMethod yX4_costs, Cond.selects RX4 yX4_costs yX4_costs, Cond.code yX4_costs cX4_costs 2 (some .int), Cond.methodLink RX4 59 yX4_drown, Cond.instanceMethod yX4_drown, Cond.selects RX4 yX4_drown yX4_drown, Cond.code yX4_drown cX4_drown 3 none]
def wsX4_serveByDraws : List Cond := .code yX4_serveByDraws cX4_serveByDraws 2 none :: ((wsX4_serveByDraws_r1 ++ (wsX4_serveByDraws_r2 ++ wsX4_serveByDraws_r3)) ++ wsX40)
def wsX4_toldBehind_r1 : List Cond := [Cond.fieldLink RX4 52 "KinCutlery$Table" "told" "I", Cond.methodLink RX4 101 yX4_serve, Cond.instanceMethod yX4_serve, Cond.selects RX4 yX4_serve yX4_serve, Cond.initialized RX4, Cond.code yX4_serve cX4_serve 3 none, Cond.fieldLink RX4 46 "KinCutlery$Table" "count" "I", Cond.fieldLink RX4 21 "KinCutlery$Table" "gone" "[I", Cond.fieldLink RX4 9 "KinCutlery$Table" "laws" "[I", Cond.fieldLink RX4 49 "KinCutlery$Table" "course" "I", Cond.methodLink RX4 67 yX4_isDrowned, Cond.instanceMethod yX4_isDrowned, Cond.selects RX4 yX4_isDrowned yX4_isDrowned, Cond.code yX4_isDrowned cX4_isDrowned 2 (some .boolean), Cond.fieldLink RX4 43 "KinCutlery$Table" "drowned" "I", Cond.methodLink RX4 71 yX4_takes, Cond.instanceMethod yX4_takes, Cond.selects RX4 yX4_takes yX4_takes, Cond.code yX4_takes cX4_takes 2 (some .int), Cond.fieldLink RX4 15 "KinCutlery$Table" "kind" "[I", Cond.fieldLink RX4 18 "KinCutlery$Table" "holds" "[I", Cond.methodLink RX4 63 yX4_next, Cond.instanceMethod yX4_next, Cond.selects RX4 yX4_next yX4_next]
def wsX4_toldBehind_r2 : List Cond := [Cond.code yX4_next cX4_next 1 (some .int), Cond.static yX6_held, Cond.initialized RX6, Cond.code yX6_held cX6_held 1 (some .int), Cond.methodLink RX6 293 Lib.Math.min.name, Cond.static Lib.Math.min.name, Cond.initialized "java/lang/Math", Cond.code Lib.Math.min.name Lib.Math.min.code 2 (some .int), Cond.methodLink RX6 177 Lib.Math.max.name, Cond.static Lib.Math.max.name, Cond.code Lib.Math.max.name Lib.Math.max.code 2 (some .int), Cond.methodLink RX4 78 yX4_teller, Cond.instanceMethod yX4_teller, Cond.selects RX4 yX4_teller yX4_teller, Cond.code yX4_teller cX4_teller 3 (some .int), Cond.methodLink RX4 85 yX4_needs, Cond.instanceMethod yX4_needs, Cond.selects RX4 yX4_needs yX4_needs, Cond.code yX4_needs cX4_needs 2 (some .int), Cond.methodLink RX4 81 yX4_tellNext, Cond.instanceMethod yX4_tellNext, Cond.selects RX4 yX4_tellNext yX4_tellNext, Cond.code yX4_tellNext cX4_tellNext 3 none, Cond.constant RX4 91 (99999)]
def wsX4_toldBehind_r3 : List Cond := [Cond.methodLink RX4 92 Lib.Math.min.name, Cond.fieldLink RX4 24 "KinCutlery$Table" "tells" "[I", Cond.methodLink RX4 88 yX4_costs, Cond.instanceMethod yX4_costs, Cond.selects RX4 yX4_costs yX4_costs, Cond.code yX4_costs cX4_costs 2 (some .int), Cond.methodLink RX4 59 yX4_drown, Cond.instanceMethod yX4_drown, Cond.selects RX4 yX4_drown yX4_drown, Cond.code yX4_drown cX4_drown 3 none]
def wsX4_toldBehind : List Cond := .code yX4_toldBehind cX4_toldBehind 3 (some .int) :: ((wsX4_toldBehind_r1 ++ (wsX4_toldBehind_r2 ++ wsX4_toldBehind_r3)) ++ wsX40)
def wsX4_coursesUntilTelling_r1 : List Cond := [Cond.fieldLink RX4 24 "KinCutlery$Table" "tells" "[I", Cond.methodLink RX4 67 yX4_isDrowned, Cond.instanceMethod yX4_isDrowned, Cond.selects RX4 yX4_isDrowned yX4_isDrowned, Cond.initialized RX4, Cond.code yX4_isDrowned cX4_isDrowned 2 (some .boolean), Cond.fieldLink RX4 43 "KinCutlery$Table" "drowned" "I", Cond.methodLink RX4 101 yX4_serve, Cond.instanceMethod yX4_serve, Cond.selects RX4 yX4_serve yX4_serve, Cond.code yX4_serve cX4_serve 3 none, Cond.fieldLink RX4 46 "KinCutlery$Table" "count" "I", Cond.fieldLink RX4 21 "KinCutlery$Table" "gone" "[I", Cond.fieldLink RX4 9 "KinCutlery$Table" "laws" "[I", Cond.fieldLink RX4 49 "KinCutlery$Table" "course" "I", Cond.methodLink RX4 71 yX4_takes, Cond.instanceMethod yX4_takes, Cond.selects RX4 yX4_takes yX4_takes, Cond.code yX4_takes cX4_takes 2 (some .int), Cond.fieldLink RX4 15 "KinCutlery$Table" "kind" "[I", Cond.fieldLink RX4 18 "KinCutlery$Table" "holds" "[I", Cond.methodLink RX4 63 yX4_next, Cond.instanceMethod yX4_next, Cond.selects RX4 yX4_next yX4_next]
def wsX4_coursesUntilTelling_r2 : List Cond := [Cond.code yX4_next cX4_next 1 (some .int), Cond.fieldLink RX4 52 "KinCutlery$Table" "told" "I", Cond.static yX6_held, Cond.initialized RX6, Cond.code yX6_held cX6_held 1 (some .int), Cond.methodLink RX6 293 Lib.Math.min.name, Cond.static Lib.Math.min.name, Cond.initialized "java/lang/Math", Cond.code Lib.Math.min.name Lib.Math.min.code 2 (some .int), Cond.methodLink RX6 177 Lib.Math.max.name, Cond.static Lib.Math.max.name, Cond.code Lib.Math.max.name Lib.Math.max.code 2 (some .int), Cond.methodLink RX4 78 yX4_teller, Cond.instanceMethod yX4_teller, Cond.selects RX4 yX4_teller yX4_teller, Cond.code yX4_teller cX4_teller 3 (some .int), Cond.methodLink RX4 85 yX4_needs, Cond.instanceMethod yX4_needs, Cond.selects RX4 yX4_needs yX4_needs, Cond.code yX4_needs cX4_needs 2 (some .int), Cond.methodLink RX4 81 yX4_tellNext, Cond.instanceMethod yX4_tellNext, Cond.selects RX4 yX4_tellNext yX4_tellNext, Cond.code yX4_tellNext cX4_tellNext 3 none]
def wsX4_coursesUntilTelling_r3 : List Cond := [Cond.constant RX4 91 (99999), Cond.methodLink RX4 92 Lib.Math.min.name, Cond.methodLink RX4 88 yX4_costs, Cond.instanceMethod yX4_costs, Cond.selects RX4 yX4_costs yX4_costs, Cond.code yX4_costs cX4_costs 2 (some .int), Cond.methodLink RX4 59 yX4_drown, Cond.instanceMethod yX4_drown, Cond.selects RX4 yX4_drown yX4_drown, Cond.code yX4_drown cX4_drown 3 none]
def wsX4_coursesUntilTelling : List Cond := .code yX4_coursesUntilTelling cX4_coursesUntilTelling 5 (some .int) :: ((wsX4_coursesUntilTelling_r1 ++ (wsX4_coursesUntilTelling_r2 ++ wsX4_coursesUntilTelling_r3)) ++ wsX40)
def wsX4_coursesUntilDrowned_r1 : List Cond := [Cond.methodLink RX4 67 yX4_isDrowned, Cond.instanceMethod yX4_isDrowned, Cond.selects RX4 yX4_isDrowned yX4_isDrowned, Cond.initialized RX4, Cond.code yX4_isDrowned cX4_isDrowned 2 (some .boolean), Cond.fieldLink RX4 43 "KinCutlery$Table" "drowned" "I", Cond.methodLink RX4 101 yX4_serve, Cond.instanceMethod yX4_serve, Cond.selects RX4 yX4_serve yX4_serve, Cond.code yX4_serve cX4_serve 3 none, Cond.fieldLink RX4 46 "KinCutlery$Table" "count" "I", Cond.fieldLink RX4 21 "KinCutlery$Table" "gone" "[I", Cond.fieldLink RX4 9 "KinCutlery$Table" "laws" "[I", Cond.fieldLink RX4 49 "KinCutlery$Table" "course" "I", Cond.methodLink RX4 71 yX4_takes, Cond.instanceMethod yX4_takes, Cond.selects RX4 yX4_takes yX4_takes, Cond.code yX4_takes cX4_takes 2 (some .int), Cond.fieldLink RX4 15 "KinCutlery$Table" "kind" "[I", Cond.fieldLink RX4 18 "KinCutlery$Table" "holds" "[I", Cond.methodLink RX4 63 yX4_next, Cond.instanceMethod yX4_next, Cond.selects RX4 yX4_next yX4_next, Cond.code yX4_next cX4_next 1 (some .int)]
def wsX4_coursesUntilDrowned_r2 : List Cond := [Cond.fieldLink RX4 52 "KinCutlery$Table" "told" "I", Cond.static yX6_held, Cond.initialized RX6, Cond.code yX6_held cX6_held 1 (some .int), Cond.methodLink RX6 293 Lib.Math.min.name, Cond.static Lib.Math.min.name, Cond.initialized "java/lang/Math", Cond.code Lib.Math.min.name Lib.Math.min.code 2 (some .int), Cond.methodLink RX6 177 Lib.Math.max.name, Cond.static Lib.Math.max.name, Cond.code Lib.Math.max.name Lib.Math.max.code 2 (some .int), Cond.methodLink RX4 78 yX4_teller, Cond.instanceMethod yX4_teller, Cond.selects RX4 yX4_teller yX4_teller, Cond.code yX4_teller cX4_teller 3 (some .int), Cond.methodLink RX4 85 yX4_needs, Cond.instanceMethod yX4_needs, Cond.selects RX4 yX4_needs yX4_needs, Cond.code yX4_needs cX4_needs 2 (some .int), Cond.methodLink RX4 81 yX4_tellNext, Cond.instanceMethod yX4_tellNext, Cond.selects RX4 yX4_tellNext yX4_tellNext, Cond.code yX4_tellNext cX4_tellNext 3 none, Cond.constant RX4 91 (99999)]
def wsX4_coursesUntilDrowned_r3 : List Cond := [Cond.methodLink RX4 92 Lib.Math.min.name, Cond.fieldLink RX4 24 "KinCutlery$Table" "tells" "[I", Cond.methodLink RX4 88 yX4_costs, Cond.instanceMethod yX4_costs, Cond.selects RX4 yX4_costs yX4_costs, Cond.code yX4_costs cX4_costs 2 (some .int), Cond.methodLink RX4 59 yX4_drown, Cond.instanceMethod yX4_drown, Cond.selects RX4 yX4_drown yX4_drown, Cond.code yX4_drown cX4_drown 3 none]
def wsX4_coursesUntilDrowned : List Cond := .code yX4_coursesUntilDrowned cX4_coursesUntilDrowned 4 (some .int) :: ((wsX4_coursesUntilDrowned_r1 ++ (wsX4_coursesUntilDrowned_r2 ++ wsX4_coursesUntilDrowned_r3)) ++ wsX40)
def wsX4_coursesUntilWhole_r1 : List Cond := [Cond.fieldLink RX4 52 "KinCutlery$Table" "told" "I", Cond.methodLink RX4 101 yX4_serve, Cond.instanceMethod yX4_serve, Cond.selects RX4 yX4_serve yX4_serve, Cond.initialized RX4, Cond.code yX4_serve cX4_serve 3 none, Cond.fieldLink RX4 46 "KinCutlery$Table" "count" "I", Cond.fieldLink RX4 21 "KinCutlery$Table" "gone" "[I", Cond.fieldLink RX4 9 "KinCutlery$Table" "laws" "[I", Cond.fieldLink RX4 49 "KinCutlery$Table" "course" "I", Cond.methodLink RX4 67 yX4_isDrowned, Cond.instanceMethod yX4_isDrowned, Cond.selects RX4 yX4_isDrowned yX4_isDrowned, Cond.code yX4_isDrowned cX4_isDrowned 2 (some .boolean), Cond.fieldLink RX4 43 "KinCutlery$Table" "drowned" "I", Cond.methodLink RX4 71 yX4_takes, Cond.instanceMethod yX4_takes, Cond.selects RX4 yX4_takes yX4_takes, Cond.code yX4_takes cX4_takes 2 (some .int), Cond.fieldLink RX4 15 "KinCutlery$Table" "kind" "[I", Cond.fieldLink RX4 18 "KinCutlery$Table" "holds" "[I", Cond.methodLink RX4 63 yX4_next, Cond.instanceMethod yX4_next, Cond.selects RX4 yX4_next yX4_next]
def wsX4_coursesUntilWhole_r2 : List Cond := [Cond.code yX4_next cX4_next 1 (some .int), Cond.static yX6_held, Cond.initialized RX6, Cond.code yX6_held cX6_held 1 (some .int), Cond.methodLink RX6 293 Lib.Math.min.name, Cond.static Lib.Math.min.name, Cond.initialized "java/lang/Math", Cond.code Lib.Math.min.name Lib.Math.min.code 2 (some .int), Cond.methodLink RX6 177 Lib.Math.max.name, Cond.static Lib.Math.max.name, Cond.code Lib.Math.max.name Lib.Math.max.code 2 (some .int), Cond.methodLink RX4 78 yX4_teller, Cond.instanceMethod yX4_teller, Cond.selects RX4 yX4_teller yX4_teller, Cond.code yX4_teller cX4_teller 3 (some .int), Cond.methodLink RX4 85 yX4_needs, Cond.instanceMethod yX4_needs, Cond.selects RX4 yX4_needs yX4_needs, Cond.code yX4_needs cX4_needs 2 (some .int), Cond.methodLink RX4 81 yX4_tellNext, Cond.instanceMethod yX4_tellNext, Cond.selects RX4 yX4_tellNext yX4_tellNext, Cond.code yX4_tellNext cX4_tellNext 3 none, Cond.constant RX4 91 (99999)]
def wsX4_coursesUntilWhole_r3 : List Cond := [Cond.methodLink RX4 92 Lib.Math.min.name, Cond.fieldLink RX4 24 "KinCutlery$Table" "tells" "[I", Cond.methodLink RX4 88 yX4_costs, Cond.instanceMethod yX4_costs, Cond.selects RX4 yX4_costs yX4_costs, Cond.code yX4_costs cX4_costs 2 (some .int), Cond.methodLink RX4 59 yX4_drown, Cond.instanceMethod yX4_drown, Cond.selects RX4 yX4_drown yX4_drown, Cond.code yX4_drown cX4_drown 3 none]
def wsX4_coursesUntilWhole : List Cond := .code yX4_coursesUntilWhole cX4_coursesUntilWhole 4 (some .int) :: ((wsX4_coursesUntilWhole_r1 ++ (wsX4_coursesUntilWhole_r2 ++ wsX4_coursesUntilWhole_r3)) ++ wsX40)
def wsX4_deepestAlive : List Cond := .code yX4_deepestAlive cX4_deepestAlive 3 (some .int) :: ([.fieldLink RX4 46 "KinCutlery$Table" "count" "I", .fieldLink RX4 21 "KinCutlery$Table" "gone" "[I", .methodLink RX4 105 Lib.Math.max.name, .static Lib.Math.max.name, .initialized "java/lang/Math", .code Lib.Math.max.name Lib.Math.max.code 2 (some .int), .methodLink RX4 67 yX4_isDrowned, .instanceMethod yX4_isDrowned, .selects RX4 yX4_isDrowned yX4_isDrowned, .initialized RX4, .code yX4_isDrowned cX4_isDrowned 2 (some .boolean), .fieldLink RX4 43 "KinCutlery$Table" "drowned" "I"] ++ wsX40)
def wsX4_goneTogether : List Cond := .code yX4_goneTogether cX4_goneTogether 3 (some .int) :: ([.fieldLink RX4 46 "KinCutlery$Table" "count" "I", .fieldLink RX4 21 "KinCutlery$Table" "gone" "[I"] ++ wsX40)
def wsX4_tellers : List Cond := .code yX4_tellers cX4_tellers 3 (some .int) :: ([.fieldLink RX4 46 "KinCutlery$Table" "count" "I", .fieldLink RX4 24 "KinCutlery$Table" "tells" "[I"] ++ wsX40)
def wsX4_piecesOf : List Cond := .code yX4_piecesOf cX4_piecesOf 4 (some .int) :: ([.fieldLink RX4 46 "KinCutlery$Table" "count" "I", .fieldLink RX4 18 "KinCutlery$Table" "holds" "[I"] ++ wsX40)
def wsX4_piecesUntil : List Cond := .code yX4_piecesUntil cX4_piecesUntil 4 (some .int) :: ([.fieldLink RX4 52 "KinCutlery$Table" "told" "I"] ++ wsX40)
def wsX4_holdersOf : List Cond := .code yX4_holdersOf cX4_holdersOf 4 (some .int) :: ([.fieldLink RX4 46 "KinCutlery$Table" "count" "I", .fieldLink RX4 18 "KinCutlery$Table" "holds" "[I", .methodLink RX4 67 yX4_isDrowned, .instanceMethod yX4_isDrowned, .selects RX4 yX4_isDrowned yX4_isDrowned, .initialized RX4, .code yX4_isDrowned cX4_isDrowned 2 (some .boolean), .fieldLink RX4 43 "KinCutlery$Table" "drowned" "I"] ++ wsX40)
def wsX4_gap : List Cond := .code yX4_gap cX4_gap 4 (some .int) :: ([.fieldLink RX4 43 "KinCutlery$Table" "drowned" "I", .fieldLink RX4 52 "KinCutlery$Table" "told" "I", .methodLink RX4 108 yX4_piecesOf, .instanceMethod yX4_piecesOf, .selects RX4 yX4_piecesOf yX4_piecesOf, .initialized RX4, .code yX4_piecesOf cX4_piecesOf 4 (some .int), .fieldLink RX4 46 "KinCutlery$Table" "count" "I", .fieldLink RX4 18 "KinCutlery$Table" "holds" "[I"] ++ wsX40)
def wsX5_init : List Cond := .code yX5_init cX5_init 1 none :: ([.methodLink RX5 3 objectInit, .instanceMethod objectInit, .code objectInit ⟨#[0xb1]⟩ 1 none, .arrayClass .byte, .fieldLink RX5 9 "KinCutlery$Tape" "bytes" "[B"] ++ wsX50)
def wsX5_sortAt : List Cond := .code yX5_sortAt cX5_sortAt 2 (some .int) :: ([.fieldLink RX5 93 "KinCutlery$Tape" "length" "I", .fieldLink RX5 9 "KinCutlery$Tape" "bytes" "[B"] ++ wsX50)
def wsX5_step : List Cond := .code yX5_step cX5_step 1 none :: ([.fieldLink RX5 15 "KinCutlery$Tape" "after" "I", .fieldLink RX5 90 "KinCutlery$Tape" "place" "I", .fieldLink RX5 93 "KinCutlery$Tape" "length" "I", .fieldLink RX5 9 "KinCutlery$Tape" "bytes" "[B", .fieldLink RX5 22 "KinCutlery$Tape" "sort" "I", .methodLink RX5 96 yX5_sortAt, .instanceMethod yX5_sortAt, .selects RX5 yX5_sortAt yX5_sortAt, .initialized RX5, .code yX5_sortAt cX5_sortAt 2 (some .int)] ++ wsX50)
def wsJ0_coder_7d493 : List Cond := .code yJ0_coder_7d493 cJ0_coder_7d493 1 (some .byte) :: ([.fieldLink RJ0 38 "java/lang/String" "COMPACT_STRINGS" "Z", .fieldLink RJ0 15 "java/lang/String" "coder" "B"])
def wsJ0_length_8abf5 : List Cond := .code yJ0_length_8abf5 cJ0_length_8abf5 1 (some .int) :: ([.fieldLink RJ0 9 "java/lang/String" "value" "[B", .methodLink RJ0 335 yJ0_coder_7d493, .instanceMethod yJ0_coder_7d493, .selects RJ0 yJ0_coder_7d493 yJ0_coder_7d493, .initialized RJ0, .code yJ0_coder_7d493 cJ0_coder_7d493 1 (some .byte), .fieldLink RJ0 38 "java/lang/String" "COMPACT_STRINGS" "Z", .fieldLink RJ0 15 "java/lang/String" "coder" "B"])
def wsJ0_isLatin1_aae02 : List Cond := .code yJ0_isLatin1_aae02 cJ0_isLatin1_aae02 1 (some .boolean) :: ([.fieldLink RJ0 38 "java/lang/String" "COMPACT_STRINGS" "Z", .fieldLink RJ0 15 "java/lang/String" "coder" "B"])
def wsJ3_checkIndex_8e157 : List Cond := .code yJ3_checkIndex_8e157 cJ3_checkIndex_8e157 3 (some .int) :: ([])
def wsJ0_checkIndex_df160 : List Cond := .code yJ0_checkIndex_df160 cJ0_checkIndex_df160 2 none :: ([.fieldLink RJ0 1053 "jdk/internal/util/Preconditions" "SIOOBE_FORMATTER" "Ljava/util/function/BiFunction;", .methodLink RJ0 1059 yJ3_checkIndex_8e157, .static yJ3_checkIndex_8e157, .initialized RJ3, .code yJ3_checkIndex_8e157 cJ3_checkIndex_8e157 3 (some .int)])
def wsJ1_charAt_3b067 : List Cond := .code yJ1_charAt_3b067 cJ1_charAt_3b067 2 (some .char) :: ([.methodLink RJ1 9 yJ0_checkIndex_df160, .static yJ0_checkIndex_df160, .initialized RJ0, .code yJ0_checkIndex_df160 cJ0_checkIndex_df160 2 none, .fieldLink RJ0 1053 "jdk/internal/util/Preconditions" "SIOOBE_FORMATTER" "Ljava/util/function/BiFunction;", .methodLink RJ0 1059 yJ3_checkIndex_8e157, .static yJ3_checkIndex_8e157, .initialized RJ3, .code yJ3_checkIndex_8e157 cJ3_checkIndex_8e157 3 (some .int)])
def wsJ2_length_9d52b : List Cond := .code yJ2_length_9d52b cJ2_length_9d52b 1 (some .int) :: ([])
def wsJ2_checkIndex_2214a : List Cond := .code yJ2_checkIndex_2214a cJ2_checkIndex_2214a 2 none :: ([.methodLink RJ2 48 yJ2_length_9d52b, .static yJ2_length_9d52b, .initialized RJ2, .code yJ2_length_9d52b cJ2_length_9d52b 1 (some .int), .methodLink RJ2 414 yJ0_checkIndex_df160, .static yJ0_checkIndex_df160, .initialized RJ0, .code yJ0_checkIndex_df160 cJ0_checkIndex_df160 2 none, .fieldLink RJ0 1053 "jdk/internal/util/Preconditions" "SIOOBE_FORMATTER" "Ljava/util/function/BiFunction;", .methodLink RJ0 1059 yJ3_checkIndex_8e157, .static yJ3_checkIndex_8e157, .initialized RJ3, .code yJ3_checkIndex_8e157 cJ3_checkIndex_8e157 3 (some .int)])
def wsJ2_getChar_3b067 : List Cond := .code yJ2_getChar_3b067 cJ2_getChar_3b067 2 (some .char) :: ([.fieldLink RJ2 44 "java/lang/StringUTF16" "$assertionsDisabled" "Z", .fieldLink RJ2 59 "java/lang/StringUTF16" "HI_BYTE_SHIFT" "I", .fieldLink RJ2 63 "java/lang/StringUTF16" "LO_BYTE_SHIFT" "I", .methodLink RJ2 48 yJ2_length_9d52b, .static yJ2_length_9d52b, .initialized RJ2, .code yJ2_length_9d52b cJ2_length_9d52b 1 (some .int)])
def wsJ2_charAt_3b067 : List Cond := .code yJ2_charAt_3b067 cJ2_charAt_3b067 2 (some .char) :: ([.methodLink RJ2 67 yJ2_checkIndex_2214a, .static yJ2_checkIndex_2214a, .initialized RJ2, .code yJ2_checkIndex_2214a cJ2_checkIndex_2214a 2 none, .methodLink RJ2 48 yJ2_length_9d52b, .static yJ2_length_9d52b, .code yJ2_length_9d52b cJ2_length_9d52b 1 (some .int), .methodLink RJ2 414 yJ0_checkIndex_df160, .static yJ0_checkIndex_df160, .initialized RJ0, .code yJ0_checkIndex_df160 cJ0_checkIndex_df160 2 none, .fieldLink RJ0 1053 "jdk/internal/util/Preconditions" "SIOOBE_FORMATTER" "Ljava/util/function/BiFunction;", .methodLink RJ0 1059 yJ3_checkIndex_8e157, .static yJ3_checkIndex_8e157, .initialized RJ3, .code yJ3_checkIndex_8e157 cJ3_checkIndex_8e157 3 (some .int), .methodLink RJ2 71 yJ2_getChar_3b067, .static yJ2_getChar_3b067, .code yJ2_getChar_3b067 cJ2_getChar_3b067 2 (some .char), .fieldLink RJ2 44 "java/lang/StringUTF16" "$assertionsDisabled" "Z", .fieldLink RJ2 59 "java/lang/StringUTF16" "HI_BYTE_SHIFT" "I", .fieldLink RJ2 63 "java/lang/StringUTF16" "LO_BYTE_SHIFT" "I"])
def wsJ0_charAt_5068e_r1 : List Cond := [Cond.fieldLink RJ0 9 "java/lang/String" "value" "[B", Cond.methodLink RJ0 492 yJ0_isLatin1_aae02, Cond.instanceMethod yJ0_isLatin1_aae02, Cond.selects RJ0 yJ0_isLatin1_aae02 yJ0_isLatin1_aae02, Cond.initialized RJ0, Cond.code yJ0_isLatin1_aae02 cJ0_isLatin1_aae02 1 (some .boolean), Cond.fieldLink RJ0 38 "java/lang/String" "COMPACT_STRINGS" "Z", Cond.fieldLink RJ0 15 "java/lang/String" "coder" "B", Cond.methodLink RJ0 495 yJ1_charAt_3b067, Cond.static yJ1_charAt_3b067, Cond.initialized RJ1, Cond.code yJ1_charAt_3b067 cJ1_charAt_3b067 2 (some .char), Cond.methodLink RJ1 9 yJ0_checkIndex_df160, Cond.static yJ0_checkIndex_df160, Cond.code yJ0_checkIndex_df160 cJ0_checkIndex_df160 2 none, Cond.fieldLink RJ0 1053 "jdk/internal/util/Preconditions" "SIOOBE_FORMATTER" "Ljava/util/function/BiFunction;", Cond.methodLink RJ0 1059 yJ3_checkIndex_8e157, Cond.static yJ3_checkIndex_8e157, Cond.initialized RJ3, Cond.code yJ3_checkIndex_8e157 cJ3_checkIndex_8e157 3 (some .int), Cond.methodLink RJ0 498 yJ2_charAt_3b067, Cond.static yJ2_charAt_3b067, Cond.initialized RJ2, Cond.code yJ2_charAt_3b067 cJ2_charAt_3b067 2 (some .char)]
def wsJ0_charAt_5068e_r2 : List Cond := [Cond.methodLink RJ2 67 yJ2_checkIndex_2214a, Cond.static yJ2_checkIndex_2214a, Cond.code yJ2_checkIndex_2214a cJ2_checkIndex_2214a 2 none, Cond.methodLink RJ2 48 yJ2_length_9d52b, Cond.static yJ2_length_9d52b, Cond.code yJ2_length_9d52b cJ2_length_9d52b 1 (some .int), Cond.methodLink RJ2 414 yJ0_checkIndex_df160, Cond.methodLink RJ2 71 yJ2_getChar_3b067, Cond.static yJ2_getChar_3b067, Cond.code yJ2_getChar_3b067 cJ2_getChar_3b067 2 (some .char), Cond.fieldLink RJ2 44 "java/lang/StringUTF16" "$assertionsDisabled" "Z", Cond.fieldLink RJ2 59 "java/lang/StringUTF16" "HI_BYTE_SHIFT" "I", Cond.fieldLink RJ2 63 "java/lang/StringUTF16" "LO_BYTE_SHIFT" "I"]
def wsJ0_charAt_5068e : List Cond := .code yJ0_charAt_5068e cJ0_charAt_5068e 2 (some .char) :: ((wsJ0_charAt_5068e_r1 ++ wsJ0_charAt_5068e_r2))
def wsX5_isName_r1 : List Cond := [Cond.fieldLink RX5 22 "KinCutlery$Tape" "sort" "I", Cond.fieldLink RX5 15 "KinCutlery$Tape" "after" "I", Cond.fieldLink RX5 90 "KinCutlery$Tape" "place" "I", Cond.fieldLink RX5 9 "KinCutlery$Tape" "bytes" "[B", Cond.methodLink RX5 100 yJ0_length_8abf5, Cond.instanceMethod yJ0_length_8abf5, Cond.selects RJ0 yJ0_length_8abf5 yJ0_length_8abf5, Cond.initialized RJ0, Cond.code yJ0_length_8abf5 cJ0_length_8abf5 1 (some .int), Cond.fieldLink RJ0 9 "java/lang/String" "value" "[B", Cond.methodLink RJ0 335 yJ0_coder_7d493, Cond.instanceMethod yJ0_coder_7d493, Cond.selects RJ0 yJ0_coder_7d493 yJ0_coder_7d493, Cond.code yJ0_coder_7d493 cJ0_coder_7d493 1 (some .byte), Cond.fieldLink RJ0 38 "java/lang/String" "COMPACT_STRINGS" "Z", Cond.fieldLink RJ0 15 "java/lang/String" "coder" "B", Cond.methodLink RX5 104 yJ0_charAt_5068e, Cond.instanceMethod yJ0_charAt_5068e, Cond.selects RJ0 yJ0_charAt_5068e yJ0_charAt_5068e, Cond.code yJ0_charAt_5068e cJ0_charAt_5068e 2 (some .char), Cond.methodLink RJ0 492 yJ0_isLatin1_aae02, Cond.instanceMethod yJ0_isLatin1_aae02, Cond.selects RJ0 yJ0_isLatin1_aae02 yJ0_isLatin1_aae02, Cond.code yJ0_isLatin1_aae02 cJ0_isLatin1_aae02 1 (some .boolean)]
def wsX5_isName_r2 : List Cond := [Cond.methodLink RJ0 495 yJ1_charAt_3b067, Cond.static yJ1_charAt_3b067, Cond.initialized RJ1, Cond.code yJ1_charAt_3b067 cJ1_charAt_3b067 2 (some .char), Cond.methodLink RJ1 9 yJ0_checkIndex_df160, Cond.static yJ0_checkIndex_df160, Cond.code yJ0_checkIndex_df160 cJ0_checkIndex_df160 2 none, Cond.fieldLink RJ0 1053 "jdk/internal/util/Preconditions" "SIOOBE_FORMATTER" "Ljava/util/function/BiFunction;", Cond.methodLink RJ0 1059 yJ3_checkIndex_8e157, Cond.static yJ3_checkIndex_8e157, Cond.initialized RJ3, Cond.code yJ3_checkIndex_8e157 cJ3_checkIndex_8e157 3 (some .int), Cond.methodLink RJ0 498 yJ2_charAt_3b067, Cond.static yJ2_charAt_3b067, Cond.initialized RJ2, Cond.code yJ2_charAt_3b067 cJ2_charAt_3b067 2 (some .char), Cond.methodLink RJ2 67 yJ2_checkIndex_2214a, Cond.static yJ2_checkIndex_2214a, Cond.code yJ2_checkIndex_2214a cJ2_checkIndex_2214a 2 none, Cond.methodLink RJ2 48 yJ2_length_9d52b, Cond.static yJ2_length_9d52b, Cond.code yJ2_length_9d52b cJ2_length_9d52b 1 (some .int), Cond.methodLink RJ2 414 yJ0_checkIndex_df160, Cond.methodLink RJ2 71 yJ2_getChar_3b067]
def wsX5_isName_r3 : List Cond := [Cond.static yJ2_getChar_3b067, Cond.code yJ2_getChar_3b067 cJ2_getChar_3b067 2 (some .char), Cond.fieldLink RJ2 44 "java/lang/StringUTF16" "$assertionsDisabled" "Z", Cond.fieldLink RJ2 59 "java/lang/StringUTF16" "HI_BYTE_SHIFT" "I", Cond.fieldLink RJ2 63 "java/lang/StringUTF16" "LO_BYTE_SHIFT" "I"]
def wsX5_isName : List Cond := .code yX5_isName cX5_isName 3 (some .boolean) :: ((wsX5_isName_r1 ++ (wsX5_isName_r2 ++ wsX5_isName_r3)) ++ wsX50)
def wsX5_kindNamed_r1 : List Cond := [Cond.methodLink RX5 44 yX5_isName, Cond.instanceMethod yX5_isName, Cond.selects RX5 yX5_isName yX5_isName, Cond.initialized RX5, Cond.code yX5_isName cX5_isName 3 (some .boolean), Cond.fieldLink RX5 22 "KinCutlery$Tape" "sort" "I", Cond.fieldLink RX5 15 "KinCutlery$Tape" "after" "I", Cond.fieldLink RX5 90 "KinCutlery$Tape" "place" "I", Cond.fieldLink RX5 9 "KinCutlery$Tape" "bytes" "[B", Cond.methodLink RX5 100 yJ0_length_8abf5, Cond.instanceMethod yJ0_length_8abf5, Cond.selects RJ0 yJ0_length_8abf5 yJ0_length_8abf5, Cond.initialized RJ0, Cond.code yJ0_length_8abf5 cJ0_length_8abf5 1 (some .int), Cond.fieldLink RJ0 9 "java/lang/String" "value" "[B", Cond.methodLink RJ0 335 yJ0_coder_7d493, Cond.instanceMethod yJ0_coder_7d493, Cond.selects RJ0 yJ0_coder_7d493 yJ0_coder_7d493, Cond.code yJ0_coder_7d493 cJ0_coder_7d493 1 (some .byte), Cond.fieldLink RJ0 38 "java/lang/String" "COMPACT_STRINGS" "Z", Cond.fieldLink RJ0 15 "java/lang/String" "coder" "B", Cond.methodLink RX5 104 yJ0_charAt_5068e, Cond.instanceMethod yJ0_charAt_5068e, Cond.selects RJ0 yJ0_charAt_5068e yJ0_charAt_5068e]
def wsX5_kindNamed_r2 : List Cond := [Cond.code yJ0_charAt_5068e cJ0_charAt_5068e 2 (some .char), Cond.methodLink RJ0 492 yJ0_isLatin1_aae02, Cond.instanceMethod yJ0_isLatin1_aae02, Cond.selects RJ0 yJ0_isLatin1_aae02 yJ0_isLatin1_aae02, Cond.code yJ0_isLatin1_aae02 cJ0_isLatin1_aae02 1 (some .boolean), Cond.methodLink RJ0 495 yJ1_charAt_3b067, Cond.static yJ1_charAt_3b067, Cond.initialized RJ1, Cond.code yJ1_charAt_3b067 cJ1_charAt_3b067 2 (some .char), Cond.methodLink RJ1 9 yJ0_checkIndex_df160, Cond.static yJ0_checkIndex_df160, Cond.code yJ0_checkIndex_df160 cJ0_checkIndex_df160 2 none, Cond.fieldLink RJ0 1053 "jdk/internal/util/Preconditions" "SIOOBE_FORMATTER" "Ljava/util/function/BiFunction;", Cond.methodLink RJ0 1059 yJ3_checkIndex_8e157, Cond.static yJ3_checkIndex_8e157, Cond.initialized RJ3, Cond.code yJ3_checkIndex_8e157 cJ3_checkIndex_8e157 3 (some .int), Cond.methodLink RJ0 498 yJ2_charAt_3b067, Cond.static yJ2_charAt_3b067, Cond.initialized RJ2, Cond.code yJ2_charAt_3b067 cJ2_charAt_3b067 2 (some .char), Cond.methodLink RJ2 67 yJ2_checkIndex_2214a, Cond.static yJ2_checkIndex_2214a, Cond.code yJ2_checkIndex_2214a cJ2_checkIndex_2214a 2 none]
def wsX5_kindNamed_r3 : List Cond := [Cond.methodLink RJ2 48 yJ2_length_9d52b, Cond.static yJ2_length_9d52b, Cond.code yJ2_length_9d52b cJ2_length_9d52b 1 (some .int), Cond.methodLink RJ2 414 yJ0_checkIndex_df160, Cond.methodLink RJ2 71 yJ2_getChar_3b067, Cond.static yJ2_getChar_3b067, Cond.code yJ2_getChar_3b067 cJ2_getChar_3b067 2 (some .char), Cond.fieldLink RJ2 44 "java/lang/StringUTF16" "$assertionsDisabled" "Z", Cond.fieldLink RJ2 59 "java/lang/StringUTF16" "HI_BYTE_SHIFT" "I", Cond.fieldLink RJ2 63 "java/lang/StringUTF16" "LO_BYTE_SHIFT" "I"]
def wsX5_kindNamed : List Cond := .code yX5_kindNamed cX5_kindNamed 1 (some .int) :: ((wsX5_kindNamed_r1 ++ (wsX5_kindNamed_r2 ++ wsX5_kindNamed_r3)) ++ wsX50)
def wsX5_readNumber : List Cond := .code yX5_readNumber cX5_readNumber 3 (some .boolean) :: ([.fieldLink RX5 22 "KinCutlery$Tape" "sort" "I", .fieldLink RX5 15 "KinCutlery$Tape" "after" "I", .fieldLink RX5 90 "KinCutlery$Tape" "place" "I", .fieldLink RX5 52 "KinCutlery$Tape" "number" "I", .fieldLink RX5 9 "KinCutlery$Tape" "bytes" "[B", .methodLink RX5 19 yX5_step, .instanceMethod yX5_step, .selects RX5 yX5_step yX5_step, .initialized RX5, .code yX5_step cX5_step 1 none, .fieldLink RX5 93 "KinCutlery$Tape" "length" "I", .methodLink RX5 96 yX5_sortAt, .instanceMethod yX5_sortAt, .selects RX5 yX5_sortAt yX5_sortAt, .code yX5_sortAt cX5_sortAt 2 (some .int)] ++ wsX50)
def wsX5_isStop : List Cond := .code yX5_isStop cX5_isStop 1 (some .boolean) :: ([.fieldLink RX5 22 "KinCutlery$Tape" "sort" "I", .fieldLink RX5 9 "KinCutlery$Tape" "bytes" "[B", .fieldLink RX5 90 "KinCutlery$Tape" "place" "I"] ++ wsX50)
def wsX5_readGuest_r1 : List Cond := [Cond.fieldLink RX5 52 "KinCutlery$Tape" "number" "I", Cond.fieldLink RX5 79 "KinCutlery$Table" "gone" "[I", Cond.methodLink RX5 19 yX5_step, Cond.instanceMethod yX5_step, Cond.selects RX5 yX5_step yX5_step, Cond.initialized RX5, Cond.code yX5_step cX5_step 1 none, Cond.fieldLink RX5 15 "KinCutlery$Tape" "after" "I", Cond.fieldLink RX5 90 "KinCutlery$Tape" "place" "I", Cond.fieldLink RX5 93 "KinCutlery$Tape" "length" "I", Cond.fieldLink RX5 9 "KinCutlery$Tape" "bytes" "[B", Cond.fieldLink RX5 22 "KinCutlery$Tape" "sort" "I", Cond.methodLink RX5 96 yX5_sortAt, Cond.instanceMethod yX5_sortAt, Cond.selects RX5 yX5_sortAt yX5_sortAt, Cond.code yX5_sortAt cX5_sortAt 2 (some .int), Cond.methodLink RX5 44 yX5_isName, Cond.instanceMethod yX5_isName, Cond.selects RX5 yX5_isName yX5_isName, Cond.code yX5_isName cX5_isName 3 (some .boolean), Cond.methodLink RX5 100 yJ0_length_8abf5, Cond.instanceMethod yJ0_length_8abf5, Cond.selects RJ0 yJ0_length_8abf5 yJ0_length_8abf5, Cond.initialized RJ0]
def wsX5_readGuest_r2 : List Cond := [Cond.code yJ0_length_8abf5 cJ0_length_8abf5 1 (some .int), Cond.fieldLink RJ0 9 "java/lang/String" "value" "[B", Cond.methodLink RJ0 335 yJ0_coder_7d493, Cond.instanceMethod yJ0_coder_7d493, Cond.selects RJ0 yJ0_coder_7d493 yJ0_coder_7d493, Cond.code yJ0_coder_7d493 cJ0_coder_7d493 1 (some .byte), Cond.fieldLink RJ0 38 "java/lang/String" "COMPACT_STRINGS" "Z", Cond.fieldLink RJ0 15 "java/lang/String" "coder" "B", Cond.methodLink RX5 104 yJ0_charAt_5068e, Cond.instanceMethod yJ0_charAt_5068e, Cond.selects RJ0 yJ0_charAt_5068e yJ0_charAt_5068e, Cond.code yJ0_charAt_5068e cJ0_charAt_5068e 2 (some .char), Cond.methodLink RJ0 492 yJ0_isLatin1_aae02, Cond.instanceMethod yJ0_isLatin1_aae02, Cond.selects RJ0 yJ0_isLatin1_aae02 yJ0_isLatin1_aae02, Cond.code yJ0_isLatin1_aae02 cJ0_isLatin1_aae02 1 (some .boolean), Cond.methodLink RJ0 495 yJ1_charAt_3b067, Cond.static yJ1_charAt_3b067, Cond.initialized RJ1, Cond.code yJ1_charAt_3b067 cJ1_charAt_3b067 2 (some .char), Cond.methodLink RJ1 9 yJ0_checkIndex_df160, Cond.static yJ0_checkIndex_df160, Cond.code yJ0_checkIndex_df160 cJ0_checkIndex_df160 2 none, Cond.fieldLink RJ0 1053 "jdk/internal/util/Preconditions" "SIOOBE_FORMATTER" "Ljava/util/function/BiFunction;"]
def wsX5_readGuest_r3 : List Cond := [Cond.methodLink RJ0 1059 yJ3_checkIndex_8e157, Cond.static yJ3_checkIndex_8e157, Cond.initialized RJ3, Cond.code yJ3_checkIndex_8e157 cJ3_checkIndex_8e157 3 (some .int), Cond.methodLink RJ0 498 yJ2_charAt_3b067, Cond.static yJ2_charAt_3b067, Cond.initialized RJ2, Cond.code yJ2_charAt_3b067 cJ2_charAt_3b067 2 (some .char), Cond.methodLink RJ2 67 yJ2_checkIndex_2214a, Cond.static yJ2_checkIndex_2214a, Cond.code yJ2_checkIndex_2214a cJ2_checkIndex_2214a 2 none, Cond.methodLink RJ2 48 yJ2_length_9d52b, Cond.static yJ2_length_9d52b, Cond.code yJ2_length_9d52b cJ2_length_9d52b 1 (some .int), Cond.methodLink RJ2 414 yJ0_checkIndex_df160, Cond.methodLink RJ2 71 yJ2_getChar_3b067, Cond.static yJ2_getChar_3b067, Cond.code yJ2_getChar_3b067 cJ2_getChar_3b067 2 (some .char), Cond.fieldLink RJ2 44 "java/lang/StringUTF16" "$assertionsDisabled" "Z", Cond.fieldLink RJ2 59 "java/lang/StringUTF16" "HI_BYTE_SHIFT" "I", Cond.fieldLink RJ2 63 "java/lang/StringUTF16" "LO_BYTE_SHIFT" "I", Cond.methodLink RX5 48 yX5_readNumber, Cond.instanceMethod yX5_readNumber, Cond.selects RX5 yX5_readNumber yX5_readNumber]
def wsX5_readGuest_r4 : List Cond := [Cond.code yX5_readNumber cX5_readNumber 3 (some .boolean), Cond.methodLink RX5 73 yX4_seat, Cond.instanceMethod yX4_seat, Cond.selects RX4 yX4_seat yX4_seat, Cond.initialized RX4, Cond.code yX4_seat cX4_seat 4 (some .int), Cond.fieldLink RX4 46 "KinCutlery$Table" "count" "I", Cond.fieldLink RX4 15 "KinCutlery$Table" "kind" "[I", Cond.fieldLink RX4 18 "KinCutlery$Table" "holds" "[I", Cond.fieldLink RX4 21 "KinCutlery$Table" "gone" "[I", Cond.fieldLink RX4 24 "KinCutlery$Table" "tells" "[I", Cond.methodLink RX4 59 yX4_drown, Cond.instanceMethod yX4_drown, Cond.selects RX4 yX4_drown yX4_drown, Cond.code yX4_drown cX4_drown 3 none, Cond.fieldLink RX4 43 "KinCutlery$Table" "drowned" "I", Cond.methodLink RX5 83 yX4_drown, Cond.methodLink RX5 87 yX5_isStop, Cond.instanceMethod yX5_isStop, Cond.selects RX5 yX5_isStop yX5_isStop, Cond.code yX5_isStop cX5_isStop 1 (some .boolean)]
def wsX5_readGuest : List Cond := .code yX5_readGuest cX5_readGuest 4 (some .boolean) :: ((wsX5_readGuest_r1 ++ (wsX5_readGuest_r2 ++ (wsX5_readGuest_r3 ++ wsX5_readGuest_r4))) ++ wsX50 ++ wsX40)
def wsX5_readStop : List Cond := .code yX5_readStop cX5_readStop 1 (some .boolean) :: ([.methodLink RX5 19 yX5_step, .instanceMethod yX5_step, .selects RX5 yX5_step yX5_step, .initialized RX5, .code yX5_step cX5_step 1 none, .fieldLink RX5 15 "KinCutlery$Tape" "after" "I", .fieldLink RX5 90 "KinCutlery$Tape" "place" "I", .fieldLink RX5 93 "KinCutlery$Tape" "length" "I", .fieldLink RX5 9 "KinCutlery$Tape" "bytes" "[B", .fieldLink RX5 22 "KinCutlery$Tape" "sort" "I", .methodLink RX5 96 yX5_sortAt, .instanceMethod yX5_sortAt, .selects RX5 yX5_sortAt yX5_sortAt, .code yX5_sortAt cX5_sortAt 2 (some .int), .methodLink RX5 87 yX5_isStop, .instanceMethod yX5_isStop, .selects RX5 yX5_isStop yX5_isStop, .code yX5_isStop cX5_isStop 1 (some .boolean)] ++ wsX50)
def wsX5_lawNamed_r1 : List Cond := [Cond.methodLink RX5 44 yX5_isName, Cond.instanceMethod yX5_isName, Cond.selects RX5 yX5_isName yX5_isName, Cond.initialized RX5, Cond.code yX5_isName cX5_isName 3 (some .boolean), Cond.fieldLink RX5 22 "KinCutlery$Tape" "sort" "I", Cond.fieldLink RX5 15 "KinCutlery$Tape" "after" "I", Cond.fieldLink RX5 90 "KinCutlery$Tape" "place" "I", Cond.fieldLink RX5 9 "KinCutlery$Tape" "bytes" "[B", Cond.methodLink RX5 100 yJ0_length_8abf5, Cond.instanceMethod yJ0_length_8abf5, Cond.selects RJ0 yJ0_length_8abf5 yJ0_length_8abf5, Cond.initialized RJ0, Cond.code yJ0_length_8abf5 cJ0_length_8abf5 1 (some .int), Cond.fieldLink RJ0 9 "java/lang/String" "value" "[B", Cond.methodLink RJ0 335 yJ0_coder_7d493, Cond.instanceMethod yJ0_coder_7d493, Cond.selects RJ0 yJ0_coder_7d493 yJ0_coder_7d493, Cond.code yJ0_coder_7d493 cJ0_coder_7d493 1 (some .byte), Cond.fieldLink RJ0 38 "java/lang/String" "COMPACT_STRINGS" "Z", Cond.fieldLink RJ0 15 "java/lang/String" "coder" "B", Cond.methodLink RX5 104 yJ0_charAt_5068e, Cond.instanceMethod yJ0_charAt_5068e, Cond.selects RJ0 yJ0_charAt_5068e yJ0_charAt_5068e]
def wsX5_lawNamed_r2 : List Cond := [Cond.code yJ0_charAt_5068e cJ0_charAt_5068e 2 (some .char), Cond.methodLink RJ0 492 yJ0_isLatin1_aae02, Cond.instanceMethod yJ0_isLatin1_aae02, Cond.selects RJ0 yJ0_isLatin1_aae02 yJ0_isLatin1_aae02, Cond.code yJ0_isLatin1_aae02 cJ0_isLatin1_aae02 1 (some .boolean), Cond.methodLink RJ0 495 yJ1_charAt_3b067, Cond.static yJ1_charAt_3b067, Cond.initialized RJ1, Cond.code yJ1_charAt_3b067 cJ1_charAt_3b067 2 (some .char), Cond.methodLink RJ1 9 yJ0_checkIndex_df160, Cond.static yJ0_checkIndex_df160, Cond.code yJ0_checkIndex_df160 cJ0_checkIndex_df160 2 none, Cond.fieldLink RJ0 1053 "jdk/internal/util/Preconditions" "SIOOBE_FORMATTER" "Ljava/util/function/BiFunction;", Cond.methodLink RJ0 1059 yJ3_checkIndex_8e157, Cond.static yJ3_checkIndex_8e157, Cond.initialized RJ3, Cond.code yJ3_checkIndex_8e157 cJ3_checkIndex_8e157 3 (some .int), Cond.methodLink RJ0 498 yJ2_charAt_3b067, Cond.static yJ2_charAt_3b067, Cond.initialized RJ2, Cond.code yJ2_charAt_3b067 cJ2_charAt_3b067 2 (some .char), Cond.methodLink RJ2 67 yJ2_checkIndex_2214a, Cond.static yJ2_checkIndex_2214a, Cond.code yJ2_checkIndex_2214a cJ2_checkIndex_2214a 2 none]
def wsX5_lawNamed_r3 : List Cond := [Cond.methodLink RJ2 48 yJ2_length_9d52b, Cond.static yJ2_length_9d52b, Cond.code yJ2_length_9d52b cJ2_length_9d52b 1 (some .int), Cond.methodLink RJ2 414 yJ0_checkIndex_df160, Cond.methodLink RJ2 71 yJ2_getChar_3b067, Cond.static yJ2_getChar_3b067, Cond.code yJ2_getChar_3b067 cJ2_getChar_3b067 2 (some .char), Cond.fieldLink RJ2 44 "java/lang/StringUTF16" "$assertionsDisabled" "Z", Cond.fieldLink RJ2 59 "java/lang/StringUTF16" "HI_BYTE_SHIFT" "I", Cond.fieldLink RJ2 63 "java/lang/StringUTF16" "LO_BYTE_SHIFT" "I"]
def wsX5_lawNamed : List Cond := .code yX5_lawNamed cX5_lawNamed 1 (some .int) :: ((wsX5_lawNamed_r1 ++ (wsX5_lawNamed_r2 ++ wsX5_lawNamed_r3)) ++ wsX50)
def wsX5_readSentence_r1 : List Cond := [Cond.fieldLink RX5 33 "KinCutlery$Table" "count" "I", Cond.fieldLink RX5 52 "KinCutlery$Tape" "number" "I", Cond.fieldLink RX5 55 "KinCutlery$Table" "told" "I", Cond.fieldLink RX5 68 "KinCutlery$Table" "laws" "[I", Cond.methodLink RX5 29 yX5_kindNamed, Cond.instanceMethod yX5_kindNamed, Cond.selects RX5 yX5_kindNamed yX5_kindNamed, Cond.initialized RX5, Cond.code yX5_kindNamed cX5_kindNamed 1 (some .int), Cond.methodLink RX5 44 yX5_isName, Cond.instanceMethod yX5_isName, Cond.selects RX5 yX5_isName yX5_isName, Cond.code yX5_isName cX5_isName 3 (some .boolean), Cond.fieldLink RX5 22 "KinCutlery$Tape" "sort" "I", Cond.fieldLink RX5 15 "KinCutlery$Tape" "after" "I", Cond.fieldLink RX5 90 "KinCutlery$Tape" "place" "I", Cond.fieldLink RX5 9 "KinCutlery$Tape" "bytes" "[B", Cond.methodLink RX5 100 yJ0_length_8abf5, Cond.instanceMethod yJ0_length_8abf5, Cond.selects RJ0 yJ0_length_8abf5 yJ0_length_8abf5, Cond.initialized RJ0, Cond.code yJ0_length_8abf5 cJ0_length_8abf5 1 (some .int), Cond.fieldLink RJ0 9 "java/lang/String" "value" "[B", Cond.methodLink RJ0 335 yJ0_coder_7d493]
def wsX5_readSentence_r2 : List Cond := [Cond.instanceMethod yJ0_coder_7d493, Cond.selects RJ0 yJ0_coder_7d493 yJ0_coder_7d493, Cond.code yJ0_coder_7d493 cJ0_coder_7d493 1 (some .byte), Cond.fieldLink RJ0 38 "java/lang/String" "COMPACT_STRINGS" "Z", Cond.fieldLink RJ0 15 "java/lang/String" "coder" "B", Cond.methodLink RX5 104 yJ0_charAt_5068e, Cond.instanceMethod yJ0_charAt_5068e, Cond.selects RJ0 yJ0_charAt_5068e yJ0_charAt_5068e, Cond.code yJ0_charAt_5068e cJ0_charAt_5068e 2 (some .char), Cond.methodLink RJ0 492 yJ0_isLatin1_aae02, Cond.instanceMethod yJ0_isLatin1_aae02, Cond.selects RJ0 yJ0_isLatin1_aae02 yJ0_isLatin1_aae02, Cond.code yJ0_isLatin1_aae02 cJ0_isLatin1_aae02 1 (some .boolean), Cond.methodLink RJ0 495 yJ1_charAt_3b067, Cond.static yJ1_charAt_3b067, Cond.initialized RJ1, Cond.code yJ1_charAt_3b067 cJ1_charAt_3b067 2 (some .char), Cond.methodLink RJ1 9 yJ0_checkIndex_df160, Cond.static yJ0_checkIndex_df160, Cond.code yJ0_checkIndex_df160 cJ0_checkIndex_df160 2 none, Cond.fieldLink RJ0 1053 "jdk/internal/util/Preconditions" "SIOOBE_FORMATTER" "Ljava/util/function/BiFunction;", Cond.methodLink RJ0 1059 yJ3_checkIndex_8e157, Cond.static yJ3_checkIndex_8e157, Cond.initialized RJ3]
def wsX5_readSentence_r3 : List Cond := [Cond.code yJ3_checkIndex_8e157 cJ3_checkIndex_8e157 3 (some .int), Cond.methodLink RJ0 498 yJ2_charAt_3b067, Cond.static yJ2_charAt_3b067, Cond.initialized RJ2, Cond.code yJ2_charAt_3b067 cJ2_charAt_3b067 2 (some .char), Cond.methodLink RJ2 67 yJ2_checkIndex_2214a, Cond.static yJ2_checkIndex_2214a, Cond.code yJ2_checkIndex_2214a cJ2_checkIndex_2214a 2 none, Cond.methodLink RJ2 48 yJ2_length_9d52b, Cond.static yJ2_length_9d52b, Cond.code yJ2_length_9d52b cJ2_length_9d52b 1 (some .int), Cond.methodLink RJ2 414 yJ0_checkIndex_df160, Cond.methodLink RJ2 71 yJ2_getChar_3b067, Cond.static yJ2_getChar_3b067, Cond.code yJ2_getChar_3b067 cJ2_getChar_3b067 2 (some .char), Cond.fieldLink RJ2 44 "java/lang/StringUTF16" "$assertionsDisabled" "Z", Cond.fieldLink RJ2 59 "java/lang/StringUTF16" "HI_BYTE_SHIFT" "I", Cond.fieldLink RJ2 63 "java/lang/StringUTF16" "LO_BYTE_SHIFT" "I", Cond.methodLink RX5 38 yX5_readGuest, Cond.instanceMethod yX5_readGuest, Cond.selects RX5 yX5_readGuest yX5_readGuest, Cond.code yX5_readGuest cX5_readGuest 4 (some .boolean), Cond.fieldLink RX5 79 "KinCutlery$Table" "gone" "[I", Cond.methodLink RX5 19 yX5_step]
def wsX5_readSentence_r4 : List Cond := [Cond.instanceMethod yX5_step, Cond.selects RX5 yX5_step yX5_step, Cond.code yX5_step cX5_step 1 none, Cond.fieldLink RX5 93 "KinCutlery$Tape" "length" "I", Cond.methodLink RX5 96 yX5_sortAt, Cond.instanceMethod yX5_sortAt, Cond.selects RX5 yX5_sortAt yX5_sortAt, Cond.code yX5_sortAt cX5_sortAt 2 (some .int), Cond.methodLink RX5 48 yX5_readNumber, Cond.instanceMethod yX5_readNumber, Cond.selects RX5 yX5_readNumber yX5_readNumber, Cond.code yX5_readNumber cX5_readNumber 3 (some .boolean), Cond.methodLink RX5 73 yX4_seat, Cond.instanceMethod yX4_seat, Cond.selects RX4 yX4_seat yX4_seat, Cond.initialized RX4, Cond.code yX4_seat cX4_seat 4 (some .int), Cond.fieldLink RX4 46 "KinCutlery$Table" "count" "I", Cond.fieldLink RX4 15 "KinCutlery$Table" "kind" "[I", Cond.fieldLink RX4 18 "KinCutlery$Table" "holds" "[I", Cond.fieldLink RX4 21 "KinCutlery$Table" "gone" "[I", Cond.fieldLink RX4 24 "KinCutlery$Table" "tells" "[I", Cond.methodLink RX4 59 yX4_drown, Cond.instanceMethod yX4_drown]
def wsX5_readSentence_r5 : List Cond := [Cond.selects RX4 yX4_drown yX4_drown, Cond.code yX4_drown cX4_drown 3 none, Cond.fieldLink RX4 43 "KinCutlery$Table" "drowned" "I", Cond.methodLink RX5 83 yX4_drown, Cond.methodLink RX5 87 yX5_isStop, Cond.instanceMethod yX5_isStop, Cond.selects RX5 yX5_isStop yX5_isStop, Cond.code yX5_isStop cX5_isStop 1 (some .boolean), Cond.methodLink RX5 57 yX5_readStop, Cond.instanceMethod yX5_readStop, Cond.selects RX5 yX5_readStop yX5_readStop, Cond.code yX5_readStop cX5_readStop 1 (some .boolean), Cond.methodLink RX5 61 yX5_lawNamed, Cond.instanceMethod yX5_lawNamed, Cond.selects RX5 yX5_lawNamed yX5_lawNamed, Cond.code yX5_lawNamed cX5_lawNamed 1 (some .int)]
def wsX5_readSentence : List Cond := .code yX5_readSentence cX5_readSentence 4 (some .boolean) :: ((wsX5_readSentence_r1 ++ (wsX5_readSentence_r2 ++ (wsX5_readSentence_r3 ++ (wsX5_readSentence_r4 ++ wsX5_readSentence_r5)))) ++ wsX40 ++ wsX50)
def wsX5_readInto_r1 : List Cond := [Cond.fieldLink RX5 15 "KinCutlery$Tape" "after" "I", Cond.fieldLink RX5 22 "KinCutlery$Tape" "sort" "I", Cond.methodLink RX5 19 yX5_step, Cond.instanceMethod yX5_step, Cond.selects RX5 yX5_step yX5_step, Cond.initialized RX5, Cond.code yX5_step cX5_step 1 none, Cond.fieldLink RX5 90 "KinCutlery$Tape" "place" "I", Cond.fieldLink RX5 93 "KinCutlery$Tape" "length" "I", Cond.fieldLink RX5 9 "KinCutlery$Tape" "bytes" "[B", Cond.methodLink RX5 96 yX5_sortAt, Cond.instanceMethod yX5_sortAt, Cond.selects RX5 yX5_sortAt yX5_sortAt, Cond.code yX5_sortAt cX5_sortAt 2 (some .int), Cond.methodLink RX5 25 yX5_readSentence, Cond.instanceMethod yX5_readSentence, Cond.selects RX5 yX5_readSentence yX5_readSentence, Cond.code yX5_readSentence cX5_readSentence 4 (some .boolean), Cond.fieldLink RX5 33 "KinCutlery$Table" "count" "I", Cond.fieldLink RX5 52 "KinCutlery$Tape" "number" "I", Cond.fieldLink RX5 55 "KinCutlery$Table" "told" "I", Cond.fieldLink RX5 68 "KinCutlery$Table" "laws" "[I", Cond.methodLink RX5 29 yX5_kindNamed, Cond.instanceMethod yX5_kindNamed]
def wsX5_readInto_r2 : List Cond := [Cond.selects RX5 yX5_kindNamed yX5_kindNamed, Cond.code yX5_kindNamed cX5_kindNamed 1 (some .int), Cond.methodLink RX5 44 yX5_isName, Cond.instanceMethod yX5_isName, Cond.selects RX5 yX5_isName yX5_isName, Cond.code yX5_isName cX5_isName 3 (some .boolean), Cond.methodLink RX5 100 yJ0_length_8abf5, Cond.instanceMethod yJ0_length_8abf5, Cond.selects RJ0 yJ0_length_8abf5 yJ0_length_8abf5, Cond.initialized RJ0, Cond.code yJ0_length_8abf5 cJ0_length_8abf5 1 (some .int), Cond.fieldLink RJ0 9 "java/lang/String" "value" "[B", Cond.methodLink RJ0 335 yJ0_coder_7d493, Cond.instanceMethod yJ0_coder_7d493, Cond.selects RJ0 yJ0_coder_7d493 yJ0_coder_7d493, Cond.code yJ0_coder_7d493 cJ0_coder_7d493 1 (some .byte), Cond.fieldLink RJ0 38 "java/lang/String" "COMPACT_STRINGS" "Z", Cond.fieldLink RJ0 15 "java/lang/String" "coder" "B", Cond.methodLink RX5 104 yJ0_charAt_5068e, Cond.instanceMethod yJ0_charAt_5068e, Cond.selects RJ0 yJ0_charAt_5068e yJ0_charAt_5068e, Cond.code yJ0_charAt_5068e cJ0_charAt_5068e 2 (some .char), Cond.methodLink RJ0 492 yJ0_isLatin1_aae02, Cond.instanceMethod yJ0_isLatin1_aae02]
def wsX5_readInto_r3 : List Cond := [Cond.selects RJ0 yJ0_isLatin1_aae02 yJ0_isLatin1_aae02, Cond.code yJ0_isLatin1_aae02 cJ0_isLatin1_aae02 1 (some .boolean), Cond.methodLink RJ0 495 yJ1_charAt_3b067, Cond.static yJ1_charAt_3b067, Cond.initialized RJ1, Cond.code yJ1_charAt_3b067 cJ1_charAt_3b067 2 (some .char), Cond.methodLink RJ1 9 yJ0_checkIndex_df160, Cond.static yJ0_checkIndex_df160, Cond.code yJ0_checkIndex_df160 cJ0_checkIndex_df160 2 none, Cond.fieldLink RJ0 1053 "jdk/internal/util/Preconditions" "SIOOBE_FORMATTER" "Ljava/util/function/BiFunction;", Cond.methodLink RJ0 1059 yJ3_checkIndex_8e157, Cond.static yJ3_checkIndex_8e157, Cond.initialized RJ3, Cond.code yJ3_checkIndex_8e157 cJ3_checkIndex_8e157 3 (some .int), Cond.methodLink RJ0 498 yJ2_charAt_3b067, Cond.static yJ2_charAt_3b067, Cond.initialized RJ2, Cond.code yJ2_charAt_3b067 cJ2_charAt_3b067 2 (some .char), Cond.methodLink RJ2 67 yJ2_checkIndex_2214a, Cond.static yJ2_checkIndex_2214a, Cond.code yJ2_checkIndex_2214a cJ2_checkIndex_2214a 2 none, Cond.methodLink RJ2 48 yJ2_length_9d52b, Cond.static yJ2_length_9d52b, Cond.code yJ2_length_9d52b cJ2_length_9d52b 1 (some .int)]
def wsX5_readInto_r4 : List Cond := [Cond.methodLink RJ2 414 yJ0_checkIndex_df160, Cond.methodLink RJ2 71 yJ2_getChar_3b067, Cond.static yJ2_getChar_3b067, Cond.code yJ2_getChar_3b067 cJ2_getChar_3b067 2 (some .char), Cond.fieldLink RJ2 44 "java/lang/StringUTF16" "$assertionsDisabled" "Z", Cond.fieldLink RJ2 59 "java/lang/StringUTF16" "HI_BYTE_SHIFT" "I", Cond.fieldLink RJ2 63 "java/lang/StringUTF16" "LO_BYTE_SHIFT" "I", Cond.methodLink RX5 38 yX5_readGuest, Cond.instanceMethod yX5_readGuest, Cond.selects RX5 yX5_readGuest yX5_readGuest, Cond.code yX5_readGuest cX5_readGuest 4 (some .boolean), Cond.fieldLink RX5 79 "KinCutlery$Table" "gone" "[I", Cond.methodLink RX5 48 yX5_readNumber, Cond.instanceMethod yX5_readNumber, Cond.selects RX5 yX5_readNumber yX5_readNumber, Cond.code yX5_readNumber cX5_readNumber 3 (some .boolean), Cond.methodLink RX5 73 yX4_seat, Cond.instanceMethod yX4_seat, Cond.selects RX4 yX4_seat yX4_seat, Cond.initialized RX4, Cond.code yX4_seat cX4_seat 4 (some .int), Cond.fieldLink RX4 46 "KinCutlery$Table" "count" "I", Cond.fieldLink RX4 15 "KinCutlery$Table" "kind" "[I", Cond.fieldLink RX4 18 "KinCutlery$Table" "holds" "[I"]
def wsX5_readInto_r5 : List Cond := [Cond.fieldLink RX4 21 "KinCutlery$Table" "gone" "[I", Cond.fieldLink RX4 24 "KinCutlery$Table" "tells" "[I", Cond.methodLink RX4 59 yX4_drown, Cond.instanceMethod yX4_drown, Cond.selects RX4 yX4_drown yX4_drown, Cond.code yX4_drown cX4_drown 3 none, Cond.fieldLink RX4 43 "KinCutlery$Table" "drowned" "I", Cond.methodLink RX5 83 yX4_drown, Cond.methodLink RX5 87 yX5_isStop, Cond.instanceMethod yX5_isStop, Cond.selects RX5 yX5_isStop yX5_isStop, Cond.code yX5_isStop cX5_isStop 1 (some .boolean), Cond.methodLink RX5 57 yX5_readStop, Cond.instanceMethod yX5_readStop, Cond.selects RX5 yX5_readStop yX5_readStop, Cond.code yX5_readStop cX5_readStop 1 (some .boolean), Cond.methodLink RX5 61 yX5_lawNamed, Cond.instanceMethod yX5_lawNamed, Cond.selects RX5 yX5_lawNamed yX5_lawNamed, Cond.code yX5_lawNamed cX5_lawNamed 1 (some .int)]
def wsX5_readInto : List Cond := .code yX5_readInto cX5_readInto 3 (some .boolean) :: ((wsX5_readInto_r1 ++ (wsX5_readInto_r2 ++ (wsX5_readInto_r3 ++ (wsX5_readInto_r4 ++ wsX5_readInto_r5)))) ++ wsX50 ++ wsX40)
def wsX6_init_r1 : List Cond := [Cond.methodLink RX6 1 objectInit, Cond.instanceMethod objectInit, Cond.code objectInit ⟨#[0xb1]⟩ 1 none, Cond.classLink RX6 7 RX4, Cond.instantiable RX4 10, Cond.initialized RX4, Cond.fieldLink RX6 10 "KinCutlery" "now" "LKinCutlery$Table;", Cond.fieldLink RX6 16 "KinCutlery" "tried" "LKinCutlery$Table;", Cond.fieldLink RX6 19 "KinCutlery" "kept" "LKinCutlery$Table;", Cond.classLink RX6 22 RX5, Cond.instantiable RX5 6, Cond.initialized RX5, Cond.fieldLink RX6 25 "KinCutlery" "tape" "LKinCutlery$Tape;", Cond.classLink RX6 29 RX0, Cond.instantiable RX0 2, Cond.initialized RX0, Cond.fieldLink RX6 32 "KinCutlery" "rows" "LKinCutlery$Rows;", Cond.classLink RX6 36 RX1, Cond.fieldLink RX6 38 "KinCutlery" "sheets" "[LKinCutlery$Sheet;", Cond.classLink RX6 42 RX2, Cond.fieldLink RX6 44 "KinCutlery" "shelves" "[LKinCutlery$Shelf;", Cond.classLink RX6 48 RX3, Cond.instantiable RX3 6, Cond.initialized RX3]
def wsX6_init_r2 : List Cond := [Cond.fieldLink RX6 51 "KinCutlery" "stage" "LKinCutlery$Stage;", Cond.instantiable RX1 3, Cond.initialized RX1, Cond.instantiable RX2 4, Cond.initialized RX2, Cond.methodLink RX6 9 yX4_init, Cond.instanceMethod yX4_init, Cond.code yX4_init cX4_init 1 none, Cond.methodLink RX4 3 objectInit, Cond.arrayClass .int, Cond.fieldLink RX4 9 "KinCutlery$Table" "laws" "[I", Cond.fieldLink RX4 15 "KinCutlery$Table" "kind" "[I", Cond.fieldLink RX4 18 "KinCutlery$Table" "holds" "[I", Cond.fieldLink RX4 21 "KinCutlery$Table" "gone" "[I", Cond.fieldLink RX4 24 "KinCutlery$Table" "tells" "[I", Cond.fieldLink RX4 27 "KinCutlery$Table" "z" "I", Cond.methodLink RX4 31 yX4_clear, Cond.instanceMethod yX4_clear, Cond.selects RX4 yX4_clear yX4_clear, Cond.code yX4_clear cX4_clear 1 none, Cond.methodLink RX4 37 arraycopyName, Cond.native arraycopyName, Cond.static arraycopyName, Cond.initialized "java/lang/System"]
def wsX6_init_r3 : List Cond := [Cond.fieldLink RX4 43 "KinCutlery$Table" "drowned" "I", Cond.fieldLink RX4 46 "KinCutlery$Table" "count" "I", Cond.fieldLink RX4 49 "KinCutlery$Table" "course" "I", Cond.fieldLink RX4 52 "KinCutlery$Table" "told" "I", Cond.instanceMethod yX5_init, Cond.code yX5_init cX5_init 1 none, Cond.methodLink RX5 3 objectInit, Cond.arrayClass .byte, Cond.fieldLink RX5 9 "KinCutlery$Tape" "bytes" "[B", Cond.instanceMethod yX0_init, Cond.code yX0_init cX0_init 1 none, Cond.methodLink RX0 3 objectInit, Cond.fieldLink RX0 9 "KinCutlery$Rows" "cells" "[I", Cond.instanceMethod yX3_init, Cond.code yX3_init cX3_init 1 none, Cond.methodLink RX3 3 objectInit, Cond.fieldLink RX3 9 "KinCutlery$Stage" "bodies" "[I", Cond.instanceMethod yX1_init, Cond.code yX1_init cX1_init 1 none, Cond.methodLink RX1 3 objectInit, Cond.arrayClass .long, Cond.fieldLink RX1 9 "KinCutlery$Sheet" "items" "[J", Cond.fieldLink RX1 15 "KinCutlery$Sheet" "sort" "I", Cond.instanceMethod yX2_init]
def wsX6_init_r4 : List Cond := [Cond.code yX2_init cX2_init 1 none, Cond.methodLink RX2 3 objectInit, Cond.fieldLink RX2 9 "KinCutlery$Shelf" "what" "I"]
def wsX6_init : List Cond := .code yX6_init cX6_init 2 none :: ((wsX6_init_r1 ++ (wsX6_init_r2 ++ (wsX6_init_r3 ++ wsX6_init_r4))) ++ wsX40 ++ wsX60 ++ wsX50 ++ wsX00 ++ wsX30 ++ wsX10 ++ wsX20)
def wsX6_feed : List Cond := .code yX6_feed cX6_feed 5 (some .int) :: ([.fieldLink RX6 25 "KinCutlery" "tape" "LKinCutlery$Tape;", .fieldLink RX6 61 "KinCutlery$Tape" "length" "I", .fieldLink RX6 65 "KinCutlery$Tape" "bytes" "[B", .methodLink RX6 57 yX6_within, .static yX6_within, .initialized RX6, .code yX6_within cX6_within 3 (some .boolean)] ++ wsX60 ++ wsX50)
def wsX6_feast_r1 : List Cond := [Cond.fieldLink RX6 16 "KinCutlery" "tried" "LKinCutlery$Table;", Cond.fieldLink RX6 10 "KinCutlery" "now" "LKinCutlery$Table;", Cond.fieldLink RX6 72 "KinCutlery$Table" "z" "I", Cond.fieldLink RX6 25 "KinCutlery" "tape" "LKinCutlery$Tape;", Cond.fieldLink RX6 79 "KinCutlery$Tape" "place" "I", Cond.fieldLink RX6 61 "KinCutlery$Tape" "length" "I", Cond.fieldLink RX6 32 "KinCutlery" "rows" "LKinCutlery$Rows;", Cond.fieldLink RX6 86 "KinCutlery$Rows" "count" "I", Cond.fieldLink RX6 89 "KinCutlery$Table" "count" "I", Cond.methodLink RX6 69 yX4_clear, Cond.instanceMethod yX4_clear, Cond.selects RX4 yX4_clear yX4_clear, Cond.initialized RX4, Cond.code yX4_clear cX4_clear 1 none, Cond.fieldLink RX4 9 "KinCutlery$Table" "laws" "[I", Cond.methodLink RX4 37 arraycopyName, Cond.native arraycopyName, Cond.static arraycopyName, Cond.initialized "java/lang/System", Cond.fieldLink RX4 43 "KinCutlery$Table" "drowned" "I", Cond.fieldLink RX4 46 "KinCutlery$Table" "count" "I", Cond.fieldLink RX4 49 "KinCutlery$Table" "course" "I", Cond.fieldLink RX4 52 "KinCutlery$Table" "told" "I", Cond.methodLink RX6 75 yX5_readInto]
def wsX6_feast_r2 : List Cond := [Cond.instanceMethod yX5_readInto, Cond.selects RX5 yX5_readInto yX5_readInto, Cond.initialized RX5, Cond.code yX5_readInto cX5_readInto 3 (some .boolean), Cond.fieldLink RX5 15 "KinCutlery$Tape" "after" "I", Cond.fieldLink RX5 22 "KinCutlery$Tape" "sort" "I", Cond.methodLink RX5 19 yX5_step, Cond.instanceMethod yX5_step, Cond.selects RX5 yX5_step yX5_step, Cond.code yX5_step cX5_step 1 none, Cond.fieldLink RX5 90 "KinCutlery$Tape" "place" "I", Cond.fieldLink RX5 93 "KinCutlery$Tape" "length" "I", Cond.fieldLink RX5 9 "KinCutlery$Tape" "bytes" "[B", Cond.methodLink RX5 96 yX5_sortAt, Cond.instanceMethod yX5_sortAt, Cond.selects RX5 yX5_sortAt yX5_sortAt, Cond.code yX5_sortAt cX5_sortAt 2 (some .int), Cond.methodLink RX5 25 yX5_readSentence, Cond.instanceMethod yX5_readSentence, Cond.selects RX5 yX5_readSentence yX5_readSentence, Cond.code yX5_readSentence cX5_readSentence 4 (some .boolean), Cond.fieldLink RX5 33 "KinCutlery$Table" "count" "I", Cond.fieldLink RX5 52 "KinCutlery$Tape" "number" "I", Cond.fieldLink RX5 55 "KinCutlery$Table" "told" "I"]
def wsX6_feast_r3 : List Cond := [Cond.fieldLink RX5 68 "KinCutlery$Table" "laws" "[I", Cond.methodLink RX5 29 yX5_kindNamed, Cond.instanceMethod yX5_kindNamed, Cond.selects RX5 yX5_kindNamed yX5_kindNamed, Cond.code yX5_kindNamed cX5_kindNamed 1 (some .int), Cond.methodLink RX5 44 yX5_isName, Cond.instanceMethod yX5_isName, Cond.selects RX5 yX5_isName yX5_isName, Cond.code yX5_isName cX5_isName 3 (some .boolean), Cond.methodLink RX5 100 yJ0_length_8abf5, Cond.instanceMethod yJ0_length_8abf5, Cond.selects RJ0 yJ0_length_8abf5 yJ0_length_8abf5, Cond.initialized RJ0, Cond.code yJ0_length_8abf5 cJ0_length_8abf5 1 (some .int), Cond.fieldLink RJ0 9 "java/lang/String" "value" "[B", Cond.methodLink RJ0 335 yJ0_coder_7d493, Cond.instanceMethod yJ0_coder_7d493, Cond.selects RJ0 yJ0_coder_7d493 yJ0_coder_7d493, Cond.code yJ0_coder_7d493 cJ0_coder_7d493 1 (some .byte), Cond.fieldLink RJ0 38 "java/lang/String" "COMPACT_STRINGS" "Z", Cond.fieldLink RJ0 15 "java/lang/String" "coder" "B", Cond.methodLink RX5 104 yJ0_charAt_5068e, Cond.instanceMethod yJ0_charAt_5068e, Cond.selects RJ0 yJ0_charAt_5068e yJ0_charAt_5068e]
def wsX6_feast_r4 : List Cond := [Cond.code yJ0_charAt_5068e cJ0_charAt_5068e 2 (some .char), Cond.methodLink RJ0 492 yJ0_isLatin1_aae02, Cond.instanceMethod yJ0_isLatin1_aae02, Cond.selects RJ0 yJ0_isLatin1_aae02 yJ0_isLatin1_aae02, Cond.code yJ0_isLatin1_aae02 cJ0_isLatin1_aae02 1 (some .boolean), Cond.methodLink RJ0 495 yJ1_charAt_3b067, Cond.static yJ1_charAt_3b067, Cond.initialized RJ1, Cond.code yJ1_charAt_3b067 cJ1_charAt_3b067 2 (some .char), Cond.methodLink RJ1 9 yJ0_checkIndex_df160, Cond.static yJ0_checkIndex_df160, Cond.code yJ0_checkIndex_df160 cJ0_checkIndex_df160 2 none, Cond.fieldLink RJ0 1053 "jdk/internal/util/Preconditions" "SIOOBE_FORMATTER" "Ljava/util/function/BiFunction;", Cond.methodLink RJ0 1059 yJ3_checkIndex_8e157, Cond.static yJ3_checkIndex_8e157, Cond.initialized RJ3, Cond.code yJ3_checkIndex_8e157 cJ3_checkIndex_8e157 3 (some .int), Cond.methodLink RJ0 498 yJ2_charAt_3b067, Cond.static yJ2_charAt_3b067, Cond.initialized RJ2, Cond.code yJ2_charAt_3b067 cJ2_charAt_3b067 2 (some .char), Cond.methodLink RJ2 67 yJ2_checkIndex_2214a, Cond.static yJ2_checkIndex_2214a, Cond.code yJ2_checkIndex_2214a cJ2_checkIndex_2214a 2 none]
def wsX6_feast_r5 : List Cond := [Cond.methodLink RJ2 48 yJ2_length_9d52b, Cond.static yJ2_length_9d52b, Cond.code yJ2_length_9d52b cJ2_length_9d52b 1 (some .int), Cond.methodLink RJ2 414 yJ0_checkIndex_df160, Cond.methodLink RJ2 71 yJ2_getChar_3b067, Cond.static yJ2_getChar_3b067, Cond.code yJ2_getChar_3b067 cJ2_getChar_3b067 2 (some .char), Cond.fieldLink RJ2 44 "java/lang/StringUTF16" "$assertionsDisabled" "Z", Cond.fieldLink RJ2 59 "java/lang/StringUTF16" "HI_BYTE_SHIFT" "I", Cond.fieldLink RJ2 63 "java/lang/StringUTF16" "LO_BYTE_SHIFT" "I", Cond.methodLink RX5 38 yX5_readGuest, Cond.instanceMethod yX5_readGuest, Cond.selects RX5 yX5_readGuest yX5_readGuest, Cond.code yX5_readGuest cX5_readGuest 4 (some .boolean), Cond.fieldLink RX5 79 "KinCutlery$Table" "gone" "[I", Cond.methodLink RX5 48 yX5_readNumber, Cond.instanceMethod yX5_readNumber, Cond.selects RX5 yX5_readNumber yX5_readNumber, Cond.code yX5_readNumber cX5_readNumber 3 (some .boolean), Cond.methodLink RX5 73 yX4_seat, Cond.instanceMethod yX4_seat, Cond.selects RX4 yX4_seat yX4_seat, Cond.code yX4_seat cX4_seat 4 (some .int), Cond.fieldLink RX4 15 "KinCutlery$Table" "kind" "[I"]
def wsX6_feast_r6 : List Cond := [Cond.fieldLink RX4 18 "KinCutlery$Table" "holds" "[I", Cond.fieldLink RX4 21 "KinCutlery$Table" "gone" "[I", Cond.fieldLink RX4 24 "KinCutlery$Table" "tells" "[I", Cond.methodLink RX4 59 yX4_drown, Cond.instanceMethod yX4_drown, Cond.selects RX4 yX4_drown yX4_drown, Cond.code yX4_drown cX4_drown 3 none, Cond.methodLink RX5 83 yX4_drown, Cond.methodLink RX5 87 yX5_isStop, Cond.instanceMethod yX5_isStop, Cond.selects RX5 yX5_isStop yX5_isStop, Cond.code yX5_isStop cX5_isStop 1 (some .boolean), Cond.methodLink RX5 57 yX5_readStop, Cond.instanceMethod yX5_readStop, Cond.selects RX5 yX5_readStop yX5_readStop, Cond.code yX5_readStop cX5_readStop 1 (some .boolean), Cond.methodLink RX5 61 yX5_lawNamed, Cond.instanceMethod yX5_lawNamed, Cond.selects RX5 yX5_lawNamed yX5_lawNamed, Cond.code yX5_lawNamed cX5_lawNamed 1 (some .int), Cond.methodLink RX6 82 yX4_copyFrom, Cond.instanceMethod yX4_copyFrom, Cond.selects RX4 yX4_copyFrom yX4_copyFrom, Cond.code yX4_copyFrom cX4_copyFrom 2 none]
def wsX6_feast_r7 : List Cond := [Cond.fieldLink RX4 27 "KinCutlery$Table" "z" "I"]
def wsX6_feast : List Cond := .code yX6_feast cX6_feast 3 (some .int) :: ((wsX6_feast_r1 ++ (wsX6_feast_r2 ++ (wsX6_feast_r3 ++ (wsX6_feast_r4 ++ (wsX6_feast_r5 ++ (wsX6_feast_r6 ++ wsX6_feast_r7)))))) ++ wsX60 ++ wsX40 ++ wsX50 ++ wsX00)
def wsX6_set : List Cond := .code yX6_set cX6_set 4 (some .int) :: ([.fieldLink RX6 90 "KinCutlery" "LAW_AT_MOST" "[I", .fieldLink RX6 10 "KinCutlery" "now" "LKinCutlery$Table;", .fieldLink RX6 94 "KinCutlery$Table" "laws" "[I", .methodLink RX6 57 yX6_within, .static yX6_within, .initialized RX6, .code yX6_within cX6_within 3 (some .boolean)] ++ wsX60 ++ wsX40)
def wsX6_lawOf : List Cond := .code yX6_lawOf cX6_lawOf 2 (some .int) :: ([.fieldLink RX6 10 "KinCutlery" "now" "LKinCutlery$Table;", .fieldLink RX6 94 "KinCutlery$Table" "laws" "[I", .methodLink RX6 57 yX6_within, .static yX6_within, .initialized RX6, .code yX6_within cX6_within 3 (some .boolean)] ++ wsX60 ++ wsX40)
def wsX6_guest : List Cond := .code yX6_guest cX6_guest 3 (some .int) :: ([.fieldLink RX6 10 "KinCutlery" "now" "LKinCutlery$Table;", .fieldLink RX6 89 "KinCutlery$Table" "count" "I", .methodLink RX6 57 yX6_within, .static yX6_within, .initialized RX6, .code yX6_within cX6_within 3 (some .boolean), .methodLink RX6 97 yX4_seat, .instanceMethod yX4_seat, .selects RX4 yX4_seat yX4_seat, .initialized RX4, .code yX4_seat cX4_seat 4 (some .int), .fieldLink RX4 46 "KinCutlery$Table" "count" "I", .fieldLink RX4 15 "KinCutlery$Table" "kind" "[I", .fieldLink RX4 18 "KinCutlery$Table" "holds" "[I", .fieldLink RX4 21 "KinCutlery$Table" "gone" "[I", .fieldLink RX4 24 "KinCutlery$Table" "tells" "[I", .methodLink RX4 59 yX4_drown, .instanceMethod yX4_drown, .selects RX4 yX4_drown yX4_drown, .code yX4_drown cX4_drown 3 none, .fieldLink RX4 43 "KinCutlery$Table" "drowned" "I"] ++ wsX60 ++ wsX40)
def wsX6_of : List Cond := .code yX6_of cX6_of 3 (some .int) :: ([.fieldLink RX6 10 "KinCutlery" "now" "LKinCutlery$Table;", .fieldLink RX6 105 "KinCutlery$Table" "kind" "[I", .fieldLink RX6 108 "KinCutlery$Table" "holds" "[I", .fieldLink RX6 111 "KinCutlery$Table" "gone" "[I", .fieldLink RX6 114 "KinCutlery$Table" "tells" "[I", .methodLink RX6 101 yX4_has, .instanceMethod yX4_has, .selects RX4 yX4_has yX4_has, .initialized RX4, .code yX4_has cX4_has 2 (some .boolean), .fieldLink RX4 46 "KinCutlery$Table" "count" "I", .static yX6_within, .initialized RX6, .code yX6_within cX6_within 3 (some .boolean), .methodLink RX6 117 yX4_isDrowned, .instanceMethod yX4_isDrowned, .selects RX4 yX4_isDrowned yX4_isDrowned, .code yX4_isDrowned cX4_isDrowned 2 (some .boolean), .fieldLink RX4 43 "KinCutlery$Table" "drowned" "I"] ++ wsX60 ++ wsX40)
def wsX6_does_r1 : List Cond := [Cond.fieldLink RX6 10 "KinCutlery" "now" "LKinCutlery$Table;", Cond.methodLink RX6 101 yX4_has, Cond.instanceMethod yX4_has, Cond.selects RX4 yX4_has yX4_has, Cond.initialized RX4, Cond.code yX4_has cX4_has 2 (some .boolean), Cond.fieldLink RX4 46 "KinCutlery$Table" "count" "I", Cond.static yX6_within, Cond.initialized RX6, Cond.code yX6_within cX6_within 3 (some .boolean), Cond.methodLink RX6 120 yX4_takes, Cond.instanceMethod yX4_takes, Cond.selects RX4 yX4_takes yX4_takes, Cond.code yX4_takes cX4_takes 2 (some .int), Cond.fieldLink RX4 15 "KinCutlery$Table" "kind" "[I", Cond.fieldLink RX4 9 "KinCutlery$Table" "laws" "[I", Cond.fieldLink RX4 18 "KinCutlery$Table" "holds" "[I", Cond.methodLink RX4 63 yX4_next, Cond.instanceMethod yX4_next, Cond.selects RX4 yX4_next yX4_next, Cond.code yX4_next cX4_next 1 (some .int), Cond.fieldLink RX4 52 "KinCutlery$Table" "told" "I", Cond.methodLink RX6 124 yX4_needs, Cond.instanceMethod yX4_needs]
def wsX6_does_r2 : List Cond := [Cond.selects RX4 yX4_needs yX4_needs, Cond.code yX4_needs cX4_needs 2 (some .int), Cond.fieldLink RX4 21 "KinCutlery$Table" "gone" "[I", Cond.methodLink RX6 127 yX4_costs, Cond.instanceMethod yX4_costs, Cond.selects RX4 yX4_costs yX4_costs, Cond.code yX4_costs cX4_costs 2 (some .int)]
def wsX6_does : List Cond := .code yX6_does cX6_does 3 (some .int) :: ((wsX6_does_r1 ++ wsX6_does_r2) ++ wsX60 ++ wsX40)
def wsX6_mind : List Cond := .code yX6_mind cX6_mind 4 (some .int) :: ([.fieldLink RX6 10 "KinCutlery" "now" "LKinCutlery$Table;", .fieldLink RX6 105 "KinCutlery$Table" "kind" "[I", .methodLink RX6 101 yX4_has, .instanceMethod yX4_has, .selects RX4 yX4_has yX4_has, .initialized RX4, .code yX4_has cX4_has 2 (some .boolean), .fieldLink RX4 46 "KinCutlery$Table" "count" "I", .static yX6_within, .initialized RX6, .code yX6_within cX6_within 3 (some .boolean), .methodLink RX6 57 yX6_within] ++ wsX60 ++ wsX40)
def wsX6_give : List Cond := .code yX6_give cX6_give 4 (some .int) :: ([.fieldLink RX6 10 "KinCutlery" "now" "LKinCutlery$Table;", .fieldLink RX6 108 "KinCutlery$Table" "holds" "[I", .methodLink RX6 101 yX4_has, .instanceMethod yX4_has, .selects RX4 yX4_has yX4_has, .initialized RX4, .code yX4_has cX4_has 2 (some .boolean), .fieldLink RX4 46 "KinCutlery$Table" "count" "I", .static yX6_within, .initialized RX6, .code yX6_within cX6_within 3 (some .boolean), .methodLink RX6 57 yX6_within] ++ wsX60 ++ wsX40)
def wsX6_sink : List Cond := .code yX6_sink cX6_sink 5 (some .int) :: ([.fieldLink RX6 10 "KinCutlery" "now" "LKinCutlery$Table;", .fieldLink RX6 111 "KinCutlery$Table" "gone" "[I", .methodLink RX6 101 yX4_has, .instanceMethod yX4_has, .selects RX4 yX4_has yX4_has, .initialized RX4, .code yX4_has cX4_has 2 (some .boolean), .fieldLink RX4 46 "KinCutlery$Table" "count" "I", .static yX6_within, .initialized RX6, .code yX6_within cX6_within 3 (some .boolean), .methodLink RX6 57 yX6_within, .methodLink RX6 117 yX4_isDrowned, .instanceMethod yX4_isDrowned, .selects RX4 yX4_isDrowned yX4_isDrowned, .code yX4_isDrowned cX4_isDrowned 2 (some .boolean), .fieldLink RX4 43 "KinCutlery$Table" "drowned" "I", .methodLink RX6 130 yX4_drown, .instanceMethod yX4_drown, .selects RX4 yX4_drown yX4_drown, .code yX4_drown cX4_drown 3 none] ++ wsX60 ++ wsX40)
def wsX6_courses_r1 : List Cond := [Cond.fieldLink RX6 10 "KinCutlery" "now" "LKinCutlery$Table;", Cond.methodLink RX6 57 yX6_within, Cond.static yX6_within, Cond.initialized RX6, Cond.code yX6_within cX6_within 3 (some .boolean), Cond.methodLink RX6 134 yX4_toldBehind, Cond.instanceMethod yX4_toldBehind, Cond.selects RX4 yX4_toldBehind yX4_toldBehind, Cond.initialized RX4, Cond.code yX4_toldBehind cX4_toldBehind 3 (some .int), Cond.fieldLink RX4 52 "KinCutlery$Table" "told" "I", Cond.methodLink RX4 101 yX4_serve, Cond.instanceMethod yX4_serve, Cond.selects RX4 yX4_serve yX4_serve, Cond.code yX4_serve cX4_serve 3 none, Cond.fieldLink RX4 46 "KinCutlery$Table" "count" "I", Cond.fieldLink RX4 21 "KinCutlery$Table" "gone" "[I", Cond.fieldLink RX4 9 "KinCutlery$Table" "laws" "[I", Cond.fieldLink RX4 49 "KinCutlery$Table" "course" "I", Cond.methodLink RX4 67 yX4_isDrowned, Cond.instanceMethod yX4_isDrowned, Cond.selects RX4 yX4_isDrowned yX4_isDrowned, Cond.code yX4_isDrowned cX4_isDrowned 2 (some .boolean), Cond.fieldLink RX4 43 "KinCutlery$Table" "drowned" "I"]
def wsX6_courses_r2 : List Cond := [Cond.methodLink RX4 71 yX4_takes, Cond.instanceMethod yX4_takes, Cond.selects RX4 yX4_takes yX4_takes, Cond.code yX4_takes cX4_takes 2 (some .int), Cond.fieldLink RX4 15 "KinCutlery$Table" "kind" "[I", Cond.fieldLink RX4 18 "KinCutlery$Table" "holds" "[I", Cond.methodLink RX4 63 yX4_next, Cond.instanceMethod yX4_next, Cond.selects RX4 yX4_next yX4_next, Cond.code yX4_next cX4_next 1 (some .int), Cond.static yX6_held, Cond.code yX6_held cX6_held 1 (some .int), Cond.methodLink RX6 293 Lib.Math.min.name, Cond.static Lib.Math.min.name, Cond.initialized "java/lang/Math", Cond.code Lib.Math.min.name Lib.Math.min.code 2 (some .int), Cond.methodLink RX6 177 Lib.Math.max.name, Cond.static Lib.Math.max.name, Cond.code Lib.Math.max.name Lib.Math.max.code 2 (some .int), Cond.methodLink RX4 78 yX4_teller, Cond.instanceMethod yX4_teller, Cond.selects RX4 yX4_teller yX4_teller, Cond.code yX4_teller cX4_teller 3 (some .int), Cond.methodLink RX4 85 yX4_needs]
def wsX6_courses_r3 : List Cond := [Cond.instanceMethod yX4_needs, Cond.selects RX4 yX4_needs yX4_needs, Cond.code yX4_needs cX4_needs 2 (some .int), Cond.methodLink RX4 81 yX4_tellNext, Cond.instanceMethod yX4_tellNext, Cond.selects RX4 yX4_tellNext yX4_tellNext, Cond.code yX4_tellNext cX4_tellNext 3 none, Cond.constant RX4 91 (99999), Cond.methodLink RX4 92 Lib.Math.min.name, Cond.fieldLink RX4 24 "KinCutlery$Table" "tells" "[I", Cond.methodLink RX4 88 yX4_costs, Cond.instanceMethod yX4_costs, Cond.selects RX4 yX4_costs yX4_costs, Cond.code yX4_costs cX4_costs 2 (some .int), Cond.methodLink RX4 59 yX4_drown, Cond.instanceMethod yX4_drown, Cond.selects RX4 yX4_drown yX4_drown, Cond.code yX4_drown cX4_drown 3 none]
def wsX6_courses : List Cond := .code yX6_courses cX6_courses 2 (some .int) :: ((wsX6_courses_r1 ++ (wsX6_courses_r2 ++ wsX6_courses_r3)) ++ wsX60 ++ wsX40)
def wsX6_seed : List Cond := .code yX6_seed cX6_seed 3 (some .int) :: ([.fieldLink RX6 10 "KinCutlery" "now" "LKinCutlery$Table;", .fieldLink RX6 72 "KinCutlery$Table" "z" "I"] ++ wsX60 ++ wsX40)
def wsX6_course_r1 : List Cond := [Cond.fieldLink RX6 10 "KinCutlery" "now" "LKinCutlery$Table;", Cond.fieldLink RX6 140 "KinCutlery$Table" "told" "I", Cond.methodLink RX6 137 yX4_serveByDraws, Cond.instanceMethod yX4_serveByDraws, Cond.selects RX4 yX4_serveByDraws yX4_serveByDraws, Cond.initialized RX4, Cond.code yX4_serveByDraws cX4_serveByDraws 2 none, Cond.fieldLink RX4 46 "KinCutlery$Table" "count" "I", Cond.fieldLink RX4 9 "KinCutlery$Table" "laws" "[I", Cond.fieldLink RX4 18 "KinCutlery$Table" "holds" "[I", Cond.methodLink RX4 98 yX4_drawn, Cond.instanceMethod yX4_drawn, Cond.selects RX4 yX4_drawn yX4_drawn, Cond.code yX4_drawn cX4_drawn 1 (some .int), Cond.fieldLink RX4 27 "KinCutlery$Table" "z" "I", Cond.constant RX4 104 (1103515245), Cond.methodLink RX4 101 yX4_serve, Cond.instanceMethod yX4_serve, Cond.selects RX4 yX4_serve yX4_serve, Cond.code yX4_serve cX4_serve 3 none, Cond.fieldLink RX4 21 "KinCutlery$Table" "gone" "[I", Cond.fieldLink RX4 49 "KinCutlery$Table" "course" "I", Cond.methodLink RX4 67 yX4_isDrowned, Cond.instanceMethod yX4_isDrowned]
def wsX6_course_r2 : List Cond := [Cond.selects RX4 yX4_isDrowned yX4_isDrowned, Cond.code yX4_isDrowned cX4_isDrowned 2 (some .boolean), Cond.fieldLink RX4 43 "KinCutlery$Table" "drowned" "I", Cond.methodLink RX4 71 yX4_takes, Cond.instanceMethod yX4_takes, Cond.selects RX4 yX4_takes yX4_takes, Cond.code yX4_takes cX4_takes 2 (some .int), Cond.fieldLink RX4 15 "KinCutlery$Table" "kind" "[I", Cond.methodLink RX4 63 yX4_next, Cond.instanceMethod yX4_next, Cond.selects RX4 yX4_next yX4_next, Cond.code yX4_next cX4_next 1 (some .int), Cond.fieldLink RX4 52 "KinCutlery$Table" "told" "I", Cond.static yX6_held, Cond.initialized RX6, Cond.code yX6_held cX6_held 1 (some .int), Cond.methodLink RX6 293 Lib.Math.min.name, Cond.static Lib.Math.min.name, Cond.initialized "java/lang/Math", Cond.code Lib.Math.min.name Lib.Math.min.code 2 (some .int), Cond.methodLink RX6 177 Lib.Math.max.name, Cond.static Lib.Math.max.name, Cond.code Lib.Math.max.name Lib.Math.max.code 2 (some .int), Cond.methodLink RX4 78 yX4_teller]
def wsX6_course_r3 : List Cond := [Cond.instanceMethod yX4_teller, Cond.selects RX4 yX4_teller yX4_teller, Cond.code yX4_teller cX4_teller 3 (some .int), Cond.methodLink RX4 85 yX4_needs, Cond.instanceMethod yX4_needs, Cond.selects RX4 yX4_needs yX4_needs, Cond.code yX4_needs cX4_needs 2 (some .int), Cond.methodLink RX4 81 yX4_tellNext, Cond.instanceMethod yX4_tellNext, Cond.selects RX4 yX4_tellNext yX4_tellNext, Cond.code yX4_tellNext cX4_tellNext 3 none, Cond.constant RX4 91 (99999), Cond.methodLink RX4 92 Lib.Math.min.name, Cond.fieldLink RX4 24 "KinCutlery$Table" "tells" "[I", Cond.methodLink RX4 88 yX4_costs, Cond.instanceMethod yX4_costs, Cond.selects RX4 yX4_costs yX4_costs, Cond.code yX4_costs cX4_costs 2 (some .int), Cond.methodLink RX4 59 yX4_drown, Cond.instanceMethod yX4_drown, Cond.selects RX4 yX4_drown yX4_drown, Cond.code yX4_drown cX4_drown 3 none]
def wsX6_course : List Cond := .code yX6_course cX6_course 1 (some .int) :: ((wsX6_course_r1 ++ (wsX6_course_r2 ++ wsX6_course_r3)) ++ wsX60 ++ wsX40)
def wsX6_triedTale_r1 : List Cond := [Cond.fieldLink RX6 16 "KinCutlery" "tried" "LKinCutlery$Table;", Cond.fieldLink RX6 10 "KinCutlery" "now" "LKinCutlery$Table;", Cond.methodLink RX6 82 yX4_copyFrom, Cond.instanceMethod yX4_copyFrom, Cond.selects RX4 yX4_copyFrom yX4_copyFrom, Cond.initialized RX4, Cond.code yX4_copyFrom cX4_copyFrom 2 none, Cond.fieldLink RX4 9 "KinCutlery$Table" "laws" "[I", Cond.methodLink RX4 37 arraycopyName, Cond.native arraycopyName, Cond.static arraycopyName, Cond.initialized "java/lang/System", Cond.fieldLink RX4 15 "KinCutlery$Table" "kind" "[I", Cond.fieldLink RX4 18 "KinCutlery$Table" "holds" "[I", Cond.fieldLink RX4 21 "KinCutlery$Table" "gone" "[I", Cond.fieldLink RX4 24 "KinCutlery$Table" "tells" "[I", Cond.fieldLink RX4 43 "KinCutlery$Table" "drowned" "I", Cond.fieldLink RX4 46 "KinCutlery$Table" "count" "I", Cond.fieldLink RX4 49 "KinCutlery$Table" "course" "I", Cond.fieldLink RX4 52 "KinCutlery$Table" "told" "I", Cond.fieldLink RX4 27 "KinCutlery$Table" "z" "I", Cond.methodLink RX6 134 yX4_toldBehind, Cond.instanceMethod yX4_toldBehind, Cond.selects RX4 yX4_toldBehind yX4_toldBehind]
def wsX6_triedTale_r2 : List Cond := [Cond.code yX4_toldBehind cX4_toldBehind 3 (some .int), Cond.methodLink RX4 101 yX4_serve, Cond.instanceMethod yX4_serve, Cond.selects RX4 yX4_serve yX4_serve, Cond.code yX4_serve cX4_serve 3 none, Cond.methodLink RX4 67 yX4_isDrowned, Cond.instanceMethod yX4_isDrowned, Cond.selects RX4 yX4_isDrowned yX4_isDrowned, Cond.code yX4_isDrowned cX4_isDrowned 2 (some .boolean), Cond.methodLink RX4 71 yX4_takes, Cond.instanceMethod yX4_takes, Cond.selects RX4 yX4_takes yX4_takes, Cond.code yX4_takes cX4_takes 2 (some .int), Cond.methodLink RX4 63 yX4_next, Cond.instanceMethod yX4_next, Cond.selects RX4 yX4_next yX4_next, Cond.code yX4_next cX4_next 1 (some .int), Cond.static yX6_held, Cond.initialized RX6, Cond.code yX6_held cX6_held 1 (some .int), Cond.methodLink RX6 293 Lib.Math.min.name, Cond.static Lib.Math.min.name, Cond.initialized "java/lang/Math", Cond.code Lib.Math.min.name Lib.Math.min.code 2 (some .int)]
def wsX6_triedTale_r3 : List Cond := [Cond.methodLink RX6 177 Lib.Math.max.name, Cond.static Lib.Math.max.name, Cond.code Lib.Math.max.name Lib.Math.max.code 2 (some .int), Cond.methodLink RX4 78 yX4_teller, Cond.instanceMethod yX4_teller, Cond.selects RX4 yX4_teller yX4_teller, Cond.code yX4_teller cX4_teller 3 (some .int), Cond.methodLink RX4 85 yX4_needs, Cond.instanceMethod yX4_needs, Cond.selects RX4 yX4_needs yX4_needs, Cond.code yX4_needs cX4_needs 2 (some .int), Cond.methodLink RX4 81 yX4_tellNext, Cond.instanceMethod yX4_tellNext, Cond.selects RX4 yX4_tellNext yX4_tellNext, Cond.code yX4_tellNext cX4_tellNext 3 none, Cond.constant RX4 91 (99999), Cond.methodLink RX4 92 Lib.Math.min.name, Cond.methodLink RX4 88 yX4_costs, Cond.instanceMethod yX4_costs, Cond.selects RX4 yX4_costs yX4_costs, Cond.code yX4_costs cX4_costs 2 (some .int), Cond.methodLink RX4 59 yX4_drown, Cond.instanceMethod yX4_drown, Cond.selects RX4 yX4_drown yX4_drown]
def wsX6_triedTale_r4 : List Cond := [Cond.code yX4_drown cX4_drown 3 none]
def wsX6_triedTale : List Cond := .code yX6_triedTale cX6_triedTale 2 (some .int) :: ((wsX6_triedTale_r1 ++ (wsX6_triedTale_r2 ++ (wsX6_triedTale_r3 ++ wsX6_triedTale_r4))) ++ wsX60 ++ wsX40)
def wsX6_luck_r1 : List Cond := [Cond.fieldLink RX6 10 "KinCutlery" "now" "LKinCutlery$Table;", Cond.fieldLink RX6 72 "KinCutlery$Table" "z" "I", Cond.fieldLink RX6 16 "KinCutlery" "tried" "LKinCutlery$Table;", Cond.fieldLink RX6 140 "KinCutlery$Table" "told" "I", Cond.methodLink RX6 57 yX6_within, Cond.static yX6_within, Cond.initialized RX6, Cond.code yX6_within cX6_within 3 (some .boolean), Cond.methodLink RX6 143 yX6_triedTale, Cond.instanceMethod yX6_triedTale, Cond.selects RX6 yX6_triedTale yX6_triedTale, Cond.code yX6_triedTale cX6_triedTale 2 (some .int), Cond.methodLink RX6 82 yX4_copyFrom, Cond.instanceMethod yX4_copyFrom, Cond.selects RX4 yX4_copyFrom yX4_copyFrom, Cond.initialized RX4, Cond.code yX4_copyFrom cX4_copyFrom 2 none, Cond.fieldLink RX4 9 "KinCutlery$Table" "laws" "[I", Cond.methodLink RX4 37 arraycopyName, Cond.native arraycopyName, Cond.static arraycopyName, Cond.initialized "java/lang/System", Cond.fieldLink RX4 15 "KinCutlery$Table" "kind" "[I", Cond.fieldLink RX4 18 "KinCutlery$Table" "holds" "[I"]
def wsX6_luck_r2 : List Cond := [Cond.fieldLink RX4 21 "KinCutlery$Table" "gone" "[I", Cond.fieldLink RX4 24 "KinCutlery$Table" "tells" "[I", Cond.fieldLink RX4 43 "KinCutlery$Table" "drowned" "I", Cond.fieldLink RX4 46 "KinCutlery$Table" "count" "I", Cond.fieldLink RX4 49 "KinCutlery$Table" "course" "I", Cond.fieldLink RX4 52 "KinCutlery$Table" "told" "I", Cond.fieldLink RX4 27 "KinCutlery$Table" "z" "I", Cond.methodLink RX6 134 yX4_toldBehind, Cond.instanceMethod yX4_toldBehind, Cond.selects RX4 yX4_toldBehind yX4_toldBehind, Cond.code yX4_toldBehind cX4_toldBehind 3 (some .int), Cond.methodLink RX4 101 yX4_serve, Cond.instanceMethod yX4_serve, Cond.selects RX4 yX4_serve yX4_serve, Cond.code yX4_serve cX4_serve 3 none, Cond.methodLink RX4 67 yX4_isDrowned, Cond.instanceMethod yX4_isDrowned, Cond.selects RX4 yX4_isDrowned yX4_isDrowned, Cond.code yX4_isDrowned cX4_isDrowned 2 (some .boolean), Cond.methodLink RX4 71 yX4_takes, Cond.instanceMethod yX4_takes, Cond.selects RX4 yX4_takes yX4_takes, Cond.code yX4_takes cX4_takes 2 (some .int), Cond.methodLink RX4 63 yX4_next]
def wsX6_luck_r3 : List Cond := [Cond.instanceMethod yX4_next, Cond.selects RX4 yX4_next yX4_next, Cond.code yX4_next cX4_next 1 (some .int), Cond.static yX6_held, Cond.code yX6_held cX6_held 1 (some .int), Cond.methodLink RX6 293 Lib.Math.min.name, Cond.static Lib.Math.min.name, Cond.initialized "java/lang/Math", Cond.code Lib.Math.min.name Lib.Math.min.code 2 (some .int), Cond.methodLink RX6 177 Lib.Math.max.name, Cond.static Lib.Math.max.name, Cond.code Lib.Math.max.name Lib.Math.max.code 2 (some .int), Cond.methodLink RX4 78 yX4_teller, Cond.instanceMethod yX4_teller, Cond.selects RX4 yX4_teller yX4_teller, Cond.code yX4_teller cX4_teller 3 (some .int), Cond.methodLink RX4 85 yX4_needs, Cond.instanceMethod yX4_needs, Cond.selects RX4 yX4_needs yX4_needs, Cond.code yX4_needs cX4_needs 2 (some .int), Cond.methodLink RX4 81 yX4_tellNext, Cond.instanceMethod yX4_tellNext, Cond.selects RX4 yX4_tellNext yX4_tellNext, Cond.code yX4_tellNext cX4_tellNext 3 none]
def wsX6_luck_r4 : List Cond := [Cond.constant RX4 91 (99999), Cond.methodLink RX4 92 Lib.Math.min.name, Cond.methodLink RX4 88 yX4_costs, Cond.instanceMethod yX4_costs, Cond.selects RX4 yX4_costs yX4_costs, Cond.code yX4_costs cX4_costs 2 (some .int), Cond.methodLink RX4 59 yX4_drown, Cond.instanceMethod yX4_drown, Cond.selects RX4 yX4_drown yX4_drown, Cond.code yX4_drown cX4_drown 3 none, Cond.methodLink RX6 137 yX4_serveByDraws, Cond.instanceMethod yX4_serveByDraws, Cond.selects RX4 yX4_serveByDraws yX4_serveByDraws, Cond.code yX4_serveByDraws cX4_serveByDraws 2 none, Cond.methodLink RX4 98 yX4_drawn, Cond.instanceMethod yX4_drawn, Cond.selects RX4 yX4_drawn yX4_drawn, Cond.code yX4_drawn cX4_drawn 1 (some .int), Cond.constant RX4 104 (1103515245)]
def wsX6_luck : List Cond := .code yX6_luck cX6_luck 6 (some .int) :: ((wsX6_luck_r1 ++ (wsX6_luck_r2 ++ (wsX6_luck_r3 ++ wsX6_luck_r4))) ++ wsX60 ++ wsX40)
def wsX6_state_r1 : List Cond := [Cond.fieldLink RX6 10 "KinCutlery" "now" "LKinCutlery$Table;", Cond.fieldLink RX6 146 "KinCutlery$Table" "course" "I", Cond.fieldLink RX6 140 "KinCutlery$Table" "told" "I", Cond.fieldLink RX6 153 "KinCutlery$Table" "drowned" "I", Cond.methodLink RX6 149 yX4_next, Cond.instanceMethod yX4_next, Cond.selects RX4 yX4_next yX4_next, Cond.initialized RX4, Cond.code yX4_next cX4_next 1 (some .int), Cond.fieldLink RX4 52 "KinCutlery$Table" "told" "I", Cond.methodLink RX6 156 yX4_goneTogether, Cond.instanceMethod yX4_goneTogether, Cond.selects RX4 yX4_goneTogether yX4_goneTogether, Cond.code yX4_goneTogether cX4_goneTogether 3 (some .int), Cond.fieldLink RX4 46 "KinCutlery$Table" "count" "I", Cond.fieldLink RX4 21 "KinCutlery$Table" "gone" "[I", Cond.methodLink RX6 159 yX4_gap, Cond.instanceMethod yX4_gap, Cond.selects RX4 yX4_gap yX4_gap, Cond.code yX4_gap cX4_gap 4 (some .int), Cond.fieldLink RX4 43 "KinCutlery$Table" "drowned" "I", Cond.methodLink RX4 108 yX4_piecesOf, Cond.instanceMethod yX4_piecesOf, Cond.selects RX4 yX4_piecesOf yX4_piecesOf]
def wsX6_state_r2 : List Cond := [Cond.code yX4_piecesOf cX4_piecesOf 4 (some .int), Cond.fieldLink RX4 18 "KinCutlery$Table" "holds" "[I"]
def wsX6_state : List Cond := .code yX6_state cX6_state 2 (some .int) :: ((wsX6_state_r1 ++ wsX6_state_r2) ++ wsX60 ++ wsX40)
def wsX6_deep_r1 : List Cond := [Cond.fieldLink RX6 10 "KinCutlery" "now" "LKinCutlery$Table;", Cond.fieldLink RX6 16 "KinCutlery" "tried" "LKinCutlery$Table;", Cond.fieldLink RX6 111 "KinCutlery$Table" "gone" "[I", Cond.methodLink RX6 101 yX4_has, Cond.instanceMethod yX4_has, Cond.selects RX4 yX4_has yX4_has, Cond.initialized RX4, Cond.code yX4_has cX4_has 2 (some .boolean), Cond.fieldLink RX4 46 "KinCutlery$Table" "count" "I", Cond.static yX6_within, Cond.initialized RX6, Cond.code yX6_within cX6_within 3 (some .boolean), Cond.methodLink RX6 57 yX6_within, Cond.methodLink RX6 143 yX6_triedTale, Cond.instanceMethod yX6_triedTale, Cond.selects RX6 yX6_triedTale yX6_triedTale, Cond.code yX6_triedTale cX6_triedTale 2 (some .int), Cond.methodLink RX6 82 yX4_copyFrom, Cond.instanceMethod yX4_copyFrom, Cond.selects RX4 yX4_copyFrom yX4_copyFrom, Cond.code yX4_copyFrom cX4_copyFrom 2 none, Cond.fieldLink RX4 9 "KinCutlery$Table" "laws" "[I", Cond.methodLink RX4 37 arraycopyName, Cond.native arraycopyName]
def wsX6_deep_r2 : List Cond := [Cond.static arraycopyName, Cond.initialized "java/lang/System", Cond.fieldLink RX4 15 "KinCutlery$Table" "kind" "[I", Cond.fieldLink RX4 18 "KinCutlery$Table" "holds" "[I", Cond.fieldLink RX4 21 "KinCutlery$Table" "gone" "[I", Cond.fieldLink RX4 24 "KinCutlery$Table" "tells" "[I", Cond.fieldLink RX4 43 "KinCutlery$Table" "drowned" "I", Cond.fieldLink RX4 49 "KinCutlery$Table" "course" "I", Cond.fieldLink RX4 52 "KinCutlery$Table" "told" "I", Cond.fieldLink RX4 27 "KinCutlery$Table" "z" "I", Cond.methodLink RX6 134 yX4_toldBehind, Cond.instanceMethod yX4_toldBehind, Cond.selects RX4 yX4_toldBehind yX4_toldBehind, Cond.code yX4_toldBehind cX4_toldBehind 3 (some .int), Cond.methodLink RX4 101 yX4_serve, Cond.instanceMethod yX4_serve, Cond.selects RX4 yX4_serve yX4_serve, Cond.code yX4_serve cX4_serve 3 none, Cond.methodLink RX4 67 yX4_isDrowned, Cond.instanceMethod yX4_isDrowned, Cond.selects RX4 yX4_isDrowned yX4_isDrowned, Cond.code yX4_isDrowned cX4_isDrowned 2 (some .boolean), Cond.methodLink RX4 71 yX4_takes, Cond.instanceMethod yX4_takes]
def wsX6_deep_r3 : List Cond := [Cond.selects RX4 yX4_takes yX4_takes, Cond.code yX4_takes cX4_takes 2 (some .int), Cond.methodLink RX4 63 yX4_next, Cond.instanceMethod yX4_next, Cond.selects RX4 yX4_next yX4_next, Cond.code yX4_next cX4_next 1 (some .int), Cond.static yX6_held, Cond.code yX6_held cX6_held 1 (some .int), Cond.methodLink RX6 293 Lib.Math.min.name, Cond.static Lib.Math.min.name, Cond.initialized "java/lang/Math", Cond.code Lib.Math.min.name Lib.Math.min.code 2 (some .int), Cond.methodLink RX6 177 Lib.Math.max.name, Cond.static Lib.Math.max.name, Cond.code Lib.Math.max.name Lib.Math.max.code 2 (some .int), Cond.methodLink RX4 78 yX4_teller, Cond.instanceMethod yX4_teller, Cond.selects RX4 yX4_teller yX4_teller, Cond.code yX4_teller cX4_teller 3 (some .int), Cond.methodLink RX4 85 yX4_needs, Cond.instanceMethod yX4_needs, Cond.selects RX4 yX4_needs yX4_needs, Cond.code yX4_needs cX4_needs 2 (some .int), Cond.methodLink RX4 81 yX4_tellNext]
def wsX6_deep_r4 : List Cond := [Cond.instanceMethod yX4_tellNext, Cond.selects RX4 yX4_tellNext yX4_tellNext, Cond.code yX4_tellNext cX4_tellNext 3 none, Cond.constant RX4 91 (99999), Cond.methodLink RX4 92 Lib.Math.min.name, Cond.methodLink RX4 88 yX4_costs, Cond.instanceMethod yX4_costs, Cond.selects RX4 yX4_costs yX4_costs, Cond.code yX4_costs cX4_costs 2 (some .int), Cond.methodLink RX4 59 yX4_drown, Cond.instanceMethod yX4_drown, Cond.selects RX4 yX4_drown yX4_drown, Cond.code yX4_drown cX4_drown 3 none]
def wsX6_deep : List Cond := .code yX6_deep cX6_deep 3 (some .int) :: ((wsX6_deep_r1 ++ (wsX6_deep_r2 ++ (wsX6_deep_r3 ++ wsX6_deep_r4))) ++ wsX60 ++ wsX40)
def wsX6_speaks_r1 : List Cond := [Cond.fieldLink RX6 10 "KinCutlery" "now" "LKinCutlery$Table;", Cond.fieldLink RX6 16 "KinCutlery" "tried" "LKinCutlery$Table;", Cond.methodLink RX6 101 yX4_has, Cond.instanceMethod yX4_has, Cond.selects RX4 yX4_has yX4_has, Cond.initialized RX4, Cond.code yX4_has cX4_has 2 (some .boolean), Cond.fieldLink RX4 46 "KinCutlery$Table" "count" "I", Cond.static yX6_within, Cond.initialized RX6, Cond.code yX6_within cX6_within 3 (some .boolean), Cond.methodLink RX6 82 yX4_copyFrom, Cond.instanceMethod yX4_copyFrom, Cond.selects RX4 yX4_copyFrom yX4_copyFrom, Cond.code yX4_copyFrom cX4_copyFrom 2 none, Cond.fieldLink RX4 9 "KinCutlery$Table" "laws" "[I", Cond.methodLink RX4 37 arraycopyName, Cond.native arraycopyName, Cond.static arraycopyName, Cond.initialized "java/lang/System", Cond.fieldLink RX4 15 "KinCutlery$Table" "kind" "[I", Cond.fieldLink RX4 18 "KinCutlery$Table" "holds" "[I", Cond.fieldLink RX4 21 "KinCutlery$Table" "gone" "[I", Cond.fieldLink RX4 24 "KinCutlery$Table" "tells" "[I"]
def wsX6_speaks_r2 : List Cond := [Cond.fieldLink RX4 43 "KinCutlery$Table" "drowned" "I", Cond.fieldLink RX4 49 "KinCutlery$Table" "course" "I", Cond.fieldLink RX4 52 "KinCutlery$Table" "told" "I", Cond.fieldLink RX4 27 "KinCutlery$Table" "z" "I", Cond.methodLink RX6 162 yX4_coursesUntilTelling, Cond.instanceMethod yX4_coursesUntilTelling, Cond.selects RX4 yX4_coursesUntilTelling yX4_coursesUntilTelling, Cond.code yX4_coursesUntilTelling cX4_coursesUntilTelling 5 (some .int), Cond.methodLink RX4 67 yX4_isDrowned, Cond.instanceMethod yX4_isDrowned, Cond.selects RX4 yX4_isDrowned yX4_isDrowned, Cond.code yX4_isDrowned cX4_isDrowned 2 (some .boolean), Cond.methodLink RX4 101 yX4_serve, Cond.instanceMethod yX4_serve, Cond.selects RX4 yX4_serve yX4_serve, Cond.code yX4_serve cX4_serve 3 none, Cond.methodLink RX4 71 yX4_takes, Cond.instanceMethod yX4_takes, Cond.selects RX4 yX4_takes yX4_takes, Cond.code yX4_takes cX4_takes 2 (some .int), Cond.methodLink RX4 63 yX4_next, Cond.instanceMethod yX4_next, Cond.selects RX4 yX4_next yX4_next, Cond.code yX4_next cX4_next 1 (some .int)]
def wsX6_speaks_r3 : List Cond := [Cond.static yX6_held, Cond.code yX6_held cX6_held 1 (some .int), Cond.methodLink RX6 293 Lib.Math.min.name, Cond.static Lib.Math.min.name, Cond.initialized "java/lang/Math", Cond.code Lib.Math.min.name Lib.Math.min.code 2 (some .int), Cond.methodLink RX6 177 Lib.Math.max.name, Cond.static Lib.Math.max.name, Cond.code Lib.Math.max.name Lib.Math.max.code 2 (some .int), Cond.methodLink RX4 78 yX4_teller, Cond.instanceMethod yX4_teller, Cond.selects RX4 yX4_teller yX4_teller, Cond.code yX4_teller cX4_teller 3 (some .int), Cond.methodLink RX4 85 yX4_needs, Cond.instanceMethod yX4_needs, Cond.selects RX4 yX4_needs yX4_needs, Cond.code yX4_needs cX4_needs 2 (some .int), Cond.methodLink RX4 81 yX4_tellNext, Cond.instanceMethod yX4_tellNext, Cond.selects RX4 yX4_tellNext yX4_tellNext, Cond.code yX4_tellNext cX4_tellNext 3 none, Cond.constant RX4 91 (99999), Cond.methodLink RX4 92 Lib.Math.min.name, Cond.methodLink RX4 88 yX4_costs]
def wsX6_speaks_r4 : List Cond := [Cond.instanceMethod yX4_costs, Cond.selects RX4 yX4_costs yX4_costs, Cond.code yX4_costs cX4_costs 2 (some .int), Cond.methodLink RX4 59 yX4_drown, Cond.instanceMethod yX4_drown, Cond.selects RX4 yX4_drown yX4_drown, Cond.code yX4_drown cX4_drown 3 none]
def wsX6_speaks : List Cond := .code yX6_speaks cX6_speaks 2 (some .int) :: ((wsX6_speaks_r1 ++ (wsX6_speaks_r2 ++ (wsX6_speaks_r3 ++ wsX6_speaks_r4))) ++ wsX60 ++ wsX40)
def wsX6_sinks_r1 : List Cond := [Cond.fieldLink RX6 10 "KinCutlery" "now" "LKinCutlery$Table;", Cond.fieldLink RX6 16 "KinCutlery" "tried" "LKinCutlery$Table;", Cond.methodLink RX6 101 yX4_has, Cond.instanceMethod yX4_has, Cond.selects RX4 yX4_has yX4_has, Cond.initialized RX4, Cond.code yX4_has cX4_has 2 (some .boolean), Cond.fieldLink RX4 46 "KinCutlery$Table" "count" "I", Cond.static yX6_within, Cond.initialized RX6, Cond.code yX6_within cX6_within 3 (some .boolean), Cond.methodLink RX6 82 yX4_copyFrom, Cond.instanceMethod yX4_copyFrom, Cond.selects RX4 yX4_copyFrom yX4_copyFrom, Cond.code yX4_copyFrom cX4_copyFrom 2 none, Cond.fieldLink RX4 9 "KinCutlery$Table" "laws" "[I", Cond.methodLink RX4 37 arraycopyName, Cond.native arraycopyName, Cond.static arraycopyName, Cond.initialized "java/lang/System", Cond.fieldLink RX4 15 "KinCutlery$Table" "kind" "[I", Cond.fieldLink RX4 18 "KinCutlery$Table" "holds" "[I", Cond.fieldLink RX4 21 "KinCutlery$Table" "gone" "[I", Cond.fieldLink RX4 24 "KinCutlery$Table" "tells" "[I"]
def wsX6_sinks_r2 : List Cond := [Cond.fieldLink RX4 43 "KinCutlery$Table" "drowned" "I", Cond.fieldLink RX4 49 "KinCutlery$Table" "course" "I", Cond.fieldLink RX4 52 "KinCutlery$Table" "told" "I", Cond.fieldLink RX4 27 "KinCutlery$Table" "z" "I", Cond.methodLink RX6 165 yX4_coursesUntilDrowned, Cond.instanceMethod yX4_coursesUntilDrowned, Cond.selects RX4 yX4_coursesUntilDrowned yX4_coursesUntilDrowned, Cond.code yX4_coursesUntilDrowned cX4_coursesUntilDrowned 4 (some .int), Cond.methodLink RX4 67 yX4_isDrowned, Cond.instanceMethod yX4_isDrowned, Cond.selects RX4 yX4_isDrowned yX4_isDrowned, Cond.code yX4_isDrowned cX4_isDrowned 2 (some .boolean), Cond.methodLink RX4 101 yX4_serve, Cond.instanceMethod yX4_serve, Cond.selects RX4 yX4_serve yX4_serve, Cond.code yX4_serve cX4_serve 3 none, Cond.methodLink RX4 71 yX4_takes, Cond.instanceMethod yX4_takes, Cond.selects RX4 yX4_takes yX4_takes, Cond.code yX4_takes cX4_takes 2 (some .int), Cond.methodLink RX4 63 yX4_next, Cond.instanceMethod yX4_next, Cond.selects RX4 yX4_next yX4_next, Cond.code yX4_next cX4_next 1 (some .int)]
def wsX6_sinks_r3 : List Cond := [Cond.static yX6_held, Cond.code yX6_held cX6_held 1 (some .int), Cond.methodLink RX6 293 Lib.Math.min.name, Cond.static Lib.Math.min.name, Cond.initialized "java/lang/Math", Cond.code Lib.Math.min.name Lib.Math.min.code 2 (some .int), Cond.methodLink RX6 177 Lib.Math.max.name, Cond.static Lib.Math.max.name, Cond.code Lib.Math.max.name Lib.Math.max.code 2 (some .int), Cond.methodLink RX4 78 yX4_teller, Cond.instanceMethod yX4_teller, Cond.selects RX4 yX4_teller yX4_teller, Cond.code yX4_teller cX4_teller 3 (some .int), Cond.methodLink RX4 85 yX4_needs, Cond.instanceMethod yX4_needs, Cond.selects RX4 yX4_needs yX4_needs, Cond.code yX4_needs cX4_needs 2 (some .int), Cond.methodLink RX4 81 yX4_tellNext, Cond.instanceMethod yX4_tellNext, Cond.selects RX4 yX4_tellNext yX4_tellNext, Cond.code yX4_tellNext cX4_tellNext 3 none, Cond.constant RX4 91 (99999), Cond.methodLink RX4 92 Lib.Math.min.name, Cond.methodLink RX4 88 yX4_costs]
def wsX6_sinks_r4 : List Cond := [Cond.instanceMethod yX4_costs, Cond.selects RX4 yX4_costs yX4_costs, Cond.code yX4_costs cX4_costs 2 (some .int), Cond.methodLink RX4 59 yX4_drown, Cond.instanceMethod yX4_drown, Cond.selects RX4 yX4_drown yX4_drown, Cond.code yX4_drown cX4_drown 3 none]
def wsX6_sinks : List Cond := .code yX6_sinks cX6_sinks 2 (some .int) :: ((wsX6_sinks_r1 ++ (wsX6_sinks_r2 ++ (wsX6_sinks_r3 ++ wsX6_sinks_r4))) ++ wsX60 ++ wsX40)
def wsX6_whole_r1 : List Cond := [Cond.fieldLink RX6 16 "KinCutlery" "tried" "LKinCutlery$Table;", Cond.fieldLink RX6 10 "KinCutlery" "now" "LKinCutlery$Table;", Cond.methodLink RX6 82 yX4_copyFrom, Cond.instanceMethod yX4_copyFrom, Cond.selects RX4 yX4_copyFrom yX4_copyFrom, Cond.initialized RX4, Cond.code yX4_copyFrom cX4_copyFrom 2 none, Cond.fieldLink RX4 9 "KinCutlery$Table" "laws" "[I", Cond.methodLink RX4 37 arraycopyName, Cond.native arraycopyName, Cond.static arraycopyName, Cond.initialized "java/lang/System", Cond.fieldLink RX4 15 "KinCutlery$Table" "kind" "[I", Cond.fieldLink RX4 18 "KinCutlery$Table" "holds" "[I", Cond.fieldLink RX4 21 "KinCutlery$Table" "gone" "[I", Cond.fieldLink RX4 24 "KinCutlery$Table" "tells" "[I", Cond.fieldLink RX4 43 "KinCutlery$Table" "drowned" "I", Cond.fieldLink RX4 46 "KinCutlery$Table" "count" "I", Cond.fieldLink RX4 49 "KinCutlery$Table" "course" "I", Cond.fieldLink RX4 52 "KinCutlery$Table" "told" "I", Cond.fieldLink RX4 27 "KinCutlery$Table" "z" "I", Cond.methodLink RX6 168 yX4_coursesUntilWhole, Cond.instanceMethod yX4_coursesUntilWhole, Cond.selects RX4 yX4_coursesUntilWhole yX4_coursesUntilWhole]
def wsX6_whole_r2 : List Cond := [Cond.code yX4_coursesUntilWhole cX4_coursesUntilWhole 4 (some .int), Cond.methodLink RX4 101 yX4_serve, Cond.instanceMethod yX4_serve, Cond.selects RX4 yX4_serve yX4_serve, Cond.code yX4_serve cX4_serve 3 none, Cond.methodLink RX4 67 yX4_isDrowned, Cond.instanceMethod yX4_isDrowned, Cond.selects RX4 yX4_isDrowned yX4_isDrowned, Cond.code yX4_isDrowned cX4_isDrowned 2 (some .boolean), Cond.methodLink RX4 71 yX4_takes, Cond.instanceMethod yX4_takes, Cond.selects RX4 yX4_takes yX4_takes, Cond.code yX4_takes cX4_takes 2 (some .int), Cond.methodLink RX4 63 yX4_next, Cond.instanceMethod yX4_next, Cond.selects RX4 yX4_next yX4_next, Cond.code yX4_next cX4_next 1 (some .int), Cond.static yX6_held, Cond.initialized RX6, Cond.code yX6_held cX6_held 1 (some .int), Cond.methodLink RX6 293 Lib.Math.min.name, Cond.static Lib.Math.min.name, Cond.initialized "java/lang/Math", Cond.code Lib.Math.min.name Lib.Math.min.code 2 (some .int)]
def wsX6_whole_r3 : List Cond := [Cond.methodLink RX6 177 Lib.Math.max.name, Cond.static Lib.Math.max.name, Cond.code Lib.Math.max.name Lib.Math.max.code 2 (some .int), Cond.methodLink RX4 78 yX4_teller, Cond.instanceMethod yX4_teller, Cond.selects RX4 yX4_teller yX4_teller, Cond.code yX4_teller cX4_teller 3 (some .int), Cond.methodLink RX4 85 yX4_needs, Cond.instanceMethod yX4_needs, Cond.selects RX4 yX4_needs yX4_needs, Cond.code yX4_needs cX4_needs 2 (some .int), Cond.methodLink RX4 81 yX4_tellNext, Cond.instanceMethod yX4_tellNext, Cond.selects RX4 yX4_tellNext yX4_tellNext, Cond.code yX4_tellNext cX4_tellNext 3 none, Cond.constant RX4 91 (99999), Cond.methodLink RX4 92 Lib.Math.min.name, Cond.methodLink RX4 88 yX4_costs, Cond.instanceMethod yX4_costs, Cond.selects RX4 yX4_costs yX4_costs, Cond.code yX4_costs cX4_costs 2 (some .int), Cond.methodLink RX4 59 yX4_drown, Cond.instanceMethod yX4_drown, Cond.selects RX4 yX4_drown yX4_drown]
def wsX6_whole_r4 : List Cond := [Cond.code yX4_drown cX4_drown 3 none]
def wsX6_whole : List Cond := .code yX6_whole cX6_whole 1 (some .int) :: ((wsX6_whole_r1 ++ (wsX6_whole_r2 ++ (wsX6_whole_r3 ++ wsX6_whole_r4))) ++ wsX60 ++ wsX40)
def wsX6_tale_r1 : List Cond := [Cond.methodLink RX6 57 yX6_within, Cond.static yX6_within, Cond.initialized RX6, Cond.code yX6_within cX6_within 3 (some .boolean), Cond.methodLink RX6 143 yX6_triedTale, Cond.instanceMethod yX6_triedTale, Cond.selects RX6 yX6_triedTale yX6_triedTale, Cond.code yX6_triedTale cX6_triedTale 2 (some .int), Cond.fieldLink RX6 16 "KinCutlery" "tried" "LKinCutlery$Table;", Cond.fieldLink RX6 10 "KinCutlery" "now" "LKinCutlery$Table;", Cond.methodLink RX6 82 yX4_copyFrom, Cond.instanceMethod yX4_copyFrom, Cond.selects RX4 yX4_copyFrom yX4_copyFrom, Cond.initialized RX4, Cond.code yX4_copyFrom cX4_copyFrom 2 none, Cond.fieldLink RX4 9 "KinCutlery$Table" "laws" "[I", Cond.methodLink RX4 37 arraycopyName, Cond.native arraycopyName, Cond.static arraycopyName, Cond.initialized "java/lang/System", Cond.fieldLink RX4 15 "KinCutlery$Table" "kind" "[I", Cond.fieldLink RX4 18 "KinCutlery$Table" "holds" "[I", Cond.fieldLink RX4 21 "KinCutlery$Table" "gone" "[I", Cond.fieldLink RX4 24 "KinCutlery$Table" "tells" "[I"]
def wsX6_tale_r2 : List Cond := [Cond.fieldLink RX4 43 "KinCutlery$Table" "drowned" "I", Cond.fieldLink RX4 46 "KinCutlery$Table" "count" "I", Cond.fieldLink RX4 49 "KinCutlery$Table" "course" "I", Cond.fieldLink RX4 52 "KinCutlery$Table" "told" "I", Cond.fieldLink RX4 27 "KinCutlery$Table" "z" "I", Cond.methodLink RX6 134 yX4_toldBehind, Cond.instanceMethod yX4_toldBehind, Cond.selects RX4 yX4_toldBehind yX4_toldBehind, Cond.code yX4_toldBehind cX4_toldBehind 3 (some .int), Cond.methodLink RX4 101 yX4_serve, Cond.instanceMethod yX4_serve, Cond.selects RX4 yX4_serve yX4_serve, Cond.code yX4_serve cX4_serve 3 none, Cond.methodLink RX4 67 yX4_isDrowned, Cond.instanceMethod yX4_isDrowned, Cond.selects RX4 yX4_isDrowned yX4_isDrowned, Cond.code yX4_isDrowned cX4_isDrowned 2 (some .boolean), Cond.methodLink RX4 71 yX4_takes, Cond.instanceMethod yX4_takes, Cond.selects RX4 yX4_takes yX4_takes, Cond.code yX4_takes cX4_takes 2 (some .int), Cond.methodLink RX4 63 yX4_next, Cond.instanceMethod yX4_next, Cond.selects RX4 yX4_next yX4_next]
def wsX6_tale_r3 : List Cond := [Cond.code yX4_next cX4_next 1 (some .int), Cond.static yX6_held, Cond.code yX6_held cX6_held 1 (some .int), Cond.methodLink RX6 293 Lib.Math.min.name, Cond.static Lib.Math.min.name, Cond.initialized "java/lang/Math", Cond.code Lib.Math.min.name Lib.Math.min.code 2 (some .int), Cond.methodLink RX6 177 Lib.Math.max.name, Cond.static Lib.Math.max.name, Cond.code Lib.Math.max.name Lib.Math.max.code 2 (some .int), Cond.methodLink RX4 78 yX4_teller, Cond.instanceMethod yX4_teller, Cond.selects RX4 yX4_teller yX4_teller, Cond.code yX4_teller cX4_teller 3 (some .int), Cond.methodLink RX4 85 yX4_needs, Cond.instanceMethod yX4_needs, Cond.selects RX4 yX4_needs yX4_needs, Cond.code yX4_needs cX4_needs 2 (some .int), Cond.methodLink RX4 81 yX4_tellNext, Cond.instanceMethod yX4_tellNext, Cond.selects RX4 yX4_tellNext yX4_tellNext, Cond.code yX4_tellNext cX4_tellNext 3 none, Cond.constant RX4 91 (99999), Cond.methodLink RX4 92 Lib.Math.min.name]
def wsX6_tale_r4 : List Cond := [Cond.methodLink RX4 88 yX4_costs, Cond.instanceMethod yX4_costs, Cond.selects RX4 yX4_costs yX4_costs, Cond.code yX4_costs cX4_costs 2 (some .int), Cond.methodLink RX4 59 yX4_drown, Cond.instanceMethod yX4_drown, Cond.selects RX4 yX4_drown yX4_drown, Cond.code yX4_drown cX4_drown 3 none]
def wsX6_tale : List Cond := .code yX6_tale cX6_tale 2 (some .int) :: ((wsX6_tale_r1 ++ (wsX6_tale_r2 ++ (wsX6_tale_r3 ++ wsX6_tale_r4))) ++ wsX60 ++ wsX40)
def wsX6_pieceFor_r1 : List Cond := [Cond.fieldLink RX6 10 "KinCutlery" "now" "LKinCutlery$Table;", Cond.fieldLink RX6 16 "KinCutlery" "tried" "LKinCutlery$Table;", Cond.fieldLink RX6 108 "KinCutlery$Table" "holds" "[I", Cond.methodLink RX6 101 yX4_has, Cond.instanceMethod yX4_has, Cond.selects RX4 yX4_has yX4_has, Cond.initialized RX4, Cond.code yX4_has cX4_has 2 (some .boolean), Cond.fieldLink RX4 46 "KinCutlery$Table" "count" "I", Cond.static yX6_within, Cond.initialized RX6, Cond.code yX6_within cX6_within 3 (some .boolean), Cond.methodLink RX6 57 yX6_within, Cond.methodLink RX6 82 yX4_copyFrom, Cond.instanceMethod yX4_copyFrom, Cond.selects RX4 yX4_copyFrom yX4_copyFrom, Cond.code yX4_copyFrom cX4_copyFrom 2 none, Cond.fieldLink RX4 9 "KinCutlery$Table" "laws" "[I", Cond.methodLink RX4 37 arraycopyName, Cond.native arraycopyName, Cond.static arraycopyName, Cond.initialized "java/lang/System", Cond.fieldLink RX4 15 "KinCutlery$Table" "kind" "[I", Cond.fieldLink RX4 18 "KinCutlery$Table" "holds" "[I"]
def wsX6_pieceFor_r2 : List Cond := [Cond.fieldLink RX4 21 "KinCutlery$Table" "gone" "[I", Cond.fieldLink RX4 24 "KinCutlery$Table" "tells" "[I", Cond.fieldLink RX4 43 "KinCutlery$Table" "drowned" "I", Cond.fieldLink RX4 49 "KinCutlery$Table" "course" "I", Cond.fieldLink RX4 52 "KinCutlery$Table" "told" "I", Cond.fieldLink RX4 27 "KinCutlery$Table" "z" "I", Cond.methodLink RX6 134 yX4_toldBehind, Cond.instanceMethod yX4_toldBehind, Cond.selects RX4 yX4_toldBehind yX4_toldBehind, Cond.code yX4_toldBehind cX4_toldBehind 3 (some .int), Cond.methodLink RX4 101 yX4_serve, Cond.instanceMethod yX4_serve, Cond.selects RX4 yX4_serve yX4_serve, Cond.code yX4_serve cX4_serve 3 none, Cond.methodLink RX4 67 yX4_isDrowned, Cond.instanceMethod yX4_isDrowned, Cond.selects RX4 yX4_isDrowned yX4_isDrowned, Cond.code yX4_isDrowned cX4_isDrowned 2 (some .boolean), Cond.methodLink RX4 71 yX4_takes, Cond.instanceMethod yX4_takes, Cond.selects RX4 yX4_takes yX4_takes, Cond.code yX4_takes cX4_takes 2 (some .int), Cond.methodLink RX4 63 yX4_next, Cond.instanceMethod yX4_next]
def wsX6_pieceFor_r3 : List Cond := [Cond.selects RX4 yX4_next yX4_next, Cond.code yX4_next cX4_next 1 (some .int), Cond.static yX6_held, Cond.code yX6_held cX6_held 1 (some .int), Cond.methodLink RX6 293 Lib.Math.min.name, Cond.static Lib.Math.min.name, Cond.initialized "java/lang/Math", Cond.code Lib.Math.min.name Lib.Math.min.code 2 (some .int), Cond.methodLink RX6 177 Lib.Math.max.name, Cond.static Lib.Math.max.name, Cond.code Lib.Math.max.name Lib.Math.max.code 2 (some .int), Cond.methodLink RX4 78 yX4_teller, Cond.instanceMethod yX4_teller, Cond.selects RX4 yX4_teller yX4_teller, Cond.code yX4_teller cX4_teller 3 (some .int), Cond.methodLink RX4 85 yX4_needs, Cond.instanceMethod yX4_needs, Cond.selects RX4 yX4_needs yX4_needs, Cond.code yX4_needs cX4_needs 2 (some .int), Cond.methodLink RX4 81 yX4_tellNext, Cond.instanceMethod yX4_tellNext, Cond.selects RX4 yX4_tellNext yX4_tellNext, Cond.code yX4_tellNext cX4_tellNext 3 none, Cond.constant RX4 91 (99999)]
def wsX6_pieceFor_r4 : List Cond := [Cond.methodLink RX4 92 Lib.Math.min.name, Cond.methodLink RX4 88 yX4_costs, Cond.instanceMethod yX4_costs, Cond.selects RX4 yX4_costs yX4_costs, Cond.code yX4_costs cX4_costs 2 (some .int), Cond.methodLink RX4 59 yX4_drown, Cond.instanceMethod yX4_drown, Cond.selects RX4 yX4_drown yX4_drown, Cond.code yX4_drown cX4_drown 3 none]
def wsX6_pieceFor : List Cond := .code yX6_pieceFor cX6_pieceFor 7 (some .int) :: ((wsX6_pieceFor_r1 ++ (wsX6_pieceFor_r2 ++ (wsX6_pieceFor_r3 ++ wsX6_pieceFor_r4))) ++ wsX60 ++ wsX40)
def wsX6_kindFor_r1 : List Cond := [Cond.fieldLink RX6 10 "KinCutlery" "now" "LKinCutlery$Table;", Cond.fieldLink RX6 16 "KinCutlery" "tried" "LKinCutlery$Table;", Cond.fieldLink RX6 105 "KinCutlery$Table" "kind" "[I", Cond.methodLink RX6 101 yX4_has, Cond.instanceMethod yX4_has, Cond.selects RX4 yX4_has yX4_has, Cond.initialized RX4, Cond.code yX4_has cX4_has 2 (some .boolean), Cond.fieldLink RX4 46 "KinCutlery$Table" "count" "I", Cond.static yX6_within, Cond.initialized RX6, Cond.code yX6_within cX6_within 3 (some .boolean), Cond.methodLink RX6 57 yX6_within, Cond.methodLink RX6 82 yX4_copyFrom, Cond.instanceMethod yX4_copyFrom, Cond.selects RX4 yX4_copyFrom yX4_copyFrom, Cond.code yX4_copyFrom cX4_copyFrom 2 none, Cond.fieldLink RX4 9 "KinCutlery$Table" "laws" "[I", Cond.methodLink RX4 37 arraycopyName, Cond.native arraycopyName, Cond.static arraycopyName, Cond.initialized "java/lang/System", Cond.fieldLink RX4 15 "KinCutlery$Table" "kind" "[I", Cond.fieldLink RX4 18 "KinCutlery$Table" "holds" "[I"]
def wsX6_kindFor_r2 : List Cond := [Cond.fieldLink RX4 21 "KinCutlery$Table" "gone" "[I", Cond.fieldLink RX4 24 "KinCutlery$Table" "tells" "[I", Cond.fieldLink RX4 43 "KinCutlery$Table" "drowned" "I", Cond.fieldLink RX4 49 "KinCutlery$Table" "course" "I", Cond.fieldLink RX4 52 "KinCutlery$Table" "told" "I", Cond.fieldLink RX4 27 "KinCutlery$Table" "z" "I", Cond.methodLink RX6 134 yX4_toldBehind, Cond.instanceMethod yX4_toldBehind, Cond.selects RX4 yX4_toldBehind yX4_toldBehind, Cond.code yX4_toldBehind cX4_toldBehind 3 (some .int), Cond.methodLink RX4 101 yX4_serve, Cond.instanceMethod yX4_serve, Cond.selects RX4 yX4_serve yX4_serve, Cond.code yX4_serve cX4_serve 3 none, Cond.methodLink RX4 67 yX4_isDrowned, Cond.instanceMethod yX4_isDrowned, Cond.selects RX4 yX4_isDrowned yX4_isDrowned, Cond.code yX4_isDrowned cX4_isDrowned 2 (some .boolean), Cond.methodLink RX4 71 yX4_takes, Cond.instanceMethod yX4_takes, Cond.selects RX4 yX4_takes yX4_takes, Cond.code yX4_takes cX4_takes 2 (some .int), Cond.methodLink RX4 63 yX4_next, Cond.instanceMethod yX4_next]
def wsX6_kindFor_r3 : List Cond := [Cond.selects RX4 yX4_next yX4_next, Cond.code yX4_next cX4_next 1 (some .int), Cond.static yX6_held, Cond.code yX6_held cX6_held 1 (some .int), Cond.methodLink RX6 293 Lib.Math.min.name, Cond.static Lib.Math.min.name, Cond.initialized "java/lang/Math", Cond.code Lib.Math.min.name Lib.Math.min.code 2 (some .int), Cond.methodLink RX6 177 Lib.Math.max.name, Cond.static Lib.Math.max.name, Cond.code Lib.Math.max.name Lib.Math.max.code 2 (some .int), Cond.methodLink RX4 78 yX4_teller, Cond.instanceMethod yX4_teller, Cond.selects RX4 yX4_teller yX4_teller, Cond.code yX4_teller cX4_teller 3 (some .int), Cond.methodLink RX4 85 yX4_needs, Cond.instanceMethod yX4_needs, Cond.selects RX4 yX4_needs yX4_needs, Cond.code yX4_needs cX4_needs 2 (some .int), Cond.methodLink RX4 81 yX4_tellNext, Cond.instanceMethod yX4_tellNext, Cond.selects RX4 yX4_tellNext yX4_tellNext, Cond.code yX4_tellNext cX4_tellNext 3 none, Cond.constant RX4 91 (99999)]
def wsX6_kindFor_r4 : List Cond := [Cond.methodLink RX4 92 Lib.Math.min.name, Cond.methodLink RX4 88 yX4_costs, Cond.instanceMethod yX4_costs, Cond.selects RX4 yX4_costs yX4_costs, Cond.code yX4_costs cX4_costs 2 (some .int), Cond.methodLink RX4 59 yX4_drown, Cond.instanceMethod yX4_drown, Cond.selects RX4 yX4_drown yX4_drown, Cond.code yX4_drown cX4_drown 3 none]
def wsX6_kindFor : List Cond := .code yX6_kindFor cX6_kindFor 7 (some .int) :: ((wsX6_kindFor_r1 ++ (wsX6_kindFor_r2 ++ (wsX6_kindFor_r3 ++ wsX6_kindFor_r4))) ++ wsX60 ++ wsX40)
def wsX6_goneFor_r1 : List Cond := [Cond.fieldLink RX6 10 "KinCutlery" "now" "LKinCutlery$Table;", Cond.fieldLink RX6 16 "KinCutlery" "tried" "LKinCutlery$Table;", Cond.fieldLink RX6 111 "KinCutlery$Table" "gone" "[I", Cond.methodLink RX6 101 yX4_has, Cond.instanceMethod yX4_has, Cond.selects RX4 yX4_has yX4_has, Cond.initialized RX4, Cond.code yX4_has cX4_has 2 (some .boolean), Cond.fieldLink RX4 46 "KinCutlery$Table" "count" "I", Cond.static yX6_within, Cond.initialized RX6, Cond.code yX6_within cX6_within 3 (some .boolean), Cond.methodLink RX6 57 yX6_within, Cond.methodLink RX6 82 yX4_copyFrom, Cond.instanceMethod yX4_copyFrom, Cond.selects RX4 yX4_copyFrom yX4_copyFrom, Cond.code yX4_copyFrom cX4_copyFrom 2 none, Cond.fieldLink RX4 9 "KinCutlery$Table" "laws" "[I", Cond.methodLink RX4 37 arraycopyName, Cond.native arraycopyName, Cond.static arraycopyName, Cond.initialized "java/lang/System", Cond.fieldLink RX4 15 "KinCutlery$Table" "kind" "[I", Cond.fieldLink RX4 18 "KinCutlery$Table" "holds" "[I"]
def wsX6_goneFor_r2 : List Cond := [Cond.fieldLink RX4 21 "KinCutlery$Table" "gone" "[I", Cond.fieldLink RX4 24 "KinCutlery$Table" "tells" "[I", Cond.fieldLink RX4 43 "KinCutlery$Table" "drowned" "I", Cond.fieldLink RX4 49 "KinCutlery$Table" "course" "I", Cond.fieldLink RX4 52 "KinCutlery$Table" "told" "I", Cond.fieldLink RX4 27 "KinCutlery$Table" "z" "I", Cond.methodLink RX6 162 yX4_coursesUntilTelling, Cond.instanceMethod yX4_coursesUntilTelling, Cond.selects RX4 yX4_coursesUntilTelling yX4_coursesUntilTelling, Cond.code yX4_coursesUntilTelling cX4_coursesUntilTelling 5 (some .int), Cond.methodLink RX4 67 yX4_isDrowned, Cond.instanceMethod yX4_isDrowned, Cond.selects RX4 yX4_isDrowned yX4_isDrowned, Cond.code yX4_isDrowned cX4_isDrowned 2 (some .boolean), Cond.methodLink RX4 101 yX4_serve, Cond.instanceMethod yX4_serve, Cond.selects RX4 yX4_serve yX4_serve, Cond.code yX4_serve cX4_serve 3 none, Cond.methodLink RX4 71 yX4_takes, Cond.instanceMethod yX4_takes, Cond.selects RX4 yX4_takes yX4_takes, Cond.code yX4_takes cX4_takes 2 (some .int), Cond.methodLink RX4 63 yX4_next, Cond.instanceMethod yX4_next]
def wsX6_goneFor_r3 : List Cond := [Cond.selects RX4 yX4_next yX4_next, Cond.code yX4_next cX4_next 1 (some .int), Cond.static yX6_held, Cond.code yX6_held cX6_held 1 (some .int), Cond.methodLink RX6 293 Lib.Math.min.name, Cond.static Lib.Math.min.name, Cond.initialized "java/lang/Math", Cond.code Lib.Math.min.name Lib.Math.min.code 2 (some .int), Cond.methodLink RX6 177 Lib.Math.max.name, Cond.static Lib.Math.max.name, Cond.code Lib.Math.max.name Lib.Math.max.code 2 (some .int), Cond.methodLink RX4 78 yX4_teller, Cond.instanceMethod yX4_teller, Cond.selects RX4 yX4_teller yX4_teller, Cond.code yX4_teller cX4_teller 3 (some .int), Cond.methodLink RX4 85 yX4_needs, Cond.instanceMethod yX4_needs, Cond.selects RX4 yX4_needs yX4_needs, Cond.code yX4_needs cX4_needs 2 (some .int), Cond.methodLink RX4 81 yX4_tellNext, Cond.instanceMethod yX4_tellNext, Cond.selects RX4 yX4_tellNext yX4_tellNext, Cond.code yX4_tellNext cX4_tellNext 3 none, Cond.constant RX4 91 (99999)]
def wsX6_goneFor_r4 : List Cond := [Cond.methodLink RX4 92 Lib.Math.min.name, Cond.methodLink RX4 88 yX4_costs, Cond.instanceMethod yX4_costs, Cond.selects RX4 yX4_costs yX4_costs, Cond.code yX4_costs cX4_costs 2 (some .int), Cond.methodLink RX4 59 yX4_drown, Cond.instanceMethod yX4_drown, Cond.selects RX4 yX4_drown yX4_drown, Cond.code yX4_drown cX4_drown 3 none]
def wsX6_goneFor : List Cond := .code yX6_goneFor cX6_goneFor 4 (some .int) :: ((wsX6_goneFor_r1 ++ (wsX6_goneFor_r2 ++ (wsX6_goneFor_r3 ++ wsX6_goneFor_r4))) ++ wsX60 ++ wsX40)
def wsX6_depthFor_r1 : List Cond := [Cond.fieldLink RX6 16 "KinCutlery" "tried" "LKinCutlery$Table;", Cond.fieldLink RX6 10 "KinCutlery" "now" "LKinCutlery$Table;", Cond.fieldLink RX6 94 "KinCutlery$Table" "laws" "[I", Cond.methodLink RX6 177 Lib.Math.max.name, Cond.static Lib.Math.max.name, Cond.initialized "java/lang/Math", Cond.code Lib.Math.max.name Lib.Math.max.code 2 (some .int), Cond.methodLink RX6 57 yX6_within, Cond.static yX6_within, Cond.initialized RX6, Cond.code yX6_within cX6_within 3 (some .boolean), Cond.methodLink RX6 82 yX4_copyFrom, Cond.instanceMethod yX4_copyFrom, Cond.selects RX4 yX4_copyFrom yX4_copyFrom, Cond.initialized RX4, Cond.code yX4_copyFrom cX4_copyFrom 2 none, Cond.fieldLink RX4 9 "KinCutlery$Table" "laws" "[I", Cond.methodLink RX4 37 arraycopyName, Cond.native arraycopyName, Cond.static arraycopyName, Cond.initialized "java/lang/System", Cond.fieldLink RX4 15 "KinCutlery$Table" "kind" "[I", Cond.fieldLink RX4 18 "KinCutlery$Table" "holds" "[I", Cond.fieldLink RX4 21 "KinCutlery$Table" "gone" "[I"]
def wsX6_depthFor_r2 : List Cond := [Cond.fieldLink RX4 24 "KinCutlery$Table" "tells" "[I", Cond.fieldLink RX4 43 "KinCutlery$Table" "drowned" "I", Cond.fieldLink RX4 46 "KinCutlery$Table" "count" "I", Cond.fieldLink RX4 49 "KinCutlery$Table" "course" "I", Cond.fieldLink RX4 52 "KinCutlery$Table" "told" "I", Cond.fieldLink RX4 27 "KinCutlery$Table" "z" "I", Cond.methodLink RX6 171 yX4_serve, Cond.instanceMethod yX4_serve, Cond.selects RX4 yX4_serve yX4_serve, Cond.code yX4_serve cX4_serve 3 none, Cond.methodLink RX4 67 yX4_isDrowned, Cond.instanceMethod yX4_isDrowned, Cond.selects RX4 yX4_isDrowned yX4_isDrowned, Cond.code yX4_isDrowned cX4_isDrowned 2 (some .boolean), Cond.methodLink RX4 71 yX4_takes, Cond.instanceMethod yX4_takes, Cond.selects RX4 yX4_takes yX4_takes, Cond.code yX4_takes cX4_takes 2 (some .int), Cond.methodLink RX4 63 yX4_next, Cond.instanceMethod yX4_next, Cond.selects RX4 yX4_next yX4_next, Cond.code yX4_next cX4_next 1 (some .int), Cond.static yX6_held, Cond.code yX6_held cX6_held 1 (some .int)]
def wsX6_depthFor_r3 : List Cond := [Cond.methodLink RX6 293 Lib.Math.min.name, Cond.static Lib.Math.min.name, Cond.code Lib.Math.min.name Lib.Math.min.code 2 (some .int), Cond.methodLink RX4 78 yX4_teller, Cond.instanceMethod yX4_teller, Cond.selects RX4 yX4_teller yX4_teller, Cond.code yX4_teller cX4_teller 3 (some .int), Cond.methodLink RX4 85 yX4_needs, Cond.instanceMethod yX4_needs, Cond.selects RX4 yX4_needs yX4_needs, Cond.code yX4_needs cX4_needs 2 (some .int), Cond.methodLink RX4 81 yX4_tellNext, Cond.instanceMethod yX4_tellNext, Cond.selects RX4 yX4_tellNext yX4_tellNext, Cond.code yX4_tellNext cX4_tellNext 3 none, Cond.constant RX4 91 (99999), Cond.methodLink RX4 92 Lib.Math.min.name, Cond.methodLink RX4 88 yX4_costs, Cond.instanceMethod yX4_costs, Cond.selects RX4 yX4_costs yX4_costs, Cond.code yX4_costs cX4_costs 2 (some .int), Cond.methodLink RX4 59 yX4_drown, Cond.instanceMethod yX4_drown, Cond.selects RX4 yX4_drown yX4_drown]
def wsX6_depthFor_r4 : List Cond := [Cond.code yX4_drown cX4_drown 3 none, Cond.methodLink RX6 174 yX4_deepestAlive, Cond.instanceMethod yX4_deepestAlive, Cond.selects RX4 yX4_deepestAlive yX4_deepestAlive, Cond.code yX4_deepestAlive cX4_deepestAlive 3 (some .int), Cond.methodLink RX4 105 Lib.Math.max.name]
def wsX6_depthFor : List Cond := .code yX6_depthFor cX6_depthFor 4 (some .int) :: ((wsX6_depthFor_r1 ++ (wsX6_depthFor_r2 ++ (wsX6_depthFor_r3 ++ wsX6_depthFor_r4))) ++ wsX60 ++ wsX40)
def wsJ6_bitCount_0f7a4 : List Cond := .code yJ6_bitCount_0f7a4 cJ6_bitCount_0f7a4 1 (some .int) :: ([.constant RJ6 265 (1431655765), .constant RJ6 266 (858993459), .constant RJ6 267 (252645135)])
def wsX6_reaches_r1 : List Cond := [Cond.fieldLink RX6 16 "KinCutlery" "tried" "LKinCutlery$Table;", Cond.fieldLink RX6 10 "KinCutlery" "now" "LKinCutlery$Table;", Cond.fieldLink RX6 153 "KinCutlery$Table" "drowned" "I", Cond.methodLink RX6 82 yX4_copyFrom, Cond.instanceMethod yX4_copyFrom, Cond.selects RX4 yX4_copyFrom yX4_copyFrom, Cond.initialized RX4, Cond.code yX4_copyFrom cX4_copyFrom 2 none, Cond.fieldLink RX4 9 "KinCutlery$Table" "laws" "[I", Cond.methodLink RX4 37 arraycopyName, Cond.native arraycopyName, Cond.static arraycopyName, Cond.initialized "java/lang/System", Cond.fieldLink RX4 15 "KinCutlery$Table" "kind" "[I", Cond.fieldLink RX4 18 "KinCutlery$Table" "holds" "[I", Cond.fieldLink RX4 21 "KinCutlery$Table" "gone" "[I", Cond.fieldLink RX4 24 "KinCutlery$Table" "tells" "[I", Cond.fieldLink RX4 43 "KinCutlery$Table" "drowned" "I", Cond.fieldLink RX4 46 "KinCutlery$Table" "count" "I", Cond.fieldLink RX4 49 "KinCutlery$Table" "course" "I", Cond.fieldLink RX4 52 "KinCutlery$Table" "told" "I", Cond.fieldLink RX4 27 "KinCutlery$Table" "z" "I", Cond.methodLink RX6 189 yX4_everyone, Cond.instanceMethod yX4_everyone]
def wsX6_reaches_r2 : List Cond := [Cond.selects RX4 yX4_everyone yX4_everyone, Cond.code yX4_everyone cX4_everyone 1 (some .int), Cond.methodLink RX6 134 yX4_toldBehind, Cond.instanceMethod yX4_toldBehind, Cond.selects RX4 yX4_toldBehind yX4_toldBehind, Cond.code yX4_toldBehind cX4_toldBehind 3 (some .int), Cond.methodLink RX4 101 yX4_serve, Cond.instanceMethod yX4_serve, Cond.selects RX4 yX4_serve yX4_serve, Cond.code yX4_serve cX4_serve 3 none, Cond.methodLink RX4 67 yX4_isDrowned, Cond.instanceMethod yX4_isDrowned, Cond.selects RX4 yX4_isDrowned yX4_isDrowned, Cond.code yX4_isDrowned cX4_isDrowned 2 (some .boolean), Cond.methodLink RX4 71 yX4_takes, Cond.instanceMethod yX4_takes, Cond.selects RX4 yX4_takes yX4_takes, Cond.code yX4_takes cX4_takes 2 (some .int), Cond.methodLink RX4 63 yX4_next, Cond.instanceMethod yX4_next, Cond.selects RX4 yX4_next yX4_next, Cond.code yX4_next cX4_next 1 (some .int), Cond.static yX6_held, Cond.initialized RX6]
def wsX6_reaches_r3 : List Cond := [Cond.code yX6_held cX6_held 1 (some .int), Cond.methodLink RX6 293 Lib.Math.min.name, Cond.static Lib.Math.min.name, Cond.initialized "java/lang/Math", Cond.code Lib.Math.min.name Lib.Math.min.code 2 (some .int), Cond.methodLink RX6 177 Lib.Math.max.name, Cond.static Lib.Math.max.name, Cond.code Lib.Math.max.name Lib.Math.max.code 2 (some .int), Cond.methodLink RX4 78 yX4_teller, Cond.instanceMethod yX4_teller, Cond.selects RX4 yX4_teller yX4_teller, Cond.code yX4_teller cX4_teller 3 (some .int), Cond.methodLink RX4 85 yX4_needs, Cond.instanceMethod yX4_needs, Cond.selects RX4 yX4_needs yX4_needs, Cond.code yX4_needs cX4_needs 2 (some .int), Cond.methodLink RX4 81 yX4_tellNext, Cond.instanceMethod yX4_tellNext, Cond.selects RX4 yX4_tellNext yX4_tellNext, Cond.code yX4_tellNext cX4_tellNext 3 none, Cond.constant RX4 91 (99999), Cond.methodLink RX4 92 Lib.Math.min.name, Cond.methodLink RX4 88 yX4_costs, Cond.instanceMethod yX4_costs]
def wsX6_reaches_r4 : List Cond := [Cond.selects RX4 yX4_costs yX4_costs, Cond.code yX4_costs cX4_costs 2 (some .int), Cond.methodLink RX4 59 yX4_drown, Cond.instanceMethod yX4_drown, Cond.selects RX4 yX4_drown yX4_drown, Cond.code yX4_drown cX4_drown 3 none]
def wsX6_reaches : List Cond := .code yX6_reaches cX6_reaches 4 (some .boolean) :: ((wsX6_reaches_r1 ++ (wsX6_reaches_r2 ++ (wsX6_reaches_r3 ++ wsX6_reaches_r4))) ++ wsX60 ++ wsX40)
def wsX6_strangersFor_r1 : List Cond := [Cond.constant RX6 182 (99999), Cond.fieldLink RX6 10 "KinCutlery" "now" "LKinCutlery$Table;", Cond.fieldLink RX6 140 "KinCutlery$Table" "told" "I", Cond.fieldLink RX6 94 "KinCutlery$Table" "laws" "[I", Cond.fieldLink RX6 89 "KinCutlery$Table" "count" "I", Cond.methodLink RX6 57 yX6_within, Cond.static yX6_within, Cond.initialized RX6, Cond.code yX6_within cX6_within 3 (some .boolean), Cond.methodLink RX6 183 yX4_piecesUntil, Cond.instanceMethod yX4_piecesUntil, Cond.selects RX4 yX4_piecesUntil yX4_piecesUntil, Cond.initialized RX4, Cond.code yX4_piecesUntil cX4_piecesUntil 4 (some .int), Cond.fieldLink RX4 52 "KinCutlery$Table" "told" "I", Cond.methodLink RX6 186 yX4_holdersOf, Cond.instanceMethod yX4_holdersOf, Cond.selects RX4 yX4_holdersOf yX4_holdersOf, Cond.code yX4_holdersOf cX4_holdersOf 4 (some .int), Cond.fieldLink RX4 46 "KinCutlery$Table" "count" "I", Cond.fieldLink RX4 18 "KinCutlery$Table" "holds" "[I", Cond.methodLink RX4 67 yX4_isDrowned, Cond.instanceMethod yX4_isDrowned, Cond.selects RX4 yX4_isDrowned yX4_isDrowned]
def wsX6_strangersFor_r2 : List Cond := [Cond.code yX4_isDrowned cX4_isDrowned 2 (some .boolean), Cond.fieldLink RX4 43 "KinCutlery$Table" "drowned" "I", Cond.methodLink RX6 189 yX4_everyone, Cond.instanceMethod yX4_everyone, Cond.selects RX4 yX4_everyone yX4_everyone, Cond.code yX4_everyone cX4_everyone 1 (some .int), Cond.methodLink RX6 192 yJ6_bitCount_0f7a4, Cond.static yJ6_bitCount_0f7a4, Cond.initialized RJ6, Cond.code yJ6_bitCount_0f7a4 cJ6_bitCount_0f7a4 1 (some .int), Cond.constant RJ6 265 (1431655765), Cond.constant RJ6 266 (858993459), Cond.constant RJ6 267 (252645135), Cond.methodLink RX6 197 yX4_piecesOf, Cond.instanceMethod yX4_piecesOf, Cond.selects RX4 yX4_piecesOf yX4_piecesOf, Cond.code yX4_piecesOf cX4_piecesOf 4 (some .int), Cond.methodLink RX6 200 yX6_reaches, Cond.instanceMethod yX6_reaches, Cond.selects RX6 yX6_reaches yX6_reaches, Cond.code yX6_reaches cX6_reaches 4 (some .boolean), Cond.fieldLink RX6 16 "KinCutlery" "tried" "LKinCutlery$Table;", Cond.fieldLink RX6 153 "KinCutlery$Table" "drowned" "I", Cond.methodLink RX6 82 yX4_copyFrom]
def wsX6_strangersFor_r3 : List Cond := [Cond.instanceMethod yX4_copyFrom, Cond.selects RX4 yX4_copyFrom yX4_copyFrom, Cond.code yX4_copyFrom cX4_copyFrom 2 none, Cond.fieldLink RX4 9 "KinCutlery$Table" "laws" "[I", Cond.methodLink RX4 37 arraycopyName, Cond.native arraycopyName, Cond.static arraycopyName, Cond.initialized "java/lang/System", Cond.fieldLink RX4 15 "KinCutlery$Table" "kind" "[I", Cond.fieldLink RX4 21 "KinCutlery$Table" "gone" "[I", Cond.fieldLink RX4 24 "KinCutlery$Table" "tells" "[I", Cond.fieldLink RX4 49 "KinCutlery$Table" "course" "I", Cond.fieldLink RX4 27 "KinCutlery$Table" "z" "I", Cond.methodLink RX6 134 yX4_toldBehind, Cond.instanceMethod yX4_toldBehind, Cond.selects RX4 yX4_toldBehind yX4_toldBehind, Cond.code yX4_toldBehind cX4_toldBehind 3 (some .int), Cond.methodLink RX4 101 yX4_serve, Cond.instanceMethod yX4_serve, Cond.selects RX4 yX4_serve yX4_serve, Cond.code yX4_serve cX4_serve 3 none, Cond.methodLink RX4 71 yX4_takes, Cond.instanceMethod yX4_takes, Cond.selects RX4 yX4_takes yX4_takes]
def wsX6_strangersFor_r4 : List Cond := [Cond.code yX4_takes cX4_takes 2 (some .int), Cond.methodLink RX4 63 yX4_next, Cond.instanceMethod yX4_next, Cond.selects RX4 yX4_next yX4_next, Cond.code yX4_next cX4_next 1 (some .int), Cond.static yX6_held, Cond.code yX6_held cX6_held 1 (some .int), Cond.methodLink RX6 293 Lib.Math.min.name, Cond.static Lib.Math.min.name, Cond.initialized "java/lang/Math", Cond.code Lib.Math.min.name Lib.Math.min.code 2 (some .int), Cond.methodLink RX6 177 Lib.Math.max.name, Cond.static Lib.Math.max.name, Cond.code Lib.Math.max.name Lib.Math.max.code 2 (some .int), Cond.methodLink RX4 78 yX4_teller, Cond.instanceMethod yX4_teller, Cond.selects RX4 yX4_teller yX4_teller, Cond.code yX4_teller cX4_teller 3 (some .int), Cond.methodLink RX4 85 yX4_needs, Cond.instanceMethod yX4_needs, Cond.selects RX4 yX4_needs yX4_needs, Cond.code yX4_needs cX4_needs 2 (some .int), Cond.methodLink RX4 81 yX4_tellNext, Cond.instanceMethod yX4_tellNext]
def wsX6_strangersFor_r5 : List Cond := [Cond.selects RX4 yX4_tellNext yX4_tellNext, Cond.code yX4_tellNext cX4_tellNext 3 none, Cond.constant RX4 91 (99999), Cond.methodLink RX4 92 Lib.Math.min.name, Cond.methodLink RX4 88 yX4_costs, Cond.instanceMethod yX4_costs, Cond.selects RX4 yX4_costs yX4_costs, Cond.code yX4_costs cX4_costs 2 (some .int), Cond.methodLink RX4 59 yX4_drown, Cond.instanceMethod yX4_drown, Cond.selects RX4 yX4_drown yX4_drown, Cond.code yX4_drown cX4_drown 3 none]
def wsX6_strangersFor : List Cond := .code yX6_strangersFor cX6_strangersFor 7 (some .int) :: ((wsX6_strangersFor_r1 ++ (wsX6_strangersFor_r2 ++ (wsX6_strangersFor_r3 ++ (wsX6_strangersFor_r4 ++ wsX6_strangersFor_r5)))) ++ wsX60 ++ wsX40)
def wsX6_goesAs_r1 : List Cond := [Cond.fieldLink RX6 210 "KinCutlery$Sheet" "length" "I", Cond.fieldLink RX6 16 "KinCutlery" "tried" "LKinCutlery$Table;", Cond.fieldLink RX6 211 "KinCutlery$Sheet" "items" "[J", Cond.constantLong RX6 215 (-1), Cond.fieldLink RX6 140 "KinCutlery$Table" "told" "I", Cond.methodLink RX6 171 yX4_serve, Cond.instanceMethod yX4_serve, Cond.selects RX4 yX4_serve yX4_serve, Cond.initialized RX4, Cond.code yX4_serve cX4_serve 3 none, Cond.fieldLink RX4 46 "KinCutlery$Table" "count" "I", Cond.fieldLink RX4 21 "KinCutlery$Table" "gone" "[I", Cond.fieldLink RX4 9 "KinCutlery$Table" "laws" "[I", Cond.fieldLink RX4 49 "KinCutlery$Table" "course" "I", Cond.methodLink RX4 67 yX4_isDrowned, Cond.instanceMethod yX4_isDrowned, Cond.selects RX4 yX4_isDrowned yX4_isDrowned, Cond.code yX4_isDrowned cX4_isDrowned 2 (some .boolean), Cond.fieldLink RX4 43 "KinCutlery$Table" "drowned" "I", Cond.methodLink RX4 71 yX4_takes, Cond.instanceMethod yX4_takes, Cond.selects RX4 yX4_takes yX4_takes, Cond.code yX4_takes cX4_takes 2 (some .int), Cond.fieldLink RX4 15 "KinCutlery$Table" "kind" "[I"]
def wsX6_goesAs_r2 : List Cond := [Cond.fieldLink RX4 18 "KinCutlery$Table" "holds" "[I", Cond.methodLink RX4 63 yX4_next, Cond.instanceMethod yX4_next, Cond.selects RX4 yX4_next yX4_next, Cond.code yX4_next cX4_next 1 (some .int), Cond.fieldLink RX4 52 "KinCutlery$Table" "told" "I", Cond.static yX6_held, Cond.initialized RX6, Cond.code yX6_held cX6_held 1 (some .int), Cond.methodLink RX6 293 Lib.Math.min.name, Cond.static Lib.Math.min.name, Cond.initialized "java/lang/Math", Cond.code Lib.Math.min.name Lib.Math.min.code 2 (some .int), Cond.methodLink RX6 177 Lib.Math.max.name, Cond.static Lib.Math.max.name, Cond.code Lib.Math.max.name Lib.Math.max.code 2 (some .int), Cond.methodLink RX4 78 yX4_teller, Cond.instanceMethod yX4_teller, Cond.selects RX4 yX4_teller yX4_teller, Cond.code yX4_teller cX4_teller 3 (some .int), Cond.methodLink RX4 85 yX4_needs, Cond.instanceMethod yX4_needs, Cond.selects RX4 yX4_needs yX4_needs, Cond.code yX4_needs cX4_needs 2 (some .int)]
def wsX6_goesAs_r3 : List Cond := [Cond.methodLink RX4 81 yX4_tellNext, Cond.instanceMethod yX4_tellNext, Cond.selects RX4 yX4_tellNext yX4_tellNext, Cond.code yX4_tellNext cX4_tellNext 3 none, Cond.constant RX4 91 (99999), Cond.methodLink RX4 92 Lib.Math.min.name, Cond.fieldLink RX4 24 "KinCutlery$Table" "tells" "[I", Cond.methodLink RX4 88 yX4_costs, Cond.instanceMethod yX4_costs, Cond.selects RX4 yX4_costs yX4_costs, Cond.code yX4_costs cX4_costs 2 (some .int), Cond.methodLink RX4 59 yX4_drown, Cond.instanceMethod yX4_drown, Cond.selects RX4 yX4_drown yX4_drown, Cond.code yX4_drown cX4_drown 3 none]
def wsX6_goesAs : List Cond := .code yX6_goesAs cX6_goesAs 3 (some .boolean) :: ((wsX6_goesAs_r1 ++ (wsX6_goesAs_r2 ++ wsX6_goesAs_r3)) ++ wsX10 ++ wsX60 ++ wsX40)
def wsX6_fits_r1 : List Cond := [Cond.fieldLink RX6 10 "KinCutlery" "now" "LKinCutlery$Table;", Cond.fieldLink RX6 38 "KinCutlery" "sheets" "[LKinCutlery$Sheet;", Cond.fieldLink RX6 203 "KinCutlery$Sheet" "sort" "I", Cond.fieldLink RX6 16 "KinCutlery" "tried" "LKinCutlery$Table;", Cond.fieldLink RX6 108 "KinCutlery$Table" "holds" "[I", Cond.methodLink RX6 57 yX6_within, Cond.static yX6_within, Cond.initialized RX6, Cond.code yX6_within cX6_within 3 (some .boolean), Cond.methodLink RX6 101 yX4_has, Cond.instanceMethod yX4_has, Cond.selects RX4 yX4_has yX4_has, Cond.initialized RX4, Cond.code yX4_has cX4_has 2 (some .boolean), Cond.fieldLink RX4 46 "KinCutlery$Table" "count" "I", Cond.methodLink RX6 82 yX4_copyFrom, Cond.instanceMethod yX4_copyFrom, Cond.selects RX4 yX4_copyFrom yX4_copyFrom, Cond.code yX4_copyFrom cX4_copyFrom 2 none, Cond.fieldLink RX4 9 "KinCutlery$Table" "laws" "[I", Cond.methodLink RX4 37 arraycopyName, Cond.native arraycopyName, Cond.static arraycopyName, Cond.initialized "java/lang/System"]
def wsX6_fits_r2 : List Cond := [Cond.fieldLink RX4 15 "KinCutlery$Table" "kind" "[I", Cond.fieldLink RX4 18 "KinCutlery$Table" "holds" "[I", Cond.fieldLink RX4 21 "KinCutlery$Table" "gone" "[I", Cond.fieldLink RX4 24 "KinCutlery$Table" "tells" "[I", Cond.fieldLink RX4 43 "KinCutlery$Table" "drowned" "I", Cond.fieldLink RX4 49 "KinCutlery$Table" "course" "I", Cond.fieldLink RX4 52 "KinCutlery$Table" "told" "I", Cond.fieldLink RX4 27 "KinCutlery$Table" "z" "I", Cond.methodLink RX6 206 yX6_goesAs, Cond.instanceMethod yX6_goesAs, Cond.selects RX6 yX6_goesAs yX6_goesAs, Cond.code yX6_goesAs cX6_goesAs 3 (some .boolean), Cond.fieldLink RX6 210 "KinCutlery$Sheet" "length" "I", Cond.fieldLink RX6 211 "KinCutlery$Sheet" "items" "[J", Cond.constantLong RX6 215 (-1), Cond.fieldLink RX6 140 "KinCutlery$Table" "told" "I", Cond.methodLink RX6 171 yX4_serve, Cond.instanceMethod yX4_serve, Cond.selects RX4 yX4_serve yX4_serve, Cond.code yX4_serve cX4_serve 3 none, Cond.methodLink RX4 67 yX4_isDrowned, Cond.instanceMethod yX4_isDrowned, Cond.selects RX4 yX4_isDrowned yX4_isDrowned, Cond.code yX4_isDrowned cX4_isDrowned 2 (some .boolean)]
def wsX6_fits_r3 : List Cond := [Cond.methodLink RX4 71 yX4_takes, Cond.instanceMethod yX4_takes, Cond.selects RX4 yX4_takes yX4_takes, Cond.code yX4_takes cX4_takes 2 (some .int), Cond.methodLink RX4 63 yX4_next, Cond.instanceMethod yX4_next, Cond.selects RX4 yX4_next yX4_next, Cond.code yX4_next cX4_next 1 (some .int), Cond.static yX6_held, Cond.code yX6_held cX6_held 1 (some .int), Cond.methodLink RX6 293 Lib.Math.min.name, Cond.static Lib.Math.min.name, Cond.initialized "java/lang/Math", Cond.code Lib.Math.min.name Lib.Math.min.code 2 (some .int), Cond.methodLink RX6 177 Lib.Math.max.name, Cond.static Lib.Math.max.name, Cond.code Lib.Math.max.name Lib.Math.max.code 2 (some .int), Cond.methodLink RX4 78 yX4_teller, Cond.instanceMethod yX4_teller, Cond.selects RX4 yX4_teller yX4_teller, Cond.code yX4_teller cX4_teller 3 (some .int), Cond.methodLink RX4 85 yX4_needs, Cond.instanceMethod yX4_needs, Cond.selects RX4 yX4_needs yX4_needs]
def wsX6_fits_r4 : List Cond := [Cond.code yX4_needs cX4_needs 2 (some .int), Cond.methodLink RX4 81 yX4_tellNext, Cond.instanceMethod yX4_tellNext, Cond.selects RX4 yX4_tellNext yX4_tellNext, Cond.code yX4_tellNext cX4_tellNext 3 none, Cond.constant RX4 91 (99999), Cond.methodLink RX4 92 Lib.Math.min.name, Cond.methodLink RX4 88 yX4_costs, Cond.instanceMethod yX4_costs, Cond.selects RX4 yX4_costs yX4_costs, Cond.code yX4_costs cX4_costs 2 (some .int), Cond.methodLink RX4 59 yX4_drown, Cond.instanceMethod yX4_drown, Cond.selects RX4 yX4_drown yX4_drown, Cond.code yX4_drown cX4_drown 3 none]
def wsX6_fits : List Cond := .code yX6_fits cX6_fits 8 (some .int) :: ((wsX6_fits_r1 ++ (wsX6_fits_r2 ++ (wsX6_fits_r3 ++ wsX6_fits_r4))) ++ wsX60 ++ wsX10 ++ wsX40)
def wsX6_waysToChoose : List Cond := .code yX6_waysToChoose cX6_waysToChoose 5 (some .long) :: ([])
def wsX6_commonDivisor : List Cond := .code yX6_commonDivisor cX6_commonDivisor 11 (some .long) :: ([])
def wsX6_partOf : List Cond := .code yX6_partOf cX6_partOf 7 (some .long) :: ([.methodLink RX6 227 yX6_commonDivisor, .static yX6_commonDivisor, .initialized RX6, .code yX6_commonDivisor cX6_commonDivisor 11 (some .long)])
def wsX6_odds : List Cond := .code yX6_odds cX6_odds 9 (some .long) :: ([.constantLong RX6 215 (-1), .fieldLink RX6 10 "KinCutlery" "now" "LKinCutlery$Table;", .fieldLink RX6 94 "KinCutlery$Table" "laws" "[I", .constantLong RX6 217 (100), .methodLink RX6 57 yX6_within, .static yX6_within, .initialized RX6, .code yX6_within cX6_within 3 (some .boolean), .methodLink RX6 219 yX6_waysToChoose, .static yX6_waysToChoose, .code yX6_waysToChoose cX6_waysToChoose 5 (some .long), .methodLink RX6 223 yX6_partOf, .static yX6_partOf, .code yX6_partOf cX6_partOf 7 (some .long), .methodLink RX6 227 yX6_commonDivisor, .static yX6_commonDivisor, .code yX6_commonDivisor cX6_commonDivisor 11 (some .long)] ++ wsX60 ++ wsX40)
def wsX6_hope : List Cond := .code yX6_hope cX6_hope 3 (some .long) :: ([.constantLong RX6 215 (-1), .fieldLink RX6 10 "KinCutlery" "now" "LKinCutlery$Table;", .fieldLink RX6 94 "KinCutlery$Table" "laws" "[I", .constantLong RX6 217 (100), .methodLink RX6 57 yX6_within, .static yX6_within, .initialized RX6, .code yX6_within cX6_within 3 (some .boolean), .methodLink RX6 223 yX6_partOf, .static yX6_partOf, .code yX6_partOf cX6_partOf 7 (some .long), .methodLink RX6 227 yX6_commonDivisor, .static yX6_commonDivisor, .code yX6_commonDivisor cX6_commonDivisor 11 (some .long)] ++ wsX60 ++ wsX40)
def wsX6_triedCell : List Cond := .code yX6_triedCell cX6_triedCell 3 (some .int) :: ([.fieldLink RX6 16 "KinCutlery" "tried" "LKinCutlery$Table;", .fieldLink RX6 111 "KinCutlery$Table" "gone" "[I", .fieldLink RX6 114 "KinCutlery$Table" "tells" "[I", .fieldLink RX6 140 "KinCutlery$Table" "told" "I"] ++ wsX60 ++ wsX40)
def wsX6_prove_r1 : List Cond := [Cond.fieldLink RX6 10 "KinCutlery" "now" "LKinCutlery$Table;", Cond.fieldLink RX6 16 "KinCutlery" "tried" "LKinCutlery$Table;", Cond.fieldLink RX6 32 "KinCutlery" "rows" "LKinCutlery$Rows;", Cond.fieldLink RX6 231 "KinCutlery$Rows" "cells" "[I", Cond.fieldLink RX6 86 "KinCutlery$Rows" "count" "I", Cond.methodLink RX6 101 yX4_has, Cond.instanceMethod yX4_has, Cond.selects RX4 yX4_has yX4_has, Cond.initialized RX4, Cond.code yX4_has cX4_has 2 (some .boolean), Cond.fieldLink RX4 46 "KinCutlery$Table" "count" "I", Cond.static yX6_within, Cond.initialized RX6, Cond.code yX6_within cX6_within 3 (some .boolean), Cond.methodLink RX6 57 yX6_within, Cond.methodLink RX6 82 yX4_copyFrom, Cond.instanceMethod yX4_copyFrom, Cond.selects RX4 yX4_copyFrom yX4_copyFrom, Cond.code yX4_copyFrom cX4_copyFrom 2 none, Cond.fieldLink RX4 9 "KinCutlery$Table" "laws" "[I", Cond.methodLink RX4 37 arraycopyName, Cond.native arraycopyName, Cond.static arraycopyName, Cond.initialized "java/lang/System"]
def wsX6_prove_r2 : List Cond := [Cond.fieldLink RX4 15 "KinCutlery$Table" "kind" "[I", Cond.fieldLink RX4 18 "KinCutlery$Table" "holds" "[I", Cond.fieldLink RX4 21 "KinCutlery$Table" "gone" "[I", Cond.fieldLink RX4 24 "KinCutlery$Table" "tells" "[I", Cond.fieldLink RX4 43 "KinCutlery$Table" "drowned" "I", Cond.fieldLink RX4 49 "KinCutlery$Table" "course" "I", Cond.fieldLink RX4 52 "KinCutlery$Table" "told" "I", Cond.fieldLink RX4 27 "KinCutlery$Table" "z" "I", Cond.methodLink RX6 171 yX4_serve, Cond.instanceMethod yX4_serve, Cond.selects RX4 yX4_serve yX4_serve, Cond.code yX4_serve cX4_serve 3 none, Cond.methodLink RX4 67 yX4_isDrowned, Cond.instanceMethod yX4_isDrowned, Cond.selects RX4 yX4_isDrowned yX4_isDrowned, Cond.code yX4_isDrowned cX4_isDrowned 2 (some .boolean), Cond.methodLink RX4 71 yX4_takes, Cond.instanceMethod yX4_takes, Cond.selects RX4 yX4_takes yX4_takes, Cond.code yX4_takes cX4_takes 2 (some .int), Cond.methodLink RX4 63 yX4_next, Cond.instanceMethod yX4_next, Cond.selects RX4 yX4_next yX4_next, Cond.code yX4_next cX4_next 1 (some .int)]
def wsX6_prove_r3 : List Cond := [Cond.static yX6_held, Cond.code yX6_held cX6_held 1 (some .int), Cond.methodLink RX6 293 Lib.Math.min.name, Cond.static Lib.Math.min.name, Cond.initialized "java/lang/Math", Cond.code Lib.Math.min.name Lib.Math.min.code 2 (some .int), Cond.methodLink RX6 177 Lib.Math.max.name, Cond.static Lib.Math.max.name, Cond.code Lib.Math.max.name Lib.Math.max.code 2 (some .int), Cond.methodLink RX4 78 yX4_teller, Cond.instanceMethod yX4_teller, Cond.selects RX4 yX4_teller yX4_teller, Cond.code yX4_teller cX4_teller 3 (some .int), Cond.methodLink RX4 85 yX4_needs, Cond.instanceMethod yX4_needs, Cond.selects RX4 yX4_needs yX4_needs, Cond.code yX4_needs cX4_needs 2 (some .int), Cond.methodLink RX4 81 yX4_tellNext, Cond.instanceMethod yX4_tellNext, Cond.selects RX4 yX4_tellNext yX4_tellNext, Cond.code yX4_tellNext cX4_tellNext 3 none, Cond.constant RX4 91 (99999), Cond.methodLink RX4 92 Lib.Math.min.name, Cond.methodLink RX4 88 yX4_costs]
def wsX6_prove_r4 : List Cond := [Cond.instanceMethod yX4_costs, Cond.selects RX4 yX4_costs yX4_costs, Cond.code yX4_costs cX4_costs 2 (some .int), Cond.methodLink RX4 59 yX4_drown, Cond.instanceMethod yX4_drown, Cond.selects RX4 yX4_drown yX4_drown, Cond.code yX4_drown cX4_drown 3 none, Cond.methodLink RX6 234 yX6_triedCell, Cond.instanceMethod yX6_triedCell, Cond.selects RX6 yX6_triedCell yX6_triedCell, Cond.code yX6_triedCell cX6_triedCell 3 (some .int), Cond.fieldLink RX6 111 "KinCutlery$Table" "gone" "[I", Cond.fieldLink RX6 114 "KinCutlery$Table" "tells" "[I", Cond.fieldLink RX6 140 "KinCutlery$Table" "told" "I"]
def wsX6_prove : List Cond := .code yX6_prove cX6_prove 5 (some .int) :: ((wsX6_prove_r1 ++ (wsX6_prove_r2 ++ (wsX6_prove_r3 ++ wsX6_prove_r4))) ++ wsX60 ++ wsX00 ++ wsX40)
def wsX6_row : List Cond := .code yX6_row cX6_row 3 (some .int) :: ([.fieldLink RX6 32 "KinCutlery" "rows" "LKinCutlery$Rows;", .fieldLink RX6 231 "KinCutlery$Rows" "cells" "[I", .methodLink RX6 237 yX0_has, .instanceMethod yX0_has, .selects RX0 yX0_has yX0_has, .initialized RX0, .code yX0_has cX0_has 3 (some .boolean), .fieldLink RX0 15 "KinCutlery$Rows" "count" "I", .static yX6_within, .initialized RX6, .code yX6_within cX6_within 3 (some .boolean)] ++ wsX60 ++ wsX00)
def wsX6_alterRow : List Cond := .code yX6_alterRow cX6_alterRow 5 (some .int) :: ([.fieldLink RX6 32 "KinCutlery" "rows" "LKinCutlery$Rows;", .fieldLink RX6 231 "KinCutlery$Rows" "cells" "[I", .methodLink RX6 237 yX0_has, .instanceMethod yX0_has, .selects RX0 yX0_has yX0_has, .initialized RX0, .code yX0_has cX0_has 3 (some .boolean), .fieldLink RX0 15 "KinCutlery$Rows" "count" "I", .static yX6_within, .initialized RX6, .code yX6_within cX6_within 3 (some .boolean)] ++ wsX60 ++ wsX00)
def wsX6_judge_r1 : List Cond := [Cond.fieldLink RX6 10 "KinCutlery" "now" "LKinCutlery$Table;", Cond.fieldLink RX6 16 "KinCutlery" "tried" "LKinCutlery$Table;", Cond.fieldLink RX6 32 "KinCutlery" "rows" "LKinCutlery$Rows;", Cond.fieldLink RX6 86 "KinCutlery$Rows" "count" "I", Cond.fieldLink RX6 231 "KinCutlery$Rows" "cells" "[I", Cond.methodLink RX6 101 yX4_has, Cond.instanceMethod yX4_has, Cond.selects RX4 yX4_has yX4_has, Cond.initialized RX4, Cond.code yX4_has cX4_has 2 (some .boolean), Cond.fieldLink RX4 46 "KinCutlery$Table" "count" "I", Cond.static yX6_within, Cond.initialized RX6, Cond.code yX6_within cX6_within 3 (some .boolean), Cond.methodLink RX6 82 yX4_copyFrom, Cond.instanceMethod yX4_copyFrom, Cond.selects RX4 yX4_copyFrom yX4_copyFrom, Cond.code yX4_copyFrom cX4_copyFrom 2 none, Cond.fieldLink RX4 9 "KinCutlery$Table" "laws" "[I", Cond.methodLink RX4 37 arraycopyName, Cond.native arraycopyName, Cond.static arraycopyName, Cond.initialized "java/lang/System", Cond.fieldLink RX4 15 "KinCutlery$Table" "kind" "[I"]
def wsX6_judge_r2 : List Cond := [Cond.fieldLink RX4 18 "KinCutlery$Table" "holds" "[I", Cond.fieldLink RX4 21 "KinCutlery$Table" "gone" "[I", Cond.fieldLink RX4 24 "KinCutlery$Table" "tells" "[I", Cond.fieldLink RX4 43 "KinCutlery$Table" "drowned" "I", Cond.fieldLink RX4 49 "KinCutlery$Table" "course" "I", Cond.fieldLink RX4 52 "KinCutlery$Table" "told" "I", Cond.fieldLink RX4 27 "KinCutlery$Table" "z" "I", Cond.methodLink RX6 171 yX4_serve, Cond.instanceMethod yX4_serve, Cond.selects RX4 yX4_serve yX4_serve, Cond.code yX4_serve cX4_serve 3 none, Cond.methodLink RX4 67 yX4_isDrowned, Cond.instanceMethod yX4_isDrowned, Cond.selects RX4 yX4_isDrowned yX4_isDrowned, Cond.code yX4_isDrowned cX4_isDrowned 2 (some .boolean), Cond.methodLink RX4 71 yX4_takes, Cond.instanceMethod yX4_takes, Cond.selects RX4 yX4_takes yX4_takes, Cond.code yX4_takes cX4_takes 2 (some .int), Cond.methodLink RX4 63 yX4_next, Cond.instanceMethod yX4_next, Cond.selects RX4 yX4_next yX4_next, Cond.code yX4_next cX4_next 1 (some .int), Cond.static yX6_held]
def wsX6_judge_r3 : List Cond := [Cond.code yX6_held cX6_held 1 (some .int), Cond.methodLink RX6 293 Lib.Math.min.name, Cond.static Lib.Math.min.name, Cond.initialized "java/lang/Math", Cond.code Lib.Math.min.name Lib.Math.min.code 2 (some .int), Cond.methodLink RX6 177 Lib.Math.max.name, Cond.static Lib.Math.max.name, Cond.code Lib.Math.max.name Lib.Math.max.code 2 (some .int), Cond.methodLink RX4 78 yX4_teller, Cond.instanceMethod yX4_teller, Cond.selects RX4 yX4_teller yX4_teller, Cond.code yX4_teller cX4_teller 3 (some .int), Cond.methodLink RX4 85 yX4_needs, Cond.instanceMethod yX4_needs, Cond.selects RX4 yX4_needs yX4_needs, Cond.code yX4_needs cX4_needs 2 (some .int), Cond.methodLink RX4 81 yX4_tellNext, Cond.instanceMethod yX4_tellNext, Cond.selects RX4 yX4_tellNext yX4_tellNext, Cond.code yX4_tellNext cX4_tellNext 3 none, Cond.constant RX4 91 (99999), Cond.methodLink RX4 92 Lib.Math.min.name, Cond.methodLink RX4 88 yX4_costs, Cond.instanceMethod yX4_costs]
def wsX6_judge_r4 : List Cond := [Cond.selects RX4 yX4_costs yX4_costs, Cond.code yX4_costs cX4_costs 2 (some .int), Cond.methodLink RX4 59 yX4_drown, Cond.instanceMethod yX4_drown, Cond.selects RX4 yX4_drown yX4_drown, Cond.code yX4_drown cX4_drown 3 none, Cond.methodLink RX6 234 yX6_triedCell, Cond.instanceMethod yX6_triedCell, Cond.selects RX6 yX6_triedCell yX6_triedCell, Cond.code yX6_triedCell cX6_triedCell 3 (some .int), Cond.fieldLink RX6 111 "KinCutlery$Table" "gone" "[I", Cond.fieldLink RX6 114 "KinCutlery$Table" "tells" "[I", Cond.fieldLink RX6 140 "KinCutlery$Table" "told" "I"]
def wsX6_judge : List Cond := .code yX6_judge cX6_judge 4 (some .int) :: ((wsX6_judge_r1 ++ (wsX6_judge_r2 ++ (wsX6_judge_r3 ++ wsX6_judge_r4))) ++ wsX60 ++ wsX00 ++ wsX40)
def wsX6_minds_r1 : List Cond := [Cond.fieldLink RX6 10 "KinCutlery" "now" "LKinCutlery$Table;", Cond.fieldLink RX6 89 "KinCutlery$Table" "count" "I", Cond.fieldLink RX6 38 "KinCutlery" "sheets" "[LKinCutlery$Sheet;", Cond.fieldLink RX6 203 "KinCutlery$Sheet" "sort" "I", Cond.fieldLink RX6 210 "KinCutlery$Sheet" "length" "I", Cond.fieldLink RX6 111 "KinCutlery$Table" "gone" "[I", Cond.fieldLink RX6 211 "KinCutlery$Sheet" "items" "[J", Cond.methodLink RX6 57 yX6_within, Cond.static yX6_within, Cond.initialized RX6, Cond.code yX6_within cX6_within 3 (some .boolean), Cond.methodLink RX6 101 yX4_has, Cond.instanceMethod yX4_has, Cond.selects RX4 yX4_has yX4_has, Cond.initialized RX4, Cond.code yX4_has cX4_has 2 (some .boolean), Cond.fieldLink RX4 46 "KinCutlery$Table" "count" "I", Cond.methodLink RX6 240 yX6_held, Cond.static yX6_held, Cond.code yX6_held cX6_held 1 (some .int), Cond.methodLink RX6 293 Lib.Math.min.name, Cond.static Lib.Math.min.name, Cond.initialized "java/lang/Math", Cond.code Lib.Math.min.name Lib.Math.min.code 2 (some .int)]
def wsX6_minds_r2 : List Cond := [Cond.methodLink RX6 177 Lib.Math.max.name, Cond.static Lib.Math.max.name, Cond.code Lib.Math.max.name Lib.Math.max.code 2 (some .int)]
def wsX6_minds : List Cond := .code yX6_minds cX6_minds 7 (some .int) :: ((wsX6_minds_r1 ++ wsX6_minds_r2) ++ wsX60 ++ wsX40 ++ wsX10)
def wsX6_sheet : List Cond := .code yX6_sheet cX6_sheet 4 (some .int) :: ([.fieldLink RX6 38 "KinCutlery" "sheets" "[LKinCutlery$Sheet;", .methodLink RX6 57 yX6_within, .static yX6_within, .initialized RX6, .code yX6_within cX6_within 3 (some .boolean), .methodLink RX6 243 yX1_become, .instanceMethod yX1_become, .selects RX1 yX1_become yX1_become, .initialized RX1, .code yX1_become cX1_become 3 none, .fieldLink RX1 15 "KinCutlery$Sheet" "sort" "I", .fieldLink RX1 19 "KinCutlery$Sheet" "length" "I", .fieldLink RX1 9 "KinCutlery$Sheet" "items" "[J", .methodLink RX1 22 yJ7_fill_d0a16, .static yJ7_fill_d0a16, .initialized RJ7, .code yJ7_fill_d0a16 cJ7_fill_d0a16 5 none] ++ wsX60 ++ wsX10)
def wsX6_narrowed : List Cond := .code yX6_narrowed cX6_narrowed 2 (some .int) :: ([])
def wsX6_put : List Cond := .code yX6_put cX6_put 5 (some .int) :: ([.fieldLink RX6 38 "KinCutlery" "sheets" "[LKinCutlery$Sheet;", .fieldLink RX6 203 "KinCutlery$Sheet" "sort" "I", .fieldLink RX6 210 "KinCutlery$Sheet" "length" "I", .fieldLink RX6 211 "KinCutlery$Sheet" "items" "[J", .methodLink RX6 57 yX6_within, .static yX6_within, .initialized RX6, .code yX6_within cX6_within 3 (some .boolean), .methodLink RX6 247 yX6_narrowed, .static yX6_narrowed, .code yX6_narrowed cX6_narrowed 2 (some .int)] ++ wsX60 ++ wsX10)
def wsX6_item : List Cond := .code yX6_item cX6_item 5 (some .int) :: ([.fieldLink RX6 38 "KinCutlery" "sheets" "[LKinCutlery$Sheet;", .fieldLink RX6 203 "KinCutlery$Sheet" "sort" "I", .fieldLink RX6 210 "KinCutlery$Sheet" "length" "I", .fieldLink RX6 211 "KinCutlery$Sheet" "items" "[J", .methodLink RX6 57 yX6_within, .static yX6_within, .initialized RX6, .code yX6_within cX6_within 3 (some .boolean)] ++ wsX60 ++ wsX10)
def wsX6_shelf_r1 : List Cond := [Cond.fieldLink RX6 44 "KinCutlery" "shelves" "[LKinCutlery$Shelf;", Cond.fieldLink RX6 10 "KinCutlery" "now" "LKinCutlery$Table;", Cond.fieldLink RX6 38 "KinCutlery" "sheets" "[LKinCutlery$Sheet;", Cond.fieldLink RX6 258 "KinCutlery$Shelf" "what" "I", Cond.methodLink RX6 57 yX6_within, Cond.static yX6_within, Cond.initialized RX6, Cond.code yX6_within cX6_within 3 (some .boolean), Cond.methodLink RX6 101 yX4_has, Cond.instanceMethod yX4_has, Cond.selects RX4 yX4_has yX4_has, Cond.initialized RX4, Cond.code yX4_has cX4_has 2 (some .boolean), Cond.fieldLink RX4 46 "KinCutlery$Table" "count" "I", Cond.methodLink RX6 250 yX2_holdGuest, Cond.instanceMethod yX2_holdGuest, Cond.selects RX2 yX2_holdGuest yX2_holdGuest, Cond.initialized RX2, Cond.code yX2_holdGuest cX2_holdGuest 2 none, Cond.fieldLink RX2 9 "KinCutlery$Shelf" "what" "I", Cond.fieldLink RX2 15 "KinCutlery$Shelf" "number" "I", Cond.methodLink RX6 254 yX2_holdRow, Cond.instanceMethod yX2_holdRow, Cond.selects RX2 yX2_holdRow yX2_holdRow]
def wsX6_shelf_r2 : List Cond := [Cond.code yX2_holdRow cX2_holdRow 2 none, Cond.fieldLink RX2 18 "KinCutlery$Sheet" "sort" "I", Cond.fieldLink RX2 23 "KinCutlery$Shelf" "sort" "I", Cond.fieldLink RX2 24 "KinCutlery$Sheet" "length" "I", Cond.fieldLink RX2 27 "KinCutlery$Shelf" "length" "I"]
def wsX6_shelf : List Cond := .code yX6_shelf cX6_shelf 5 (some .int) :: ((wsX6_shelf_r1 ++ wsX6_shelf_r2) ++ wsX60 ++ wsX20 ++ wsX40 ++ wsX10)
def wsX6_heldNow : List Cond := .code yX6_heldNow cX6_heldNow 2 (some .int) :: ([.fieldLink RX6 258 "KinCutlery$Shelf" "what" "I", .fieldLink RX6 10 "KinCutlery" "now" "LKinCutlery$Table;", .fieldLink RX6 265 "KinCutlery$Shelf" "number" "I", .methodLink RX6 101 yX4_has, .instanceMethod yX4_has, .selects RX4 yX4_has yX4_has, .initialized RX4, .code yX4_has cX4_has 2 (some .boolean), .fieldLink RX4 46 "KinCutlery$Table" "count" "I", .static yX6_within, .initialized RX6, .code yX6_within cX6_within 3 (some .boolean)] ++ wsX20 ++ wsX60 ++ wsX40)
def wsX6_isUnder : List Cond := .code yX6_isUnder cX6_isUnder 4 (some .boolean) :: ([.fieldLink RX6 283 "KinCutlery" "KIND_ABOVE" "[I", .methodLink RX6 57 yX6_within, .static yX6_within, .initialized RX6, .code yX6_within cX6_within 3 (some .boolean)])
def wsX6_taken_r1 : List Cond := [Cond.fieldLink RX6 44 "KinCutlery" "shelves" "[LKinCutlery$Shelf;", Cond.fieldLink RX6 10 "KinCutlery" "now" "LKinCutlery$Table;", Cond.fieldLink RX6 105 "KinCutlery$Table" "kind" "[I", Cond.fieldLink RX6 265 "KinCutlery$Shelf" "number" "I", Cond.fieldLink RX6 271 "KinCutlery$Shelf" "sort" "I", Cond.fieldLink RX6 272 "KinCutlery$Shelf" "length" "I", Cond.methodLink RX6 57 yX6_within, Cond.static yX6_within, Cond.initialized RX6, Cond.code yX6_within cX6_within 3 (some .boolean), Cond.methodLink RX6 261 yX6_heldNow, Cond.instanceMethod yX6_heldNow, Cond.selects RX6 yX6_heldNow yX6_heldNow, Cond.code yX6_heldNow cX6_heldNow 2 (some .int), Cond.fieldLink RX6 258 "KinCutlery$Shelf" "what" "I", Cond.methodLink RX6 101 yX4_has, Cond.instanceMethod yX4_has, Cond.selects RX4 yX4_has yX4_has, Cond.initialized RX4, Cond.code yX4_has cX4_has 2 (some .boolean), Cond.fieldLink RX4 46 "KinCutlery$Table" "count" "I", Cond.methodLink RX6 268 yX6_isUnder, Cond.static yX6_isUnder, Cond.code yX6_isUnder cX6_isUnder 4 (some .boolean)]
def wsX6_taken_r2 : List Cond := [Cond.fieldLink RX6 283 "KinCutlery" "KIND_ABOVE" "[I"]
def wsX6_taken : List Cond := .code yX6_taken cX6_taken 4 (some .int) :: ((wsX6_taken_r1 ++ wsX6_taken_r2) ++ wsX60 ++ wsX40 ++ wsX20)
def wsX6_act_r1 : List Cond := [Cond.fieldLink RX6 51 "KinCutlery" "stage" "LKinCutlery$Stage;", Cond.fieldLink RX6 273 "KinCutlery$Stage" "traced" "I", Cond.fieldLink RX6 44 "KinCutlery" "shelves" "[LKinCutlery$Shelf;", Cond.fieldLink RX6 265 "KinCutlery$Shelf" "number" "I", Cond.fieldLink RX6 10 "KinCutlery" "now" "LKinCutlery$Table;", Cond.fieldLink RX6 105 "KinCutlery$Table" "kind" "[I", Cond.fieldLink RX6 108 "KinCutlery$Table" "holds" "[I", Cond.methodLink RX6 57 yX6_within, Cond.static yX6_within, Cond.initialized RX6, Cond.code yX6_within cX6_within 3 (some .boolean), Cond.methodLink RX6 261 yX6_heldNow, Cond.instanceMethod yX6_heldNow, Cond.selects RX6 yX6_heldNow yX6_heldNow, Cond.code yX6_heldNow cX6_heldNow 2 (some .int), Cond.fieldLink RX6 258 "KinCutlery$Shelf" "what" "I", Cond.methodLink RX6 101 yX4_has, Cond.instanceMethod yX4_has, Cond.selects RX4 yX4_has yX4_has, Cond.initialized RX4, Cond.code yX4_has cX4_has 2 (some .boolean), Cond.fieldLink RX4 46 "KinCutlery$Table" "count" "I", Cond.methodLink RX6 276 yX3_perform, Cond.instanceMethod yX3_perform]
def wsX6_act_r2 : List Cond := [Cond.selects RX3 yX3_perform yX3_perform, Cond.initialized RX3, Cond.code yX3_perform cX3_perform 7 (some .int), Cond.fieldLink RX3 15 "KinCutlery$Stage" "traced" "I", Cond.fieldLink RX3 19 "KinCutlery$Stage" "broken" "Z", Cond.fieldLink RX3 23 "KinCutlery$Stage" "kind" "I", Cond.fieldLink RX3 26 "KinCutlery$Stage" "n" "I", Cond.fieldLink RX3 29 "KinCutlery$Stage" "a" "I", Cond.methodLink RX3 32 yX3_own, Cond.instanceMethod yX3_own, Cond.selects RX3 yX3_own yX3_own, Cond.code yX3_own cX3_own 4 (some .int), Cond.methodLink RX3 39 yX3_run, Cond.instanceMethod yX3_run, Cond.selects RX3 yX3_run yX3_run, Cond.code yX3_run cX3_run 5 (some .int), Cond.methodLink RX3 42 yX3_begin, Cond.instanceMethod yX3_begin, Cond.selects RX3 yX3_begin yX3_begin, Cond.code yX3_begin cX3_begin 2 none, Cond.fieldLink RX3 9 "KinCutlery$Stage" "bodies" "[I", Cond.methodLink RX3 46 yX3_parted, Cond.instanceMethod yX3_parted, Cond.selects RX3 yX3_parted yX3_parted]
def wsX6_act_r3 : List Cond := [Cond.code yX3_parted cX3_parted 2 (some .int)]
def wsX6_act : List Cond := .code yX6_act cX6_act 5 (some .int) :: ((wsX6_act_r1 ++ (wsX6_act_r2 ++ wsX6_act_r3)) ++ wsX60 ++ wsX30 ++ wsX20 ++ wsX40)
def wsX6_trace : List Cond := .code yX6_trace cX6_trace 2 (some .int) :: ([.fieldLink RX6 51 "KinCutlery" "stage" "LKinCutlery$Stage;", .fieldLink RX6 273 "KinCutlery$Stage" "traced" "I", .fieldLink RX6 280 "KinCutlery$Stage" "bodies" "[I", .methodLink RX6 57 yX6_within, .static yX6_within, .initialized RX6, .code yX6_within cX6_within 3 (some .boolean)] ++ wsX60 ++ wsX30)
def wsX6_many_r1 : List Cond := [Cond.fieldLink RX6 10 "KinCutlery" "now" "LKinCutlery$Table;", Cond.fieldLink RX6 89 "KinCutlery$Table" "count" "I", Cond.fieldLink RX6 153 "KinCutlery$Table" "drowned" "I", Cond.fieldLink RX6 32 "KinCutlery" "rows" "LKinCutlery$Rows;", Cond.fieldLink RX6 86 "KinCutlery$Rows" "count" "I", Cond.fieldLink RX6 25 "KinCutlery" "tape" "LKinCutlery$Tape;", Cond.fieldLink RX6 61 "KinCutlery$Tape" "length" "I", Cond.fieldLink RX6 51 "KinCutlery" "stage" "LKinCutlery$Stage;", Cond.fieldLink RX6 273 "KinCutlery$Stage" "traced" "I", Cond.methodLink RX6 192 yJ6_bitCount_0f7a4, Cond.static yJ6_bitCount_0f7a4, Cond.initialized RJ6, Cond.code yJ6_bitCount_0f7a4 cJ6_bitCount_0f7a4 1 (some .int), Cond.constant RJ6 265 (1431655765), Cond.constant RJ6 266 (858993459), Cond.constant RJ6 267 (252645135), Cond.methodLink RX6 286 yX4_tellers, Cond.instanceMethod yX4_tellers, Cond.selects RX4 yX4_tellers yX4_tellers, Cond.initialized RX4, Cond.code yX4_tellers cX4_tellers 3 (some .int), Cond.fieldLink RX4 46 "KinCutlery$Table" "count" "I", Cond.fieldLink RX4 24 "KinCutlery$Table" "tells" "[I", Cond.methodLink RX6 197 yX4_piecesOf]
def wsX6_many_r2 : List Cond := [Cond.instanceMethod yX4_piecesOf, Cond.selects RX4 yX4_piecesOf yX4_piecesOf, Cond.code yX4_piecesOf cX4_piecesOf 4 (some .int), Cond.fieldLink RX4 18 "KinCutlery$Table" "holds" "[I"]
def wsX6_many : List Cond := .code yX6_many cX6_many 2 (some .int) :: ((wsX6_many_r1 ++ wsX6_many_r2) ++ wsX60 ++ wsX40 ++ wsX00 ++ wsX50 ++ wsX30)
def wsX6_keep : List Cond := .code yX6_keep cX6_keep 1 (some .int) :: ([.fieldLink RX6 19 "KinCutlery" "kept" "LKinCutlery$Table;", .fieldLink RX6 10 "KinCutlery" "now" "LKinCutlery$Table;", .fieldLink RX6 289 "KinCutlery" "keptAny" "Z", .methodLink RX6 82 yX4_copyFrom, .instanceMethod yX4_copyFrom, .selects RX4 yX4_copyFrom yX4_copyFrom, .initialized RX4, .code yX4_copyFrom cX4_copyFrom 2 none, .fieldLink RX4 9 "KinCutlery$Table" "laws" "[I", .methodLink RX4 37 arraycopyName, .native arraycopyName, .static arraycopyName, .initialized "java/lang/System", .fieldLink RX4 15 "KinCutlery$Table" "kind" "[I", .fieldLink RX4 18 "KinCutlery$Table" "holds" "[I", .fieldLink RX4 21 "KinCutlery$Table" "gone" "[I", .fieldLink RX4 24 "KinCutlery$Table" "tells" "[I", .fieldLink RX4 43 "KinCutlery$Table" "drowned" "I", .fieldLink RX4 46 "KinCutlery$Table" "count" "I", .fieldLink RX4 49 "KinCutlery$Table" "course" "I", .fieldLink RX4 52 "KinCutlery$Table" "told" "I", .fieldLink RX4 27 "KinCutlery$Table" "z" "I"] ++ wsX60 ++ wsX40)
def wsX6_again : List Cond := .code yX6_again cX6_again 1 (some .int) :: ([.fieldLink RX6 289 "KinCutlery" "keptAny" "Z", .fieldLink RX6 10 "KinCutlery" "now" "LKinCutlery$Table;", .fieldLink RX6 19 "KinCutlery" "kept" "LKinCutlery$Table;", .fieldLink RX6 89 "KinCutlery$Table" "count" "I", .methodLink RX6 82 yX4_copyFrom, .instanceMethod yX4_copyFrom, .selects RX4 yX4_copyFrom yX4_copyFrom, .initialized RX4, .code yX4_copyFrom cX4_copyFrom 2 none, .fieldLink RX4 9 "KinCutlery$Table" "laws" "[I", .methodLink RX4 37 arraycopyName, .native arraycopyName, .static arraycopyName, .initialized "java/lang/System", .fieldLink RX4 15 "KinCutlery$Table" "kind" "[I", .fieldLink RX4 18 "KinCutlery$Table" "holds" "[I", .fieldLink RX4 21 "KinCutlery$Table" "gone" "[I", .fieldLink RX4 24 "KinCutlery$Table" "tells" "[I", .fieldLink RX4 43 "KinCutlery$Table" "drowned" "I", .fieldLink RX4 46 "KinCutlery$Table" "count" "I", .fieldLink RX4 49 "KinCutlery$Table" "course" "I", .fieldLink RX4 52 "KinCutlery$Table" "told" "I", .fieldLink RX4 27 "KinCutlery$Table" "z" "I"] ++ wsX60 ++ wsX40)
def wsX7_begins : List Cond := .code yX7_begins cX7_begins 3 none :: ([.fieldLink RX7 7 "KinCutleryModel" "s" "[I"] ++ wsX70)
def wsX7_init : List Cond := .code yX7_init cX7_init 1 none :: ([.methodLink RX7 1 objectInit, .instanceMethod objectInit, .code objectInit ⟨#[0xb1]⟩ 1 none, .arrayClass .int, .fieldLink RX7 7 "KinCutleryModel" "s" "[I", .fieldLink RX7 13 "KinCutleryModel" "held" "[I", .fieldLink RX7 16 "KinCutleryModel" "aside" "[I", .fieldLink RX7 19 "KinCutleryModel" "before" "[I", .fieldLink RX7 22 "KinCutleryModel" "tape" "[I", .fieldLink RX7 25 "KinCutleryModel" "rows" "[I", .fieldLink RX7 28 "KinCutleryModel" "sortOf" "[I", .fieldLink RX7 31 "KinCutleryModel" "sizeOf" "[I", .fieldLink RX7 34 "KinCutleryModel" "numbers" "[I", .fieldLink RX7 37 "KinCutleryModel" "holdsWhat" "[I", .fieldLink RX7 40 "KinCutleryModel" "holdsWhich" "[I", .fieldLink RX7 43 "KinCutleryModel" "holdsMany" "[I", .fieldLink RX7 46 "KinCutleryModel" "bodies" "[I", .methodLink RX7 49 yX7_begins, .instanceMethod yX7_begins, .selects RX7 yX7_begins yX7_begins, .initialized RX7, .code yX7_begins cX7_begins 3 none] ++ wsX70)
def wsX7_isIn : List Cond := .code yX7_isIn cX7_isIn 6 (some .boolean) :: ([])
def wsX7_isOne : List Cond := .code yX7_isOne cX7_isOne 2 (some .boolean) :: ([.fieldLink RX7 7 "KinCutleryModel" "s" "[I"] ++ wsX70)
def wsX7_its : List Cond := .code yX7_its cX7_its 3 (some .int) :: ([.fieldLink RX7 7 "KinCutleryModel" "s" "[I"] ++ wsX70)
def wsX7_becomes : List Cond := .code yX7_becomes cX7_becomes 4 (some .int) :: ([.fieldLink RX7 7 "KinCutleryModel" "s" "[I"] ++ wsX70)
def wsX7_copyRow : List Cond := .code yX7_copyRow cX7_copyRow 3 none :: ([])
def wsX7_least : List Cond := .code yX7_least cX7_least 2 (some .int) :: ([])
def wsX7_greatest : List Cond := .code yX7_greatest cX7_greatest 2 (some .int) :: ([])
def wsX7_within : List Cond := .code yX7_within cX7_within 1 (some .int) :: ([])
def wsX7_size : List Cond := .code yX7_size cX7_size 3 (some .int) :: ([])
def wsX7_isUnder : List Cond := .code yX7_isUnder cX7_isUnder 2 (some .boolean) :: ([])
def wsX7_feed : List Cond := .code yX7_feed cX7_feed 5 (some .int) :: ([.constantLong RX7 52 (8), .fieldLink RX7 58 "KinCutleryModel" "taped" "I", .fieldLink RX7 22 "KinCutleryModel" "tape" "[I", .constantLong RX7 62 (255), .methodLink RX7 54 yX7_isIn, .static yX7_isIn, .initialized RX7, .code yX7_isIn cX7_isIn 6 (some .boolean)] ++ wsX70)
def wsX7_isAlpha : List Cond := .code yX7_isAlpha cX7_isAlpha 1 (some .boolean) :: ([])
def wsX7_isDigit : List Cond := .code yX7_isDigit cX7_isDigit 1 (some .boolean) :: ([])
def wsX7_byteAt : List Cond := .code yX7_byteAt cX7_byteAt 2 (some .int) :: ([.fieldLink RX7 58 "KinCutleryModel" "taped" "I", .fieldLink RX7 22 "KinCutleryModel" "tape" "[I"] ++ wsX70)
def wsX7_nextToken : List Cond := .code yX7_nextToken cX7_nextToken 2 none :: ([.fieldLink RX7 64 "KinCutleryModel" "to" "I", .fieldLink RX7 67 "KinCutleryModel" "from" "I", .fieldLink RX7 81 "KinCutleryModel" "token" "I", .fieldLink RX7 84 "KinCutleryModel" "value" "I", .methodLink RX7 70 yX7_byteAt, .instanceMethod yX7_byteAt, .selects RX7 yX7_byteAt yX7_byteAt, .initialized RX7, .code yX7_byteAt cX7_byteAt 2 (some .int), .fieldLink RX7 58 "KinCutleryModel" "taped" "I", .fieldLink RX7 22 "KinCutleryModel" "tape" "[I", .methodLink RX7 74 yX7_isAlpha, .static yX7_isAlpha, .code yX7_isAlpha cX7_isAlpha 1 (some .boolean), .methodLink RX7 78 yX7_isDigit, .static yX7_isDigit, .code yX7_isDigit cX7_isDigit 1 (some .boolean)] ++ wsX70)
def wsX7_needs : List Cond := .code yX7_needs cX7_needs 2 none :: ([.fieldLink RX7 87 "KinCutleryModel" "isWrong" "Z", .methodLink RX7 91 yX7_nextToken, .instanceMethod yX7_nextToken, .selects RX7 yX7_nextToken yX7_nextToken, .initialized RX7, .code yX7_nextToken cX7_nextToken 2 none, .fieldLink RX7 64 "KinCutleryModel" "to" "I", .fieldLink RX7 67 "KinCutleryModel" "from" "I", .fieldLink RX7 81 "KinCutleryModel" "token" "I", .fieldLink RX7 84 "KinCutleryModel" "value" "I", .methodLink RX7 70 yX7_byteAt, .instanceMethod yX7_byteAt, .selects RX7 yX7_byteAt yX7_byteAt, .code yX7_byteAt cX7_byteAt 2 (some .int), .fieldLink RX7 58 "KinCutleryModel" "taped" "I", .fieldLink RX7 22 "KinCutleryModel" "tape" "[I", .methodLink RX7 74 yX7_isAlpha, .static yX7_isAlpha, .code yX7_isAlpha cX7_isAlpha 1 (some .boolean), .methodLink RX7 78 yX7_isDigit, .static yX7_isDigit, .code yX7_isDigit cX7_isDigit 1 (some .boolean)] ++ wsX70)
def wsX7_isName : List Cond := .code yX7_isName cX7_isName 6 (some .boolean) :: ([.fieldLink RX7 81 "KinCutleryModel" "token" "I", .fieldLink RX7 64 "KinCutleryModel" "to" "I", .fieldLink RX7 67 "KinCutleryModel" "from" "I", .methodLink RX7 70 yX7_byteAt, .instanceMethod yX7_byteAt, .selects RX7 yX7_byteAt yX7_byteAt, .initialized RX7, .code yX7_byteAt cX7_byteAt 2 (some .int), .fieldLink RX7 58 "KinCutleryModel" "taped" "I", .fieldLink RX7 22 "KinCutleryModel" "tape" "[I"] ++ wsX70)
def wsX7_isSame : List Cond := .code yX7_isSame cX7_isSame 5 (some .boolean) :: ([.fieldLink RX7 67 "KinCutleryModel" "from" "I", .methodLink RX7 70 yX7_byteAt, .instanceMethod yX7_byteAt, .selects RX7 yX7_byteAt yX7_byteAt, .initialized RX7, .code yX7_byteAt cX7_byteAt 2 (some .int), .fieldLink RX7 58 "KinCutleryModel" "taped" "I", .fieldLink RX7 22 "KinCutleryModel" "tape" "[I"] ++ wsX70)
def wsX7_isFour : List Cond := .code yX7_isFour cX7_isFour 5 (some .boolean) :: ([.methodLink RX7 94 yX7_isName, .instanceMethod yX7_isName, .selects RX7 yX7_isName yX7_isName, .initialized RX7, .code yX7_isName cX7_isName 6 (some .boolean), .fieldLink RX7 81 "KinCutleryModel" "token" "I", .fieldLink RX7 64 "KinCutleryModel" "to" "I", .fieldLink RX7 67 "KinCutleryModel" "from" "I", .methodLink RX7 70 yX7_byteAt, .instanceMethod yX7_byteAt, .selects RX7 yX7_byteAt yX7_byteAt, .code yX7_byteAt cX7_byteAt 2 (some .int), .fieldLink RX7 58 "KinCutleryModel" "taped" "I", .fieldLink RX7 22 "KinCutleryModel" "tape" "[I"] ++ wsX70)
def wsX7_isFive : List Cond := .code yX7_isFive cX7_isFive 6 (some .boolean) :: ([.fieldLink RX7 67 "KinCutleryModel" "from" "I", .methodLink RX7 94 yX7_isName, .instanceMethod yX7_isName, .selects RX7 yX7_isName yX7_isName, .initialized RX7, .code yX7_isName cX7_isName 6 (some .boolean), .fieldLink RX7 81 "KinCutleryModel" "token" "I", .fieldLink RX7 64 "KinCutleryModel" "to" "I", .methodLink RX7 70 yX7_byteAt, .instanceMethod yX7_byteAt, .selects RX7 yX7_byteAt yX7_byteAt, .code yX7_byteAt cX7_byteAt 2 (some .int), .fieldLink RX7 58 "KinCutleryModel" "taped" "I", .fieldLink RX7 22 "KinCutleryModel" "tape" "[I"] ++ wsX70)
def wsX7_kindHere_r1 : List Cond := [Cond.methodLink RX7 98 yX7_isFive, Cond.instanceMethod yX7_isFive, Cond.selects RX7 yX7_isFive yX7_isFive, Cond.initialized RX7, Cond.code yX7_isFive cX7_isFive 6 (some .boolean), Cond.fieldLink RX7 67 "KinCutleryModel" "from" "I", Cond.methodLink RX7 94 yX7_isName, Cond.instanceMethod yX7_isName, Cond.selects RX7 yX7_isName yX7_isName, Cond.code yX7_isName cX7_isName 6 (some .boolean), Cond.fieldLink RX7 81 "KinCutleryModel" "token" "I", Cond.fieldLink RX7 64 "KinCutleryModel" "to" "I", Cond.methodLink RX7 70 yX7_byteAt, Cond.instanceMethod yX7_byteAt, Cond.selects RX7 yX7_byteAt yX7_byteAt, Cond.code yX7_byteAt cX7_byteAt 2 (some .int), Cond.fieldLink RX7 58 "KinCutleryModel" "taped" "I", Cond.fieldLink RX7 22 "KinCutleryModel" "tape" "[I", Cond.methodLink RX7 101 yX7_isSame, Cond.instanceMethod yX7_isSame, Cond.selects RX7 yX7_isSame yX7_isSame, Cond.code yX7_isSame cX7_isSame 5 (some .boolean), Cond.methodLink RX7 105 yX7_isFour, Cond.instanceMethod yX7_isFour]
def wsX7_kindHere_r2 : List Cond := [Cond.selects RX7 yX7_isFour yX7_isFour, Cond.code yX7_isFour cX7_isFour 5 (some .boolean)]
def wsX7_kindHere : List Cond := .code yX7_kindHere cX7_kindHere 1 (some .int) :: ((wsX7_kindHere_r1 ++ wsX7_kindHere_r2) ++ wsX70)
def wsX7_numberTo_r1 : List Cond := [Cond.fieldLink RX7 81 "KinCutleryModel" "token" "I", Cond.fieldLink RX7 64 "KinCutleryModel" "to" "I", Cond.fieldLink RX7 67 "KinCutleryModel" "from" "I", Cond.fieldLink RX7 84 "KinCutleryModel" "value" "I", Cond.fieldLink RX7 87 "KinCutleryModel" "isWrong" "Z", Cond.fieldLink RX7 7 "KinCutleryModel" "s" "[I", Cond.methodLink RX7 108 yX7_needs, Cond.instanceMethod yX7_needs, Cond.selects RX7 yX7_needs yX7_needs, Cond.initialized RX7, Cond.code yX7_needs cX7_needs 2 none, Cond.methodLink RX7 91 yX7_nextToken, Cond.instanceMethod yX7_nextToken, Cond.selects RX7 yX7_nextToken yX7_nextToken, Cond.code yX7_nextToken cX7_nextToken 2 none, Cond.methodLink RX7 70 yX7_byteAt, Cond.instanceMethod yX7_byteAt, Cond.selects RX7 yX7_byteAt yX7_byteAt, Cond.code yX7_byteAt cX7_byteAt 2 (some .int), Cond.fieldLink RX7 58 "KinCutleryModel" "taped" "I", Cond.fieldLink RX7 22 "KinCutleryModel" "tape" "[I", Cond.methodLink RX7 74 yX7_isAlpha, Cond.static yX7_isAlpha, Cond.code yX7_isAlpha cX7_isAlpha 1 (some .boolean)]
def wsX7_numberTo_r2 : List Cond := [Cond.methodLink RX7 78 yX7_isDigit, Cond.static yX7_isDigit, Cond.code yX7_isDigit cX7_isDigit 1 (some .boolean)]
def wsX7_numberTo : List Cond := .code yX7_numberTo cX7_numberTo 4 none :: ((wsX7_numberTo_r1 ++ wsX7_numberTo_r2) ++ wsX70)
def wsX7_comes : List Cond := .code yX7_comes cX7_comes 4 none :: ([.fieldLink RX7 7 "KinCutleryModel" "s" "[I"] ++ wsX70)
def wsX7_guestHere_r1 : List Cond := [Cond.fieldLink RX7 7 "KinCutleryModel" "s" "[I", Cond.fieldLink RX7 87 "KinCutleryModel" "isWrong" "Z", Cond.methodLink RX7 108 yX7_needs, Cond.instanceMethod yX7_needs, Cond.selects RX7 yX7_needs yX7_needs, Cond.initialized RX7, Cond.code yX7_needs cX7_needs 2 none, Cond.methodLink RX7 91 yX7_nextToken, Cond.instanceMethod yX7_nextToken, Cond.selects RX7 yX7_nextToken yX7_nextToken, Cond.code yX7_nextToken cX7_nextToken 2 none, Cond.fieldLink RX7 64 "KinCutleryModel" "to" "I", Cond.fieldLink RX7 67 "KinCutleryModel" "from" "I", Cond.fieldLink RX7 81 "KinCutleryModel" "token" "I", Cond.fieldLink RX7 84 "KinCutleryModel" "value" "I", Cond.methodLink RX7 70 yX7_byteAt, Cond.instanceMethod yX7_byteAt, Cond.selects RX7 yX7_byteAt yX7_byteAt, Cond.code yX7_byteAt cX7_byteAt 2 (some .int), Cond.fieldLink RX7 58 "KinCutleryModel" "taped" "I", Cond.fieldLink RX7 22 "KinCutleryModel" "tape" "[I", Cond.methodLink RX7 74 yX7_isAlpha, Cond.static yX7_isAlpha, Cond.code yX7_isAlpha cX7_isAlpha 1 (some .boolean)]
def wsX7_guestHere_r2 : List Cond := [Cond.methodLink RX7 78 yX7_isDigit, Cond.static yX7_isDigit, Cond.code yX7_isDigit cX7_isDigit 1 (some .boolean), Cond.methodLink RX7 105 yX7_isFour, Cond.instanceMethod yX7_isFour, Cond.selects RX7 yX7_isFour yX7_isFour, Cond.code yX7_isFour cX7_isFour 5 (some .boolean), Cond.methodLink RX7 94 yX7_isName, Cond.instanceMethod yX7_isName, Cond.selects RX7 yX7_isName yX7_isName, Cond.code yX7_isName cX7_isName 6 (some .boolean), Cond.methodLink RX7 112 yX7_comes, Cond.instanceMethod yX7_comes, Cond.selects RX7 yX7_comes yX7_comes, Cond.code yX7_comes cX7_comes 4 none, Cond.methodLink RX7 116 yX7_numberTo, Cond.instanceMethod yX7_numberTo, Cond.selects RX7 yX7_numberTo yX7_numberTo, Cond.code yX7_numberTo cX7_numberTo 4 none, Cond.methodLink RX7 101 yX7_isSame, Cond.instanceMethod yX7_isSame, Cond.selects RX7 yX7_isSame yX7_isSame, Cond.code yX7_isSame cX7_isSame 5 (some .boolean)]
def wsX7_guestHere : List Cond := .code yX7_guestHere cX7_guestHere 3 none :: ((wsX7_guestHere_r1 ++ wsX7_guestHere_r2) ++ wsX70)
def wsX7_lawHere_r1 : List Cond := [Cond.methodLink RX7 94 yX7_isName, Cond.instanceMethod yX7_isName, Cond.selects RX7 yX7_isName yX7_isName, Cond.initialized RX7, Cond.code yX7_isName cX7_isName 6 (some .boolean), Cond.fieldLink RX7 81 "KinCutleryModel" "token" "I", Cond.fieldLink RX7 64 "KinCutleryModel" "to" "I", Cond.fieldLink RX7 67 "KinCutleryModel" "from" "I", Cond.methodLink RX7 70 yX7_byteAt, Cond.instanceMethod yX7_byteAt, Cond.selects RX7 yX7_byteAt yX7_byteAt, Cond.code yX7_byteAt cX7_byteAt 2 (some .int), Cond.fieldLink RX7 58 "KinCutleryModel" "taped" "I", Cond.fieldLink RX7 22 "KinCutleryModel" "tape" "[I", Cond.methodLink RX7 101 yX7_isSame, Cond.instanceMethod yX7_isSame, Cond.selects RX7 yX7_isSame yX7_isSame, Cond.code yX7_isSame cX7_isSame 5 (some .boolean), Cond.methodLink RX7 105 yX7_isFour, Cond.instanceMethod yX7_isFour, Cond.selects RX7 yX7_isFour yX7_isFour, Cond.code yX7_isFour cX7_isFour 5 (some .boolean), Cond.methodLink RX7 98 yX7_isFive, Cond.instanceMethod yX7_isFive]
def wsX7_lawHere_r2 : List Cond := [Cond.selects RX7 yX7_isFive yX7_isFive, Cond.code yX7_isFive cX7_isFive 6 (some .boolean)]
def wsX7_lawHere : List Cond := .code yX7_lawHere cX7_lawHere 1 (some .int) :: ((wsX7_lawHere_r1 ++ wsX7_lawHere_r2) ++ wsX70)
def wsX7_mostOf : List Cond := .code yX7_mostOf cX7_mostOf 1 (some .int) :: ([])
def wsX7_itemHere_r1 : List Cond := [Cond.fieldLink RX7 87 "KinCutleryModel" "isWrong" "Z", Cond.fieldLink RX7 81 "KinCutleryModel" "token" "I", Cond.fieldLink RX7 67 "KinCutleryModel" "from" "I", Cond.methodLink RX7 119 yX7_kindHere, Cond.instanceMethod yX7_kindHere, Cond.selects RX7 yX7_kindHere yX7_kindHere, Cond.initialized RX7, Cond.code yX7_kindHere cX7_kindHere 1 (some .int), Cond.methodLink RX7 98 yX7_isFive, Cond.instanceMethod yX7_isFive, Cond.selects RX7 yX7_isFive yX7_isFive, Cond.code yX7_isFive cX7_isFive 6 (some .boolean), Cond.methodLink RX7 94 yX7_isName, Cond.instanceMethod yX7_isName, Cond.selects RX7 yX7_isName yX7_isName, Cond.code yX7_isName cX7_isName 6 (some .boolean), Cond.fieldLink RX7 64 "KinCutleryModel" "to" "I", Cond.methodLink RX7 70 yX7_byteAt, Cond.instanceMethod yX7_byteAt, Cond.selects RX7 yX7_byteAt yX7_byteAt, Cond.code yX7_byteAt cX7_byteAt 2 (some .int), Cond.fieldLink RX7 58 "KinCutleryModel" "taped" "I", Cond.fieldLink RX7 22 "KinCutleryModel" "tape" "[I", Cond.methodLink RX7 101 yX7_isSame]
def wsX7_itemHere_r2 : List Cond := [Cond.instanceMethod yX7_isSame, Cond.selects RX7 yX7_isSame yX7_isSame, Cond.code yX7_isSame cX7_isSame 5 (some .boolean), Cond.methodLink RX7 105 yX7_isFour, Cond.instanceMethod yX7_isFour, Cond.selects RX7 yX7_isFour yX7_isFour, Cond.code yX7_isFour cX7_isFour 5 (some .boolean), Cond.methodLink RX7 123 yX7_lawHere, Cond.instanceMethod yX7_lawHere, Cond.selects RX7 yX7_lawHere yX7_lawHere, Cond.code yX7_lawHere cX7_lawHere 1 (some .int), Cond.methodLink RX7 126 yX7_guestHere, Cond.instanceMethod yX7_guestHere, Cond.selects RX7 yX7_guestHere yX7_guestHere, Cond.code yX7_guestHere cX7_guestHere 3 none, Cond.fieldLink RX7 7 "KinCutleryModel" "s" "[I", Cond.methodLink RX7 108 yX7_needs, Cond.instanceMethod yX7_needs, Cond.selects RX7 yX7_needs yX7_needs, Cond.code yX7_needs cX7_needs 2 none, Cond.methodLink RX7 91 yX7_nextToken, Cond.instanceMethod yX7_nextToken, Cond.selects RX7 yX7_nextToken yX7_nextToken, Cond.code yX7_nextToken cX7_nextToken 2 none]
def wsX7_itemHere_r3 : List Cond := [Cond.fieldLink RX7 84 "KinCutleryModel" "value" "I", Cond.methodLink RX7 74 yX7_isAlpha, Cond.static yX7_isAlpha, Cond.code yX7_isAlpha cX7_isAlpha 1 (some .boolean), Cond.methodLink RX7 78 yX7_isDigit, Cond.static yX7_isDigit, Cond.code yX7_isDigit cX7_isDigit 1 (some .boolean), Cond.methodLink RX7 112 yX7_comes, Cond.instanceMethod yX7_comes, Cond.selects RX7 yX7_comes yX7_comes, Cond.code yX7_comes cX7_comes 4 none, Cond.methodLink RX7 116 yX7_numberTo, Cond.instanceMethod yX7_numberTo, Cond.selects RX7 yX7_numberTo yX7_numberTo, Cond.code yX7_numberTo cX7_numberTo 4 none, Cond.methodLink RX7 130 yX7_mostOf, Cond.static yX7_mostOf, Cond.code yX7_mostOf cX7_mostOf 1 (some .int)]
def wsX7_itemHere : List Cond := .code yX7_itemHere cX7_itemHere 3 none :: ((wsX7_itemHere_r1 ++ (wsX7_itemHere_r2 ++ wsX7_itemHere_r3)) ++ wsX70)
def wsX7_feast_r1 : List Cond := [Cond.fieldLink RX7 7 "KinCutleryModel" "s" "[I", Cond.fieldLink RX7 19 "KinCutleryModel" "before" "[I", Cond.fieldLink RX7 64 "KinCutleryModel" "to" "I", Cond.fieldLink RX7 87 "KinCutleryModel" "isWrong" "Z", Cond.fieldLink RX7 81 "KinCutleryModel" "token" "I", Cond.fieldLink RX7 58 "KinCutleryModel" "taped" "I", Cond.fieldLink RX7 67 "KinCutleryModel" "from" "I", Cond.fieldLink RX7 140 "KinCutleryModel" "rowN" "I", Cond.methodLink RX7 133 yX7_copyRow, Cond.static yX7_copyRow, Cond.initialized RX7, Cond.code yX7_copyRow cX7_copyRow 3 none, Cond.methodLink RX7 49 yX7_begins, Cond.instanceMethod yX7_begins, Cond.selects RX7 yX7_begins yX7_begins, Cond.code yX7_begins cX7_begins 3 none, Cond.methodLink RX7 91 yX7_nextToken, Cond.instanceMethod yX7_nextToken, Cond.selects RX7 yX7_nextToken yX7_nextToken, Cond.code yX7_nextToken cX7_nextToken 2 none, Cond.fieldLink RX7 84 "KinCutleryModel" "value" "I", Cond.methodLink RX7 70 yX7_byteAt, Cond.instanceMethod yX7_byteAt, Cond.selects RX7 yX7_byteAt yX7_byteAt]
def wsX7_feast_r2 : List Cond := [Cond.code yX7_byteAt cX7_byteAt 2 (some .int), Cond.fieldLink RX7 22 "KinCutleryModel" "tape" "[I", Cond.methodLink RX7 74 yX7_isAlpha, Cond.static yX7_isAlpha, Cond.code yX7_isAlpha cX7_isAlpha 1 (some .boolean), Cond.methodLink RX7 78 yX7_isDigit, Cond.static yX7_isDigit, Cond.code yX7_isDigit cX7_isDigit 1 (some .boolean), Cond.methodLink RX7 137 yX7_itemHere, Cond.instanceMethod yX7_itemHere, Cond.selects RX7 yX7_itemHere yX7_itemHere, Cond.code yX7_itemHere cX7_itemHere 3 none, Cond.methodLink RX7 119 yX7_kindHere, Cond.instanceMethod yX7_kindHere, Cond.selects RX7 yX7_kindHere yX7_kindHere, Cond.code yX7_kindHere cX7_kindHere 1 (some .int), Cond.methodLink RX7 98 yX7_isFive, Cond.instanceMethod yX7_isFive, Cond.selects RX7 yX7_isFive yX7_isFive, Cond.code yX7_isFive cX7_isFive 6 (some .boolean), Cond.methodLink RX7 94 yX7_isName, Cond.instanceMethod yX7_isName, Cond.selects RX7 yX7_isName yX7_isName, Cond.code yX7_isName cX7_isName 6 (some .boolean)]
def wsX7_feast_r3 : List Cond := [Cond.methodLink RX7 101 yX7_isSame, Cond.instanceMethod yX7_isSame, Cond.selects RX7 yX7_isSame yX7_isSame, Cond.code yX7_isSame cX7_isSame 5 (some .boolean), Cond.methodLink RX7 105 yX7_isFour, Cond.instanceMethod yX7_isFour, Cond.selects RX7 yX7_isFour yX7_isFour, Cond.code yX7_isFour cX7_isFour 5 (some .boolean), Cond.methodLink RX7 123 yX7_lawHere, Cond.instanceMethod yX7_lawHere, Cond.selects RX7 yX7_lawHere yX7_lawHere, Cond.code yX7_lawHere cX7_lawHere 1 (some .int), Cond.methodLink RX7 126 yX7_guestHere, Cond.instanceMethod yX7_guestHere, Cond.selects RX7 yX7_guestHere yX7_guestHere, Cond.code yX7_guestHere cX7_guestHere 3 none, Cond.methodLink RX7 108 yX7_needs, Cond.instanceMethod yX7_needs, Cond.selects RX7 yX7_needs yX7_needs, Cond.code yX7_needs cX7_needs 2 none, Cond.methodLink RX7 112 yX7_comes, Cond.instanceMethod yX7_comes, Cond.selects RX7 yX7_comes yX7_comes, Cond.code yX7_comes cX7_comes 4 none]
def wsX7_feast_r4 : List Cond := [Cond.methodLink RX7 116 yX7_numberTo, Cond.instanceMethod yX7_numberTo, Cond.selects RX7 yX7_numberTo yX7_numberTo, Cond.code yX7_numberTo cX7_numberTo 4 none, Cond.methodLink RX7 130 yX7_mostOf, Cond.static yX7_mostOf, Cond.code yX7_mostOf cX7_mostOf 1 (some .int)]
def wsX7_feast : List Cond := .code yX7_feast cX7_feast 1 (some .int) :: ((wsX7_feast_r1 ++ (wsX7_feast_r2 ++ (wsX7_feast_r3 ++ wsX7_feast_r4))) ++ wsX70)
def wsX7_set : List Cond := .code yX7_set cX7_set 3 (some .int) :: ([.constantLong RX7 143 (3), .methodLink RX7 54 yX7_isIn, .static yX7_isIn, .initialized RX7, .code yX7_isIn cX7_isIn 6 (some .boolean), .methodLink RX7 130 yX7_mostOf, .static yX7_mostOf, .code yX7_mostOf cX7_mostOf 1 (some .int), .methodLink RX7 145 yX7_becomes, .instanceMethod yX7_becomes, .selects RX7 yX7_becomes yX7_becomes, .code yX7_becomes cX7_becomes 4 (some .int), .fieldLink RX7 7 "KinCutleryModel" "s" "[I"] ++ wsX70)
def wsX7_lawOf : List Cond := .code yX7_lawOf cX7_lawOf 2 (some .int) :: ([.constantLong RX7 143 (3), .fieldLink RX7 7 "KinCutleryModel" "s" "[I", .methodLink RX7 54 yX7_isIn, .static yX7_isIn, .initialized RX7, .code yX7_isIn cX7_isIn 6 (some .boolean)] ++ wsX70)
def wsX7_isPiece : List Cond := .code yX7_isPiece cX7_isPiece 1 (some .boolean) :: ([.constantLong RX7 149 (7), .methodLink RX7 54 yX7_isIn, .static yX7_isIn, .initialized RX7, .code yX7_isIn cX7_isIn 6 (some .boolean)])
def wsX7_guest : List Cond := .code yX7_guest cX7_guest 3 (some .int) :: ([.constantLong RX7 151 (5), .fieldLink RX7 7 "KinCutleryModel" "s" "[I", .methodLink RX7 54 yX7_isIn, .static yX7_isIn, .initialized RX7, .code yX7_isIn cX7_isIn 6 (some .boolean), .methodLink RX7 153 yX7_isPiece, .static yX7_isPiece, .code yX7_isPiece cX7_isPiece 1 (some .boolean), .constantLong RX7 149 (7), .methodLink RX7 112 yX7_comes, .instanceMethod yX7_comes, .selects RX7 yX7_comes yX7_comes, .code yX7_comes cX7_comes 4 none] ++ wsX70)
def wsX7_next : List Cond := .code yX7_next cX7_next 1 (some .int) :: ([.fieldLink RX7 7 "KinCutleryModel" "s" "[I"] ++ wsX70)
def wsX7_takes : List Cond := .code yX7_takes cX7_takes 3 (some .int) :: ([.fieldLink RX7 7 "KinCutleryModel" "s" "[I", .methodLink RX7 156 yX7_its, .instanceMethod yX7_its, .selects RX7 yX7_its yX7_its, .initialized RX7, .code yX7_its cX7_its 3 (some .int), .methodLink RX7 159 yX7_next, .instanceMethod yX7_next, .selects RX7 yX7_next yX7_next, .code yX7_next cX7_next 1 (some .int)] ++ wsX70)
def wsX7_needsOf : List Cond := .code yX7_needsOf cX7_needsOf 2 (some .int) :: ([.fieldLink RX7 7 "KinCutleryModel" "s" "[I", .methodLink RX7 156 yX7_its, .instanceMethod yX7_its, .selects RX7 yX7_its yX7_its, .initialized RX7, .code yX7_its cX7_its 3 (some .int)] ++ wsX70)
def wsX7_costs : List Cond := .code yX7_costs cX7_costs 2 (some .int) :: ([.fieldLink RX7 7 "KinCutleryModel" "s" "[I", .methodLink RX7 156 yX7_its, .instanceMethod yX7_its, .selects RX7 yX7_its yX7_its, .initialized RX7, .code yX7_its cX7_its 3 (some .int)] ++ wsX70)
def wsX7_of : List Cond := .code yX7_of cX7_of 3 (some .int) :: ([.constantLong RX7 165 (4), .methodLink RX7 162 yX7_isOne, .instanceMethod yX7_isOne, .selects RX7 yX7_isOne yX7_isOne, .initialized RX7, .code yX7_isOne cX7_isOne 2 (some .boolean), .fieldLink RX7 7 "KinCutleryModel" "s" "[I", .methodLink RX7 54 yX7_isIn, .static yX7_isIn, .code yX7_isIn cX7_isIn 6 (some .boolean), .methodLink RX7 156 yX7_its, .instanceMethod yX7_its, .selects RX7 yX7_its yX7_its, .code yX7_its cX7_its 3 (some .int)] ++ wsX70)
def wsX7_does_r1 : List Cond := [Cond.constantLong RX7 167 (2), Cond.methodLink RX7 162 yX7_isOne, Cond.instanceMethod yX7_isOne, Cond.selects RX7 yX7_isOne yX7_isOne, Cond.initialized RX7, Cond.code yX7_isOne cX7_isOne 2 (some .boolean), Cond.fieldLink RX7 7 "KinCutleryModel" "s" "[I", Cond.methodLink RX7 54 yX7_isIn, Cond.static yX7_isIn, Cond.code yX7_isIn cX7_isIn 6 (some .boolean), Cond.methodLink RX7 169 yX7_takes, Cond.instanceMethod yX7_takes, Cond.selects RX7 yX7_takes yX7_takes, Cond.code yX7_takes cX7_takes 3 (some .int), Cond.methodLink RX7 156 yX7_its, Cond.instanceMethod yX7_its, Cond.selects RX7 yX7_its yX7_its, Cond.code yX7_its cX7_its 3 (some .int), Cond.methodLink RX7 159 yX7_next, Cond.instanceMethod yX7_next, Cond.selects RX7 yX7_next yX7_next, Cond.code yX7_next cX7_next 1 (some .int), Cond.methodLink RX7 172 yX7_needsOf, Cond.instanceMethod yX7_needsOf]
def wsX7_does_r2 : List Cond := [Cond.selects RX7 yX7_needsOf yX7_needsOf, Cond.code yX7_needsOf cX7_needsOf 2 (some .int), Cond.methodLink RX7 175 yX7_costs, Cond.instanceMethod yX7_costs, Cond.selects RX7 yX7_costs yX7_costs, Cond.code yX7_costs cX7_costs 2 (some .int)]
def wsX7_does : List Cond := .code yX7_does cX7_does 3 (some .int) :: ((wsX7_does_r1 ++ wsX7_does_r2) ++ wsX70)
def wsX7_mind : List Cond := .code yX7_mind cX7_mind 3 (some .int) :: ([.constantLong RX7 151 (5), .methodLink RX7 162 yX7_isOne, .instanceMethod yX7_isOne, .selects RX7 yX7_isOne yX7_isOne, .initialized RX7, .code yX7_isOne cX7_isOne 2 (some .boolean), .fieldLink RX7 7 "KinCutleryModel" "s" "[I", .methodLink RX7 54 yX7_isIn, .static yX7_isIn, .code yX7_isIn cX7_isIn 6 (some .boolean), .methodLink RX7 145 yX7_becomes, .instanceMethod yX7_becomes, .selects RX7 yX7_becomes yX7_becomes, .code yX7_becomes cX7_becomes 4 (some .int)] ++ wsX70)
def wsX7_give : List Cond := .code yX7_give cX7_give 3 (some .int) :: ([.methodLink RX7 162 yX7_isOne, .instanceMethod yX7_isOne, .selects RX7 yX7_isOne yX7_isOne, .initialized RX7, .code yX7_isOne cX7_isOne 2 (some .boolean), .fieldLink RX7 7 "KinCutleryModel" "s" "[I", .methodLink RX7 153 yX7_isPiece, .static yX7_isPiece, .code yX7_isPiece cX7_isPiece 1 (some .boolean), .constantLong RX7 149 (7), .methodLink RX7 54 yX7_isIn, .static yX7_isIn, .code yX7_isIn cX7_isIn 6 (some .boolean), .methodLink RX7 145 yX7_becomes, .instanceMethod yX7_becomes, .selects RX7 yX7_becomes yX7_becomes, .code yX7_becomes cX7_becomes 4 (some .int)] ++ wsX70)
def wsX7_sink : List Cond := .code yX7_sink cX7_sink 4 (some .int) :: ([.constantLong RX7 178 (99), .methodLink RX7 162 yX7_isOne, .instanceMethod yX7_isOne, .selects RX7 yX7_isOne yX7_isOne, .initialized RX7, .code yX7_isOne cX7_isOne 2 (some .boolean), .fieldLink RX7 7 "KinCutleryModel" "s" "[I", .methodLink RX7 54 yX7_isIn, .static yX7_isIn, .code yX7_isIn cX7_isIn 6 (some .boolean), .methodLink RX7 145 yX7_becomes, .instanceMethod yX7_becomes, .selects RX7 yX7_becomes yX7_becomes, .code yX7_becomes cX7_becomes 4 (some .int)] ++ wsX70)
def wsX7_teller : List Cond := .code yX7_teller cX7_teller 3 (some .int) :: ([.fieldLink RX7 7 "KinCutleryModel" "s" "[I", .methodLink RX7 159 yX7_next, .instanceMethod yX7_next, .selects RX7 yX7_next yX7_next, .initialized RX7, .code yX7_next cX7_next 1 (some .int), .methodLink RX7 156 yX7_its, .instanceMethod yX7_its, .selects RX7 yX7_its yX7_its, .code yX7_its cX7_its 3 (some .int), .methodLink RX7 172 yX7_needsOf, .instanceMethod yX7_needsOf, .selects RX7 yX7_needsOf yX7_needsOf, .code yX7_needsOf cX7_needsOf 2 (some .int)] ++ wsX70)
def wsX7_tellsNext : List Cond := .code yX7_tellsNext cX7_tellsNext 4 none :: ([.fieldLink RX7 7 "KinCutleryModel" "s" "[I", .constant RX7 180 (99999), .methodLink RX7 175 yX7_costs, .instanceMethod yX7_costs, .selects RX7 yX7_costs yX7_costs, .initialized RX7, .code yX7_costs cX7_costs 2 (some .int), .methodLink RX7 156 yX7_its, .instanceMethod yX7_its, .selects RX7 yX7_its yX7_its, .code yX7_its cX7_its 3 (some .int), .methodLink RX7 181 yX7_least, .static yX7_least, .code yX7_least cX7_least 2 (some .int), .methodLink RX7 184 yX7_within, .static yX7_within, .code yX7_within cX7_within 1 (some .int)] ++ wsX70)
def wsX7_goesOn_r1 : List Cond := [Cond.fieldLink RX7 7 "KinCutleryModel" "s" "[I", Cond.methodLink RX7 169 yX7_takes, Cond.instanceMethod yX7_takes, Cond.selects RX7 yX7_takes yX7_takes, Cond.initialized RX7, Cond.code yX7_takes cX7_takes 3 (some .int), Cond.methodLink RX7 156 yX7_its, Cond.instanceMethod yX7_its, Cond.selects RX7 yX7_its yX7_its, Cond.code yX7_its cX7_its 3 (some .int), Cond.methodLink RX7 159 yX7_next, Cond.instanceMethod yX7_next, Cond.selects RX7 yX7_next yX7_next, Cond.code yX7_next cX7_next 1 (some .int), Cond.methodLink RX7 184 yX7_within, Cond.static yX7_within, Cond.code yX7_within cX7_within 1 (some .int), Cond.methodLink RX7 187 yX7_teller, Cond.instanceMethod yX7_teller, Cond.selects RX7 yX7_teller yX7_teller, Cond.code yX7_teller cX7_teller 3 (some .int), Cond.methodLink RX7 172 yX7_needsOf, Cond.instanceMethod yX7_needsOf, Cond.selects RX7 yX7_needsOf yX7_needsOf]
def wsX7_goesOn_r2 : List Cond := [Cond.code yX7_needsOf cX7_needsOf 2 (some .int), Cond.methodLink RX7 190 yX7_tellsNext, Cond.instanceMethod yX7_tellsNext, Cond.selects RX7 yX7_tellsNext yX7_tellsNext, Cond.code yX7_tellsNext cX7_tellsNext 4 none, Cond.constant RX7 180 (99999), Cond.methodLink RX7 175 yX7_costs, Cond.instanceMethod yX7_costs, Cond.selects RX7 yX7_costs yX7_costs, Cond.code yX7_costs cX7_costs 2 (some .int), Cond.methodLink RX7 181 yX7_least, Cond.static yX7_least, Cond.code yX7_least cX7_least 2 (some .int)]
def wsX7_goesOn : List Cond := .code yX7_goesOn cX7_goesOn 3 none :: ((wsX7_goesOn_r1 ++ wsX7_goesOn_r2) ++ wsX70)
def wsX7_goesOnMany_r1 : List Cond := [Cond.methodLink RX7 193 yX7_goesOn, Cond.instanceMethod yX7_goesOn, Cond.selects RX7 yX7_goesOn yX7_goesOn, Cond.initialized RX7, Cond.code yX7_goesOn cX7_goesOn 3 none, Cond.fieldLink RX7 7 "KinCutleryModel" "s" "[I", Cond.methodLink RX7 169 yX7_takes, Cond.instanceMethod yX7_takes, Cond.selects RX7 yX7_takes yX7_takes, Cond.code yX7_takes cX7_takes 3 (some .int), Cond.methodLink RX7 156 yX7_its, Cond.instanceMethod yX7_its, Cond.selects RX7 yX7_its yX7_its, Cond.code yX7_its cX7_its 3 (some .int), Cond.methodLink RX7 159 yX7_next, Cond.instanceMethod yX7_next, Cond.selects RX7 yX7_next yX7_next, Cond.code yX7_next cX7_next 1 (some .int), Cond.methodLink RX7 184 yX7_within, Cond.static yX7_within, Cond.code yX7_within cX7_within 1 (some .int), Cond.methodLink RX7 187 yX7_teller, Cond.instanceMethod yX7_teller, Cond.selects RX7 yX7_teller yX7_teller]
def wsX7_goesOnMany_r2 : List Cond := [Cond.code yX7_teller cX7_teller 3 (some .int), Cond.methodLink RX7 172 yX7_needsOf, Cond.instanceMethod yX7_needsOf, Cond.selects RX7 yX7_needsOf yX7_needsOf, Cond.code yX7_needsOf cX7_needsOf 2 (some .int), Cond.methodLink RX7 190 yX7_tellsNext, Cond.instanceMethod yX7_tellsNext, Cond.selects RX7 yX7_tellsNext yX7_tellsNext, Cond.code yX7_tellsNext cX7_tellsNext 4 none, Cond.constant RX7 180 (99999), Cond.methodLink RX7 175 yX7_costs, Cond.instanceMethod yX7_costs, Cond.selects RX7 yX7_costs yX7_costs, Cond.code yX7_costs cX7_costs 2 (some .int), Cond.methodLink RX7 181 yX7_least, Cond.static yX7_least, Cond.code yX7_least cX7_least 2 (some .int)]
def wsX7_goesOnMany : List Cond := .code yX7_goesOnMany cX7_goesOnMany 3 none :: ((wsX7_goesOnMany_r1 ++ wsX7_goesOnMany_r2) ++ wsX70)
def wsX7_courses_r1 : List Cond := [Cond.constantLong RX7 196 (60), Cond.fieldLink RX7 7 "KinCutleryModel" "s" "[I", Cond.methodLink RX7 54 yX7_isIn, Cond.static yX7_isIn, Cond.initialized RX7, Cond.code yX7_isIn cX7_isIn 6 (some .boolean), Cond.methodLink RX7 198 yX7_goesOnMany, Cond.instanceMethod yX7_goesOnMany, Cond.selects RX7 yX7_goesOnMany yX7_goesOnMany, Cond.code yX7_goesOnMany cX7_goesOnMany 3 none, Cond.methodLink RX7 193 yX7_goesOn, Cond.instanceMethod yX7_goesOn, Cond.selects RX7 yX7_goesOn yX7_goesOn, Cond.code yX7_goesOn cX7_goesOn 3 none, Cond.methodLink RX7 169 yX7_takes, Cond.instanceMethod yX7_takes, Cond.selects RX7 yX7_takes yX7_takes, Cond.code yX7_takes cX7_takes 3 (some .int), Cond.methodLink RX7 156 yX7_its, Cond.instanceMethod yX7_its, Cond.selects RX7 yX7_its yX7_its, Cond.code yX7_its cX7_its 3 (some .int), Cond.methodLink RX7 159 yX7_next, Cond.instanceMethod yX7_next]
def wsX7_courses_r2 : List Cond := [Cond.selects RX7 yX7_next yX7_next, Cond.code yX7_next cX7_next 1 (some .int), Cond.methodLink RX7 184 yX7_within, Cond.static yX7_within, Cond.code yX7_within cX7_within 1 (some .int), Cond.methodLink RX7 187 yX7_teller, Cond.instanceMethod yX7_teller, Cond.selects RX7 yX7_teller yX7_teller, Cond.code yX7_teller cX7_teller 3 (some .int), Cond.methodLink RX7 172 yX7_needsOf, Cond.instanceMethod yX7_needsOf, Cond.selects RX7 yX7_needsOf yX7_needsOf, Cond.code yX7_needsOf cX7_needsOf 2 (some .int), Cond.methodLink RX7 190 yX7_tellsNext, Cond.instanceMethod yX7_tellsNext, Cond.selects RX7 yX7_tellsNext yX7_tellsNext, Cond.code yX7_tellsNext cX7_tellsNext 4 none, Cond.constant RX7 180 (99999), Cond.methodLink RX7 175 yX7_costs, Cond.instanceMethod yX7_costs, Cond.selects RX7 yX7_costs yX7_costs, Cond.code yX7_costs cX7_costs 2 (some .int), Cond.methodLink RX7 181 yX7_least, Cond.static yX7_least]
def wsX7_courses_r3 : List Cond := [Cond.code yX7_least cX7_least 2 (some .int)]
def wsX7_courses : List Cond := .code yX7_courses cX7_courses 2 (some .int) :: ((wsX7_courses_r1 ++ (wsX7_courses_r2 ++ wsX7_courses_r3)) ++ wsX70)
def wsX7_seed : List Cond := .code yX7_seed cX7_seed 2 (some .int) :: ([.methodLink RX7 145 yX7_becomes, .instanceMethod yX7_becomes, .selects RX7 yX7_becomes yX7_becomes, .initialized RX7, .code yX7_becomes cX7_becomes 4 (some .int), .fieldLink RX7 7 "KinCutleryModel" "s" "[I"] ++ wsX70)
def wsX7_drawn : List Cond := .code yX7_drawn cX7_drawn 1 (some .int) :: ([.fieldLink RX7 7 "KinCutleryModel" "s" "[I", .constant RX7 201 (1103515245)] ++ wsX70)
def wsX7_course_r1 : List Cond := [Cond.fieldLink RX7 7 "KinCutleryModel" "s" "[I", Cond.methodLink RX7 202 yX7_drawn, Cond.instanceMethod yX7_drawn, Cond.selects RX7 yX7_drawn yX7_drawn, Cond.initialized RX7, Cond.code yX7_drawn cX7_drawn 1 (some .int), Cond.constant RX7 201 (1103515245), Cond.methodLink RX7 193 yX7_goesOn, Cond.instanceMethod yX7_goesOn, Cond.selects RX7 yX7_goesOn yX7_goesOn, Cond.code yX7_goesOn cX7_goesOn 3 none, Cond.methodLink RX7 169 yX7_takes, Cond.instanceMethod yX7_takes, Cond.selects RX7 yX7_takes yX7_takes, Cond.code yX7_takes cX7_takes 3 (some .int), Cond.methodLink RX7 156 yX7_its, Cond.instanceMethod yX7_its, Cond.selects RX7 yX7_its yX7_its, Cond.code yX7_its cX7_its 3 (some .int), Cond.methodLink RX7 159 yX7_next, Cond.instanceMethod yX7_next, Cond.selects RX7 yX7_next yX7_next, Cond.code yX7_next cX7_next 1 (some .int), Cond.methodLink RX7 184 yX7_within]
def wsX7_course_r2 : List Cond := [Cond.static yX7_within, Cond.code yX7_within cX7_within 1 (some .int), Cond.methodLink RX7 187 yX7_teller, Cond.instanceMethod yX7_teller, Cond.selects RX7 yX7_teller yX7_teller, Cond.code yX7_teller cX7_teller 3 (some .int), Cond.methodLink RX7 172 yX7_needsOf, Cond.instanceMethod yX7_needsOf, Cond.selects RX7 yX7_needsOf yX7_needsOf, Cond.code yX7_needsOf cX7_needsOf 2 (some .int), Cond.methodLink RX7 190 yX7_tellsNext, Cond.instanceMethod yX7_tellsNext, Cond.selects RX7 yX7_tellsNext yX7_tellsNext, Cond.code yX7_tellsNext cX7_tellsNext 4 none, Cond.constant RX7 180 (99999), Cond.methodLink RX7 175 yX7_costs, Cond.instanceMethod yX7_costs, Cond.selects RX7 yX7_costs yX7_costs, Cond.code yX7_costs cX7_costs 2 (some .int), Cond.methodLink RX7 181 yX7_least, Cond.static yX7_least, Cond.code yX7_least cX7_least 2 (some .int)]
def wsX7_course : List Cond := .code yX7_course cX7_course 2 (some .int) :: ((wsX7_course_r1 ++ wsX7_course_r2) ++ wsX70)
def wsX7_taleBy_r1 : List Cond := [Cond.fieldLink RX7 7 "KinCutleryModel" "s" "[I", Cond.fieldLink RX7 16 "KinCutleryModel" "aside" "[I", Cond.methodLink RX7 133 yX7_copyRow, Cond.static yX7_copyRow, Cond.initialized RX7, Cond.code yX7_copyRow cX7_copyRow 3 none, Cond.methodLink RX7 198 yX7_goesOnMany, Cond.instanceMethod yX7_goesOnMany, Cond.selects RX7 yX7_goesOnMany yX7_goesOnMany, Cond.code yX7_goesOnMany cX7_goesOnMany 3 none, Cond.methodLink RX7 193 yX7_goesOn, Cond.instanceMethod yX7_goesOn, Cond.selects RX7 yX7_goesOn yX7_goesOn, Cond.code yX7_goesOn cX7_goesOn 3 none, Cond.methodLink RX7 169 yX7_takes, Cond.instanceMethod yX7_takes, Cond.selects RX7 yX7_takes yX7_takes, Cond.code yX7_takes cX7_takes 3 (some .int), Cond.methodLink RX7 156 yX7_its, Cond.instanceMethod yX7_its, Cond.selects RX7 yX7_its yX7_its, Cond.code yX7_its cX7_its 3 (some .int), Cond.methodLink RX7 159 yX7_next, Cond.instanceMethod yX7_next]
def wsX7_taleBy_r2 : List Cond := [Cond.selects RX7 yX7_next yX7_next, Cond.code yX7_next cX7_next 1 (some .int), Cond.methodLink RX7 184 yX7_within, Cond.static yX7_within, Cond.code yX7_within cX7_within 1 (some .int), Cond.methodLink RX7 187 yX7_teller, Cond.instanceMethod yX7_teller, Cond.selects RX7 yX7_teller yX7_teller, Cond.code yX7_teller cX7_teller 3 (some .int), Cond.methodLink RX7 172 yX7_needsOf, Cond.instanceMethod yX7_needsOf, Cond.selects RX7 yX7_needsOf yX7_needsOf, Cond.code yX7_needsOf cX7_needsOf 2 (some .int), Cond.methodLink RX7 190 yX7_tellsNext, Cond.instanceMethod yX7_tellsNext, Cond.selects RX7 yX7_tellsNext yX7_tellsNext, Cond.code yX7_tellsNext cX7_tellsNext 4 none, Cond.constant RX7 180 (99999), Cond.methodLink RX7 175 yX7_costs, Cond.instanceMethod yX7_costs, Cond.selects RX7 yX7_costs yX7_costs, Cond.code yX7_costs cX7_costs 2 (some .int), Cond.methodLink RX7 181 yX7_least, Cond.static yX7_least]
def wsX7_taleBy_r3 : List Cond := [Cond.code yX7_least cX7_least 2 (some .int)]
def wsX7_taleBy : List Cond := .code yX7_taleBy cX7_taleBy 3 (some .int) :: ((wsX7_taleBy_r1 ++ (wsX7_taleBy_r2 ++ wsX7_taleBy_r3)) ++ wsX70)
def wsX7_luck_r1 : List Cond := [Cond.constantLong RX7 205 (30), Cond.fieldLink RX7 7 "KinCutleryModel" "s" "[I", Cond.fieldLink RX7 16 "KinCutleryModel" "aside" "[I", Cond.methodLink RX7 54 yX7_isIn, Cond.static yX7_isIn, Cond.initialized RX7, Cond.code yX7_isIn cX7_isIn 6 (some .boolean), Cond.methodLink RX7 207 yX7_taleBy, Cond.instanceMethod yX7_taleBy, Cond.selects RX7 yX7_taleBy yX7_taleBy, Cond.code yX7_taleBy cX7_taleBy 3 (some .int), Cond.methodLink RX7 133 yX7_copyRow, Cond.static yX7_copyRow, Cond.code yX7_copyRow cX7_copyRow 3 none, Cond.methodLink RX7 198 yX7_goesOnMany, Cond.instanceMethod yX7_goesOnMany, Cond.selects RX7 yX7_goesOnMany yX7_goesOnMany, Cond.code yX7_goesOnMany cX7_goesOnMany 3 none, Cond.methodLink RX7 193 yX7_goesOn, Cond.instanceMethod yX7_goesOn, Cond.selects RX7 yX7_goesOn yX7_goesOn, Cond.code yX7_goesOn cX7_goesOn 3 none, Cond.methodLink RX7 169 yX7_takes, Cond.instanceMethod yX7_takes]
def wsX7_luck_r2 : List Cond := [Cond.selects RX7 yX7_takes yX7_takes, Cond.code yX7_takes cX7_takes 3 (some .int), Cond.methodLink RX7 156 yX7_its, Cond.instanceMethod yX7_its, Cond.selects RX7 yX7_its yX7_its, Cond.code yX7_its cX7_its 3 (some .int), Cond.methodLink RX7 159 yX7_next, Cond.instanceMethod yX7_next, Cond.selects RX7 yX7_next yX7_next, Cond.code yX7_next cX7_next 1 (some .int), Cond.methodLink RX7 184 yX7_within, Cond.static yX7_within, Cond.code yX7_within cX7_within 1 (some .int), Cond.methodLink RX7 187 yX7_teller, Cond.instanceMethod yX7_teller, Cond.selects RX7 yX7_teller yX7_teller, Cond.code yX7_teller cX7_teller 3 (some .int), Cond.methodLink RX7 172 yX7_needsOf, Cond.instanceMethod yX7_needsOf, Cond.selects RX7 yX7_needsOf yX7_needsOf, Cond.code yX7_needsOf cX7_needsOf 2 (some .int), Cond.methodLink RX7 190 yX7_tellsNext, Cond.instanceMethod yX7_tellsNext, Cond.selects RX7 yX7_tellsNext yX7_tellsNext]
def wsX7_luck_r3 : List Cond := [Cond.code yX7_tellsNext cX7_tellsNext 4 none, Cond.constant RX7 180 (99999), Cond.methodLink RX7 175 yX7_costs, Cond.instanceMethod yX7_costs, Cond.selects RX7 yX7_costs yX7_costs, Cond.code yX7_costs cX7_costs 2 (some .int), Cond.methodLink RX7 181 yX7_least, Cond.static yX7_least, Cond.code yX7_least cX7_least 2 (some .int), Cond.methodLink RX7 210 yX7_course, Cond.instanceMethod yX7_course, Cond.selects RX7 yX7_course yX7_course, Cond.code yX7_course cX7_course 2 (some .int), Cond.methodLink RX7 202 yX7_drawn, Cond.instanceMethod yX7_drawn, Cond.selects RX7 yX7_drawn yX7_drawn, Cond.code yX7_drawn cX7_drawn 1 (some .int), Cond.constant RX7 201 (1103515245)]
def wsX7_luck : List Cond := .code yX7_luck cX7_luck 6 (some .int) :: ((wsX7_luck_r1 ++ (wsX7_luck_r2 ++ wsX7_luck_r3)) ++ wsX70)
def wsX7_drownedOnes : List Cond := .code yX7_drownedOnes cX7_drownedOnes 3 (some .int) :: ([.fieldLink RX7 7 "KinCutleryModel" "s" "[I", .methodLink RX7 156 yX7_its, .instanceMethod yX7_its, .selects RX7 yX7_its yX7_its, .initialized RX7, .code yX7_its cX7_its 3 (some .int)] ++ wsX70)
def wsX7_goneOfAll : List Cond := .code yX7_goneOfAll cX7_goneOfAll 3 (some .int) :: ([.fieldLink RX7 7 "KinCutleryModel" "s" "[I", .methodLink RX7 156 yX7_its, .instanceMethod yX7_its, .selects RX7 yX7_its yX7_its, .initialized RX7, .code yX7_its cX7_its 3 (some .int)] ++ wsX70)
def wsX7_pieces : List Cond := .code yX7_pieces cX7_pieces 3 (some .int) :: ([.fieldLink RX7 7 "KinCutleryModel" "s" "[I", .methodLink RX7 156 yX7_its, .instanceMethod yX7_its, .selects RX7 yX7_its yX7_its, .initialized RX7, .code yX7_its cX7_its 3 (some .int)] ++ wsX70)
def wsX7_gap : List Cond := .code yX7_gap cX7_gap 4 (some .int) :: ([.methodLink RX7 213 yX7_pieces, .instanceMethod yX7_pieces, .selects RX7 yX7_pieces yX7_pieces, .initialized RX7, .code yX7_pieces cX7_pieces 3 (some .int), .fieldLink RX7 7 "KinCutleryModel" "s" "[I", .methodLink RX7 156 yX7_its, .instanceMethod yX7_its, .selects RX7 yX7_its yX7_its, .code yX7_its cX7_its 3 (some .int), .methodLink RX7 159 yX7_next, .instanceMethod yX7_next, .selects RX7 yX7_next yX7_next, .code yX7_next cX7_next 1 (some .int)] ++ wsX70)
def wsX7_state_r1 : List Cond := [Cond.fieldLink RX7 7 "KinCutleryModel" "s" "[I", Cond.methodLink RX7 159 yX7_next, Cond.instanceMethod yX7_next, Cond.selects RX7 yX7_next yX7_next, Cond.initialized RX7, Cond.code yX7_next cX7_next 1 (some .int), Cond.methodLink RX7 216 yX7_drownedOnes, Cond.instanceMethod yX7_drownedOnes, Cond.selects RX7 yX7_drownedOnes yX7_drownedOnes, Cond.code yX7_drownedOnes cX7_drownedOnes 3 (some .int), Cond.methodLink RX7 156 yX7_its, Cond.instanceMethod yX7_its, Cond.selects RX7 yX7_its yX7_its, Cond.code yX7_its cX7_its 3 (some .int), Cond.methodLink RX7 219 yX7_goneOfAll, Cond.instanceMethod yX7_goneOfAll, Cond.selects RX7 yX7_goneOfAll yX7_goneOfAll, Cond.code yX7_goneOfAll cX7_goneOfAll 3 (some .int), Cond.methodLink RX7 222 yX7_gap, Cond.instanceMethod yX7_gap, Cond.selects RX7 yX7_gap yX7_gap, Cond.code yX7_gap cX7_gap 4 (some .int), Cond.methodLink RX7 213 yX7_pieces, Cond.instanceMethod yX7_pieces]
def wsX7_state_r2 : List Cond := [Cond.selects RX7 yX7_pieces yX7_pieces, Cond.code yX7_pieces cX7_pieces 3 (some .int)]
def wsX7_state : List Cond := .code yX7_state cX7_state 2 (some .int) :: ((wsX7_state_r1 ++ wsX7_state_r2) ++ wsX70)
def wsX7_deep_r1 : List Cond := [Cond.constantLong RX7 196 (60), Cond.fieldLink RX7 7 "KinCutleryModel" "s" "[I", Cond.fieldLink RX7 16 "KinCutleryModel" "aside" "[I", Cond.methodLink RX7 162 yX7_isOne, Cond.instanceMethod yX7_isOne, Cond.selects RX7 yX7_isOne yX7_isOne, Cond.initialized RX7, Cond.code yX7_isOne cX7_isOne 2 (some .boolean), Cond.methodLink RX7 54 yX7_isIn, Cond.static yX7_isIn, Cond.code yX7_isIn cX7_isIn 6 (some .boolean), Cond.methodLink RX7 133 yX7_copyRow, Cond.static yX7_copyRow, Cond.code yX7_copyRow cX7_copyRow 3 none, Cond.methodLink RX7 198 yX7_goesOnMany, Cond.instanceMethod yX7_goesOnMany, Cond.selects RX7 yX7_goesOnMany yX7_goesOnMany, Cond.code yX7_goesOnMany cX7_goesOnMany 3 none, Cond.methodLink RX7 193 yX7_goesOn, Cond.instanceMethod yX7_goesOn, Cond.selects RX7 yX7_goesOn yX7_goesOn, Cond.code yX7_goesOn cX7_goesOn 3 none, Cond.methodLink RX7 169 yX7_takes, Cond.instanceMethod yX7_takes]
def wsX7_deep_r2 : List Cond := [Cond.selects RX7 yX7_takes yX7_takes, Cond.code yX7_takes cX7_takes 3 (some .int), Cond.methodLink RX7 156 yX7_its, Cond.instanceMethod yX7_its, Cond.selects RX7 yX7_its yX7_its, Cond.code yX7_its cX7_its 3 (some .int), Cond.methodLink RX7 159 yX7_next, Cond.instanceMethod yX7_next, Cond.selects RX7 yX7_next yX7_next, Cond.code yX7_next cX7_next 1 (some .int), Cond.methodLink RX7 184 yX7_within, Cond.static yX7_within, Cond.code yX7_within cX7_within 1 (some .int), Cond.methodLink RX7 187 yX7_teller, Cond.instanceMethod yX7_teller, Cond.selects RX7 yX7_teller yX7_teller, Cond.code yX7_teller cX7_teller 3 (some .int), Cond.methodLink RX7 172 yX7_needsOf, Cond.instanceMethod yX7_needsOf, Cond.selects RX7 yX7_needsOf yX7_needsOf, Cond.code yX7_needsOf cX7_needsOf 2 (some .int), Cond.methodLink RX7 190 yX7_tellsNext, Cond.instanceMethod yX7_tellsNext, Cond.selects RX7 yX7_tellsNext yX7_tellsNext]
def wsX7_deep_r3 : List Cond := [Cond.code yX7_tellsNext cX7_tellsNext 4 none, Cond.constant RX7 180 (99999), Cond.methodLink RX7 175 yX7_costs, Cond.instanceMethod yX7_costs, Cond.selects RX7 yX7_costs yX7_costs, Cond.code yX7_costs cX7_costs 2 (some .int), Cond.methodLink RX7 181 yX7_least, Cond.static yX7_least, Cond.code yX7_least cX7_least 2 (some .int)]
def wsX7_deep : List Cond := .code yX7_deep cX7_deep 4 (some .int) :: ((wsX7_deep_r1 ++ (wsX7_deep_r2 ++ wsX7_deep_r3)) ++ wsX70)
def wsX7_speaksBy_r1 : List Cond := [Cond.fieldLink RX7 7 "KinCutleryModel" "s" "[I", Cond.fieldLink RX7 16 "KinCutleryModel" "aside" "[I", Cond.methodLink RX7 133 yX7_copyRow, Cond.static yX7_copyRow, Cond.initialized RX7, Cond.code yX7_copyRow cX7_copyRow 3 none, Cond.methodLink RX7 156 yX7_its, Cond.instanceMethod yX7_its, Cond.selects RX7 yX7_its yX7_its, Cond.code yX7_its cX7_its 3 (some .int), Cond.methodLink RX7 193 yX7_goesOn, Cond.instanceMethod yX7_goesOn, Cond.selects RX7 yX7_goesOn yX7_goesOn, Cond.code yX7_goesOn cX7_goesOn 3 none, Cond.methodLink RX7 169 yX7_takes, Cond.instanceMethod yX7_takes, Cond.selects RX7 yX7_takes yX7_takes, Cond.code yX7_takes cX7_takes 3 (some .int), Cond.methodLink RX7 159 yX7_next, Cond.instanceMethod yX7_next, Cond.selects RX7 yX7_next yX7_next, Cond.code yX7_next cX7_next 1 (some .int), Cond.methodLink RX7 184 yX7_within, Cond.static yX7_within]
def wsX7_speaksBy_r2 : List Cond := [Cond.code yX7_within cX7_within 1 (some .int), Cond.methodLink RX7 187 yX7_teller, Cond.instanceMethod yX7_teller, Cond.selects RX7 yX7_teller yX7_teller, Cond.code yX7_teller cX7_teller 3 (some .int), Cond.methodLink RX7 172 yX7_needsOf, Cond.instanceMethod yX7_needsOf, Cond.selects RX7 yX7_needsOf yX7_needsOf, Cond.code yX7_needsOf cX7_needsOf 2 (some .int), Cond.methodLink RX7 190 yX7_tellsNext, Cond.instanceMethod yX7_tellsNext, Cond.selects RX7 yX7_tellsNext yX7_tellsNext, Cond.code yX7_tellsNext cX7_tellsNext 4 none, Cond.constant RX7 180 (99999), Cond.methodLink RX7 175 yX7_costs, Cond.instanceMethod yX7_costs, Cond.selects RX7 yX7_costs yX7_costs, Cond.code yX7_costs cX7_costs 2 (some .int), Cond.methodLink RX7 181 yX7_least, Cond.static yX7_least, Cond.code yX7_least cX7_least 2 (some .int)]
def wsX7_speaksBy : List Cond := .code yX7_speaksBy cX7_speaksBy 5 (some .int) :: ((wsX7_speaksBy_r1 ++ wsX7_speaksBy_r2) ++ wsX70)
def wsX7_speaks_r1 : List Cond := [Cond.methodLink RX7 162 yX7_isOne, Cond.instanceMethod yX7_isOne, Cond.selects RX7 yX7_isOne yX7_isOne, Cond.initialized RX7, Cond.code yX7_isOne cX7_isOne 2 (some .boolean), Cond.fieldLink RX7 7 "KinCutleryModel" "s" "[I", Cond.methodLink RX7 225 yX7_speaksBy, Cond.instanceMethod yX7_speaksBy, Cond.selects RX7 yX7_speaksBy yX7_speaksBy, Cond.code yX7_speaksBy cX7_speaksBy 5 (some .int), Cond.fieldLink RX7 16 "KinCutleryModel" "aside" "[I", Cond.methodLink RX7 133 yX7_copyRow, Cond.static yX7_copyRow, Cond.code yX7_copyRow cX7_copyRow 3 none, Cond.methodLink RX7 156 yX7_its, Cond.instanceMethod yX7_its, Cond.selects RX7 yX7_its yX7_its, Cond.code yX7_its cX7_its 3 (some .int), Cond.methodLink RX7 193 yX7_goesOn, Cond.instanceMethod yX7_goesOn, Cond.selects RX7 yX7_goesOn yX7_goesOn, Cond.code yX7_goesOn cX7_goesOn 3 none, Cond.methodLink RX7 169 yX7_takes, Cond.instanceMethod yX7_takes]
def wsX7_speaks_r2 : List Cond := [Cond.selects RX7 yX7_takes yX7_takes, Cond.code yX7_takes cX7_takes 3 (some .int), Cond.methodLink RX7 159 yX7_next, Cond.instanceMethod yX7_next, Cond.selects RX7 yX7_next yX7_next, Cond.code yX7_next cX7_next 1 (some .int), Cond.methodLink RX7 184 yX7_within, Cond.static yX7_within, Cond.code yX7_within cX7_within 1 (some .int), Cond.methodLink RX7 187 yX7_teller, Cond.instanceMethod yX7_teller, Cond.selects RX7 yX7_teller yX7_teller, Cond.code yX7_teller cX7_teller 3 (some .int), Cond.methodLink RX7 172 yX7_needsOf, Cond.instanceMethod yX7_needsOf, Cond.selects RX7 yX7_needsOf yX7_needsOf, Cond.code yX7_needsOf cX7_needsOf 2 (some .int), Cond.methodLink RX7 190 yX7_tellsNext, Cond.instanceMethod yX7_tellsNext, Cond.selects RX7 yX7_tellsNext yX7_tellsNext, Cond.code yX7_tellsNext cX7_tellsNext 4 none, Cond.constant RX7 180 (99999), Cond.methodLink RX7 175 yX7_costs, Cond.instanceMethod yX7_costs]
def wsX7_speaks_r3 : List Cond := [Cond.selects RX7 yX7_costs yX7_costs, Cond.code yX7_costs cX7_costs 2 (some .int), Cond.methodLink RX7 181 yX7_least, Cond.static yX7_least, Cond.code yX7_least cX7_least 2 (some .int)]
def wsX7_speaks : List Cond := .code yX7_speaks cX7_speaks 3 (some .int) :: ((wsX7_speaks_r1 ++ (wsX7_speaks_r2 ++ wsX7_speaks_r3)) ++ wsX70)
def wsX7_sinks_r1 : List Cond := [Cond.fieldLink RX7 7 "KinCutleryModel" "s" "[I", Cond.fieldLink RX7 16 "KinCutleryModel" "aside" "[I", Cond.methodLink RX7 162 yX7_isOne, Cond.instanceMethod yX7_isOne, Cond.selects RX7 yX7_isOne yX7_isOne, Cond.initialized RX7, Cond.code yX7_isOne cX7_isOne 2 (some .boolean), Cond.methodLink RX7 133 yX7_copyRow, Cond.static yX7_copyRow, Cond.code yX7_copyRow cX7_copyRow 3 none, Cond.methodLink RX7 156 yX7_its, Cond.instanceMethod yX7_its, Cond.selects RX7 yX7_its yX7_its, Cond.code yX7_its cX7_its 3 (some .int), Cond.methodLink RX7 193 yX7_goesOn, Cond.instanceMethod yX7_goesOn, Cond.selects RX7 yX7_goesOn yX7_goesOn, Cond.code yX7_goesOn cX7_goesOn 3 none, Cond.methodLink RX7 169 yX7_takes, Cond.instanceMethod yX7_takes, Cond.selects RX7 yX7_takes yX7_takes, Cond.code yX7_takes cX7_takes 3 (some .int), Cond.methodLink RX7 159 yX7_next, Cond.instanceMethod yX7_next]
def wsX7_sinks_r2 : List Cond := [Cond.selects RX7 yX7_next yX7_next, Cond.code yX7_next cX7_next 1 (some .int), Cond.methodLink RX7 184 yX7_within, Cond.static yX7_within, Cond.code yX7_within cX7_within 1 (some .int), Cond.methodLink RX7 187 yX7_teller, Cond.instanceMethod yX7_teller, Cond.selects RX7 yX7_teller yX7_teller, Cond.code yX7_teller cX7_teller 3 (some .int), Cond.methodLink RX7 172 yX7_needsOf, Cond.instanceMethod yX7_needsOf, Cond.selects RX7 yX7_needsOf yX7_needsOf, Cond.code yX7_needsOf cX7_needsOf 2 (some .int), Cond.methodLink RX7 190 yX7_tellsNext, Cond.instanceMethod yX7_tellsNext, Cond.selects RX7 yX7_tellsNext yX7_tellsNext, Cond.code yX7_tellsNext cX7_tellsNext 4 none, Cond.constant RX7 180 (99999), Cond.methodLink RX7 175 yX7_costs, Cond.instanceMethod yX7_costs, Cond.selects RX7 yX7_costs yX7_costs, Cond.code yX7_costs cX7_costs 2 (some .int), Cond.methodLink RX7 181 yX7_least, Cond.static yX7_least]
def wsX7_sinks_r3 : List Cond := [Cond.code yX7_least cX7_least 2 (some .int)]
def wsX7_sinks : List Cond := .code yX7_sinks cX7_sinks 3 (some .int) :: ((wsX7_sinks_r1 ++ (wsX7_sinks_r2 ++ wsX7_sinks_r3)) ++ wsX70)
def wsX7_whole_r1 : List Cond := [Cond.fieldLink RX7 7 "KinCutleryModel" "s" "[I", Cond.fieldLink RX7 16 "KinCutleryModel" "aside" "[I", Cond.methodLink RX7 133 yX7_copyRow, Cond.static yX7_copyRow, Cond.initialized RX7, Cond.code yX7_copyRow cX7_copyRow 3 none, Cond.methodLink RX7 193 yX7_goesOn, Cond.instanceMethod yX7_goesOn, Cond.selects RX7 yX7_goesOn yX7_goesOn, Cond.code yX7_goesOn cX7_goesOn 3 none, Cond.methodLink RX7 169 yX7_takes, Cond.instanceMethod yX7_takes, Cond.selects RX7 yX7_takes yX7_takes, Cond.code yX7_takes cX7_takes 3 (some .int), Cond.methodLink RX7 156 yX7_its, Cond.instanceMethod yX7_its, Cond.selects RX7 yX7_its yX7_its, Cond.code yX7_its cX7_its 3 (some .int), Cond.methodLink RX7 159 yX7_next, Cond.instanceMethod yX7_next, Cond.selects RX7 yX7_next yX7_next, Cond.code yX7_next cX7_next 1 (some .int), Cond.methodLink RX7 184 yX7_within, Cond.static yX7_within]
def wsX7_whole_r2 : List Cond := [Cond.code yX7_within cX7_within 1 (some .int), Cond.methodLink RX7 187 yX7_teller, Cond.instanceMethod yX7_teller, Cond.selects RX7 yX7_teller yX7_teller, Cond.code yX7_teller cX7_teller 3 (some .int), Cond.methodLink RX7 172 yX7_needsOf, Cond.instanceMethod yX7_needsOf, Cond.selects RX7 yX7_needsOf yX7_needsOf, Cond.code yX7_needsOf cX7_needsOf 2 (some .int), Cond.methodLink RX7 190 yX7_tellsNext, Cond.instanceMethod yX7_tellsNext, Cond.selects RX7 yX7_tellsNext yX7_tellsNext, Cond.code yX7_tellsNext cX7_tellsNext 4 none, Cond.constant RX7 180 (99999), Cond.methodLink RX7 175 yX7_costs, Cond.instanceMethod yX7_costs, Cond.selects RX7 yX7_costs yX7_costs, Cond.code yX7_costs cX7_costs 2 (some .int), Cond.methodLink RX7 181 yX7_least, Cond.static yX7_least, Cond.code yX7_least cX7_least 2 (some .int)]
def wsX7_whole : List Cond := .code yX7_whole cX7_whole 3 (some .int) :: ((wsX7_whole_r1 ++ wsX7_whole_r2) ++ wsX70)
def wsX7_tale_r1 : List Cond := [Cond.constantLong RX7 196 (60), Cond.methodLink RX7 54 yX7_isIn, Cond.static yX7_isIn, Cond.initialized RX7, Cond.code yX7_isIn cX7_isIn 6 (some .boolean), Cond.methodLink RX7 207 yX7_taleBy, Cond.instanceMethod yX7_taleBy, Cond.selects RX7 yX7_taleBy yX7_taleBy, Cond.code yX7_taleBy cX7_taleBy 3 (some .int), Cond.fieldLink RX7 7 "KinCutleryModel" "s" "[I", Cond.fieldLink RX7 16 "KinCutleryModel" "aside" "[I", Cond.methodLink RX7 133 yX7_copyRow, Cond.static yX7_copyRow, Cond.code yX7_copyRow cX7_copyRow 3 none, Cond.methodLink RX7 198 yX7_goesOnMany, Cond.instanceMethod yX7_goesOnMany, Cond.selects RX7 yX7_goesOnMany yX7_goesOnMany, Cond.code yX7_goesOnMany cX7_goesOnMany 3 none, Cond.methodLink RX7 193 yX7_goesOn, Cond.instanceMethod yX7_goesOn, Cond.selects RX7 yX7_goesOn yX7_goesOn, Cond.code yX7_goesOn cX7_goesOn 3 none, Cond.methodLink RX7 169 yX7_takes, Cond.instanceMethod yX7_takes]
def wsX7_tale_r2 : List Cond := [Cond.selects RX7 yX7_takes yX7_takes, Cond.code yX7_takes cX7_takes 3 (some .int), Cond.methodLink RX7 156 yX7_its, Cond.instanceMethod yX7_its, Cond.selects RX7 yX7_its yX7_its, Cond.code yX7_its cX7_its 3 (some .int), Cond.methodLink RX7 159 yX7_next, Cond.instanceMethod yX7_next, Cond.selects RX7 yX7_next yX7_next, Cond.code yX7_next cX7_next 1 (some .int), Cond.methodLink RX7 184 yX7_within, Cond.static yX7_within, Cond.code yX7_within cX7_within 1 (some .int), Cond.methodLink RX7 187 yX7_teller, Cond.instanceMethod yX7_teller, Cond.selects RX7 yX7_teller yX7_teller, Cond.code yX7_teller cX7_teller 3 (some .int), Cond.methodLink RX7 172 yX7_needsOf, Cond.instanceMethod yX7_needsOf, Cond.selects RX7 yX7_needsOf yX7_needsOf, Cond.code yX7_needsOf cX7_needsOf 2 (some .int), Cond.methodLink RX7 190 yX7_tellsNext, Cond.instanceMethod yX7_tellsNext, Cond.selects RX7 yX7_tellsNext yX7_tellsNext]
def wsX7_tale_r3 : List Cond := [Cond.code yX7_tellsNext cX7_tellsNext 4 none, Cond.constant RX7 180 (99999), Cond.methodLink RX7 175 yX7_costs, Cond.instanceMethod yX7_costs, Cond.selects RX7 yX7_costs yX7_costs, Cond.code yX7_costs cX7_costs 2 (some .int), Cond.methodLink RX7 181 yX7_least, Cond.static yX7_least, Cond.code yX7_least cX7_least 2 (some .int)]
def wsX7_tale : List Cond := .code yX7_tale cX7_tale 2 (some .int) :: ((wsX7_tale_r1 ++ (wsX7_tale_r2 ++ wsX7_tale_r3)) ++ wsX70)
def wsX7_isShort : List Cond := .code yX7_isShort cX7_isShort 1 (some .boolean) :: ([.constantLong RX7 228 (40), .methodLink RX7 54 yX7_isIn, .static yX7_isIn, .initialized RX7, .code yX7_isIn cX7_isIn 6 (some .boolean)])
def wsX7_mostBy_r1 : List Cond := [Cond.fieldLink RX7 7 "KinCutleryModel" "s" "[I", Cond.methodLink RX7 207 yX7_taleBy, Cond.instanceMethod yX7_taleBy, Cond.selects RX7 yX7_taleBy yX7_taleBy, Cond.initialized RX7, Cond.code yX7_taleBy cX7_taleBy 3 (some .int), Cond.fieldLink RX7 16 "KinCutleryModel" "aside" "[I", Cond.methodLink RX7 133 yX7_copyRow, Cond.static yX7_copyRow, Cond.code yX7_copyRow cX7_copyRow 3 none, Cond.methodLink RX7 198 yX7_goesOnMany, Cond.instanceMethod yX7_goesOnMany, Cond.selects RX7 yX7_goesOnMany yX7_goesOnMany, Cond.code yX7_goesOnMany cX7_goesOnMany 3 none, Cond.methodLink RX7 193 yX7_goesOn, Cond.instanceMethod yX7_goesOn, Cond.selects RX7 yX7_goesOn yX7_goesOn, Cond.code yX7_goesOn cX7_goesOn 3 none, Cond.methodLink RX7 169 yX7_takes, Cond.instanceMethod yX7_takes, Cond.selects RX7 yX7_takes yX7_takes, Cond.code yX7_takes cX7_takes 3 (some .int), Cond.methodLink RX7 156 yX7_its, Cond.instanceMethod yX7_its]
def wsX7_mostBy_r2 : List Cond := [Cond.selects RX7 yX7_its yX7_its, Cond.code yX7_its cX7_its 3 (some .int), Cond.methodLink RX7 159 yX7_next, Cond.instanceMethod yX7_next, Cond.selects RX7 yX7_next yX7_next, Cond.code yX7_next cX7_next 1 (some .int), Cond.methodLink RX7 184 yX7_within, Cond.static yX7_within, Cond.code yX7_within cX7_within 1 (some .int), Cond.methodLink RX7 187 yX7_teller, Cond.instanceMethod yX7_teller, Cond.selects RX7 yX7_teller yX7_teller, Cond.code yX7_teller cX7_teller 3 (some .int), Cond.methodLink RX7 172 yX7_needsOf, Cond.instanceMethod yX7_needsOf, Cond.selects RX7 yX7_needsOf yX7_needsOf, Cond.code yX7_needsOf cX7_needsOf 2 (some .int), Cond.methodLink RX7 190 yX7_tellsNext, Cond.instanceMethod yX7_tellsNext, Cond.selects RX7 yX7_tellsNext yX7_tellsNext, Cond.code yX7_tellsNext cX7_tellsNext 4 none, Cond.constant RX7 180 (99999), Cond.methodLink RX7 175 yX7_costs, Cond.instanceMethod yX7_costs]
def wsX7_mostBy_r3 : List Cond := [Cond.selects RX7 yX7_costs yX7_costs, Cond.code yX7_costs cX7_costs 2 (some .int), Cond.methodLink RX7 181 yX7_least, Cond.static yX7_least, Cond.code yX7_least cX7_least 2 (some .int), Cond.methodLink RX7 230 yX7_greatest, Cond.static yX7_greatest, Cond.code yX7_greatest cX7_greatest 2 (some .int)]
def wsX7_mostBy : List Cond := .code yX7_mostBy cX7_mostBy 9 (some .int) :: ((wsX7_mostBy_r1 ++ (wsX7_mostBy_r2 ++ wsX7_mostBy_r3)) ++ wsX70)
def wsX7_pieceFor_r1 : List Cond := [Cond.methodLink RX7 162 yX7_isOne, Cond.instanceMethod yX7_isOne, Cond.selects RX7 yX7_isOne yX7_isOne, Cond.initialized RX7, Cond.code yX7_isOne cX7_isOne 2 (some .boolean), Cond.fieldLink RX7 7 "KinCutleryModel" "s" "[I", Cond.methodLink RX7 233 yX7_isShort, Cond.static yX7_isShort, Cond.code yX7_isShort cX7_isShort 1 (some .boolean), Cond.constantLong RX7 228 (40), Cond.methodLink RX7 54 yX7_isIn, Cond.static yX7_isIn, Cond.code yX7_isIn cX7_isIn 6 (some .boolean), Cond.methodLink RX7 236 yX7_mostBy, Cond.instanceMethod yX7_mostBy, Cond.selects RX7 yX7_mostBy yX7_mostBy, Cond.code yX7_mostBy cX7_mostBy 9 (some .int), Cond.methodLink RX7 207 yX7_taleBy, Cond.instanceMethod yX7_taleBy, Cond.selects RX7 yX7_taleBy yX7_taleBy, Cond.code yX7_taleBy cX7_taleBy 3 (some .int), Cond.fieldLink RX7 16 "KinCutleryModel" "aside" "[I", Cond.methodLink RX7 133 yX7_copyRow, Cond.static yX7_copyRow]
def wsX7_pieceFor_r2 : List Cond := [Cond.code yX7_copyRow cX7_copyRow 3 none, Cond.methodLink RX7 198 yX7_goesOnMany, Cond.instanceMethod yX7_goesOnMany, Cond.selects RX7 yX7_goesOnMany yX7_goesOnMany, Cond.code yX7_goesOnMany cX7_goesOnMany 3 none, Cond.methodLink RX7 193 yX7_goesOn, Cond.instanceMethod yX7_goesOn, Cond.selects RX7 yX7_goesOn yX7_goesOn, Cond.code yX7_goesOn cX7_goesOn 3 none, Cond.methodLink RX7 169 yX7_takes, Cond.instanceMethod yX7_takes, Cond.selects RX7 yX7_takes yX7_takes, Cond.code yX7_takes cX7_takes 3 (some .int), Cond.methodLink RX7 156 yX7_its, Cond.instanceMethod yX7_its, Cond.selects RX7 yX7_its yX7_its, Cond.code yX7_its cX7_its 3 (some .int), Cond.methodLink RX7 159 yX7_next, Cond.instanceMethod yX7_next, Cond.selects RX7 yX7_next yX7_next, Cond.code yX7_next cX7_next 1 (some .int), Cond.methodLink RX7 184 yX7_within, Cond.static yX7_within, Cond.code yX7_within cX7_within 1 (some .int)]
def wsX7_pieceFor_r3 : List Cond := [Cond.methodLink RX7 187 yX7_teller, Cond.instanceMethod yX7_teller, Cond.selects RX7 yX7_teller yX7_teller, Cond.code yX7_teller cX7_teller 3 (some .int), Cond.methodLink RX7 172 yX7_needsOf, Cond.instanceMethod yX7_needsOf, Cond.selects RX7 yX7_needsOf yX7_needsOf, Cond.code yX7_needsOf cX7_needsOf 2 (some .int), Cond.methodLink RX7 190 yX7_tellsNext, Cond.instanceMethod yX7_tellsNext, Cond.selects RX7 yX7_tellsNext yX7_tellsNext, Cond.code yX7_tellsNext cX7_tellsNext 4 none, Cond.constant RX7 180 (99999), Cond.methodLink RX7 175 yX7_costs, Cond.instanceMethod yX7_costs, Cond.selects RX7 yX7_costs yX7_costs, Cond.code yX7_costs cX7_costs 2 (some .int), Cond.methodLink RX7 181 yX7_least, Cond.static yX7_least, Cond.code yX7_least cX7_least 2 (some .int), Cond.methodLink RX7 230 yX7_greatest, Cond.static yX7_greatest, Cond.code yX7_greatest cX7_greatest 2 (some .int)]
def wsX7_pieceFor : List Cond := .code yX7_pieceFor cX7_pieceFor 3 (some .int) :: ((wsX7_pieceFor_r1 ++ (wsX7_pieceFor_r2 ++ wsX7_pieceFor_r3)) ++ wsX70)
def wsX7_kindFor_r1 : List Cond := [Cond.methodLink RX7 162 yX7_isOne, Cond.instanceMethod yX7_isOne, Cond.selects RX7 yX7_isOne yX7_isOne, Cond.initialized RX7, Cond.code yX7_isOne cX7_isOne 2 (some .boolean), Cond.fieldLink RX7 7 "KinCutleryModel" "s" "[I", Cond.methodLink RX7 233 yX7_isShort, Cond.static yX7_isShort, Cond.code yX7_isShort cX7_isShort 1 (some .boolean), Cond.constantLong RX7 228 (40), Cond.methodLink RX7 54 yX7_isIn, Cond.static yX7_isIn, Cond.code yX7_isIn cX7_isIn 6 (some .boolean), Cond.methodLink RX7 236 yX7_mostBy, Cond.instanceMethod yX7_mostBy, Cond.selects RX7 yX7_mostBy yX7_mostBy, Cond.code yX7_mostBy cX7_mostBy 9 (some .int), Cond.methodLink RX7 207 yX7_taleBy, Cond.instanceMethod yX7_taleBy, Cond.selects RX7 yX7_taleBy yX7_taleBy, Cond.code yX7_taleBy cX7_taleBy 3 (some .int), Cond.fieldLink RX7 16 "KinCutleryModel" "aside" "[I", Cond.methodLink RX7 133 yX7_copyRow, Cond.static yX7_copyRow]
def wsX7_kindFor_r2 : List Cond := [Cond.code yX7_copyRow cX7_copyRow 3 none, Cond.methodLink RX7 198 yX7_goesOnMany, Cond.instanceMethod yX7_goesOnMany, Cond.selects RX7 yX7_goesOnMany yX7_goesOnMany, Cond.code yX7_goesOnMany cX7_goesOnMany 3 none, Cond.methodLink RX7 193 yX7_goesOn, Cond.instanceMethod yX7_goesOn, Cond.selects RX7 yX7_goesOn yX7_goesOn, Cond.code yX7_goesOn cX7_goesOn 3 none, Cond.methodLink RX7 169 yX7_takes, Cond.instanceMethod yX7_takes, Cond.selects RX7 yX7_takes yX7_takes, Cond.code yX7_takes cX7_takes 3 (some .int), Cond.methodLink RX7 156 yX7_its, Cond.instanceMethod yX7_its, Cond.selects RX7 yX7_its yX7_its, Cond.code yX7_its cX7_its 3 (some .int), Cond.methodLink RX7 159 yX7_next, Cond.instanceMethod yX7_next, Cond.selects RX7 yX7_next yX7_next, Cond.code yX7_next cX7_next 1 (some .int), Cond.methodLink RX7 184 yX7_within, Cond.static yX7_within, Cond.code yX7_within cX7_within 1 (some .int)]
def wsX7_kindFor_r3 : List Cond := [Cond.methodLink RX7 187 yX7_teller, Cond.instanceMethod yX7_teller, Cond.selects RX7 yX7_teller yX7_teller, Cond.code yX7_teller cX7_teller 3 (some .int), Cond.methodLink RX7 172 yX7_needsOf, Cond.instanceMethod yX7_needsOf, Cond.selects RX7 yX7_needsOf yX7_needsOf, Cond.code yX7_needsOf cX7_needsOf 2 (some .int), Cond.methodLink RX7 190 yX7_tellsNext, Cond.instanceMethod yX7_tellsNext, Cond.selects RX7 yX7_tellsNext yX7_tellsNext, Cond.code yX7_tellsNext cX7_tellsNext 4 none, Cond.constant RX7 180 (99999), Cond.methodLink RX7 175 yX7_costs, Cond.instanceMethod yX7_costs, Cond.selects RX7 yX7_costs yX7_costs, Cond.code yX7_costs cX7_costs 2 (some .int), Cond.methodLink RX7 181 yX7_least, Cond.static yX7_least, Cond.code yX7_least cX7_least 2 (some .int), Cond.methodLink RX7 230 yX7_greatest, Cond.static yX7_greatest, Cond.code yX7_greatest cX7_greatest 2 (some .int)]
def wsX7_kindFor : List Cond := .code yX7_kindFor cX7_kindFor 3 (some .int) :: ((wsX7_kindFor_r1 ++ (wsX7_kindFor_r2 ++ wsX7_kindFor_r3)) ++ wsX70)
def wsX7_goneFor_r1 : List Cond := [Cond.fieldLink RX7 7 "KinCutleryModel" "s" "[I", Cond.methodLink RX7 162 yX7_isOne, Cond.instanceMethod yX7_isOne, Cond.selects RX7 yX7_isOne yX7_isOne, Cond.initialized RX7, Cond.code yX7_isOne cX7_isOne 2 (some .boolean), Cond.methodLink RX7 233 yX7_isShort, Cond.static yX7_isShort, Cond.code yX7_isShort cX7_isShort 1 (some .boolean), Cond.constantLong RX7 228 (40), Cond.methodLink RX7 54 yX7_isIn, Cond.static yX7_isIn, Cond.code yX7_isIn cX7_isIn 6 (some .boolean), Cond.methodLink RX7 225 yX7_speaksBy, Cond.instanceMethod yX7_speaksBy, Cond.selects RX7 yX7_speaksBy yX7_speaksBy, Cond.code yX7_speaksBy cX7_speaksBy 5 (some .int), Cond.fieldLink RX7 16 "KinCutleryModel" "aside" "[I", Cond.methodLink RX7 133 yX7_copyRow, Cond.static yX7_copyRow, Cond.code yX7_copyRow cX7_copyRow 3 none, Cond.methodLink RX7 156 yX7_its, Cond.instanceMethod yX7_its, Cond.selects RX7 yX7_its yX7_its]
def wsX7_goneFor_r2 : List Cond := [Cond.code yX7_its cX7_its 3 (some .int), Cond.methodLink RX7 193 yX7_goesOn, Cond.instanceMethod yX7_goesOn, Cond.selects RX7 yX7_goesOn yX7_goesOn, Cond.code yX7_goesOn cX7_goesOn 3 none, Cond.methodLink RX7 169 yX7_takes, Cond.instanceMethod yX7_takes, Cond.selects RX7 yX7_takes yX7_takes, Cond.code yX7_takes cX7_takes 3 (some .int), Cond.methodLink RX7 159 yX7_next, Cond.instanceMethod yX7_next, Cond.selects RX7 yX7_next yX7_next, Cond.code yX7_next cX7_next 1 (some .int), Cond.methodLink RX7 184 yX7_within, Cond.static yX7_within, Cond.code yX7_within cX7_within 1 (some .int), Cond.methodLink RX7 187 yX7_teller, Cond.instanceMethod yX7_teller, Cond.selects RX7 yX7_teller yX7_teller, Cond.code yX7_teller cX7_teller 3 (some .int), Cond.methodLink RX7 172 yX7_needsOf, Cond.instanceMethod yX7_needsOf, Cond.selects RX7 yX7_needsOf yX7_needsOf, Cond.code yX7_needsOf cX7_needsOf 2 (some .int)]
def wsX7_goneFor_r3 : List Cond := [Cond.methodLink RX7 190 yX7_tellsNext, Cond.instanceMethod yX7_tellsNext, Cond.selects RX7 yX7_tellsNext yX7_tellsNext, Cond.code yX7_tellsNext cX7_tellsNext 4 none, Cond.constant RX7 180 (99999), Cond.methodLink RX7 175 yX7_costs, Cond.instanceMethod yX7_costs, Cond.selects RX7 yX7_costs yX7_costs, Cond.code yX7_costs cX7_costs 2 (some .int), Cond.methodLink RX7 181 yX7_least, Cond.static yX7_least, Cond.code yX7_least cX7_least 2 (some .int)]
def wsX7_goneFor : List Cond := .code yX7_goneFor cX7_goneFor 7 (some .int) :: ((wsX7_goneFor_r1 ++ (wsX7_goneFor_r2 ++ wsX7_goneFor_r3)) ++ wsX70)
def wsX7_depthFor_r1 : List Cond := [Cond.fieldLink RX7 7 "KinCutleryModel" "s" "[I", Cond.fieldLink RX7 16 "KinCutleryModel" "aside" "[I", Cond.methodLink RX7 233 yX7_isShort, Cond.static yX7_isShort, Cond.initialized RX7, Cond.code yX7_isShort cX7_isShort 1 (some .boolean), Cond.constantLong RX7 228 (40), Cond.methodLink RX7 54 yX7_isIn, Cond.static yX7_isIn, Cond.code yX7_isIn cX7_isIn 6 (some .boolean), Cond.methodLink RX7 133 yX7_copyRow, Cond.static yX7_copyRow, Cond.code yX7_copyRow cX7_copyRow 3 none, Cond.methodLink RX7 216 yX7_drownedOnes, Cond.instanceMethod yX7_drownedOnes, Cond.selects RX7 yX7_drownedOnes yX7_drownedOnes, Cond.code yX7_drownedOnes cX7_drownedOnes 3 (some .int), Cond.methodLink RX7 156 yX7_its, Cond.instanceMethod yX7_its, Cond.selects RX7 yX7_its yX7_its, Cond.code yX7_its cX7_its 3 (some .int), Cond.methodLink RX7 198 yX7_goesOnMany, Cond.instanceMethod yX7_goesOnMany, Cond.selects RX7 yX7_goesOnMany yX7_goesOnMany]
def wsX7_depthFor_r2 : List Cond := [Cond.code yX7_goesOnMany cX7_goesOnMany 3 none, Cond.methodLink RX7 193 yX7_goesOn, Cond.instanceMethod yX7_goesOn, Cond.selects RX7 yX7_goesOn yX7_goesOn, Cond.code yX7_goesOn cX7_goesOn 3 none, Cond.methodLink RX7 169 yX7_takes, Cond.instanceMethod yX7_takes, Cond.selects RX7 yX7_takes yX7_takes, Cond.code yX7_takes cX7_takes 3 (some .int), Cond.methodLink RX7 159 yX7_next, Cond.instanceMethod yX7_next, Cond.selects RX7 yX7_next yX7_next, Cond.code yX7_next cX7_next 1 (some .int), Cond.methodLink RX7 184 yX7_within, Cond.static yX7_within, Cond.code yX7_within cX7_within 1 (some .int), Cond.methodLink RX7 187 yX7_teller, Cond.instanceMethod yX7_teller, Cond.selects RX7 yX7_teller yX7_teller, Cond.code yX7_teller cX7_teller 3 (some .int), Cond.methodLink RX7 172 yX7_needsOf, Cond.instanceMethod yX7_needsOf, Cond.selects RX7 yX7_needsOf yX7_needsOf, Cond.code yX7_needsOf cX7_needsOf 2 (some .int)]
def wsX7_depthFor_r3 : List Cond := [Cond.methodLink RX7 190 yX7_tellsNext, Cond.instanceMethod yX7_tellsNext, Cond.selects RX7 yX7_tellsNext yX7_tellsNext, Cond.code yX7_tellsNext cX7_tellsNext 4 none, Cond.constant RX7 180 (99999), Cond.methodLink RX7 175 yX7_costs, Cond.instanceMethod yX7_costs, Cond.selects RX7 yX7_costs yX7_costs, Cond.code yX7_costs cX7_costs 2 (some .int), Cond.methodLink RX7 181 yX7_least, Cond.static yX7_least, Cond.code yX7_least cX7_least 2 (some .int)]
def wsX7_depthFor : List Cond := .code yX7_depthFor cX7_depthFor 6 (some .int) :: ((wsX7_depthFor_r1 ++ (wsX7_depthFor_r2 ++ wsX7_depthFor_r3)) ++ wsX70)
def wsX7_taleOf_r1 : List Cond := [Cond.fieldLink RX7 7 "KinCutleryModel" "s" "[I", Cond.fieldLink RX7 16 "KinCutleryModel" "aside" "[I", Cond.methodLink RX7 133 yX7_copyRow, Cond.static yX7_copyRow, Cond.initialized RX7, Cond.code yX7_copyRow cX7_copyRow 3 none, Cond.methodLink RX7 198 yX7_goesOnMany, Cond.instanceMethod yX7_goesOnMany, Cond.selects RX7 yX7_goesOnMany yX7_goesOnMany, Cond.code yX7_goesOnMany cX7_goesOnMany 3 none, Cond.methodLink RX7 193 yX7_goesOn, Cond.instanceMethod yX7_goesOn, Cond.selects RX7 yX7_goesOn yX7_goesOn, Cond.code yX7_goesOn cX7_goesOn 3 none, Cond.methodLink RX7 169 yX7_takes, Cond.instanceMethod yX7_takes, Cond.selects RX7 yX7_takes yX7_takes, Cond.code yX7_takes cX7_takes 3 (some .int), Cond.methodLink RX7 156 yX7_its, Cond.instanceMethod yX7_its, Cond.selects RX7 yX7_its yX7_its, Cond.code yX7_its cX7_its 3 (some .int), Cond.methodLink RX7 159 yX7_next, Cond.instanceMethod yX7_next]
def wsX7_taleOf_r2 : List Cond := [Cond.selects RX7 yX7_next yX7_next, Cond.code yX7_next cX7_next 1 (some .int), Cond.methodLink RX7 184 yX7_within, Cond.static yX7_within, Cond.code yX7_within cX7_within 1 (some .int), Cond.methodLink RX7 187 yX7_teller, Cond.instanceMethod yX7_teller, Cond.selects RX7 yX7_teller yX7_teller, Cond.code yX7_teller cX7_teller 3 (some .int), Cond.methodLink RX7 172 yX7_needsOf, Cond.instanceMethod yX7_needsOf, Cond.selects RX7 yX7_needsOf yX7_needsOf, Cond.code yX7_needsOf cX7_needsOf 2 (some .int), Cond.methodLink RX7 190 yX7_tellsNext, Cond.instanceMethod yX7_tellsNext, Cond.selects RX7 yX7_tellsNext yX7_tellsNext, Cond.code yX7_tellsNext cX7_tellsNext 4 none, Cond.constant RX7 180 (99999), Cond.methodLink RX7 175 yX7_costs, Cond.instanceMethod yX7_costs, Cond.selects RX7 yX7_costs yX7_costs, Cond.code yX7_costs cX7_costs 2 (some .int), Cond.methodLink RX7 181 yX7_least, Cond.static yX7_least]
def wsX7_taleOf_r3 : List Cond := [Cond.code yX7_least cX7_least 2 (some .int)]
def wsX7_taleOf : List Cond := .code yX7_taleOf cX7_taleOf 4 (some .int) :: ((wsX7_taleOf_r1 ++ (wsX7_taleOf_r2 ++ wsX7_taleOf_r3)) ++ wsX70)
def wsX7_strangersFor_r1 : List Cond := [Cond.constantLong RX7 240 (20), Cond.constantLong RX7 242 (99999), Cond.fieldLink RX7 7 "KinCutleryModel" "s" "[I", Cond.methodLink RX7 54 yX7_isIn, Cond.static yX7_isIn, Cond.initialized RX7, Cond.code yX7_isIn cX7_isIn 6 (some .boolean), Cond.methodLink RX7 244 yX7_size, Cond.static yX7_size, Cond.code yX7_size cX7_size 3 (some .int), Cond.methodLink RX7 247 yX7_taleOf, Cond.instanceMethod yX7_taleOf, Cond.selects RX7 yX7_taleOf yX7_taleOf, Cond.code yX7_taleOf cX7_taleOf 4 (some .int), Cond.fieldLink RX7 16 "KinCutleryModel" "aside" "[I", Cond.methodLink RX7 133 yX7_copyRow, Cond.static yX7_copyRow, Cond.code yX7_copyRow cX7_copyRow 3 none, Cond.methodLink RX7 198 yX7_goesOnMany, Cond.instanceMethod yX7_goesOnMany, Cond.selects RX7 yX7_goesOnMany yX7_goesOnMany, Cond.code yX7_goesOnMany cX7_goesOnMany 3 none, Cond.methodLink RX7 193 yX7_goesOn, Cond.instanceMethod yX7_goesOn]
def wsX7_strangersFor_r2 : List Cond := [Cond.selects RX7 yX7_goesOn yX7_goesOn, Cond.code yX7_goesOn cX7_goesOn 3 none, Cond.methodLink RX7 169 yX7_takes, Cond.instanceMethod yX7_takes, Cond.selects RX7 yX7_takes yX7_takes, Cond.code yX7_takes cX7_takes 3 (some .int), Cond.methodLink RX7 156 yX7_its, Cond.instanceMethod yX7_its, Cond.selects RX7 yX7_its yX7_its, Cond.code yX7_its cX7_its 3 (some .int), Cond.methodLink RX7 159 yX7_next, Cond.instanceMethod yX7_next, Cond.selects RX7 yX7_next yX7_next, Cond.code yX7_next cX7_next 1 (some .int), Cond.methodLink RX7 184 yX7_within, Cond.static yX7_within, Cond.code yX7_within cX7_within 1 (some .int), Cond.methodLink RX7 187 yX7_teller, Cond.instanceMethod yX7_teller, Cond.selects RX7 yX7_teller yX7_teller, Cond.code yX7_teller cX7_teller 3 (some .int), Cond.methodLink RX7 172 yX7_needsOf, Cond.instanceMethod yX7_needsOf, Cond.selects RX7 yX7_needsOf yX7_needsOf]
def wsX7_strangersFor_r3 : List Cond := [Cond.code yX7_needsOf cX7_needsOf 2 (some .int), Cond.methodLink RX7 190 yX7_tellsNext, Cond.instanceMethod yX7_tellsNext, Cond.selects RX7 yX7_tellsNext yX7_tellsNext, Cond.code yX7_tellsNext cX7_tellsNext 4 none, Cond.constant RX7 180 (99999), Cond.methodLink RX7 175 yX7_costs, Cond.instanceMethod yX7_costs, Cond.selects RX7 yX7_costs yX7_costs, Cond.code yX7_costs cX7_costs 2 (some .int), Cond.methodLink RX7 181 yX7_least, Cond.static yX7_least, Cond.code yX7_least cX7_least 2 (some .int)]
def wsX7_strangersFor : List Cond := .code yX7_strangersFor cX7_strangersFor 5 (some .int) :: ((wsX7_strangersFor_r1 ++ (wsX7_strangersFor_r2 ++ wsX7_strangersFor_r3)) ++ wsX70)
def wsX7_product : List Cond := .code yX7_product cX7_product 4 (some .long) :: ([])
def wsX7_partOf : List Cond := .code yX7_partOf cX7_partOf 11 (some .long) :: ([])
def wsX7_isTold_r1 : List Cond := [Cond.fieldLink RX7 7 "KinCutleryModel" "s" "[I", Cond.fieldLink RX7 16 "KinCutleryModel" "aside" "[I", Cond.fieldLink RX7 31 "KinCutleryModel" "sizeOf" "[I", Cond.fieldLink RX7 34 "KinCutleryModel" "numbers" "[I", Cond.methodLink RX7 133 yX7_copyRow, Cond.static yX7_copyRow, Cond.initialized RX7, Cond.code yX7_copyRow cX7_copyRow 3 none, Cond.methodLink RX7 193 yX7_goesOn, Cond.instanceMethod yX7_goesOn, Cond.selects RX7 yX7_goesOn yX7_goesOn, Cond.code yX7_goesOn cX7_goesOn 3 none, Cond.methodLink RX7 169 yX7_takes, Cond.instanceMethod yX7_takes, Cond.selects RX7 yX7_takes yX7_takes, Cond.code yX7_takes cX7_takes 3 (some .int), Cond.methodLink RX7 156 yX7_its, Cond.instanceMethod yX7_its, Cond.selects RX7 yX7_its yX7_its, Cond.code yX7_its cX7_its 3 (some .int), Cond.methodLink RX7 159 yX7_next, Cond.instanceMethod yX7_next, Cond.selects RX7 yX7_next yX7_next, Cond.code yX7_next cX7_next 1 (some .int)]
def wsX7_isTold_r2 : List Cond := [Cond.methodLink RX7 184 yX7_within, Cond.static yX7_within, Cond.code yX7_within cX7_within 1 (some .int), Cond.methodLink RX7 187 yX7_teller, Cond.instanceMethod yX7_teller, Cond.selects RX7 yX7_teller yX7_teller, Cond.code yX7_teller cX7_teller 3 (some .int), Cond.methodLink RX7 172 yX7_needsOf, Cond.instanceMethod yX7_needsOf, Cond.selects RX7 yX7_needsOf yX7_needsOf, Cond.code yX7_needsOf cX7_needsOf 2 (some .int), Cond.methodLink RX7 190 yX7_tellsNext, Cond.instanceMethod yX7_tellsNext, Cond.selects RX7 yX7_tellsNext yX7_tellsNext, Cond.code yX7_tellsNext cX7_tellsNext 4 none, Cond.constant RX7 180 (99999), Cond.methodLink RX7 175 yX7_costs, Cond.instanceMethod yX7_costs, Cond.selects RX7 yX7_costs yX7_costs, Cond.code yX7_costs cX7_costs 2 (some .int), Cond.methodLink RX7 181 yX7_least, Cond.static yX7_least, Cond.code yX7_least cX7_least 2 (some .int)]
def wsX7_isTold : List Cond := .code yX7_isTold cX7_isTold 4 (some .boolean) :: ((wsX7_isTold_r1 ++ wsX7_isTold_r2) ++ wsX70)
def wsX7_isSheet : List Cond := .code yX7_isSheet cX7_isSheet 1 (some .boolean) :: ([.constantLong RX7 143 (3), .methodLink RX7 54 yX7_isIn, .static yX7_isIn, .initialized RX7, .code yX7_isIn cX7_isIn 6 (some .boolean)])
def wsX7_fits_r1 : List Cond := [Cond.fieldLink RX7 28 "KinCutleryModel" "sortOf" "[I", Cond.fieldLink RX7 7 "KinCutleryModel" "s" "[I", Cond.methodLink RX7 250 yX7_isSheet, Cond.static yX7_isSheet, Cond.initialized RX7, Cond.code yX7_isSheet cX7_isSheet 1 (some .boolean), Cond.constantLong RX7 143 (3), Cond.methodLink RX7 54 yX7_isIn, Cond.static yX7_isIn, Cond.code yX7_isIn cX7_isIn 6 (some .boolean), Cond.methodLink RX7 162 yX7_isOne, Cond.instanceMethod yX7_isOne, Cond.selects RX7 yX7_isOne yX7_isOne, Cond.code yX7_isOne cX7_isOne 2 (some .boolean), Cond.methodLink RX7 253 yX7_isTold, Cond.instanceMethod yX7_isTold, Cond.selects RX7 yX7_isTold yX7_isTold, Cond.code yX7_isTold cX7_isTold 4 (some .boolean), Cond.fieldLink RX7 16 "KinCutleryModel" "aside" "[I", Cond.fieldLink RX7 31 "KinCutleryModel" "sizeOf" "[I", Cond.fieldLink RX7 34 "KinCutleryModel" "numbers" "[I", Cond.methodLink RX7 133 yX7_copyRow, Cond.static yX7_copyRow, Cond.code yX7_copyRow cX7_copyRow 3 none]
def wsX7_fits_r2 : List Cond := [Cond.methodLink RX7 193 yX7_goesOn, Cond.instanceMethod yX7_goesOn, Cond.selects RX7 yX7_goesOn yX7_goesOn, Cond.code yX7_goesOn cX7_goesOn 3 none, Cond.methodLink RX7 169 yX7_takes, Cond.instanceMethod yX7_takes, Cond.selects RX7 yX7_takes yX7_takes, Cond.code yX7_takes cX7_takes 3 (some .int), Cond.methodLink RX7 156 yX7_its, Cond.instanceMethod yX7_its, Cond.selects RX7 yX7_its yX7_its, Cond.code yX7_its cX7_its 3 (some .int), Cond.methodLink RX7 159 yX7_next, Cond.instanceMethod yX7_next, Cond.selects RX7 yX7_next yX7_next, Cond.code yX7_next cX7_next 1 (some .int), Cond.methodLink RX7 184 yX7_within, Cond.static yX7_within, Cond.code yX7_within cX7_within 1 (some .int), Cond.methodLink RX7 187 yX7_teller, Cond.instanceMethod yX7_teller, Cond.selects RX7 yX7_teller yX7_teller, Cond.code yX7_teller cX7_teller 3 (some .int), Cond.methodLink RX7 172 yX7_needsOf]
def wsX7_fits_r3 : List Cond := [Cond.instanceMethod yX7_needsOf, Cond.selects RX7 yX7_needsOf yX7_needsOf, Cond.code yX7_needsOf cX7_needsOf 2 (some .int), Cond.methodLink RX7 190 yX7_tellsNext, Cond.instanceMethod yX7_tellsNext, Cond.selects RX7 yX7_tellsNext yX7_tellsNext, Cond.code yX7_tellsNext cX7_tellsNext 4 none, Cond.constant RX7 180 (99999), Cond.methodLink RX7 175 yX7_costs, Cond.instanceMethod yX7_costs, Cond.selects RX7 yX7_costs yX7_costs, Cond.code yX7_costs cX7_costs 2 (some .int), Cond.methodLink RX7 181 yX7_least, Cond.static yX7_least, Cond.code yX7_least cX7_least 2 (some .int)]
def wsX7_fits : List Cond := .code yX7_fits cX7_fits 10 (some .int) :: ((wsX7_fits_r1 ++ (wsX7_fits_r2 ++ wsX7_fits_r3)) ++ wsX70)
def wsX7_odds : List Cond := .code yX7_odds cX7_odds 9 (some .long) :: ([.constantLong RX7 52 (8), .constantLong RX7 256 (-1), .fieldLink RX7 7 "KinCutleryModel" "s" "[I", .constantLong RX7 262 (100), .methodLink RX7 54 yX7_isIn, .static yX7_isIn, .initialized RX7, .code yX7_isIn cX7_isIn 6 (some .boolean), .methodLink RX7 258 yX7_product, .static yX7_product, .code yX7_product cX7_product 4 (some .long), .methodLink RX7 264 yX7_partOf, .static yX7_partOf, .code yX7_partOf cX7_partOf 11 (some .long)] ++ wsX70)
def wsX7_hope : List Cond := .code yX7_hope cX7_hope 3 (some .long) :: ([.constantLong RX7 178 (99), .fieldLink RX7 7 "KinCutleryModel" "s" "[I", .constantLong RX7 262 (100), .constantLong RX7 256 (-1), .methodLink RX7 54 yX7_isIn, .static yX7_isIn, .initialized RX7, .code yX7_isIn cX7_isIn 6 (some .boolean), .methodLink RX7 264 yX7_partOf, .static yX7_partOf, .code yX7_partOf cX7_partOf 11 (some .long)] ++ wsX70)
def wsX7_prove_r1 : List Cond := [Cond.constantLong RX7 268 (10), Cond.fieldLink RX7 7 "KinCutleryModel" "s" "[I", Cond.fieldLink RX7 16 "KinCutleryModel" "aside" "[I", Cond.fieldLink RX7 25 "KinCutleryModel" "rows" "[I", Cond.fieldLink RX7 140 "KinCutleryModel" "rowN" "I", Cond.methodLink RX7 162 yX7_isOne, Cond.instanceMethod yX7_isOne, Cond.selects RX7 yX7_isOne yX7_isOne, Cond.initialized RX7, Cond.code yX7_isOne cX7_isOne 2 (some .boolean), Cond.methodLink RX7 54 yX7_isIn, Cond.static yX7_isIn, Cond.code yX7_isIn cX7_isIn 6 (some .boolean), Cond.methodLink RX7 133 yX7_copyRow, Cond.static yX7_copyRow, Cond.code yX7_copyRow cX7_copyRow 3 none, Cond.methodLink RX7 193 yX7_goesOn, Cond.instanceMethod yX7_goesOn, Cond.selects RX7 yX7_goesOn yX7_goesOn, Cond.code yX7_goesOn cX7_goesOn 3 none, Cond.methodLink RX7 169 yX7_takes, Cond.instanceMethod yX7_takes, Cond.selects RX7 yX7_takes yX7_takes, Cond.code yX7_takes cX7_takes 3 (some .int)]
def wsX7_prove_r2 : List Cond := [Cond.methodLink RX7 156 yX7_its, Cond.instanceMethod yX7_its, Cond.selects RX7 yX7_its yX7_its, Cond.code yX7_its cX7_its 3 (some .int), Cond.methodLink RX7 159 yX7_next, Cond.instanceMethod yX7_next, Cond.selects RX7 yX7_next yX7_next, Cond.code yX7_next cX7_next 1 (some .int), Cond.methodLink RX7 184 yX7_within, Cond.static yX7_within, Cond.code yX7_within cX7_within 1 (some .int), Cond.methodLink RX7 187 yX7_teller, Cond.instanceMethod yX7_teller, Cond.selects RX7 yX7_teller yX7_teller, Cond.code yX7_teller cX7_teller 3 (some .int), Cond.methodLink RX7 172 yX7_needsOf, Cond.instanceMethod yX7_needsOf, Cond.selects RX7 yX7_needsOf yX7_needsOf, Cond.code yX7_needsOf cX7_needsOf 2 (some .int), Cond.methodLink RX7 190 yX7_tellsNext, Cond.instanceMethod yX7_tellsNext, Cond.selects RX7 yX7_tellsNext yX7_tellsNext, Cond.code yX7_tellsNext cX7_tellsNext 4 none, Cond.constant RX7 180 (99999)]
def wsX7_prove_r3 : List Cond := [Cond.methodLink RX7 175 yX7_costs, Cond.instanceMethod yX7_costs, Cond.selects RX7 yX7_costs yX7_costs, Cond.code yX7_costs cX7_costs 2 (some .int), Cond.methodLink RX7 181 yX7_least, Cond.static yX7_least, Cond.code yX7_least cX7_least 2 (some .int)]
def wsX7_prove : List Cond := .code yX7_prove cX7_prove 4 (some .int) :: ((wsX7_prove_r1 ++ (wsX7_prove_r2 ++ wsX7_prove_r3)) ++ wsX70)
def wsX7_isRow : List Cond := .code yX7_isRow cX7_isRow 3 (some .boolean) :: ([.fieldLink RX7 140 "KinCutleryModel" "rowN" "I", .constantLong RX7 167 (2), .methodLink RX7 54 yX7_isIn, .static yX7_isIn, .initialized RX7, .code yX7_isIn cX7_isIn 6 (some .boolean)] ++ wsX70)
def wsX7_row : List Cond := .code yX7_row cX7_row 3 (some .int) :: ([.fieldLink RX7 25 "KinCutleryModel" "rows" "[I", .methodLink RX7 270 yX7_isRow, .instanceMethod yX7_isRow, .selects RX7 yX7_isRow yX7_isRow, .initialized RX7, .code yX7_isRow cX7_isRow 3 (some .boolean), .fieldLink RX7 140 "KinCutleryModel" "rowN" "I", .constantLong RX7 167 (2), .methodLink RX7 54 yX7_isIn, .static yX7_isIn, .code yX7_isIn cX7_isIn 6 (some .boolean)] ++ wsX70)
def wsX7_alterRow : List Cond := .code yX7_alterRow cX7_alterRow 5 (some .int) :: ([.fieldLink RX7 25 "KinCutleryModel" "rows" "[I", .methodLink RX7 270 yX7_isRow, .instanceMethod yX7_isRow, .selects RX7 yX7_isRow yX7_isRow, .initialized RX7, .code yX7_isRow cX7_isRow 3 (some .boolean), .fieldLink RX7 140 "KinCutleryModel" "rowN" "I", .constantLong RX7 167 (2), .methodLink RX7 54 yX7_isIn, .static yX7_isIn, .code yX7_isIn cX7_isIn 6 (some .boolean)] ++ wsX70)
def wsX7_judge_r1 : List Cond := [Cond.fieldLink RX7 7 "KinCutleryModel" "s" "[I", Cond.fieldLink RX7 16 "KinCutleryModel" "aside" "[I", Cond.fieldLink RX7 140 "KinCutleryModel" "rowN" "I", Cond.fieldLink RX7 25 "KinCutleryModel" "rows" "[I", Cond.methodLink RX7 162 yX7_isOne, Cond.instanceMethod yX7_isOne, Cond.selects RX7 yX7_isOne yX7_isOne, Cond.initialized RX7, Cond.code yX7_isOne cX7_isOne 2 (some .boolean), Cond.methodLink RX7 133 yX7_copyRow, Cond.static yX7_copyRow, Cond.code yX7_copyRow cX7_copyRow 3 none, Cond.methodLink RX7 193 yX7_goesOn, Cond.instanceMethod yX7_goesOn, Cond.selects RX7 yX7_goesOn yX7_goesOn, Cond.code yX7_goesOn cX7_goesOn 3 none, Cond.methodLink RX7 169 yX7_takes, Cond.instanceMethod yX7_takes, Cond.selects RX7 yX7_takes yX7_takes, Cond.code yX7_takes cX7_takes 3 (some .int), Cond.methodLink RX7 156 yX7_its, Cond.instanceMethod yX7_its, Cond.selects RX7 yX7_its yX7_its, Cond.code yX7_its cX7_its 3 (some .int)]
def wsX7_judge_r2 : List Cond := [Cond.methodLink RX7 159 yX7_next, Cond.instanceMethod yX7_next, Cond.selects RX7 yX7_next yX7_next, Cond.code yX7_next cX7_next 1 (some .int), Cond.methodLink RX7 184 yX7_within, Cond.static yX7_within, Cond.code yX7_within cX7_within 1 (some .int), Cond.methodLink RX7 187 yX7_teller, Cond.instanceMethod yX7_teller, Cond.selects RX7 yX7_teller yX7_teller, Cond.code yX7_teller cX7_teller 3 (some .int), Cond.methodLink RX7 172 yX7_needsOf, Cond.instanceMethod yX7_needsOf, Cond.selects RX7 yX7_needsOf yX7_needsOf, Cond.code yX7_needsOf cX7_needsOf 2 (some .int), Cond.methodLink RX7 190 yX7_tellsNext, Cond.instanceMethod yX7_tellsNext, Cond.selects RX7 yX7_tellsNext yX7_tellsNext, Cond.code yX7_tellsNext cX7_tellsNext 4 none, Cond.constant RX7 180 (99999), Cond.methodLink RX7 175 yX7_costs, Cond.instanceMethod yX7_costs, Cond.selects RX7 yX7_costs yX7_costs, Cond.code yX7_costs cX7_costs 2 (some .int)]
def wsX7_judge_r3 : List Cond := [Cond.methodLink RX7 181 yX7_least, Cond.static yX7_least, Cond.code yX7_least cX7_least 2 (some .int)]
def wsX7_judge : List Cond := .code yX7_judge cX7_judge 4 (some .int) :: ((wsX7_judge_r1 ++ (wsX7_judge_r2 ++ wsX7_judge_r3)) ++ wsX70)
def wsX7_isShelf : List Cond := .code yX7_isShelf cX7_isShelf 1 (some .boolean) :: ([.constantLong RX7 143 (3), .methodLink RX7 54 yX7_isIn, .static yX7_isIn, .initialized RX7, .code yX7_isIn cX7_isIn 6 (some .boolean)])
def wsX7_sheet : List Cond := .code yX7_sheet cX7_sheet 5 (some .int) :: ([.constantLong RX7 256 (-1), .constantLong RX7 143 (3), .fieldLink RX7 28 "KinCutleryModel" "sortOf" "[I", .fieldLink RX7 31 "KinCutleryModel" "sizeOf" "[I", .fieldLink RX7 34 "KinCutleryModel" "numbers" "[I", .methodLink RX7 250 yX7_isSheet, .static yX7_isSheet, .initialized RX7, .code yX7_isSheet cX7_isSheet 1 (some .boolean), .methodLink RX7 54 yX7_isIn, .static yX7_isIn, .code yX7_isIn cX7_isIn 6 (some .boolean)] ++ wsX70)
def wsX7_put : List Cond := .code yX7_put cX7_put 4 (some .int) :: ([.fieldLink RX7 28 "KinCutleryModel" "sortOf" "[I", .fieldLink RX7 31 "KinCutleryModel" "sizeOf" "[I", .fieldLink RX7 34 "KinCutleryModel" "numbers" "[I", .methodLink RX7 250 yX7_isSheet, .static yX7_isSheet, .initialized RX7, .code yX7_isSheet cX7_isSheet 1 (some .boolean), .constantLong RX7 143 (3), .methodLink RX7 54 yX7_isIn, .static yX7_isIn, .code yX7_isIn cX7_isIn 6 (some .boolean)] ++ wsX70)
def wsX7_lacks : List Cond := .code yX7_lacks cX7_lacks 3 (some .int) :: ([.fieldLink RX7 28 "KinCutleryModel" "sortOf" "[I"] ++ wsX70)
def wsX7_item : List Cond := .code yX7_item cX7_item 4 (some .int) :: ([.constantLong RX7 143 (3), .fieldLink RX7 31 "KinCutleryModel" "sizeOf" "[I", .fieldLink RX7 34 "KinCutleryModel" "numbers" "[I", .methodLink RX7 250 yX7_isSheet, .static yX7_isSheet, .initialized RX7, .code yX7_isSheet cX7_isSheet 1 (some .boolean), .methodLink RX7 54 yX7_isIn, .static yX7_isIn, .code yX7_isIn cX7_isIn 6 (some .boolean), .methodLink RX7 274 yX7_lacks, .instanceMethod yX7_lacks, .selects RX7 yX7_lacks yX7_lacks, .code yX7_lacks cX7_lacks 3 (some .int), .fieldLink RX7 28 "KinCutleryModel" "sortOf" "[I"] ++ wsX70)
def wsX7_minds : List Cond := .code yX7_minds cX7_minds 6 (some .int) :: ([.constantLong RX7 52 (8), .fieldLink RX7 7 "KinCutleryModel" "s" "[I", .fieldLink RX7 31 "KinCutleryModel" "sizeOf" "[I", .fieldLink RX7 34 "KinCutleryModel" "numbers" "[I", .methodLink RX7 250 yX7_isSheet, .static yX7_isSheet, .initialized RX7, .code yX7_isSheet cX7_isSheet 1 (some .boolean), .constantLong RX7 143 (3), .methodLink RX7 54 yX7_isIn, .static yX7_isIn, .code yX7_isIn cX7_isIn 6 (some .boolean), .methodLink RX7 162 yX7_isOne, .instanceMethod yX7_isOne, .selects RX7 yX7_isOne yX7_isOne, .code yX7_isOne cX7_isOne 2 (some .boolean), .methodLink RX7 274 yX7_lacks, .instanceMethod yX7_lacks, .selects RX7 yX7_lacks yX7_lacks, .code yX7_lacks cX7_lacks 3 (some .int), .fieldLink RX7 28 "KinCutleryModel" "sortOf" "[I", .methodLink RX7 184 yX7_within, .static yX7_within, .code yX7_within cX7_within 1 (some .int)] ++ wsX70)
def wsX7_shelf : List Cond := .code yX7_shelf cX7_shelf 5 (some .int) :: ([.constantLong RX7 167 (2), .fieldLink RX7 28 "KinCutleryModel" "sortOf" "[I", .fieldLink RX7 37 "KinCutleryModel" "holdsWhat" "[I", .fieldLink RX7 40 "KinCutleryModel" "holdsWhich" "[I", .fieldLink RX7 43 "KinCutleryModel" "holdsMany" "[I", .fieldLink RX7 31 "KinCutleryModel" "sizeOf" "[I", .methodLink RX7 277 yX7_isShelf, .static yX7_isShelf, .initialized RX7, .code yX7_isShelf cX7_isShelf 1 (some .boolean), .constantLong RX7 143 (3), .methodLink RX7 54 yX7_isIn, .static yX7_isIn, .code yX7_isIn cX7_isIn 6 (some .boolean), .methodLink RX7 162 yX7_isOne, .instanceMethod yX7_isOne, .selects RX7 yX7_isOne yX7_isOne, .code yX7_isOne cX7_isOne 2 (some .boolean), .fieldLink RX7 7 "KinCutleryModel" "s" "[I", .methodLink RX7 250 yX7_isSheet, .static yX7_isSheet, .code yX7_isSheet cX7_isSheet 1 (some .boolean)] ++ wsX70)
def wsX7_heldOn : List Cond := .code yX7_heldOn cX7_heldOn 2 (some .int) :: ([.fieldLink RX7 37 "KinCutleryModel" "holdsWhat" "[I", .fieldLink RX7 40 "KinCutleryModel" "holdsWhich" "[I", .methodLink RX7 162 yX7_isOne, .instanceMethod yX7_isOne, .selects RX7 yX7_isOne yX7_isOne, .initialized RX7, .code yX7_isOne cX7_isOne 2 (some .boolean), .fieldLink RX7 7 "KinCutleryModel" "s" "[I"] ++ wsX70)
def wsX7_taken_r1 : List Cond := [Cond.constantLong RX7 280 (13), Cond.constantLong RX7 282 (6), Cond.constantLong RX7 284 (9), Cond.fieldLink RX7 40 "KinCutleryModel" "holdsWhich" "[I", Cond.fieldLink RX7 43 "KinCutleryModel" "holdsMany" "[I", Cond.methodLink RX7 277 yX7_isShelf, Cond.static yX7_isShelf, Cond.initialized RX7, Cond.code yX7_isShelf cX7_isShelf 1 (some .boolean), Cond.constantLong RX7 143 (3), Cond.methodLink RX7 54 yX7_isIn, Cond.static yX7_isIn, Cond.code yX7_isIn cX7_isIn 6 (some .boolean), Cond.methodLink RX7 286 yX7_heldOn, Cond.instanceMethod yX7_heldOn, Cond.selects RX7 yX7_heldOn yX7_heldOn, Cond.code yX7_heldOn cX7_heldOn 2 (some .int), Cond.fieldLink RX7 37 "KinCutleryModel" "holdsWhat" "[I", Cond.methodLink RX7 162 yX7_isOne, Cond.instanceMethod yX7_isOne, Cond.selects RX7 yX7_isOne yX7_isOne, Cond.code yX7_isOne cX7_isOne 2 (some .boolean), Cond.fieldLink RX7 7 "KinCutleryModel" "s" "[I", Cond.methodLink RX7 156 yX7_its]
def wsX7_taken_r2 : List Cond := [Cond.instanceMethod yX7_its, Cond.selects RX7 yX7_its yX7_its, Cond.code yX7_its cX7_its 3 (some .int), Cond.methodLink RX7 289 yX7_isUnder, Cond.static yX7_isUnder, Cond.code yX7_isUnder cX7_isUnder 2 (some .boolean)]
def wsX7_taken : List Cond := .code yX7_taken cX7_taken 4 (some .int) :: ((wsX7_taken_r1 ++ wsX7_taken_r2) ++ wsX70)
def wsX7_runs : List Cond := .code yX7_runs cX7_runs 2 none :: ([.fieldLink RX7 292 "KinCutleryModel" "ran" "I", .fieldLink RX7 46 "KinCutleryModel" "bodies" "[I"] ++ wsX70)
def wsX7_liftsPlain : List Cond := .code yX7_liftsPlain cX7_liftsPlain 2 (some .int) :: ([.fieldLink RX7 298 "KinCutleryModel" "actN" "I", .methodLink RX7 295 yX7_runs, .instanceMethod yX7_runs, .selects RX7 yX7_runs yX7_runs, .initialized RX7, .code yX7_runs cX7_runs 2 none, .fieldLink RX7 292 "KinCutleryModel" "ran" "I", .fieldLink RX7 46 "KinCutleryModel" "bodies" "[I"] ++ wsX70)
def wsX7_liftsOfActuary : List Cond := .code yX7_liftsOfActuary cX7_liftsOfActuary 2 (some .int) :: ([.methodLink RX7 295 yX7_runs, .instanceMethod yX7_runs, .selects RX7 yX7_runs yX7_runs, .initialized RX7, .code yX7_runs cX7_runs 2 none, .fieldLink RX7 292 "KinCutleryModel" "ran" "I", .fieldLink RX7 46 "KinCutleryModel" "bodies" "[I", .methodLink RX7 301 yX7_liftsPlain, .instanceMethod yX7_liftsPlain, .selects RX7 yX7_liftsPlain yX7_liftsPlain, .code yX7_liftsPlain cX7_liftsPlain 2 (some .int), .fieldLink RX7 298 "KinCutleryModel" "actN" "I"] ++ wsX70)
def wsX7_lifts : List Cond := .code yX7_lifts cX7_lifts 2 (some .int) :: ([.fieldLink RX7 304 "KinCutleryModel" "actKind" "I", .fieldLink RX7 310 "KinCutleryModel" "actA" "I", .methodLink RX7 307 yX7_liftsOfActuary, .instanceMethod yX7_liftsOfActuary, .selects RX7 yX7_liftsOfActuary yX7_liftsOfActuary, .initialized RX7, .code yX7_liftsOfActuary cX7_liftsOfActuary 2 (some .int), .methodLink RX7 295 yX7_runs, .instanceMethod yX7_runs, .selects RX7 yX7_runs yX7_runs, .code yX7_runs cX7_runs 2 none, .fieldLink RX7 292 "KinCutleryModel" "ran" "I", .fieldLink RX7 46 "KinCutleryModel" "bodies" "[I", .methodLink RX7 301 yX7_liftsPlain, .instanceMethod yX7_liftsPlain, .selects RX7 yX7_liftsPlain yX7_liftsPlain, .code yX7_liftsPlain cX7_liftsPlain 2 (some .int), .fieldLink RX7 298 "KinCutleryModel" "actN" "I"] ++ wsX70)
def wsX7_cutsPlain : List Cond := .code yX7_cutsPlain cX7_cutsPlain 2 (some .int) :: ([.fieldLink RX7 310 "KinCutleryModel" "actA" "I", .methodLink RX7 295 yX7_runs, .instanceMethod yX7_runs, .selects RX7 yX7_runs yX7_runs, .initialized RX7, .code yX7_runs cX7_runs 2 none, .fieldLink RX7 292 "KinCutleryModel" "ran" "I", .fieldLink RX7 46 "KinCutleryModel" "bodies" "[I", .methodLink RX7 313 yX7_lifts, .instanceMethod yX7_lifts, .selects RX7 yX7_lifts yX7_lifts, .code yX7_lifts cX7_lifts 2 (some .int), .fieldLink RX7 304 "KinCutleryModel" "actKind" "I", .methodLink RX7 307 yX7_liftsOfActuary, .instanceMethod yX7_liftsOfActuary, .selects RX7 yX7_liftsOfActuary yX7_liftsOfActuary, .code yX7_liftsOfActuary cX7_liftsOfActuary 2 (some .int), .methodLink RX7 301 yX7_liftsPlain, .instanceMethod yX7_liftsPlain, .selects RX7 yX7_liftsPlain yX7_liftsPlain, .code yX7_liftsPlain cX7_liftsPlain 2 (some .int), .fieldLink RX7 298 "KinCutleryModel" "actN" "I"] ++ wsX70)
def wsX7_cuts_r1 : List Cond := [Cond.fieldLink RX7 304 "KinCutleryModel" "actKind" "I", Cond.fieldLink RX7 310 "KinCutleryModel" "actA" "I", Cond.methodLink RX7 295 yX7_runs, Cond.instanceMethod yX7_runs, Cond.selects RX7 yX7_runs yX7_runs, Cond.initialized RX7, Cond.code yX7_runs cX7_runs 2 none, Cond.fieldLink RX7 292 "KinCutleryModel" "ran" "I", Cond.fieldLink RX7 46 "KinCutleryModel" "bodies" "[I", Cond.methodLink RX7 316 yX7_cutsPlain, Cond.instanceMethod yX7_cutsPlain, Cond.selects RX7 yX7_cutsPlain yX7_cutsPlain, Cond.code yX7_cutsPlain cX7_cutsPlain 2 (some .int), Cond.methodLink RX7 313 yX7_lifts, Cond.instanceMethod yX7_lifts, Cond.selects RX7 yX7_lifts yX7_lifts, Cond.code yX7_lifts cX7_lifts 2 (some .int), Cond.methodLink RX7 307 yX7_liftsOfActuary, Cond.instanceMethod yX7_liftsOfActuary, Cond.selects RX7 yX7_liftsOfActuary yX7_liftsOfActuary, Cond.code yX7_liftsOfActuary cX7_liftsOfActuary 2 (some .int), Cond.methodLink RX7 301 yX7_liftsPlain, Cond.instanceMethod yX7_liftsPlain, Cond.selects RX7 yX7_liftsPlain yX7_liftsPlain]
def wsX7_cuts_r2 : List Cond := [Cond.code yX7_liftsPlain cX7_liftsPlain 2 (some .int), Cond.fieldLink RX7 298 "KinCutleryModel" "actN" "I"]
def wsX7_cuts : List Cond := .code yX7_cuts cX7_cuts 3 (some .int) :: ((wsX7_cuts_r1 ++ wsX7_cuts_r2) ++ wsX70)
def wsX7_partsPlain : List Cond := .code yX7_partsPlain cX7_partsPlain 2 (some .int) :: ([.fieldLink RX7 319 "KinCutleryModel" "isParted" "Z", .fieldLink RX7 298 "KinCutleryModel" "actN" "I", .fieldLink RX7 310 "KinCutleryModel" "actA" "I", .methodLink RX7 295 yX7_runs, .instanceMethod yX7_runs, .selects RX7 yX7_runs yX7_runs, .initialized RX7, .code yX7_runs cX7_runs 2 none, .fieldLink RX7 292 "KinCutleryModel" "ran" "I", .fieldLink RX7 46 "KinCutleryModel" "bodies" "[I"] ++ wsX70)
def wsX7_parts_r1 : List Cond := [Cond.fieldLink RX7 304 "KinCutleryModel" "actKind" "I", Cond.fieldLink RX7 319 "KinCutleryModel" "isParted" "Z", Cond.fieldLink RX7 298 "KinCutleryModel" "actN" "I", Cond.methodLink RX7 295 yX7_runs, Cond.instanceMethod yX7_runs, Cond.selects RX7 yX7_runs yX7_runs, Cond.initialized RX7, Cond.code yX7_runs cX7_runs 2 none, Cond.fieldLink RX7 292 "KinCutleryModel" "ran" "I", Cond.fieldLink RX7 46 "KinCutleryModel" "bodies" "[I", Cond.methodLink RX7 322 yX7_partsPlain, Cond.instanceMethod yX7_partsPlain, Cond.selects RX7 yX7_partsPlain yX7_partsPlain, Cond.code yX7_partsPlain cX7_partsPlain 2 (some .int), Cond.fieldLink RX7 310 "KinCutleryModel" "actA" "I", Cond.methodLink RX7 313 yX7_lifts, Cond.instanceMethod yX7_lifts, Cond.selects RX7 yX7_lifts yX7_lifts, Cond.code yX7_lifts cX7_lifts 2 (some .int), Cond.methodLink RX7 307 yX7_liftsOfActuary, Cond.instanceMethod yX7_liftsOfActuary, Cond.selects RX7 yX7_liftsOfActuary yX7_liftsOfActuary, Cond.code yX7_liftsOfActuary cX7_liftsOfActuary 2 (some .int), Cond.methodLink RX7 301 yX7_liftsPlain]
def wsX7_parts_r2 : List Cond := [Cond.instanceMethod yX7_liftsPlain, Cond.selects RX7 yX7_liftsPlain yX7_liftsPlain, Cond.code yX7_liftsPlain cX7_liftsPlain 2 (some .int)]
def wsX7_parts : List Cond := .code yX7_parts cX7_parts 3 (some .int) :: ((wsX7_parts_r1 ++ wsX7_parts_r2) ++ wsX70)
def wsX7_tellsPlain_r1 : List Cond := [Cond.methodLink RX7 295 yX7_runs, Cond.instanceMethod yX7_runs, Cond.selects RX7 yX7_runs yX7_runs, Cond.initialized RX7, Cond.code yX7_runs cX7_runs 2 none, Cond.fieldLink RX7 292 "KinCutleryModel" "ran" "I", Cond.fieldLink RX7 46 "KinCutleryModel" "bodies" "[I", Cond.methodLink RX7 325 yX7_cuts, Cond.instanceMethod yX7_cuts, Cond.selects RX7 yX7_cuts yX7_cuts, Cond.code yX7_cuts cX7_cuts 3 (some .int), Cond.fieldLink RX7 304 "KinCutleryModel" "actKind" "I", Cond.fieldLink RX7 310 "KinCutleryModel" "actA" "I", Cond.methodLink RX7 316 yX7_cutsPlain, Cond.instanceMethod yX7_cutsPlain, Cond.selects RX7 yX7_cutsPlain yX7_cutsPlain, Cond.code yX7_cutsPlain cX7_cutsPlain 2 (some .int), Cond.methodLink RX7 313 yX7_lifts, Cond.instanceMethod yX7_lifts, Cond.selects RX7 yX7_lifts yX7_lifts, Cond.code yX7_lifts cX7_lifts 2 (some .int), Cond.methodLink RX7 307 yX7_liftsOfActuary, Cond.instanceMethod yX7_liftsOfActuary, Cond.selects RX7 yX7_liftsOfActuary yX7_liftsOfActuary]
def wsX7_tellsPlain_r2 : List Cond := [Cond.code yX7_liftsOfActuary cX7_liftsOfActuary 2 (some .int), Cond.methodLink RX7 301 yX7_liftsPlain, Cond.instanceMethod yX7_liftsPlain, Cond.selects RX7 yX7_liftsPlain yX7_liftsPlain, Cond.code yX7_liftsPlain cX7_liftsPlain 2 (some .int), Cond.fieldLink RX7 298 "KinCutleryModel" "actN" "I"]
def wsX7_tellsPlain : List Cond := .code yX7_tellsPlain cX7_tellsPlain 2 (some .int) :: ((wsX7_tellsPlain_r1 ++ wsX7_tellsPlain_r2) ++ wsX70)
def wsX7_tells_r1 : List Cond := [Cond.fieldLink RX7 304 "KinCutleryModel" "actKind" "I", Cond.fieldLink RX7 298 "KinCutleryModel" "actN" "I", Cond.methodLink RX7 295 yX7_runs, Cond.instanceMethod yX7_runs, Cond.selects RX7 yX7_runs yX7_runs, Cond.initialized RX7, Cond.code yX7_runs cX7_runs 2 none, Cond.fieldLink RX7 292 "KinCutleryModel" "ran" "I", Cond.fieldLink RX7 46 "KinCutleryModel" "bodies" "[I", Cond.methodLink RX7 328 yX7_tellsPlain, Cond.instanceMethod yX7_tellsPlain, Cond.selects RX7 yX7_tellsPlain yX7_tellsPlain, Cond.code yX7_tellsPlain cX7_tellsPlain 2 (some .int), Cond.methodLink RX7 325 yX7_cuts, Cond.instanceMethod yX7_cuts, Cond.selects RX7 yX7_cuts yX7_cuts, Cond.code yX7_cuts cX7_cuts 3 (some .int), Cond.fieldLink RX7 310 "KinCutleryModel" "actA" "I", Cond.methodLink RX7 316 yX7_cutsPlain, Cond.instanceMethod yX7_cutsPlain, Cond.selects RX7 yX7_cutsPlain yX7_cutsPlain, Cond.code yX7_cutsPlain cX7_cutsPlain 2 (some .int), Cond.methodLink RX7 313 yX7_lifts, Cond.instanceMethod yX7_lifts]
def wsX7_tells_r2 : List Cond := [Cond.selects RX7 yX7_lifts yX7_lifts, Cond.code yX7_lifts cX7_lifts 2 (some .int), Cond.methodLink RX7 307 yX7_liftsOfActuary, Cond.instanceMethod yX7_liftsOfActuary, Cond.selects RX7 yX7_liftsOfActuary yX7_liftsOfActuary, Cond.code yX7_liftsOfActuary cX7_liftsOfActuary 2 (some .int), Cond.methodLink RX7 301 yX7_liftsPlain, Cond.instanceMethod yX7_liftsPlain, Cond.selects RX7 yX7_liftsPlain yX7_liftsPlain, Cond.code yX7_liftsPlain cX7_liftsPlain 2 (some .int), Cond.methodLink RX7 331 yX7_parts, Cond.instanceMethod yX7_parts, Cond.selects RX7 yX7_parts yX7_parts, Cond.code yX7_parts cX7_parts 3 (some .int), Cond.fieldLink RX7 319 "KinCutleryModel" "isParted" "Z", Cond.methodLink RX7 322 yX7_partsPlain, Cond.instanceMethod yX7_partsPlain, Cond.selects RX7 yX7_partsPlain yX7_partsPlain, Cond.code yX7_partsPlain cX7_partsPlain 2 (some .int)]
def wsX7_tells : List Cond := .code yX7_tells cX7_tells 3 (some .int) :: ((wsX7_tells_r1 ++ wsX7_tells_r2) ++ wsX70)
def wsX7_act_r1 : List Cond := [Cond.fieldLink RX7 292 "KinCutleryModel" "ran" "I", Cond.constantLong RX7 143 (3), Cond.fieldLink RX7 319 "KinCutleryModel" "isParted" "Z", Cond.fieldLink RX7 40 "KinCutleryModel" "holdsWhich" "[I", Cond.fieldLink RX7 304 "KinCutleryModel" "actKind" "I", Cond.fieldLink RX7 298 "KinCutleryModel" "actN" "I", Cond.fieldLink RX7 310 "KinCutleryModel" "actA" "I", Cond.methodLink RX7 277 yX7_isShelf, Cond.static yX7_isShelf, Cond.initialized RX7, Cond.code yX7_isShelf cX7_isShelf 1 (some .boolean), Cond.methodLink RX7 54 yX7_isIn, Cond.static yX7_isIn, Cond.code yX7_isIn cX7_isIn 6 (some .boolean), Cond.methodLink RX7 286 yX7_heldOn, Cond.instanceMethod yX7_heldOn, Cond.selects RX7 yX7_heldOn yX7_heldOn, Cond.code yX7_heldOn cX7_heldOn 2 (some .int), Cond.fieldLink RX7 37 "KinCutleryModel" "holdsWhat" "[I", Cond.methodLink RX7 162 yX7_isOne, Cond.instanceMethod yX7_isOne, Cond.selects RX7 yX7_isOne yX7_isOne, Cond.code yX7_isOne cX7_isOne 2 (some .boolean), Cond.fieldLink RX7 7 "KinCutleryModel" "s" "[I"]
def wsX7_act_r2 : List Cond := [Cond.methodLink RX7 156 yX7_its, Cond.instanceMethod yX7_its, Cond.selects RX7 yX7_its yX7_its, Cond.code yX7_its cX7_its 3 (some .int), Cond.methodLink RX7 313 yX7_lifts, Cond.instanceMethod yX7_lifts, Cond.selects RX7 yX7_lifts yX7_lifts, Cond.code yX7_lifts cX7_lifts 2 (some .int), Cond.methodLink RX7 307 yX7_liftsOfActuary, Cond.instanceMethod yX7_liftsOfActuary, Cond.selects RX7 yX7_liftsOfActuary yX7_liftsOfActuary, Cond.code yX7_liftsOfActuary cX7_liftsOfActuary 2 (some .int), Cond.methodLink RX7 295 yX7_runs, Cond.instanceMethod yX7_runs, Cond.selects RX7 yX7_runs yX7_runs, Cond.code yX7_runs cX7_runs 2 none, Cond.fieldLink RX7 46 "KinCutleryModel" "bodies" "[I", Cond.methodLink RX7 301 yX7_liftsPlain, Cond.instanceMethod yX7_liftsPlain, Cond.selects RX7 yX7_liftsPlain yX7_liftsPlain, Cond.code yX7_liftsPlain cX7_liftsPlain 2 (some .int), Cond.methodLink RX7 325 yX7_cuts, Cond.instanceMethod yX7_cuts, Cond.selects RX7 yX7_cuts yX7_cuts]
def wsX7_act_r3 : List Cond := [Cond.code yX7_cuts cX7_cuts 3 (some .int), Cond.methodLink RX7 316 yX7_cutsPlain, Cond.instanceMethod yX7_cutsPlain, Cond.selects RX7 yX7_cutsPlain yX7_cutsPlain, Cond.code yX7_cutsPlain cX7_cutsPlain 2 (some .int), Cond.methodLink RX7 331 yX7_parts, Cond.instanceMethod yX7_parts, Cond.selects RX7 yX7_parts yX7_parts, Cond.code yX7_parts cX7_parts 3 (some .int), Cond.methodLink RX7 322 yX7_partsPlain, Cond.instanceMethod yX7_partsPlain, Cond.selects RX7 yX7_partsPlain yX7_partsPlain, Cond.code yX7_partsPlain cX7_partsPlain 2 (some .int), Cond.methodLink RX7 334 yX7_tells, Cond.instanceMethod yX7_tells, Cond.selects RX7 yX7_tells yX7_tells, Cond.code yX7_tells cX7_tells 3 (some .int), Cond.methodLink RX7 328 yX7_tellsPlain, Cond.instanceMethod yX7_tellsPlain, Cond.selects RX7 yX7_tellsPlain yX7_tellsPlain, Cond.code yX7_tellsPlain cX7_tellsPlain 2 (some .int)]
def wsX7_act : List Cond := .code yX7_act cX7_act 5 (some .int) :: ((wsX7_act_r1 ++ (wsX7_act_r2 ++ wsX7_act_r3)) ++ wsX70)
def wsX7_trace : List Cond := .code yX7_trace cX7_trace 2 (some .int) :: ([.fieldLink RX7 292 "KinCutleryModel" "ran" "I", .fieldLink RX7 46 "KinCutleryModel" "bodies" "[I", .methodLink RX7 54 yX7_isIn, .static yX7_isIn, .initialized RX7, .code yX7_isIn cX7_isIn 6 (some .boolean)] ++ wsX70)
def wsX7_many : List Cond := .code yX7_many cX7_many 4 (some .int) :: ([.fieldLink RX7 7 "KinCutleryModel" "s" "[I", .fieldLink RX7 140 "KinCutleryModel" "rowN" "I", .fieldLink RX7 58 "KinCutleryModel" "taped" "I", .fieldLink RX7 292 "KinCutleryModel" "ran" "I", .methodLink RX7 216 yX7_drownedOnes, .instanceMethod yX7_drownedOnes, .selects RX7 yX7_drownedOnes yX7_drownedOnes, .initialized RX7, .code yX7_drownedOnes cX7_drownedOnes 3 (some .int), .methodLink RX7 156 yX7_its, .instanceMethod yX7_its, .selects RX7 yX7_its yX7_its, .code yX7_its cX7_its 3 (some .int), .methodLink RX7 244 yX7_size, .static yX7_size, .code yX7_size cX7_size 3 (some .int), .methodLink RX7 213 yX7_pieces, .instanceMethod yX7_pieces, .selects RX7 yX7_pieces yX7_pieces, .code yX7_pieces cX7_pieces 3 (some .int)] ++ wsX70)
def wsX7_keep : List Cond := .code yX7_keep cX7_keep 2 (some .int) :: ([.fieldLink RX7 13 "KinCutleryModel" "held" "[I", .fieldLink RX7 7 "KinCutleryModel" "s" "[I", .fieldLink RX7 337 "KinCutleryModel" "isHeld" "Z"] ++ wsX70)
def wsX7_again : List Cond := .code yX7_again cX7_again 2 (some .int) :: ([.fieldLink RX7 337 "KinCutleryModel" "isHeld" "Z", .fieldLink RX7 7 "KinCutleryModel" "s" "[I", .fieldLink RX7 13 "KinCutleryModel" "held" "[I"] ++ wsX70)
def wsJ9_max_7cf53 : List Cond := .code yJ9_max_7cf53 cJ9_max_7cf53 2 (some .int) :: ([])
def wsJ9_min_7cf53 : List Cond := .code yJ9_min_7cf53 cJ9_min_7cf53 2 (some .int) :: ([])
theorem dX0_init_0 : decode cX0_init 0 = .ok (.aload_n 0, 1) := by decide +kernel
theorem dX0_init_1 : decode cX0_init 1 = .ok (.invokespecial 3, 3) := by decide +kernel
theorem dX0_init_4 : decode cX0_init 4 = .ok (.aload_n 0, 1) := by decide +kernel
theorem dX0_init_5 : decode cX0_init 5 = .ok (.bipush 30, 2) := by decide +kernel
theorem dX0_init_7 : decode cX0_init 7 = .ok (.newarray .int, 2) := by decide +kernel
theorem dX0_init_9 : decode cX0_init 9 = .ok (.putfield 9, 3) := by decide +kernel
theorem dX0_init_12 : decode cX0_init 12 = .ok (.return_, 1) := by decide +kernel
set_option maxRecDepth 20000 in
theorem ggX0_has_X6_within : GoodIn wsX0_has wsX6_within := goodIn_r _ [4] (by decide +kernel) (by decide +kernel)
set_option maxRecDepth 20000 in
theorem gX0_has_X6_within_n19 : GoodIn wsX0_has (wsX6_within) := ggX0_has_X6_within
theorem dX0_has_0 : decode cX0_has 0 = .ok (.iload_n 1, 1) := by decide +kernel
theorem dX0_has_1 : decode cX0_has 1 = .ok (.iconst 0, 1) := by decide +kernel
theorem dX0_has_2 : decode cX0_has 2 = .ok (.aload_n 0, 1) := by decide +kernel
theorem dX0_has_3 : decode cX0_has 3 = .ok (.getfield 15, 3) := by decide +kernel
theorem dX0_has_6 : decode cX0_has 6 = .ok (.iconst 1, 1) := by decide +kernel
theorem dX0_has_7 : decode cX0_has 7 = .ok (.isub, 1) := by decide +kernel
theorem dX0_has_8 : decode cX0_has 8 = .ok (.invokestatic 19, 3) := by decide +kernel
theorem dX0_has_11 : decode cX0_has 11 = .ok (.ifCond .eq 16, 3) := by decide +kernel
theorem dX0_has_14 : decode cX0_has 14 = .ok (.iload_n 2, 1) := by decide +kernel
theorem dX0_has_15 : decode cX0_has 15 = .ok (.iconst 0, 1) := by decide +kernel
theorem dX0_has_16 : decode cX0_has 16 = .ok (.iconst 2, 1) := by decide +kernel
theorem dX0_has_17 : decode cX0_has 17 = .ok (.invokestatic 19, 3) := by decide +kernel
theorem dX0_has_20 : decode cX0_has 20 = .ok (.ifCond .eq 7, 3) := by decide +kernel
theorem dX0_has_23 : decode cX0_has 23 = .ok (.iconst 1, 1) := by decide +kernel
theorem dX0_has_24 : decode cX0_has 24 = .ok (.goto 4, 3) := by decide +kernel
theorem dX0_has_27 : decode cX0_has 27 = .ok (.iconst 0, 1) := by decide +kernel
theorem dX0_has_28 : decode cX0_has 28 = .ok (.ireturn, 1) := by decide +kernel
theorem dX1_init_0 : decode cX1_init 0 = .ok (.aload_n 0, 1) := by decide +kernel
theorem dX1_init_1 : decode cX1_init 1 = .ok (.invokespecial 3, 3) := by decide +kernel
theorem dX1_init_4 : decode cX1_init 4 = .ok (.aload_n 0, 1) := by decide +kernel
theorem dX1_init_5 : decode cX1_init 5 = .ok (.bipush 40, 2) := by decide +kernel
theorem dX1_init_7 : decode cX1_init 7 = .ok (.newarray .long, 2) := by decide +kernel
theorem dX1_init_9 : decode cX1_init 9 = .ok (.putfield 9, 3) := by decide +kernel
theorem dX1_init_12 : decode cX1_init 12 = .ok (.aload_n 0, 1) := by decide +kernel
theorem dX1_init_13 : decode cX1_init 13 = .ok (.iconst (-1), 1) := by decide +kernel
theorem dX1_init_14 : decode cX1_init 14 = .ok (.putfield 15, 3) := by decide +kernel
theorem dX1_init_17 : decode cX1_init 17 = .ok (.return_, 1) := by decide +kernel
set_option maxRecDepth 20000 in
theorem ggX1_become_J7_fill_d0a16 : GoodIn wsX1_become wsJ7_fill_d0a16 := goodIn_r _ [7] (by decide +kernel) (by decide +kernel)
set_option maxRecDepth 20000 in
theorem gX1_become_J7_fill_d0a16 : GoodIn wsX1_become (va_wsS RX1 22 yJ7_fill_d0a16 wsJ7_fill_d0a16) := goodIn_app (goodIn_of _ (by decide +kernel)) ggX1_become_J7_fill_d0a16
theorem dX1_become_0 : decode cX1_become 0 = .ok (.aload_n 0, 1) := by decide +kernel
theorem dX1_become_1 : decode cX1_become 1 = .ok (.iload_n 1, 1) := by decide +kernel
theorem dX1_become_2 : decode cX1_become 2 = .ok (.putfield 15, 3) := by decide +kernel
theorem dX1_become_5 : decode cX1_become 5 = .ok (.aload_n 0, 1) := by decide +kernel
theorem dX1_become_6 : decode cX1_become 6 = .ok (.iload_n 2, 1) := by decide +kernel
theorem dX1_become_7 : decode cX1_become 7 = .ok (.putfield 19, 3) := by decide +kernel
theorem dX1_become_10 : decode cX1_become 10 = .ok (.aload_n 0, 1) := by decide +kernel
theorem dX1_become_11 : decode cX1_become 11 = .ok (.getfield 9, 3) := by decide +kernel
theorem dX1_become_14 : decode cX1_become 14 = .ok (.lconst 0, 1) := by decide +kernel
theorem dX1_become_15 : decode cX1_become 15 = .ok (.invokestatic 22, 3) := by decide +kernel
theorem dX1_become_18 : decode cX1_become 18 = .ok (.return_, 1) := by decide +kernel
theorem dX2_init_0 : decode cX2_init 0 = .ok (.aload_n 0, 1) := by decide +kernel
theorem dX2_init_1 : decode cX2_init 1 = .ok (.invokespecial 3, 3) := by decide +kernel
theorem dX2_init_4 : decode cX2_init 4 = .ok (.aload_n 0, 1) := by decide +kernel
theorem dX2_init_5 : decode cX2_init 5 = .ok (.iconst 2, 1) := by decide +kernel
theorem dX2_init_6 : decode cX2_init 6 = .ok (.putfield 9, 3) := by decide +kernel
theorem dX2_init_9 : decode cX2_init 9 = .ok (.return_, 1) := by decide +kernel
theorem dX2_holdGuest_0 : decode cX2_holdGuest 0 = .ok (.aload_n 0, 1) := by decide +kernel
theorem dX2_holdGuest_1 : decode cX2_holdGuest 1 = .ok (.iconst 0, 1) := by decide +kernel
theorem dX2_holdGuest_2 : decode cX2_holdGuest 2 = .ok (.putfield 9, 3) := by decide +kernel
theorem dX2_holdGuest_5 : decode cX2_holdGuest 5 = .ok (.aload_n 0, 1) := by decide +kernel
theorem dX2_holdGuest_6 : decode cX2_holdGuest 6 = .ok (.iload_n 1, 1) := by decide +kernel
theorem dX2_holdGuest_7 : decode cX2_holdGuest 7 = .ok (.putfield 15, 3) := by decide +kernel
theorem dX2_holdGuest_10 : decode cX2_holdGuest 10 = .ok (.return_, 1) := by decide +kernel
theorem dX2_holdRow_0 : decode cX2_holdRow 0 = .ok (.aload_n 0, 1) := by decide +kernel
theorem dX2_holdRow_1 : decode cX2_holdRow 1 = .ok (.aload_n 1, 1) := by decide +kernel
theorem dX2_holdRow_2 : decode cX2_holdRow 2 = .ok (.getfield 18, 3) := by decide +kernel
theorem dX2_holdRow_5 : decode cX2_holdRow 5 = .ok (.iconst (-1), 1) := by decide +kernel
theorem dX2_holdRow_6 : decode cX2_holdRow 6 = .ok (.if_icmp .ne 7, 3) := by decide +kernel
theorem dX2_holdRow_9 : decode cX2_holdRow 9 = .ok (.iconst 2, 1) := by decide +kernel
theorem dX2_holdRow_10 : decode cX2_holdRow 10 = .ok (.goto 4, 3) := by decide +kernel
theorem dX2_holdRow_13 : decode cX2_holdRow 13 = .ok (.iconst 1, 1) := by decide +kernel
theorem dX2_holdRow_14 : decode cX2_holdRow 14 = .ok (.putfield 9, 3) := by decide +kernel
theorem dX2_holdRow_17 : decode cX2_holdRow 17 = .ok (.aload_n 0, 1) := by decide +kernel
theorem dX2_holdRow_18 : decode cX2_holdRow 18 = .ok (.aload_n 1, 1) := by decide +kernel
theorem dX2_holdRow_19 : decode cX2_holdRow 19 = .ok (.getfield 18, 3) := by decide +kernel
theorem dX2_holdRow_22 : decode cX2_holdRow 22 = .ok (.putfield 23, 3) := by decide +kernel
theorem dX2_holdRow_25 : decode cX2_holdRow 25 = .ok (.aload_n 0, 1) := by decide +kernel
theorem dX2_holdRow_26 : decode cX2_holdRow 26 = .ok (.aload_n 1, 1) := by decide +kernel
theorem dX2_holdRow_27 : decode cX2_holdRow 27 = .ok (.getfield 24, 3) := by decide +kernel
theorem dX2_holdRow_30 : decode cX2_holdRow 30 = .ok (.putfield 27, 3) := by decide +kernel
theorem dX2_holdRow_33 : decode cX2_holdRow 33 = .ok (.return_, 1) := by decide +kernel
theorem dX3_init_0 : decode cX3_init 0 = .ok (.aload_n 0, 1) := by decide +kernel
theorem dX3_init_1 : decode cX3_init 1 = .ok (.invokespecial 3, 3) := by decide +kernel
theorem dX3_init_4 : decode cX3_init 4 = .ok (.aload_n 0, 1) := by decide +kernel
theorem dX3_init_5 : decode cX3_init 5 = .ok (.bipush 30, 2) := by decide +kernel
theorem dX3_init_7 : decode cX3_init 7 = .ok (.newarray .int, 2) := by decide +kernel
theorem dX3_init_9 : decode cX3_init 9 = .ok (.putfield 9, 3) := by decide +kernel
theorem dX3_init_12 : decode cX3_init 12 = .ok (.return_, 1) := by decide +kernel
set_option maxRecDepth 20000 in
theorem ggX3_perform_X3_own : GoodIn wsX3_perform wsX3_own := goodIn_r _ [10, 3, 11, 12, 13, 9, 14, 2, 4, 5, 15, 16, 17, 18, 1, 19, 6, 7, 8, 20, 21, 22, 23, 24, 25, 26, 27, 28, 29] (by decide +kernel) (by decide +kernel)
set_option maxRecDepth 20000 in
theorem gX3_perform_X3_own : GoodIn wsX3_perform (wsV RX3 32 RX3 yX3_own wsX3_own) := goodIn_app (goodIn_of _ (by decide +kernel)) ggX3_perform_X3_own
theorem dX3_perform_0 : decode cX3_perform 0 = .ok (.aload_n 0, 1) := by decide +kernel
theorem dX3_perform_1 : decode cX3_perform 1 = .ok (.iconst 0, 1) := by decide +kernel
theorem dX3_perform_2 : decode cX3_perform 2 = .ok (.putfield 15, 3) := by decide +kernel
theorem dX3_perform_5 : decode cX3_perform 5 = .ok (.aload_n 0, 1) := by decide +kernel
theorem dX3_perform_6 : decode cX3_perform 6 = .ok (.iconst 0, 1) := by decide +kernel
theorem dX3_perform_7 : decode cX3_perform 7 = .ok (.putfield 19, 3) := by decide +kernel
theorem dX3_perform_10 : decode cX3_perform 10 = .ok (.aload_n 0, 1) := by decide +kernel
theorem dX3_perform_11 : decode cX3_perform 11 = .ok (.iload_n 1, 1) := by decide +kernel
theorem dX3_perform_12 : decode cX3_perform 12 = .ok (.putfield 23, 3) := by decide +kernel
theorem dX3_perform_15 : decode cX3_perform 15 = .ok (.aload_n 0, 1) := by decide +kernel
theorem dX3_perform_16 : decode cX3_perform 16 = .ok (.iload_n 2, 1) := by decide +kernel
theorem dX3_perform_17 : decode cX3_perform 17 = .ok (.putfield 26, 3) := by decide +kernel
theorem dX3_perform_20 : decode cX3_perform 20 = .ok (.aload_n 0, 1) := by decide +kernel
theorem dX3_perform_21 : decode cX3_perform 21 = .ok (.iload_n 3, 1) := by decide +kernel
theorem dX3_perform_22 : decode cX3_perform 22 = .ok (.putfield 29, 3) := by decide +kernel
theorem dX3_perform_25 : decode cX3_perform 25 = .ok (.aload_n 0, 1) := by decide +kernel
theorem dX3_perform_26 : decode cX3_perform 26 = .ok (.iload 4, 2) := by decide +kernel
theorem dX3_perform_28 : decode cX3_perform 28 = .ok (.iload 5, 2) := by decide +kernel
theorem dX3_perform_30 : decode cX3_perform 30 = .ok (.iconst 0, 1) := by decide +kernel
theorem dX3_perform_31 : decode cX3_perform 31 = .ok (.invokevirtual 32, 3) := by decide +kernel
theorem dX3_perform_34 : decode cX3_perform 34 = .ok (.istore 6, 2) := by decide +kernel
theorem dX3_perform_36 : decode cX3_perform 36 = .ok (.aload_n 0, 1) := by decide +kernel
theorem dX3_perform_37 : decode cX3_perform 37 = .ok (.getfield 19, 3) := by decide +kernel
theorem dX3_perform_40 : decode cX3_perform 40 = .ok (.ifCond .eq 8, 3) := by decide +kernel
theorem dX3_perform_43 : decode cX3_perform 43 = .ok (.bipush (-15), 2) := by decide +kernel
theorem dX3_perform_45 : decode cX3_perform 45 = .ok (.goto 5, 3) := by decide +kernel
theorem dX3_perform_48 : decode cX3_perform 48 = .ok (.iload 6, 2) := by decide +kernel
theorem dX3_perform_50 : decode cX3_perform 50 = .ok (.ireturn, 1) := by decide +kernel
set_option maxRecDepth 20000 in
theorem ggX3_own_X3_run : GoodIn wsX3_own wsX3_run := goodIn_r _ [6, 7, 8, 9, 10, 11, 12, 5, 13, 14, 15, 16, 17, 18, 19, 20, 21, 22, 2, 3, 4, 0, 1, 23, 24, 25, 26, 27, 28] (by decide +kernel) (by decide +kernel)
set_option maxRecDepth 20000 in
theorem gX3_own_X3_run : GoodIn wsX3_own (wsV RX3 39 RX3 yX3_run wsX3_run) := goodIn_app (goodIn_of _ (by decide +kernel)) ggX3_own_X3_run
theorem dX3_own_0 : decode cX3_own 0 = .ok (.aload_n 0, 1) := by decide +kernel
theorem dX3_own_1 : decode cX3_own 1 = .ok (.getstatic 36, 3) := by decide +kernel
theorem dX3_own_4 : decode cX3_own 4 = .ok (.aload_n 0, 1) := by decide +kernel
theorem dX3_own_5 : decode cX3_own 5 = .ok (.getfield 23, 3) := by decide +kernel
theorem dX3_own_8 : decode cX3_own 8 = .ok (.iconst 4, 1) := by decide +kernel
theorem dX3_own_9 : decode cX3_own 9 = .ok (.imul, 1) := by decide +kernel
theorem dX3_own_10 : decode cX3_own 10 = .ok (.iload_n 1, 1) := by decide +kernel
theorem dX3_own_11 : decode cX3_own 11 = .ok (.iadd, 1) := by decide +kernel
theorem dX3_own_12 : decode cX3_own 12 = .ok (.iaload, 1) := by decide +kernel
theorem dX3_own_13 : decode cX3_own 13 = .ok (.iload_n 2, 1) := by decide +kernel
theorem dX3_own_14 : decode cX3_own 14 = .ok (.iload_n 3, 1) := by decide +kernel
theorem dX3_own_15 : decode cX3_own 15 = .ok (.invokevirtual 39, 3) := by decide +kernel
theorem dX3_own_18 : decode cX3_own 18 = .ok (.ireturn, 1) := by decide +kernel
set_option maxRecDepth 20000 in
theorem ggX3_run_X3_begin : GoodIn wsX3_run wsX3_begin := goodIn_r _ [8, 9, 10, 23, 24, 25, 26, 27, 28] (by decide +kernel) (by decide +kernel)
set_option maxRecDepth 20000 in
theorem gX3_run_X3_begin : GoodIn wsX3_run (wsV RX3 42 RX3 yX3_begin wsX3_begin) := goodIn_app (goodIn_of _ (by decide +kernel)) ggX3_run_X3_begin
set_option maxRecDepth 20000 in
theorem ggX3_run_X3_own : GoodIn wsX3_run wsX3_own := goodIn_r _ [21, 22, 18, 19, 20, 7, 0, 1, 2, 3, 4, 5, 6, 8, 9, 10, 11, 12, 13, 14, 15, 16, 17, 23, 24, 25, 26, 27, 28] (by decide +kernel) (by decide +kernel)
set_option maxRecDepth 20000 in
theorem gX3_run_X3_own : GoodIn wsX3_run (wsV RX3 32 RX3 yX3_own wsX3_own) := goodIn_app (goodIn_of _ (by decide +kernel)) ggX3_run_X3_own
set_option maxRecDepth 20000 in
theorem ggX3_run_X3_parted : GoodIn wsX3_run wsX3_parted := goodIn_r _ [17, 3, 2, 1, 23, 24, 25, 26, 27, 28] (by decide +kernel) (by decide +kernel)
set_option maxRecDepth 20000 in
theorem gX3_run_X3_parted : GoodIn wsX3_run (wsV RX3 46 RX3 yX3_parted wsX3_parted) := goodIn_app (goodIn_of _ (by decide +kernel)) ggX3_run_X3_parted
set_option maxRecDepth 20000 in
theorem ggX3_run_X3_run : GoodIn wsX3_run wsX3_run := goodIn_r _ [0, 1, 2, 3, 4, 5, 6, 7, 8, 9, 10, 11, 12, 13, 14, 15, 16, 17, 18, 19, 20, 21, 22, 23, 24, 25, 26, 27, 28] (by decide +kernel) (by decide +kernel)
set_option maxRecDepth 20000 in
theorem gX3_run_X3_run : GoodIn wsX3_run (wsV RX3 39 RX3 yX3_run wsX3_run) := goodIn_app (goodIn_of _ (by decide +kernel)) ggX3_run_X3_run
theorem dX3_run_0 : decode cX3_run 0 = .ok (.aload_n 0, 1) := by decide +kernel
theorem dX3_run_1 : decode cX3_run 1 = .ok (.getfield 19, 3) := by decide +kernel
theorem dX3_run_4 : decode cX3_run 4 = .ok (.ifCond .ne 9, 3) := by decide +kernel
theorem dX3_run_7 : decode cX3_run 7 = .ok (.iload_n 3, 1) := by decide +kernel
theorem dX3_run_8 : decode cX3_run 8 = .ok (.bipush 20, 2) := by decide +kernel
theorem dX3_run_10 : decode cX3_run 10 = .ok (.if_icmp .le 5, 3) := by decide +kernel
theorem dX3_run_13 : decode cX3_run 13 = .ok (.iconst 0, 1) := by decide +kernel
theorem dX3_run_14 : decode cX3_run 14 = .ok (.ireturn, 1) := by decide +kernel
theorem dX3_run_15 : decode cX3_run 15 = .ok (.aload_n 0, 1) := by decide +kernel
theorem dX3_run_16 : decode cX3_run 16 = .ok (.iload_n 1, 1) := by decide +kernel
theorem dX3_run_17 : decode cX3_run 17 = .ok (.invokevirtual 42, 3) := by decide +kernel
theorem dX3_run_20 : decode cX3_run 20 = .ok (.iload_n 3, 1) := by decide +kernel
theorem dX3_run_21 : decode cX3_run 21 = .ok (.iconst 1, 1) := by decide +kernel
theorem dX3_run_22 : decode cX3_run 22 = .ok (.iadd, 1) := by decide +kernel
theorem dX3_run_23 : decode cX3_run 23 = .ok (.istore 4, 2) := by decide +kernel
theorem dX3_run_25 : decode cX3_run 25 = .ok (.iload_n 1, 1) := by decide +kernel
theorem dX3_run_26 : decode cX3_run 26 = .ok (.tableswitch 410 10 61 #[222, 231, 247, 253, 410, 410, 410, 410, 410, 410, 266, 410, 410, 410, 410, 410, 410, 410, 410, 410, 279, 291, 410, 410, 410, 410, 410, 410, 410, 410, 313, 325, 410, 410, 410, 410, 410, 410, 410, 410, 347, 361, 410, 410, 410, 410, 410, 410, 410, 410, 376, 388], 222) := by decide +kernel
theorem dX3_run_248 : decode cX3_run 248 = .ok (.iload_n 2, 1) := by decide +kernel
theorem dX3_run_249 : decode cX3_run 249 = .ok (.iconst 2, 1) := by decide +kernel
theorem dX3_run_250 : decode cX3_run 250 = .ok (.imul, 1) := by decide +kernel
theorem dX3_run_251 : decode cX3_run 251 = .ok (.aload_n 0, 1) := by decide +kernel
theorem dX3_run_252 : decode cX3_run 252 = .ok (.getfield 26, 3) := by decide +kernel
theorem dX3_run_255 : decode cX3_run 255 = .ok (.iadd, 1) := by decide +kernel
theorem dX3_run_256 : decode cX3_run 256 = .ok (.ireturn, 1) := by decide +kernel
theorem dX3_run_257 : decode cX3_run 257 = .ok (.aload_n 0, 1) := by decide +kernel
theorem dX3_run_258 : decode cX3_run 258 = .ok (.iconst 0, 1) := by decide +kernel
theorem dX3_run_259 : decode cX3_run 259 = .ok (.iload_n 2, 1) := by decide +kernel
theorem dX3_run_260 : decode cX3_run 260 = .ok (.iload 4, 2) := by decide +kernel
theorem dX3_run_262 : decode cX3_run 262 = .ok (.invokevirtual 32, 3) := by decide +kernel
theorem dX3_run_265 : decode cX3_run 265 = .ok (.aload_n 0, 1) := by decide +kernel
theorem dX3_run_266 : decode cX3_run 266 = .ok (.getfield 29, 3) := by decide +kernel
theorem dX3_run_269 : decode cX3_run 269 = .ok (.iconst 3, 1) := by decide +kernel
theorem dX3_run_270 : decode cX3_run 270 = .ok (.imul, 1) := by decide +kernel
theorem dX3_run_271 : decode cX3_run 271 = .ok (.isub, 1) := by decide +kernel
theorem dX3_run_272 : decode cX3_run 272 = .ok (.ireturn, 1) := by decide +kernel
theorem dX3_run_273 : decode cX3_run 273 = .ok (.aload_n 0, 1) := by decide +kernel
theorem dX3_run_274 : decode cX3_run 274 = .ok (.iload_n 2, 1) := by decide +kernel
theorem dX3_run_275 : decode cX3_run 275 = .ok (.invokevirtual 46, 3) := by decide +kernel
theorem dX3_run_278 : decode cX3_run 278 = .ok (.ireturn, 1) := by decide +kernel
theorem dX3_run_279 : decode cX3_run 279 = .ok (.aload_n 0, 1) := by decide +kernel
theorem dX3_run_280 : decode cX3_run 280 = .ok (.iconst 1, 1) := by decide +kernel
theorem dX3_run_281 : decode cX3_run 281 = .ok (.iload_n 2, 1) := by decide +kernel
theorem dX3_run_282 : decode cX3_run 282 = .ok (.iload 4, 2) := by decide +kernel
theorem dX3_run_284 : decode cX3_run 284 = .ok (.invokevirtual 32, 3) := by decide +kernel
theorem dX3_run_287 : decode cX3_run 287 = .ok (.sipush 210, 3) := by decide +kernel
theorem dX3_run_290 : decode cX3_run 290 = .ok (.ixor, 1) := by decide +kernel
theorem dX3_run_291 : decode cX3_run 291 = .ok (.ireturn, 1) := by decide +kernel
theorem dX3_run_292 : decode cX3_run 292 = .ok (.aload_n 0, 1) := by decide +kernel
theorem dX3_run_293 : decode cX3_run 293 = .ok (.bipush 11, 2) := by decide +kernel
theorem dX3_run_295 : decode cX3_run 295 = .ok (.iload_n 2, 1) := by decide +kernel
theorem dX3_run_296 : decode cX3_run 296 = .ok (.iload 4, 2) := by decide +kernel
theorem dX3_run_298 : decode cX3_run 298 = .ok (.invokevirtual 39, 3) := by decide +kernel
theorem dX3_run_301 : decode cX3_run 301 = .ok (.bipush 7, 2) := by decide +kernel
theorem dX3_run_303 : decode cX3_run 303 = .ok (.iadd, 1) := by decide +kernel
theorem dX3_run_304 : decode cX3_run 304 = .ok (.ireturn, 1) := by decide +kernel
theorem dX3_run_305 : decode cX3_run 305 = .ok (.aload_n 0, 1) := by decide +kernel
theorem dX3_run_306 : decode cX3_run 306 = .ok (.bipush 10, 2) := by decide +kernel
theorem dX3_run_308 : decode cX3_run 308 = .ok (.iload_n 2, 1) := by decide +kernel
theorem dX3_run_309 : decode cX3_run 309 = .ok (.iload 4, 2) := by decide +kernel
theorem dX3_run_311 : decode cX3_run 311 = .ok (.invokevirtual 39, 3) := by decide +kernel
theorem dX3_run_314 : decode cX3_run 314 = .ok (.iconst 3, 1) := by decide +kernel
theorem dX3_run_315 : decode cX3_run 315 = .ok (.imul, 1) := by decide +kernel
theorem dX3_run_316 : decode cX3_run 316 = .ok (.ireturn, 1) := by decide +kernel
theorem dX3_run_317 : decode cX3_run 317 = .ok (.aload_n 0, 1) := by decide +kernel
theorem dX3_run_318 : decode cX3_run 318 = .ok (.bipush 13, 2) := by decide +kernel
theorem dX3_run_320 : decode cX3_run 320 = .ok (.iload_n 2, 1) := by decide +kernel
theorem dX3_run_321 : decode cX3_run 321 = .ok (.iload 4, 2) := by decide +kernel
theorem dX3_run_323 : decode cX3_run 323 = .ok (.invokevirtual 39, 3) := by decide +kernel
theorem dX3_run_326 : decode cX3_run 326 = .ok (.aload_n 0, 1) := by decide +kernel
theorem dX3_run_327 : decode cX3_run 327 = .ok (.iconst 2, 1) := by decide +kernel
theorem dX3_run_328 : decode cX3_run 328 = .ok (.aload_n 0, 1) := by decide +kernel
theorem dX3_run_329 : decode cX3_run 329 = .ok (.getfield 26, 3) := by decide +kernel
theorem dX3_run_332 : decode cX3_run 332 = .ok (.iload 4, 2) := by decide +kernel
theorem dX3_run_334 : decode cX3_run 334 = .ok (.invokevirtual 32, 3) := by decide +kernel
theorem dX3_run_337 : decode cX3_run 337 = .ok (.isub, 1) := by decide +kernel
theorem dX3_run_338 : decode cX3_run 338 = .ok (.ireturn, 1) := by decide +kernel
theorem dX3_run_339 : decode cX3_run 339 = .ok (.iconst 0, 1) := by decide +kernel
theorem dX3_run_340 : decode cX3_run 340 = .ok (.aload_n 0, 1) := by decide +kernel
theorem dX3_run_341 : decode cX3_run 341 = .ok (.bipush 30, 2) := by decide +kernel
theorem dX3_run_343 : decode cX3_run 343 = .ok (.iload_n 2, 1) := by decide +kernel
theorem dX3_run_344 : decode cX3_run 344 = .ok (.iload 4, 2) := by decide +kernel
theorem dX3_run_346 : decode cX3_run 346 = .ok (.invokevirtual 39, 3) := by decide +kernel
theorem dX3_run_349 : decode cX3_run 349 = .ok (.isub, 1) := by decide +kernel
theorem dX3_run_350 : decode cX3_run 350 = .ok (.ireturn, 1) := by decide +kernel
theorem dX3_run_351 : decode cX3_run 351 = .ok (.aload_n 0, 1) := by decide +kernel
theorem dX3_run_352 : decode cX3_run 352 = .ok (.bipush 11, 2) := by decide +kernel
theorem dX3_run_354 : decode cX3_run 354 = .ok (.iload_n 2, 1) := by decide +kernel
theorem dX3_run_355 : decode cX3_run 355 = .ok (.iload 4, 2) := by decide +kernel
theorem dX3_run_357 : decode cX3_run 357 = .ok (.invokevirtual 39, 3) := by decide +kernel
theorem dX3_run_360 : decode cX3_run 360 = .ok (.aload_n 0, 1) := by decide +kernel
theorem dX3_run_361 : decode cX3_run 361 = .ok (.iconst 0, 1) := by decide +kernel
theorem dX3_run_362 : decode cX3_run 362 = .ok (.aload_n 0, 1) := by decide +kernel
theorem dX3_run_363 : decode cX3_run 363 = .ok (.getfield 29, 3) := by decide +kernel
theorem dX3_run_366 : decode cX3_run 366 = .ok (.iload 4, 2) := by decide +kernel
theorem dX3_run_368 : decode cX3_run 368 = .ok (.invokevirtual 32, 3) := by decide +kernel
theorem dX3_run_371 : decode cX3_run 371 = .ok (.iadd, 1) := by decide +kernel
theorem dX3_run_372 : decode cX3_run 372 = .ok (.ireturn, 1) := by decide +kernel
theorem dX3_run_373 : decode cX3_run 373 = .ok (.aload_n 0, 1) := by decide +kernel
theorem dX3_run_374 : decode cX3_run 374 = .ok (.bipush 12, 2) := by decide +kernel
theorem dX3_run_376 : decode cX3_run 376 = .ok (.iload_n 2, 1) := by decide +kernel
theorem dX3_run_377 : decode cX3_run 377 = .ok (.iconst 2, 1) := by decide +kernel
theorem dX3_run_378 : decode cX3_run 378 = .ok (.imul, 1) := by decide +kernel
theorem dX3_run_379 : decode cX3_run 379 = .ok (.iload 4, 2) := by decide +kernel
theorem dX3_run_381 : decode cX3_run 381 = .ok (.invokevirtual 39, 3) := by decide +kernel
theorem dX3_run_384 : decode cX3_run 384 = .ok (.iconst 3, 1) := by decide +kernel
theorem dX3_run_385 : decode cX3_run 385 = .ok (.ixor, 1) := by decide +kernel
theorem dX3_run_386 : decode cX3_run 386 = .ok (.ireturn, 1) := by decide +kernel
theorem dX3_run_387 : decode cX3_run 387 = .ok (.aload_n 0, 1) := by decide +kernel
theorem dX3_run_388 : decode cX3_run 388 = .ok (.bipush 10, 2) := by decide +kernel
theorem dX3_run_390 : decode cX3_run 390 = .ok (.iload_n 2, 1) := by decide +kernel
theorem dX3_run_391 : decode cX3_run 391 = .ok (.iload 4, 2) := by decide +kernel
theorem dX3_run_393 : decode cX3_run 393 = .ok (.invokevirtual 39, 3) := by decide +kernel
theorem dX3_run_396 : decode cX3_run 396 = .ok (.aload_n 0, 1) := by decide +kernel
theorem dX3_run_397 : decode cX3_run 397 = .ok (.getfield 29, 3) := by decide +kernel
theorem dX3_run_400 : decode cX3_run 400 = .ok (.isub, 1) := by decide +kernel
theorem dX3_run_401 : decode cX3_run 401 = .ok (.ireturn, 1) := by decide +kernel
theorem dX3_run_402 : decode cX3_run 402 = .ok (.aload_n 0, 1) := by decide +kernel
theorem dX3_run_403 : decode cX3_run 403 = .ok (.bipush 13, 2) := by decide +kernel
theorem dX3_run_405 : decode cX3_run 405 = .ok (.iload_n 2, 1) := by decide +kernel
theorem dX3_run_406 : decode cX3_run 406 = .ok (.iload 4, 2) := by decide +kernel
theorem dX3_run_408 : decode cX3_run 408 = .ok (.invokevirtual 39, 3) := by decide +kernel
theorem dX3_run_411 : decode cX3_run 411 = .ok (.iconst 4, 1) := by decide +kernel
theorem dX3_run_412 : decode cX3_run 412 = .ok (.imul, 1) := by decide +kernel
theorem dX3_run_413 : decode cX3_run 413 = .ok (.ireturn, 1) := by decide +kernel
theorem dX3_run_414 : decode cX3_run 414 = .ok (.aload_n 0, 1) := by decide +kernel
theorem dX3_run_415 : decode cX3_run 415 = .ok (.bipush 12, 2) := by decide +kernel
theorem dX3_run_417 : decode cX3_run 417 = .ok (.iload_n 2, 1) := by decide +kernel
theorem dX3_run_418 : decode cX3_run 418 = .ok (.iload 4, 2) := by decide +kernel
theorem dX3_run_420 : decode cX3_run 420 = .ok (.invokevirtual 39, 3) := by decide +kernel
theorem dX3_run_423 : decode cX3_run 423 = .ok (.aload_n 0, 1) := by decide +kernel
theorem dX3_run_424 : decode cX3_run 424 = .ok (.iconst 0, 1) := by decide +kernel
theorem dX3_run_425 : decode cX3_run 425 = .ok (.aload_n 0, 1) := by decide +kernel
theorem dX3_run_426 : decode cX3_run 426 = .ok (.getfield 26, 3) := by decide +kernel
theorem dX3_run_429 : decode cX3_run 429 = .ok (.iload 4, 2) := by decide +kernel
theorem dX3_run_431 : decode cX3_run 431 = .ok (.invokevirtual 32, 3) := by decide +kernel
theorem dX3_run_434 : decode cX3_run 434 = .ok (.iadd, 1) := by decide +kernel
theorem dX3_run_435 : decode cX3_run 435 = .ok (.ireturn, 1) := by decide +kernel
theorem dX3_run_436 : decode cX3_run 436 = .ok (.iconst 0, 1) := by decide +kernel
theorem dX3_run_437 : decode cX3_run 437 = .ok (.ireturn, 1) := by decide +kernel
theorem dX3_begin_0 : decode cX3_begin 0 = .ok (.aload_n 0, 1) := by decide +kernel
theorem dX3_begin_1 : decode cX3_begin 1 = .ok (.getfield 15, 3) := by decide +kernel
theorem dX3_begin_4 : decode cX3_begin 4 = .ok (.bipush 30, 2) := by decide +kernel
theorem dX3_begin_6 : decode cX3_begin 6 = .ok (.if_icmp .ge 23, 3) := by decide +kernel
theorem dX3_begin_9 : decode cX3_begin 9 = .ok (.aload_n 0, 1) := by decide +kernel
theorem dX3_begin_10 : decode cX3_begin 10 = .ok (.getfield 9, 3) := by decide +kernel
theorem dX3_begin_13 : decode cX3_begin 13 = .ok (.aload_n 0, 1) := by decide +kernel
theorem dX3_begin_14 : decode cX3_begin 14 = .ok (.getfield 15, 3) := by decide +kernel
theorem dX3_begin_17 : decode cX3_begin 17 = .ok (.iload_n 1, 1) := by decide +kernel
theorem dX3_begin_18 : decode cX3_begin 18 = .ok (.iastore, 1) := by decide +kernel
theorem dX3_begin_19 : decode cX3_begin 19 = .ok (.aload_n 0, 1) := by decide +kernel
theorem dX3_begin_20 : decode cX3_begin 20 = .ok (.dup, 1) := by decide +kernel
theorem dX3_begin_21 : decode cX3_begin 21 = .ok (.getfield 15, 3) := by decide +kernel
theorem dX3_begin_24 : decode cX3_begin 24 = .ok (.iconst 1, 1) := by decide +kernel
theorem dX3_begin_25 : decode cX3_begin 25 = .ok (.iadd, 1) := by decide +kernel
theorem dX3_begin_26 : decode cX3_begin 26 = .ok (.putfield 15, 3) := by decide +kernel
theorem dX3_begin_29 : decode cX3_begin 29 = .ok (.return_, 1) := by decide +kernel
theorem dX3_parted_0 : decode cX3_parted 0 = .ok (.aload_n 0, 1) := by decide +kernel
theorem dX3_parted_1 : decode cX3_parted 1 = .ok (.getfield 29, 3) := by decide +kernel
theorem dX3_parted_4 : decode cX3_parted 4 = .ok (.aload_n 0, 1) := by decide +kernel
theorem dX3_parted_5 : decode cX3_parted 5 = .ok (.getfield 26, 3) := by decide +kernel
theorem dX3_parted_8 : decode cX3_parted 8 = .ok (.if_icmp .ne 10, 3) := by decide +kernel
theorem dX3_parted_11 : decode cX3_parted 11 = .ok (.aload_n 0, 1) := by decide +kernel
theorem dX3_parted_12 : decode cX3_parted 12 = .ok (.iconst 1, 1) := by decide +kernel
theorem dX3_parted_13 : decode cX3_parted 13 = .ok (.putfield 19, 3) := by decide +kernel
theorem dX3_parted_16 : decode cX3_parted 16 = .ok (.iconst 0, 1) := by decide +kernel
theorem dX3_parted_17 : decode cX3_parted 17 = .ok (.ireturn, 1) := by decide +kernel
theorem dX3_parted_18 : decode cX3_parted 18 = .ok (.iload_n 1, 1) := by decide +kernel
theorem dX3_parted_19 : decode cX3_parted 19 = .ok (.aload_n 0, 1) := by decide +kernel
theorem dX3_parted_20 : decode cX3_parted 20 = .ok (.getfield 29, 3) := by decide +kernel
theorem dX3_parted_23 : decode cX3_parted 23 = .ok (.aload_n 0, 1) := by decide +kernel
theorem dX3_parted_24 : decode cX3_parted 24 = .ok (.getfield 26, 3) := by decide +kernel
theorem dX3_parted_27 : decode cX3_parted 27 = .ok (.isub, 1) := by decide +kernel
theorem dX3_parted_28 : decode cX3_parted 28 = .ok (.idiv, 1) := by decide +kernel
theorem dX3_parted_29 : decode cX3_parted 29 = .ok (.ireturn, 1) := by decide +kernel
set_option maxRecDepth 20000 in
theorem ggX4_init_X4_clear : GoodIn wsX4_init wsX4_clear := goodIn_r _ [15, 5, 16, 17, 18, 19, 20, 21, 22, 23, 24, 25, 26, 27, 28, 29, 30, 31, 32, 33] (by decide +kernel) (by decide +kernel)
set_option maxRecDepth 20000 in
theorem gX4_init_X4_clear : GoodIn wsX4_init (wsV RX4 31 RX4 yX4_clear wsX4_clear) := goodIn_app (goodIn_of _ (by decide +kernel)) ggX4_init_X4_clear
theorem dX4_init_0 : decode cX4_init 0 = .ok (.aload_n 0, 1) := by decide +kernel
theorem dX4_init_1 : decode cX4_init 1 = .ok (.invokespecial 3, 3) := by decide +kernel
theorem dX4_init_4 : decode cX4_init 4 = .ok (.aload_n 0, 1) := by decide +kernel
theorem dX4_init_5 : decode cX4_init 5 = .ok (.iconst 4, 1) := by decide +kernel
theorem dX4_init_6 : decode cX4_init 6 = .ok (.newarray .int, 2) := by decide +kernel
theorem dX4_init_8 : decode cX4_init 8 = .ok (.putfield 9, 3) := by decide +kernel
theorem dX4_init_11 : decode cX4_init 11 = .ok (.aload_n 0, 1) := by decide +kernel
theorem dX4_init_12 : decode cX4_init 12 = .ok (.bipush 8, 2) := by decide +kernel
theorem dX4_init_14 : decode cX4_init 14 = .ok (.newarray .int, 2) := by decide +kernel
theorem dX4_init_16 : decode cX4_init 16 = .ok (.putfield 15, 3) := by decide +kernel
theorem dX4_init_19 : decode cX4_init 19 = .ok (.aload_n 0, 1) := by decide +kernel
theorem dX4_init_20 : decode cX4_init 20 = .ok (.bipush 8, 2) := by decide +kernel
theorem dX4_init_22 : decode cX4_init 22 = .ok (.newarray .int, 2) := by decide +kernel
theorem dX4_init_24 : decode cX4_init 24 = .ok (.putfield 18, 3) := by decide +kernel
theorem dX4_init_27 : decode cX4_init 27 = .ok (.aload_n 0, 1) := by decide +kernel
theorem dX4_init_28 : decode cX4_init 28 = .ok (.bipush 8, 2) := by decide +kernel
theorem dX4_init_30 : decode cX4_init 30 = .ok (.newarray .int, 2) := by decide +kernel
theorem dX4_init_32 : decode cX4_init 32 = .ok (.putfield 21, 3) := by decide +kernel
theorem dX4_init_35 : decode cX4_init 35 = .ok (.aload_n 0, 1) := by decide +kernel
theorem dX4_init_36 : decode cX4_init 36 = .ok (.bipush 8, 2) := by decide +kernel
theorem dX4_init_38 : decode cX4_init 38 = .ok (.newarray .int, 2) := by decide +kernel
theorem dX4_init_40 : decode cX4_init 40 = .ok (.putfield 24, 3) := by decide +kernel
theorem dX4_init_43 : decode cX4_init 43 = .ok (.aload_n 0, 1) := by decide +kernel
theorem dX4_init_44 : decode cX4_init 44 = .ok (.iconst 1, 1) := by decide +kernel
theorem dX4_init_45 : decode cX4_init 45 = .ok (.putfield 27, 3) := by decide +kernel
theorem dX4_init_48 : decode cX4_init 48 = .ok (.aload_n 0, 1) := by decide +kernel
theorem dX4_init_49 : decode cX4_init 49 = .ok (.invokevirtual 31, 3) := by decide +kernel
theorem dX4_init_52 : decode cX4_init 52 = .ok (.return_, 1) := by decide +kernel
theorem dX4_clear_0 : decode cX4_clear 0 = .ok (.getstatic 34, 3) := by decide +kernel
theorem dX4_clear_3 : decode cX4_clear 3 = .ok (.iconst 0, 1) := by decide +kernel
theorem dX4_clear_4 : decode cX4_clear 4 = .ok (.aload_n 0, 1) := by decide +kernel
theorem dX4_clear_5 : decode cX4_clear 5 = .ok (.getfield 9, 3) := by decide +kernel
theorem dX4_clear_8 : decode cX4_clear 8 = .ok (.iconst 0, 1) := by decide +kernel
theorem dX4_clear_9 : decode cX4_clear 9 = .ok (.iconst 4, 1) := by decide +kernel
theorem dX4_clear_10 : decode cX4_clear 10 = .ok (.invokestatic 37, 3) := by decide +kernel
theorem dX4_clear_13 : decode cX4_clear 13 = .ok (.aload_n 0, 1) := by decide +kernel
theorem dX4_clear_14 : decode cX4_clear 14 = .ok (.iconst 0, 1) := by decide +kernel
theorem dX4_clear_15 : decode cX4_clear 15 = .ok (.putfield 43, 3) := by decide +kernel
theorem dX4_clear_18 : decode cX4_clear 18 = .ok (.aload_n 0, 1) := by decide +kernel
theorem dX4_clear_19 : decode cX4_clear 19 = .ok (.iconst 0, 1) := by decide +kernel
theorem dX4_clear_20 : decode cX4_clear 20 = .ok (.putfield 46, 3) := by decide +kernel
theorem dX4_clear_23 : decode cX4_clear 23 = .ok (.aload_n 0, 1) := by decide +kernel
theorem dX4_clear_24 : decode cX4_clear 24 = .ok (.iconst 0, 1) := by decide +kernel
theorem dX4_clear_25 : decode cX4_clear 25 = .ok (.putfield 49, 3) := by decide +kernel
theorem dX4_clear_28 : decode cX4_clear 28 = .ok (.aload_n 0, 1) := by decide +kernel
theorem dX4_clear_29 : decode cX4_clear 29 = .ok (.iconst 0, 1) := by decide +kernel
theorem dX4_clear_30 : decode cX4_clear 30 = .ok (.putfield 52, 3) := by decide +kernel
theorem dX4_clear_33 : decode cX4_clear 33 = .ok (.return_, 1) := by decide +kernel
theorem dX4_copyFrom_0 : decode cX4_copyFrom 0 = .ok (.aload_n 1, 1) := by decide +kernel
theorem dX4_copyFrom_1 : decode cX4_copyFrom 1 = .ok (.getfield 9, 3) := by decide +kernel
theorem dX4_copyFrom_4 : decode cX4_copyFrom 4 = .ok (.iconst 0, 1) := by decide +kernel
theorem dX4_copyFrom_5 : decode cX4_copyFrom 5 = .ok (.aload_n 0, 1) := by decide +kernel
theorem dX4_copyFrom_6 : decode cX4_copyFrom 6 = .ok (.getfield 9, 3) := by decide +kernel
theorem dX4_copyFrom_9 : decode cX4_copyFrom 9 = .ok (.iconst 0, 1) := by decide +kernel
theorem dX4_copyFrom_10 : decode cX4_copyFrom 10 = .ok (.iconst 4, 1) := by decide +kernel
theorem dX4_copyFrom_11 : decode cX4_copyFrom 11 = .ok (.invokestatic 37, 3) := by decide +kernel
theorem dX4_copyFrom_14 : decode cX4_copyFrom 14 = .ok (.aload_n 1, 1) := by decide +kernel
theorem dX4_copyFrom_15 : decode cX4_copyFrom 15 = .ok (.getfield 15, 3) := by decide +kernel
theorem dX4_copyFrom_18 : decode cX4_copyFrom 18 = .ok (.iconst 0, 1) := by decide +kernel
theorem dX4_copyFrom_19 : decode cX4_copyFrom 19 = .ok (.aload_n 0, 1) := by decide +kernel
theorem dX4_copyFrom_20 : decode cX4_copyFrom 20 = .ok (.getfield 15, 3) := by decide +kernel
theorem dX4_copyFrom_23 : decode cX4_copyFrom 23 = .ok (.iconst 0, 1) := by decide +kernel
theorem dX4_copyFrom_24 : decode cX4_copyFrom 24 = .ok (.bipush 8, 2) := by decide +kernel
theorem dX4_copyFrom_26 : decode cX4_copyFrom 26 = .ok (.invokestatic 37, 3) := by decide +kernel
theorem dX4_copyFrom_29 : decode cX4_copyFrom 29 = .ok (.aload_n 1, 1) := by decide +kernel
theorem dX4_copyFrom_30 : decode cX4_copyFrom 30 = .ok (.getfield 18, 3) := by decide +kernel
theorem dX4_copyFrom_33 : decode cX4_copyFrom 33 = .ok (.iconst 0, 1) := by decide +kernel
theorem dX4_copyFrom_34 : decode cX4_copyFrom 34 = .ok (.aload_n 0, 1) := by decide +kernel
theorem dX4_copyFrom_35 : decode cX4_copyFrom 35 = .ok (.getfield 18, 3) := by decide +kernel
theorem dX4_copyFrom_38 : decode cX4_copyFrom 38 = .ok (.iconst 0, 1) := by decide +kernel
theorem dX4_copyFrom_39 : decode cX4_copyFrom 39 = .ok (.bipush 8, 2) := by decide +kernel
theorem dX4_copyFrom_41 : decode cX4_copyFrom 41 = .ok (.invokestatic 37, 3) := by decide +kernel
theorem dX4_copyFrom_44 : decode cX4_copyFrom 44 = .ok (.aload_n 1, 1) := by decide +kernel
theorem dX4_copyFrom_45 : decode cX4_copyFrom 45 = .ok (.getfield 21, 3) := by decide +kernel
theorem dX4_copyFrom_48 : decode cX4_copyFrom 48 = .ok (.iconst 0, 1) := by decide +kernel
theorem dX4_copyFrom_49 : decode cX4_copyFrom 49 = .ok (.aload_n 0, 1) := by decide +kernel
theorem dX4_copyFrom_50 : decode cX4_copyFrom 50 = .ok (.getfield 21, 3) := by decide +kernel
theorem dX4_copyFrom_53 : decode cX4_copyFrom 53 = .ok (.iconst 0, 1) := by decide +kernel
theorem dX4_copyFrom_54 : decode cX4_copyFrom 54 = .ok (.bipush 8, 2) := by decide +kernel
theorem dX4_copyFrom_56 : decode cX4_copyFrom 56 = .ok (.invokestatic 37, 3) := by decide +kernel
theorem dX4_copyFrom_59 : decode cX4_copyFrom 59 = .ok (.aload_n 1, 1) := by decide +kernel
theorem dX4_copyFrom_60 : decode cX4_copyFrom 60 = .ok (.getfield 24, 3) := by decide +kernel
theorem dX4_copyFrom_63 : decode cX4_copyFrom 63 = .ok (.iconst 0, 1) := by decide +kernel
theorem dX4_copyFrom_64 : decode cX4_copyFrom 64 = .ok (.aload_n 0, 1) := by decide +kernel
theorem dX4_copyFrom_65 : decode cX4_copyFrom 65 = .ok (.getfield 24, 3) := by decide +kernel
theorem dX4_copyFrom_68 : decode cX4_copyFrom 68 = .ok (.iconst 0, 1) := by decide +kernel
theorem dX4_copyFrom_69 : decode cX4_copyFrom 69 = .ok (.bipush 8, 2) := by decide +kernel
theorem dX4_copyFrom_71 : decode cX4_copyFrom 71 = .ok (.invokestatic 37, 3) := by decide +kernel
theorem dX4_copyFrom_74 : decode cX4_copyFrom 74 = .ok (.aload_n 0, 1) := by decide +kernel
theorem dX4_copyFrom_75 : decode cX4_copyFrom 75 = .ok (.aload_n 1, 1) := by decide +kernel
theorem dX4_copyFrom_76 : decode cX4_copyFrom 76 = .ok (.getfield 43, 3) := by decide +kernel
theorem dX4_copyFrom_79 : decode cX4_copyFrom 79 = .ok (.putfield 43, 3) := by decide +kernel
theorem dX4_copyFrom_82 : decode cX4_copyFrom 82 = .ok (.aload_n 0, 1) := by decide +kernel
theorem dX4_copyFrom_83 : decode cX4_copyFrom 83 = .ok (.aload_n 1, 1) := by decide +kernel
theorem dX4_copyFrom_84 : decode cX4_copyFrom 84 = .ok (.getfield 46, 3) := by decide +kernel
theorem dX4_copyFrom_87 : decode cX4_copyFrom 87 = .ok (.putfield 46, 3) := by decide +kernel
theorem dX4_copyFrom_90 : decode cX4_copyFrom 90 = .ok (.aload_n 0, 1) := by decide +kernel
theorem dX4_copyFrom_91 : decode cX4_copyFrom 91 = .ok (.aload_n 1, 1) := by decide +kernel
theorem dX4_copyFrom_92 : decode cX4_copyFrom 92 = .ok (.getfield 49, 3) := by decide +kernel
theorem dX4_copyFrom_95 : decode cX4_copyFrom 95 = .ok (.putfield 49, 3) := by decide +kernel
theorem dX4_copyFrom_98 : decode cX4_copyFrom 98 = .ok (.aload_n 0, 1) := by decide +kernel
theorem dX4_copyFrom_99 : decode cX4_copyFrom 99 = .ok (.aload_n 1, 1) := by decide +kernel
theorem dX4_copyFrom_100 : decode cX4_copyFrom 100 = .ok (.getfield 52, 3) := by decide +kernel
theorem dX4_copyFrom_103 : decode cX4_copyFrom 103 = .ok (.putfield 52, 3) := by decide +kernel
theorem dX4_copyFrom_106 : decode cX4_copyFrom 106 = .ok (.aload_n 0, 1) := by decide +kernel
theorem dX4_copyFrom_107 : decode cX4_copyFrom 107 = .ok (.aload_n 1, 1) := by decide +kernel
theorem dX4_copyFrom_108 : decode cX4_copyFrom 108 = .ok (.getfield 27, 3) := by decide +kernel
theorem dX4_copyFrom_111 : decode cX4_copyFrom 111 = .ok (.putfield 27, 3) := by decide +kernel
theorem dX4_copyFrom_114 : decode cX4_copyFrom 114 = .ok (.return_, 1) := by decide +kernel
set_option maxRecDepth 20000 in
theorem ggX4_has_X6_within : GoodIn wsX4_has wsX6_within := goodIn_r _ [4] (by decide +kernel) (by decide +kernel)
set_option maxRecDepth 20000 in
theorem gX4_has_X6_within_n55 : GoodIn wsX4_has (wsX6_within) := ggX4_has_X6_within
theorem dX4_has_0 : decode cX4_has 0 = .ok (.iload_n 1, 1) := by decide +kernel
theorem dX4_has_1 : decode cX4_has 1 = .ok (.iconst 0, 1) := by decide +kernel
theorem dX4_has_2 : decode cX4_has 2 = .ok (.aload_n 0, 1) := by decide +kernel
theorem dX4_has_3 : decode cX4_has 3 = .ok (.getfield 46, 3) := by decide +kernel
theorem dX4_has_6 : decode cX4_has 6 = .ok (.iconst 1, 1) := by decide +kernel
theorem dX4_has_7 : decode cX4_has 7 = .ok (.isub, 1) := by decide +kernel
theorem dX4_has_8 : decode cX4_has 8 = .ok (.invokestatic 55, 3) := by decide +kernel
theorem dX4_has_11 : decode cX4_has 11 = .ok (.ireturn, 1) := by decide +kernel
theorem dX4_everyone_0 : decode cX4_everyone 0 = .ok (.iconst 1, 1) := by decide +kernel
theorem dX4_everyone_1 : decode cX4_everyone 1 = .ok (.aload_n 0, 1) := by decide +kernel
theorem dX4_everyone_2 : decode cX4_everyone 2 = .ok (.getfield 46, 3) := by decide +kernel
theorem dX4_everyone_5 : decode cX4_everyone 5 = .ok (.ishl, 1) := by decide +kernel
theorem dX4_everyone_6 : decode cX4_everyone 6 = .ok (.iconst 1, 1) := by decide +kernel
theorem dX4_everyone_7 : decode cX4_everyone 7 = .ok (.isub, 1) := by decide +kernel
theorem dX4_everyone_8 : decode cX4_everyone 8 = .ok (.ireturn, 1) := by decide +kernel
theorem dX4_isDrowned_0 : decode cX4_isDrowned 0 = .ok (.aload_n 0, 1) := by decide +kernel
theorem dX4_isDrowned_1 : decode cX4_isDrowned 1 = .ok (.getfield 43, 3) := by decide +kernel
theorem dX4_isDrowned_4 : decode cX4_isDrowned 4 = .ok (.iload_n 1, 1) := by decide +kernel
theorem dX4_isDrowned_5 : decode cX4_isDrowned 5 = .ok (.ishr, 1) := by decide +kernel
theorem dX4_isDrowned_6 : decode cX4_isDrowned 6 = .ok (.iconst 1, 1) := by decide +kernel
theorem dX4_isDrowned_7 : decode cX4_isDrowned 7 = .ok (.iand, 1) := by decide +kernel
theorem dX4_isDrowned_8 : decode cX4_isDrowned 8 = .ok (.iconst 1, 1) := by decide +kernel
theorem dX4_isDrowned_9 : decode cX4_isDrowned 9 = .ok (.if_icmp .ne 7, 3) := by decide +kernel
theorem dX4_isDrowned_12 : decode cX4_isDrowned 12 = .ok (.iconst 1, 1) := by decide +kernel
theorem dX4_isDrowned_13 : decode cX4_isDrowned 13 = .ok (.goto 4, 3) := by decide +kernel
theorem dX4_isDrowned_16 : decode cX4_isDrowned 16 = .ok (.iconst 0, 1) := by decide +kernel
theorem dX4_isDrowned_17 : decode cX4_isDrowned 17 = .ok (.ireturn, 1) := by decide +kernel
theorem dX4_drown_0 : decode cX4_drown 0 = .ok (.aload_n 0, 1) := by decide +kernel
theorem dX4_drown_1 : decode cX4_drown 1 = .ok (.iload_n 2, 1) := by decide +kernel
theorem dX4_drown_2 : decode cX4_drown 2 = .ok (.ifCond .eq 14, 3) := by decide +kernel
theorem dX4_drown_5 : decode cX4_drown 5 = .ok (.aload_n 0, 1) := by decide +kernel
theorem dX4_drown_6 : decode cX4_drown 6 = .ok (.getfield 43, 3) := by decide +kernel
theorem dX4_drown_9 : decode cX4_drown 9 = .ok (.iconst 1, 1) := by decide +kernel
theorem dX4_drown_10 : decode cX4_drown 10 = .ok (.iload_n 1, 1) := by decide +kernel
theorem dX4_drown_11 : decode cX4_drown 11 = .ok (.ishl, 1) := by decide +kernel
theorem dX4_drown_12 : decode cX4_drown 12 = .ok (.ior, 1) := by decide +kernel
theorem dX4_drown_13 : decode cX4_drown 13 = .ok (.goto 13, 3) := by decide +kernel
theorem dX4_drown_16 : decode cX4_drown 16 = .ok (.aload_n 0, 1) := by decide +kernel
theorem dX4_drown_17 : decode cX4_drown 17 = .ok (.getfield 43, 3) := by decide +kernel
theorem dX4_drown_20 : decode cX4_drown 20 = .ok (.iconst 1, 1) := by decide +kernel
theorem dX4_drown_21 : decode cX4_drown 21 = .ok (.iload_n 1, 1) := by decide +kernel
theorem dX4_drown_22 : decode cX4_drown 22 = .ok (.ishl, 1) := by decide +kernel
theorem dX4_drown_23 : decode cX4_drown 23 = .ok (.iconst (-1), 1) := by decide +kernel
theorem dX4_drown_24 : decode cX4_drown 24 = .ok (.ixor, 1) := by decide +kernel
theorem dX4_drown_25 : decode cX4_drown 25 = .ok (.iand, 1) := by decide +kernel
theorem dX4_drown_26 : decode cX4_drown 26 = .ok (.putfield 43, 3) := by decide +kernel
theorem dX4_drown_29 : decode cX4_drown 29 = .ok (.return_, 1) := by decide +kernel
set_option maxRecDepth 20000 in
theorem ggX4_seat_X4_drown : GoodIn wsX4_seat wsX4_drown := goodIn_r _ [10, 11, 12, 13, 14, 15, 16, 17, 18, 19, 20, 21] (by decide +kernel) (by decide +kernel)
set_option maxRecDepth 20000 in
theorem gX4_seat_X4_drown : GoodIn wsX4_seat (wsV RX4 59 RX4 yX4_drown wsX4_drown) := goodIn_app (goodIn_of _ (by decide +kernel)) ggX4_seat_X4_drown
theorem dX4_seat_0 : decode cX4_seat 0 = .ok (.aload_n 0, 1) := by decide +kernel
theorem dX4_seat_1 : decode cX4_seat 1 = .ok (.getfield 46, 3) := by decide +kernel
theorem dX4_seat_4 : decode cX4_seat 4 = .ok (.istore_n 3, 1) := by decide +kernel
theorem dX4_seat_5 : decode cX4_seat 5 = .ok (.aload_n 0, 1) := by decide +kernel
theorem dX4_seat_6 : decode cX4_seat 6 = .ok (.getfield 15, 3) := by decide +kernel
theorem dX4_seat_9 : decode cX4_seat 9 = .ok (.iload_n 3, 1) := by decide +kernel
theorem dX4_seat_10 : decode cX4_seat 10 = .ok (.iload_n 1, 1) := by decide +kernel
theorem dX4_seat_11 : decode cX4_seat 11 = .ok (.iastore, 1) := by decide +kernel
theorem dX4_seat_12 : decode cX4_seat 12 = .ok (.aload_n 0, 1) := by decide +kernel
theorem dX4_seat_13 : decode cX4_seat 13 = .ok (.getfield 18, 3) := by decide +kernel
theorem dX4_seat_16 : decode cX4_seat 16 = .ok (.iload_n 3, 1) := by decide +kernel
theorem dX4_seat_17 : decode cX4_seat 17 = .ok (.iload_n 2, 1) := by decide +kernel
theorem dX4_seat_18 : decode cX4_seat 18 = .ok (.iastore, 1) := by decide +kernel
theorem dX4_seat_19 : decode cX4_seat 19 = .ok (.aload_n 0, 1) := by decide +kernel
theorem dX4_seat_20 : decode cX4_seat 20 = .ok (.getfield 21, 3) := by decide +kernel
theorem dX4_seat_23 : decode cX4_seat 23 = .ok (.iload_n 3, 1) := by decide +kernel
theorem dX4_seat_24 : decode cX4_seat 24 = .ok (.iconst 0, 1) := by decide +kernel
theorem dX4_seat_25 : decode cX4_seat 25 = .ok (.iastore, 1) := by decide +kernel
theorem dX4_seat_26 : decode cX4_seat 26 = .ok (.aload_n 0, 1) := by decide +kernel
theorem dX4_seat_27 : decode cX4_seat 27 = .ok (.getfield 24, 3) := by decide +kernel
theorem dX4_seat_30 : decode cX4_seat 30 = .ok (.iload_n 3, 1) := by decide +kernel
theorem dX4_seat_31 : decode cX4_seat 31 = .ok (.iconst 0, 1) := by decide +kernel
theorem dX4_seat_32 : decode cX4_seat 32 = .ok (.iastore, 1) := by decide +kernel
theorem dX4_seat_33 : decode cX4_seat 33 = .ok (.aload_n 0, 1) := by decide +kernel
theorem dX4_seat_34 : decode cX4_seat 34 = .ok (.iload_n 3, 1) := by decide +kernel
theorem dX4_seat_35 : decode cX4_seat 35 = .ok (.iconst 0, 1) := by decide +kernel
theorem dX4_seat_36 : decode cX4_seat 36 = .ok (.invokevirtual 59, 3) := by decide +kernel
theorem dX4_seat_39 : decode cX4_seat 39 = .ok (.aload_n 0, 1) := by decide +kernel
theorem dX4_seat_40 : decode cX4_seat 40 = .ok (.dup, 1) := by decide +kernel
theorem dX4_seat_41 : decode cX4_seat 41 = .ok (.getfield 46, 3) := by decide +kernel
theorem dX4_seat_44 : decode cX4_seat 44 = .ok (.iconst 1, 1) := by decide +kernel
theorem dX4_seat_45 : decode cX4_seat 45 = .ok (.iadd, 1) := by decide +kernel
theorem dX4_seat_46 : decode cX4_seat 46 = .ok (.putfield 46, 3) := by decide +kernel
theorem dX4_seat_49 : decode cX4_seat 49 = .ok (.iload_n 3, 1) := by decide +kernel
theorem dX4_seat_50 : decode cX4_seat 50 = .ok (.ireturn, 1) := by decide +kernel
theorem dX4_next_0 : decode cX4_next 0 = .ok (.aload_n 0, 1) := by decide +kernel
theorem dX4_next_1 : decode cX4_next 1 = .ok (.getfield 52, 3) := by decide +kernel
theorem dX4_next_4 : decode cX4_next 4 = .ok (.bipush 8, 2) := by decide +kernel
theorem dX4_next_6 : decode cX4_next 6 = .ok (.irem, 1) := by decide +kernel
theorem dX4_next_7 : decode cX4_next 7 = .ok (.ireturn, 1) := by decide +kernel
set_option maxRecDepth 20000 in
theorem ggX4_takes_X4_next : GoodIn wsX4_takes wsX4_next := goodIn_r _ [8, 9, 10, 11, 12, 13, 14, 15, 16, 17, 18, 19] (by decide +kernel) (by decide +kernel)
set_option maxRecDepth 20000 in
theorem gX4_takes_X4_next : GoodIn wsX4_takes (wsV RX4 63 RX4 yX4_next wsX4_next) := goodIn_app (goodIn_of _ (by decide +kernel)) ggX4_takes_X4_next
theorem dX4_takes_0 : decode cX4_takes 0 = .ok (.aload_n 0, 1) := by decide +kernel
theorem dX4_takes_1 : decode cX4_takes 1 = .ok (.getfield 15, 3) := by decide +kernel
theorem dX4_takes_4 : decode cX4_takes 4 = .ok (.iload_n 1, 1) := by decide +kernel
theorem dX4_takes_5 : decode cX4_takes 5 = .ok (.iaload, 1) := by decide +kernel
theorem dX4_takes_6 : decode cX4_takes 6 = .ok (.tableswitch 85 1 5 #[34, 54, 43, 56, 65], 34) := by decide +kernel
theorem dX4_takes_40 : decode cX4_takes 40 = .ok (.iconst 4, 1) := by decide +kernel
theorem dX4_takes_41 : decode cX4_takes 41 = .ok (.aload_n 0, 1) := by decide +kernel
theorem dX4_takes_42 : decode cX4_takes 42 = .ok (.getfield 9, 3) := by decide +kernel
theorem dX4_takes_45 : decode cX4_takes 45 = .ok (.iconst 1, 1) := by decide +kernel
theorem dX4_takes_46 : decode cX4_takes 46 = .ok (.iaload, 1) := by decide +kernel
theorem dX4_takes_47 : decode cX4_takes 47 = .ok (.iadd, 1) := by decide +kernel
theorem dX4_takes_48 : decode cX4_takes 48 = .ok (.ireturn, 1) := by decide +kernel
theorem dX4_takes_49 : decode cX4_takes 49 = .ok (.iconst 4, 1) := by decide +kernel
theorem dX4_takes_50 : decode cX4_takes 50 = .ok (.aload_n 0, 1) := by decide +kernel
theorem dX4_takes_51 : decode cX4_takes 51 = .ok (.getfield 9, 3) := by decide +kernel
theorem dX4_takes_54 : decode cX4_takes 54 = .ok (.iconst 1, 1) := by decide +kernel
theorem dX4_takes_55 : decode cX4_takes 55 = .ok (.iaload, 1) := by decide +kernel
theorem dX4_takes_56 : decode cX4_takes 56 = .ok (.iadd, 1) := by decide +kernel
theorem dX4_takes_57 : decode cX4_takes 57 = .ok (.iconst 2, 1) := by decide +kernel
theorem dX4_takes_58 : decode cX4_takes 58 = .ok (.imul, 1) := by decide +kernel
theorem dX4_takes_59 : decode cX4_takes 59 = .ok (.ireturn, 1) := by decide +kernel
theorem dX4_takes_60 : decode cX4_takes 60 = .ok (.iconst 2, 1) := by decide +kernel
theorem dX4_takes_61 : decode cX4_takes 61 = .ok (.ireturn, 1) := by decide +kernel
theorem dX4_takes_62 : decode cX4_takes 62 = .ok (.iconst 2, 1) := by decide +kernel
theorem dX4_takes_63 : decode cX4_takes 63 = .ok (.aload_n 0, 1) := by decide +kernel
theorem dX4_takes_64 : decode cX4_takes 64 = .ok (.getfield 9, 3) := by decide +kernel
theorem dX4_takes_67 : decode cX4_takes 67 = .ok (.iconst 1, 1) := by decide +kernel
theorem dX4_takes_68 : decode cX4_takes 68 = .ok (.iaload, 1) := by decide +kernel
theorem dX4_takes_69 : decode cX4_takes 69 = .ok (.isub, 1) := by decide +kernel
theorem dX4_takes_70 : decode cX4_takes 70 = .ok (.ireturn, 1) := by decide +kernel
theorem dX4_takes_71 : decode cX4_takes 71 = .ok (.aload_n 0, 1) := by decide +kernel
theorem dX4_takes_72 : decode cX4_takes 72 = .ok (.getfield 18, 3) := by decide +kernel
theorem dX4_takes_75 : decode cX4_takes 75 = .ok (.iload_n 1, 1) := by decide +kernel
theorem dX4_takes_76 : decode cX4_takes 76 = .ok (.iaload, 1) := by decide +kernel
theorem dX4_takes_77 : decode cX4_takes 77 = .ok (.aload_n 0, 1) := by decide +kernel
theorem dX4_takes_78 : decode cX4_takes 78 = .ok (.invokevirtual 63, 3) := by decide +kernel
theorem dX4_takes_81 : decode cX4_takes 81 = .ok (.if_icmp .ne 8, 3) := by decide +kernel
theorem dX4_takes_84 : decode cX4_takes 84 = .ok (.bipush 9, 2) := by decide +kernel
theorem dX4_takes_86 : decode cX4_takes 86 = .ok (.goto 4, 3) := by decide +kernel
theorem dX4_takes_89 : decode cX4_takes 89 = .ok (.iconst 4, 1) := by decide +kernel
theorem dX4_takes_90 : decode cX4_takes 90 = .ok (.ireturn, 1) := by decide +kernel
theorem dX4_takes_91 : decode cX4_takes 91 = .ok (.iconst 4, 1) := by decide +kernel
theorem dX4_takes_92 : decode cX4_takes 92 = .ok (.ireturn, 1) := by decide +kernel
theorem dX4_needs_0 : decode cX4_needs 0 = .ok (.aload_n 0, 1) := by decide +kernel
theorem dX4_needs_1 : decode cX4_needs 1 = .ok (.getfield 15, 3) := by decide +kernel
theorem dX4_needs_4 : decode cX4_needs 4 = .ok (.iload_n 1, 1) := by decide +kernel
theorem dX4_needs_5 : decode cX4_needs 5 = .ok (.iaload, 1) := by decide +kernel
theorem dX4_needs_6 : decode cX4_needs 6 = .ok (.tableswitch 66 1 5 #[34, 47, 37, 50, 63], 34) := by decide +kernel
theorem dX4_needs_40 : decode cX4_needs 40 = .ok (.bipush 15, 2) := by decide +kernel
theorem dX4_needs_42 : decode cX4_needs 42 = .ok (.ireturn, 1) := by decide +kernel
theorem dX4_needs_43 : decode cX4_needs 43 = .ok (.bipush 15, 2) := by decide +kernel
theorem dX4_needs_45 : decode cX4_needs 45 = .ok (.aload_n 0, 1) := by decide +kernel
theorem dX4_needs_46 : decode cX4_needs 46 = .ok (.getfield 9, 3) := by decide +kernel
theorem dX4_needs_49 : decode cX4_needs 49 = .ok (.iconst 1, 1) := by decide +kernel
theorem dX4_needs_50 : decode cX4_needs 50 = .ok (.iaload, 1) := by decide +kernel
theorem dX4_needs_51 : decode cX4_needs 51 = .ok (.isub, 1) := by decide +kernel
theorem dX4_needs_52 : decode cX4_needs 52 = .ok (.ireturn, 1) := by decide +kernel
theorem dX4_needs_53 : decode cX4_needs 53 = .ok (.bipush 30, 2) := by decide +kernel
theorem dX4_needs_55 : decode cX4_needs 55 = .ok (.ireturn, 1) := by decide +kernel
theorem dX4_needs_56 : decode cX4_needs 56 = .ok (.bipush 30, 2) := by decide +kernel
theorem dX4_needs_58 : decode cX4_needs 58 = .ok (.aload_n 0, 1) := by decide +kernel
theorem dX4_needs_59 : decode cX4_needs 59 = .ok (.getfield 21, 3) := by decide +kernel
theorem dX4_needs_62 : decode cX4_needs 62 = .ok (.iload_n 1, 1) := by decide +kernel
theorem dX4_needs_63 : decode cX4_needs 63 = .ok (.iaload, 1) := by decide +kernel
theorem dX4_needs_64 : decode cX4_needs 64 = .ok (.bipush 10, 2) := by decide +kernel
theorem dX4_needs_66 : decode cX4_needs 66 = .ok (.idiv, 1) := by decide +kernel
theorem dX4_needs_67 : decode cX4_needs 67 = .ok (.isub, 1) := by decide +kernel
theorem dX4_needs_68 : decode cX4_needs 68 = .ok (.ireturn, 1) := by decide +kernel
theorem dX4_needs_69 : decode cX4_needs 69 = .ok (.bipush 10, 2) := by decide +kernel
theorem dX4_needs_71 : decode cX4_needs 71 = .ok (.ireturn, 1) := by decide +kernel
theorem dX4_needs_72 : decode cX4_needs 72 = .ok (.bipush 20, 2) := by decide +kernel
theorem dX4_needs_74 : decode cX4_needs 74 = .ok (.ireturn, 1) := by decide +kernel
theorem dX4_costs_0 : decode cX4_costs 0 = .ok (.aload_n 0, 1) := by decide +kernel
theorem dX4_costs_1 : decode cX4_costs 1 = .ok (.getfield 15, 3) := by decide +kernel
theorem dX4_costs_4 : decode cX4_costs 4 = .ok (.iload_n 1, 1) := by decide +kernel
theorem dX4_costs_5 : decode cX4_costs 5 = .ok (.iaload, 1) := by decide +kernel
theorem dX4_costs_6 : decode cX4_costs 6 = .ok (.tableswitch 47 2 5 #[32, 30, 35, 45], 30) := by decide +kernel
theorem dX4_costs_36 : decode cX4_costs 36 = .ok (.iconst 5, 1) := by decide +kernel
theorem dX4_costs_37 : decode cX4_costs 37 = .ok (.ireturn, 1) := by decide +kernel
theorem dX4_costs_38 : decode cX4_costs 38 = .ok (.bipush 15, 2) := by decide +kernel
theorem dX4_costs_40 : decode cX4_costs 40 = .ok (.ireturn, 1) := by decide +kernel
theorem dX4_costs_41 : decode cX4_costs 41 = .ok (.bipush 15, 2) := by decide +kernel
theorem dX4_costs_43 : decode cX4_costs 43 = .ok (.aload_n 0, 1) := by decide +kernel
theorem dX4_costs_44 : decode cX4_costs 44 = .ok (.getfield 9, 3) := by decide +kernel
theorem dX4_costs_47 : decode cX4_costs 47 = .ok (.iconst 1, 1) := by decide +kernel
theorem dX4_costs_48 : decode cX4_costs 48 = .ok (.iaload, 1) := by decide +kernel
theorem dX4_costs_49 : decode cX4_costs 49 = .ok (.isub, 1) := by decide +kernel
theorem dX4_costs_50 : decode cX4_costs 50 = .ok (.ireturn, 1) := by decide +kernel
theorem dX4_costs_51 : decode cX4_costs 51 = .ok (.iconst 0, 1) := by decide +kernel
theorem dX4_costs_52 : decode cX4_costs 52 = .ok (.ireturn, 1) := by decide +kernel
theorem dX4_costs_53 : decode cX4_costs 53 = .ok (.bipush 10, 2) := by decide +kernel
theorem dX4_costs_55 : decode cX4_costs 55 = .ok (.ireturn, 1) := by decide +kernel
set_option maxRecDepth 20000 in
theorem ggX4_serve_X4_isDrowned : GoodIn wsX4_serve wsX4_isDrowned := goodIn_r _ [9, 10, 55, 56, 57, 58, 59, 60, 61, 62, 63, 64] (by decide +kernel) (by decide +kernel)
set_option maxRecDepth 20000 in
theorem gX4_serve_X4_isDrowned : GoodIn wsX4_serve (wsV RX4 67 RX4 yX4_isDrowned wsX4_isDrowned) := goodIn_app (goodIn_of _ (by decide +kernel)) ggX4_serve_X4_isDrowned
set_option maxRecDepth 20000 in
theorem ggX4_serve_X4_takes : GoodIn wsX4_serve wsX4_takes := goodIn_r _ [14, 15, 3, 16, 17, 18, 19, 8, 20, 21, 55, 56, 57, 58, 59, 60, 61, 62, 63, 64] (by decide +kernel) (by decide +kernel)
set_option maxRecDepth 20000 in
theorem gX4_serve_X4_takes : GoodIn wsX4_serve (wsV RX4 71 RX4 yX4_takes wsX4_takes) := goodIn_app (goodIn_of _ (by decide +kernel)) ggX4_serve_X4_takes
set_option maxRecDepth 20000 in
theorem ggX4_serve_X6_held : GoodIn wsX4_serve wsX6_held := goodIn_r _ [24, 25, 26, 27, 28, 29, 30, 31] (by decide +kernel) (by decide +kernel)
set_option maxRecDepth 20000 in
theorem gX4_serve_X6_held_n75 : GoodIn wsX4_serve (wsX6_held) := ggX4_serve_X6_held
set_option maxRecDepth 20000 in
theorem ggX4_serve_X4_teller : GoodIn wsX4_serve wsX4_teller := goodIn_r _ [35, 1, 16, 2, 17, 18, 19, 8, 20, 21, 5, 6, 7, 9, 10, 36, 37, 38, 39, 15, 3, 55, 56, 57, 58, 59, 60, 61, 62, 63, 64] (by decide +kernel) (by decide +kernel)
set_option maxRecDepth 20000 in
theorem gX4_serve_X4_teller : GoodIn wsX4_serve (wsV RX4 78 RX4 yX4_teller wsX4_teller) := goodIn_app (goodIn_of _ (by decide +kernel)) ggX4_serve_X4_teller
