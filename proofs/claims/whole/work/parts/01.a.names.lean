/-! ===== BEGIN words of one list among another's, by their places ===== -/
theorem goodIn_r {big : List Cond} (ws : List Cond) (ps : List Nat) (hp : ws = ps.filterMap (fun i => big[i]?)) (h : ws.all goodWord = true) : GoodIn big ws := by
  intro w hw
  have h1 := List.all_eq_true.mp h w hw
  rw [hp] at hw
  obtain ⟨i, -, hi⟩ := List.mem_filterMap.mp hw
  have hm : w ∈ big := by first | exact List.mem_of_getElem? hi | exact List.getElem?_mem hi
  exact ⟨hm, good_of_word h1⟩
theorem goodIn_app {big a b : List Cond} (ha : GoodIn big a) (hb : GoodIn big b) : GoodIn big (a ++ b) := fun w h => (List.mem_append.mp h).elim (ha w) (hb w)
theorem goodIn_ca {big a b : List Cond} {c : Cond} (ha : GoodIn big (c :: a)) (hb : GoodIn big b) : GoodIn big (c :: (a ++ b)) := fun w h => (List.mem_cons.mp h).elim (fun e => ha w (List.mem_cons.mpr (Or.inl e))) (fun h => (List.mem_append.mp h).elim (fun h => ha w (List.mem_cons.mpr (Or.inr h))) (hb w))
theorem goodIn_sub {big ws : List Cond} (hm : ∀ w ∈ ws, w ∈ big) (h : ws.all goodWord = true) : GoodIn big ws := fun w hw => ⟨hm w hw, good_of_word (List.all_eq_true.mp h w hw)⟩
/-! ===== END ===== -/

/-! ===== BEGIN printed: names, fields, word lists, decode rows ===== -/
def RX0 : String := "ProofSeeker$Derivation"
def TX0 : u_T := fun k => match k with
  | _ => ("ProofSeeker$Derivation", "cells", "[I", false)
def tyX0 : Nat → FieldType := fun k => match k with
  | _ => .array .int
abbrev wsX00 : List Cond := u_ws RX0 TX0 1
theorem nmX0 : ∀ a, a < 1 → ∀ b, b < 1 → a ≠ b → (TX0 a).2.1 ≠ (TX0 b).2.1 := by decide +kernel
theorem tyX0_ok : ∀ k, k < 1 → parseFieldDescriptor (TX0 k).2.2.1 = some (tyX0 k) := by decide +kernel
abbrev cX0_init : ByteArray := prog_2_method_1_code
def yX0_init : MethodName := ⟨RX0, "<init>", "()V"⟩
abbrev cX0_way : ByteArray := prog_2_method_2_code
def yX0_way : MethodName := ⟨RX0, "way", "(II)I"⟩
abbrev cX0_ruleOf : ByteArray := prog_2_method_3_code
def yX0_ruleOf : MethodName := ⟨RX0, "ruleOf", "(I)I"⟩
abbrev cX0_takenBy : ByteArray := prog_2_method_4_code
def yX0_takenBy : MethodName := ⟨RX0, "takenBy", "(I)I"⟩
abbrev cX0_premisesOf : ByteArray := prog_2_method_5_code
def yX0_premisesOf : MethodName := ⟨RX0, "premisesOf", "(I)I"⟩
abbrev cX0_goalOf : ByteArray := prog_2_method_6_code
def yX0_goalOf : MethodName := ⟨RX0, "goalOf", "(I)I"⟩
abbrev cX0_wayOf : ByteArray := prog_2_method_7_code
def yX0_wayOf : MethodName := ⟨RX0, "wayOf", "(I)I"⟩
abbrev cX0_premiseOf : ByteArray := prog_2_method_8_code
def yX0_premiseOf : MethodName := ⟨RX0, "premiseOf", "(II)I"⟩
abbrev cX0_begin : ByteArray := prog_2_method_9_code
def yX0_begin : MethodName := ⟨RX0, "begin", "(II)V"⟩
abbrev cX0_setWay : ByteArray := prog_2_method_10_code
def yX0_setWay : MethodName := ⟨RX0, "setWay", "(II)V"⟩
abbrev cX0_setPremise : ByteArray := prog_2_method_11_code
def yX0_setPremise : MethodName := ⟨RX0, "setPremise", "(III)V"⟩
abbrev cX0_read : ByteArray := prog_2_method_12_code
def yX0_read : MethodName := ⟨RX0, "read", "(II)I"⟩
abbrev cX0_write : ByteArray := prog_2_method_13_code
def yX0_write : MethodName := ⟨RX0, "write", "(III)V"⟩
def RX1 : String := "ProofSeeker$Kept"
def TX1 : u_T := fun k => match k with
  | 0 => ("ProofSeeker$Kept", "most", "I", true)
  | 1 => ("ProofSeeker$Kept", "heads", "[I", true)
  | 2 => ("ProofSeeker$Kept", "cells", "[I", false)
  | _ => ("ProofSeeker$Kept", "size", "I", false)
def tyX1 : Nat → FieldType := fun k => match k with
  | 0 => .int
  | 1 => .array .int
  | 2 => .array .int
  | _ => .int
abbrev wsX10 : List Cond := u_ws RX1 TX1 4
theorem nmX1 : ∀ a, a < 4 → ∀ b, b < 4 → a ≠ b → (TX1 a).2.1 ≠ (TX1 b).2.1 := by decide +kernel
theorem tyX1_ok : ∀ k, k < 4 → parseFieldDescriptor (TX1 k).2.2.1 = some (tyX1 k) := by decide +kernel
abbrev cX1_init : ByteArray := prog_3_method_1_code
def yX1_init : MethodName := ⟨RX1, "<init>", "(I)V"⟩
abbrev cX1_size : ByteArray := prog_3_method_2_code
def yX1_size : MethodName := ⟨RX1, "size", "()I"⟩
abbrev cX1_get : ByteArray := prog_3_method_3_code
def yX1_get : MethodName := ⟨RX1, "get", "(II)I"⟩
abbrev cX1_find : ByteArray := prog_3_method_4_code
def yX1_find : MethodName := ⟨RX1, "find", "(IIIII)I"⟩
abbrev cX1_append : ByteArray := prog_3_method_5_code
def yX1_append : MethodName := ⟨RX1, "append", "(IIIII)I"⟩
abbrev cX1_bucketOf : ByteArray := prog_3_method_6_code
def yX1_bucketOf : MethodName := ⟨RX1, "bucketOf", "(IIIII)I"⟩
def RX2 : String := "ProofSeeker$NodeStore"
def TX2 : u_T := fun k => match k with
  | 0 => ("ProofSeeker$NodeStore", "statementStore", "LProofSeeker$StatementStore;", true)
  | 1 => ("ProofSeeker$NodeStore", "kept", "LProofSeeker$Kept;", true)
  | 2 => ("ProofSeeker$NodeStore", "rested", "LProofSeeker$Sets;", true)
  | 3 => ("ProofSeeker$NodeStore", "sound", "[I", false)
  | _ => ("ProofSeeker$NodeStore", "judged", "I", false)
def tyX2 : Nat → FieldType := fun k => match k with
  | 0 => .object "ProofSeeker$StatementStore"
  | 1 => .object "ProofSeeker$Kept"
  | 2 => .object "ProofSeeker$Sets"
  | 3 => .array .int
  | _ => .int
abbrev wsX20 : List Cond := u_ws RX2 TX2 5
theorem nmX2 : ∀ a, a < 5 → ∀ b, b < 5 → a ≠ b → (TX2 a).2.1 ≠ (TX2 b).2.1 := by decide +kernel
theorem tyX2_ok : ∀ k, k < 5 → parseFieldDescriptor (TX2 k).2.2.1 = some (tyX2 k) := by decide +kernel
abbrev cX2_init : ByteArray := prog_4_method_1_code
def yX2_init : MethodName := ⟨RX2, "<init>", "(LProofSeeker$StatementStore;)V"⟩
abbrev cX2_partsOf : ByteArray := prog_4_method_2_code
def yX2_partsOf : MethodName := ⟨RX2, "partsOf", "(I)I"⟩
abbrev cX2_size : ByteArray := prog_4_method_3_code
def yX2_size : MethodName := ⟨RX2, "size", "()I"⟩
abbrev cX2_holds : ByteArray := prog_4_method_4_code
def yX2_holds : MethodName := ⟨RX2, "holds", "(I)Z"⟩
abbrev cX2_read : ByteArray := prog_4_method_5_code
def yX2_read : MethodName := ⟨RX2, "read", "(II)I"⟩
abbrev cX2_goalOf : ByteArray := prog_4_method_6_code
def yX2_goalOf : MethodName := ⟨RX2, "goalOf", "(I)I"⟩
abbrev cX2_make : ByteArray := prog_4_method_7_code
def yX2_make : MethodName := ⟨RX2, "make", "(IIIII)I"⟩
abbrev cX2_isSound : ByteArray := prog_4_method_8_code
def yX2_isSound : MethodName := ⟨RX2, "isSound", "(I)Z"⟩
abbrev cX2_restCount : ByteArray := prog_4_method_9_code
def yX2_restCount : MethodName := ⟨RX2, "restCount", "(I)I"⟩
abbrev cX2_restAbove : ByteArray := prog_4_method_10_code
def yX2_restAbove : MethodName := ⟨RX2, "restAbove", "(II)I"⟩
abbrev cX2_judgeUpTo : ByteArray := prog_4_method_11_code
def yX2_judgeUpTo : MethodName := ⟨RX2, "judgeUpTo", "(I)V"⟩
abbrev cX2_partsAreSound : ByteArray := prog_4_method_12_code
def yX2_partsAreSound : MethodName := ⟨RX2, "partsAreSound", "(I)Z"⟩
abbrev cX2_goalFits : ByteArray := prog_4_method_13_code
def yX2_goalFits : MethodName := ⟨RX2, "goalFits", "(I)Z"⟩
abbrev cX2_isWhole : ByteArray := prog_4_method_14_code
def yX2_isWhole : MethodName := ⟨RX2, "isWhole", "(IIII)Z"⟩
abbrev cX2_gatherRests : ByteArray := prog_4_method_15_code
def yX2_gatherRests : MethodName := ⟨RX2, "gatherRests", "(I)V"⟩
def RX3 : String := "ProofSeeker$ProofMaker"
def TX3 : u_T := fun k => match k with
  | 0 => ("ProofSeeker$ProofMaker", "statementStore", "LProofSeeker$StatementStore;", true)
  | 1 => ("ProofSeeker$ProofMaker", "nodeStore", "LProofSeeker$NodeStore;", true)
  | 2 => ("ProofSeeker$ProofMaker", "derivation", "LProofSeeker$Derivation;", true)
  | _ => ("ProofSeeker$ProofMaker", "full", "Z", false)
def tyX3 : Nat → FieldType := fun k => match k with
  | 0 => .object "ProofSeeker$StatementStore"
  | 1 => .object "ProofSeeker$NodeStore"
  | 2 => .object "ProofSeeker$Derivation"
  | _ => .boolean
abbrev wsX30 : List Cond := u_ws RX3 TX3 4
theorem nmX3 : ∀ a, a < 4 → ∀ b, b < 4 → a ≠ b → (TX3 a).2.1 ≠ (TX3 b).2.1 := by decide +kernel
theorem tyX3_ok : ∀ k, k < 4 → parseFieldDescriptor (TX3 k).2.2.1 = some (tyX3 k) := by decide +kernel
abbrev cX3_init : ByteArray := prog_5_method_1_code
def yX3_init : MethodName := ⟨RX3, "<init>", "(LProofSeeker$StatementStore;LProofSeeker$NodeStore;LProofSeeker$Derivation;)V"⟩
abbrev cX3_makeAll : ByteArray := prog_5_method_2_code
def yX3_makeAll : MethodName := ⟨RX3, "makeAll", "(I)I"⟩
abbrev cX3_build : ByteArray := prog_5_method_3_code
def yX3_build : MethodName := ⟨RX3, "build", "(II)I"⟩
abbrev cX3_unpack : ByteArray := prog_5_method_4_code
def yX3_unpack : MethodName := ⟨RX3, "unpack", "(II)I"⟩
abbrev cX3_fire : ByteArray := prog_5_method_5_code
def yX3_fire : MethodName := ⟨RX3, "fire", "(II)I"⟩
abbrev cX3_uncurry : ByteArray := prog_5_method_6_code
def yX3_uncurry : MethodName := ⟨RX3, "uncurry", "(II)I"⟩
abbrev cX3_rejoin : ByteArray := prog_5_method_7_code
def yX3_rejoin : MethodName := ⟨RX3, "rejoin", "(II)I"⟩
abbrev cX3_nest : ByteArray := prog_5_method_8_code
def yX3_nest : MethodName := ⟨RX3, "nest", "(IIII)I"⟩
abbrev cX3_implication : ByteArray := prog_5_method_9_code
def yX3_implication : MethodName := ⟨RX3, "implication", "(II)I"⟩
abbrev cX3_given : ByteArray := prog_5_method_10_code
def yX3_given : MethodName := ⟨RX3, "given", "(I)I"⟩
abbrev cX3_lambda : ByteArray := prog_5_method_11_code
def yX3_lambda : MethodName := ⟨RX3, "lambda", "(II)I"⟩
abbrev cX3_apply : ByteArray := prog_5_method_12_code
def yX3_apply : MethodName := ⟨RX3, "apply", "(II)I"⟩
abbrev cX3_make : ByteArray := prog_5_method_13_code
def yX3_make : MethodName := ⟨RX3, "make", "(IIIII)I"⟩
abbrev cX3_noted : ByteArray := prog_5_method_14_code
def yX3_noted : MethodName := ⟨RX3, "noted", "(I)I"⟩
def RX4 : String := "ProofSeeker$Search"
def TX4 : u_T := fun k => match k with
  | 0 => ("ProofSeeker$Search", "statementStore", "LProofSeeker$StatementStore;", true)
  | 1 => ("ProofSeeker$Search", "derivation", "LProofSeeker$Derivation;", true)
  | 2 => ("ProofSeeker$Search", "given", "LProofSeeker$Sets;", true)
  | 3 => ("ProofSeeker$Search", "fuel", "I", false)
  | _ => ("ProofSeeker$Search", "spent", "I", false)
def tyX4 : Nat → FieldType := fun k => match k with
  | 0 => .object "ProofSeeker$StatementStore"
  | 1 => .object "ProofSeeker$Derivation"
  | 2 => .object "ProofSeeker$Sets"
  | 3 => .int
  | _ => .int
abbrev wsX40 : List Cond := u_ws RX4 TX4 5
theorem nmX4 : ∀ a, a < 5 → ∀ b, b < 5 → a ≠ b → (TX4 a).2.1 ≠ (TX4 b).2.1 := by decide +kernel
theorem tyX4_ok : ∀ k, k < 5 → parseFieldDescriptor (TX4 k).2.2.1 = some (tyX4 k) := by decide +kernel
abbrev cX4_init : ByteArray := prog_6_method_1_code
def yX4_init : MethodName := ⟨RX4, "<init>", "(LProofSeeker$StatementStore;LProofSeeker$Derivation;)V"⟩
abbrev cX4_fuelSpent : ByteArray := prog_6_method_2_code
def yX4_fuelSpent : MethodName := ⟨RX4, "fuelSpent", "()I"⟩
abbrev cX4_run : ByteArray := prog_6_method_3_code
def yX4_run : MethodName := ⟨RX4, "run", "(II)I"⟩
abbrev cX4_look : ByteArray := prog_6_method_4_code
def yX4_look : MethodName := ⟨RX4, "look", "(II)I"⟩
abbrev cX4_follow : ByteArray := prog_6_method_5_code
def yX4_follow : MethodName := ⟨RX4, "follow", "(III)I"⟩
abbrev cX4_firstWay : ByteArray := prog_6_method_6_code
def yX4_firstWay : MethodName := ⟨RX4, "firstWay", "(II)I"⟩
abbrev cX4_nextWay : ByteArray := prog_6_method_7_code
def yX4_nextWay : MethodName := ⟨RX4, "nextWay", "(II)I"⟩
abbrev cX4_wayByGoal : ByteArray := prog_6_method_8_code
def yX4_wayByGoal : MethodName := ⟨RX4, "wayByGoal", "(II)I"⟩
abbrev cX4_wayByGiven : ByteArray := prog_6_method_9_code
def yX4_wayByGiven : MethodName := ⟨RX4, "wayByGiven", "(I)I"⟩
abbrev cX4_nestedAbove : ByteArray := prog_6_method_10_code
def yX4_nestedAbove : MethodName := ⟨RX4, "nestedAbove", "(II)I"⟩
abbrev cX4_leastFired : ByteArray := prog_6_method_11_code
def yX4_leastFired : MethodName := ⟨RX4, "leastFired", "(I)I"⟩
abbrev cX4_leastOfKind : ByteArray := prog_6_method_12_code
def yX4_leastOfKind : MethodName := ⟨RX4, "leastOfKind", "(III)I"⟩
abbrev cX4_bringNew : ByteArray := prog_6_method_13_code
def yX4_bringNew : MethodName := ⟨RX4, "bringNew", "(IIII)Z"⟩
abbrev cX4_bringParts : ByteArray := prog_6_method_14_code
def yX4_bringParts : MethodName := ⟨RX4, "bringParts", "(IIII)V"⟩
abbrev cX4_goalOfPremise : ByteArray := prog_6_method_15_code
def yX4_goalOfPremise : MethodName := ⟨RX4, "goalOfPremise", "(IIII)I"⟩
def RX5 : String := "ProofSeeker$Sets"
def TX5 : u_T := fun k => match k with
  | 0 => ("ProofSeeker$Sets", "words", "[J", false)
  | _ => ("ProofSeeker$Sets", "top", "I", false)
def tyX5 : Nat → FieldType := fun k => match k with
  | 0 => .array .long
  | _ => .int
abbrev wsX50 : List Cond := u_ws RX5 TX5 2
theorem nmX5 : ∀ a, a < 2 → ∀ b, b < 2 → a ≠ b → (TX5 a).2.1 ≠ (TX5 b).2.1 := by decide +kernel
theorem tyX5_ok : ∀ k, k < 2 → parseFieldDescriptor (TX5 k).2.2.1 = some (tyX5 k) := by decide +kernel
abbrev cX5_init : ByteArray := prog_7_method_1_code
def yX5_init : MethodName := ⟨RX5, "<init>", "(I)V"⟩
abbrev cX5_reach : ByteArray := prog_7_method_2_code
def yX5_reach : MethodName := ⟨RX5, "reach", "(I)V"⟩
abbrev cX5_has : ByteArray := prog_7_method_3_code
def yX5_has : MethodName := ⟨RX5, "has", "(II)Z"⟩
abbrev cX5_add : ByteArray := prog_7_method_4_code
def yX5_add : MethodName := ⟨RX5, "add", "(II)V"⟩
abbrev cX5_remove : ByteArray := prog_7_method_5_code
def yX5_remove : MethodName := ⟨RX5, "remove", "(II)V"⟩
abbrev cX5_clear : ByteArray := prog_7_method_6_code
def yX5_clear : MethodName := ⟨RX5, "clear", "(I)V"⟩
abbrev cX5_copy : ByteArray := prog_7_method_7_code
def yX5_copy : MethodName := ⟨RX5, "copy", "(II)V"⟩
abbrev cX5_merge : ByteArray := prog_7_method_8_code
def yX5_merge : MethodName := ⟨RX5, "merge", "(III)V"⟩
abbrev cX5_count : ByteArray := prog_7_method_9_code
def yX5_count : MethodName := ⟨RX5, "count", "(I)I"⟩
abbrev cX5_leastShared : ByteArray := prog_7_method_10_code
def yX5_leastShared : MethodName := ⟨RX5, "leastShared", "(ILProofSeeker$Sets;II)I"⟩
abbrev cX5_isRow : ByteArray := prog_7_method_11_code
def yX5_isRow : MethodName := ⟨RX5, "isRow", "(I)Z"⟩
abbrev cX5_isInside : ByteArray := prog_7_method_12_code
def yX5_isInside : MethodName := ⟨RX5, "isInside", "(II)Z"⟩
def RX6 : String := "ProofSeeker$StatementStore"
def TX6 : u_T := fun k => match k with
  | 0 => ("ProofSeeker$StatementStore", "kept", "LProofSeeker$Kept;", true)
  | 1 => ("ProofSeeker$StatementStore", "kinds", "LProofSeeker$Sets;", true)
  | _ => ("ProofSeeker$StatementStore", "trueOnes", "LProofSeeker$Sets;", true)
def tyX6 : Nat → FieldType := fun k => match k with
  | 0 => .object "ProofSeeker$Kept"
  | 1 => .object "ProofSeeker$Sets"
  | _ => .object "ProofSeeker$Sets"
abbrev wsX60 : List Cond := u_ws RX6 TX6 3
theorem nmX6 : ∀ a, a < 3 → ∀ b, b < 3 → a ≠ b → (TX6 a).2.1 ≠ (TX6 b).2.1 := by decide +kernel
theorem tyX6_ok : ∀ k, k < 3 → parseFieldDescriptor (TX6 k).2.2.1 = some (tyX6 k) := by decide +kernel
abbrev cX6_init : ByteArray := prog_8_method_1_code
def yX6_init : MethodName := ⟨RX6, "<init>", "()V"⟩
abbrev cX6_size : ByteArray := prog_8_method_2_code
def yX6_size : MethodName := ⟨RX6, "size", "()I"⟩
abbrev cX6_holds : ByteArray := prog_8_method_3_code
def yX6_holds : MethodName := ⟨RX6, "holds", "(I)Z"⟩
abbrev cX6_read : ByteArray := prog_8_method_4_code
def yX6_read : MethodName := ⟨RX6, "read", "(II)I"⟩
abbrev cX6_sortOf : ByteArray := prog_8_method_5_code
def yX6_sortOf : MethodName := ⟨RX6, "sortOf", "(I)I"⟩
abbrev cX6_leftOf : ByteArray := prog_8_method_6_code
def yX6_leftOf : MethodName := ⟨RX6, "leftOf", "(I)I"⟩
abbrev cX6_rightOf : ByteArray := prog_8_method_7_code
def yX6_rightOf : MethodName := ⟨RX6, "rightOf", "(I)I"⟩
abbrev cX6_isOf : ByteArray := prog_8_method_8_code
def yX6_isOf : MethodName := ⟨RX6, "isOf", "(II)Z"⟩
abbrev cX6_byKind : ByteArray := prog_8_method_9_code
def yX6_byKind : MethodName := ⟨RX6, "byKind", "()LProofSeeker$Sets;"⟩
abbrev cX6_find : ByteArray := prog_8_method_10_code
def yX6_find : MethodName := ⟨RX6, "find", "(III)I"⟩
abbrev cX6_make : ByteArray := prog_8_method_11_code
def yX6_make : MethodName := ⟨RX6, "make", "(III)I"⟩
abbrev cX6_holdsWhen : ByteArray := prog_8_method_12_code
def yX6_holdsWhen : MethodName := ⟨RX6, "holdsWhen", "(II)Z"⟩
abbrev cX6_followsFromParts : ByteArray := prog_8_method_13_code
def yX6_followsFromParts : MethodName := ⟨RX6, "followsFromParts", "(II)Z"⟩
def RX7 : String := "ProofSeeker"
def TX7 : u_T := fun k => match k with
  | 0 => ("ProofSeeker", "statementStore", "LProofSeeker$StatementStore;", true)
  | 1 => ("ProofSeeker", "nodeStore", "LProofSeeker$NodeStore;", true)
  | 2 => ("ProofSeeker", "search", "LProofSeeker$Search;", true)
  | _ => ("ProofSeeker", "proofMaker", "LProofSeeker$ProofMaker;", true)
def tyX7 : Nat → FieldType := fun k => match k with
  | 0 => .object "ProofSeeker$StatementStore"
  | 1 => .object "ProofSeeker$NodeStore"
  | 2 => .object "ProofSeeker$Search"
  | _ => .object "ProofSeeker$ProofMaker"
abbrev wsX70 : List Cond := u_ws RX7 TX7 4
theorem nmX7 : ∀ a, a < 4 → ∀ b, b < 4 → a ≠ b → (TX7 a).2.1 ≠ (TX7 b).2.1 := by decide +kernel
theorem tyX7_ok : ∀ k, k < 4 → parseFieldDescriptor (TX7 k).2.2.1 = some (tyX7 k) := by decide +kernel
abbrev cX7_init : ByteArray := prog_1_method_1_code
def yX7_init : MethodName := ⟨RX7, "<init>", "()V"⟩
abbrev cX7_atom : ByteArray := prog_1_method_2_code
def yX7_atom : MethodName := ⟨RX7, "atom", "(I)I"⟩
abbrev cX7_falsehood : ByteArray := prog_1_method_3_code
def yX7_falsehood : MethodName := ⟨RX7, "falsehood", "()I"⟩
abbrev cX7_join : ByteArray := prog_1_method_4_code
def yX7_join : MethodName := ⟨RX7, "join", "(III)I"⟩
abbrev cX7_told : ByteArray := prog_1_method_5_code
def yX7_told : MethodName := ⟨RX7, "told", "(II)I"⟩
abbrev cX7_statements : ByteArray := prog_1_method_6_code
def yX7_statements : MethodName := ⟨RX7, "statements", "()I"⟩
abbrev cX7_nodes : ByteArray := prog_1_method_7_code
def yX7_nodes : MethodName := ⟨RX7, "nodes", "()I"⟩
abbrev cX7_prove : ByteArray := prog_1_method_8_code
def yX7_prove : MethodName := ⟨RX7, "prove", "(II)I"⟩
abbrev cX7_used : ByteArray := prog_1_method_9_code
def yX7_used : MethodName := ⟨RX7, "used", "()I"⟩
abbrev cX7_node : ByteArray := prog_1_method_10_code
def yX7_node : MethodName := ⟨RX7, "node", "(IIIII)I"⟩
abbrev cX7_of : ByteArray := prog_1_method_11_code
def yX7_of : MethodName := ⟨RX7, "of", "(II)I"⟩
abbrev cX7_wellMade : ByteArray := prog_1_method_12_code
def yX7_wellMade : MethodName := ⟨RX7, "wellMade", "(I)I"⟩
abbrev cX7_rests : ByteArray := prog_1_method_13_code
def yX7_rests : MethodName := ⟨RX7, "rests", "(I)I"⟩
abbrev cX7_restsOn : ByteArray := prog_1_method_14_code
def yX7_restsOn : MethodName := ⟨RX7, "restsOn", "(II)I"⟩
abbrev cX7_proves : ByteArray := prog_1_method_15_code
def yX7_proves : MethodName := ⟨RX7, "proves", "(I)I"⟩
abbrev cX7_isTrue : ByteArray := prog_1_method_16_code
def yX7_isTrue : MethodName := ⟨RX7, "isTrue", "(II)I"⟩
abbrev cX7_asAnswer : ByteArray := prog_1_method_17_code
def yX7_asAnswer : MethodName := ⟨RX7, "asAnswer", "(Z)I"⟩
def RX8 : String := "ProofSeekerModel"
def TX8 : u_T := fun k => match k with
  | 0 => ("ProofSeekerModel", "sorts", "[I", true)
  | 1 => ("ProofSeekerModel", "lefts", "[I", true)
  | 2 => ("ProofSeekerModel", "rights", "[I", true)
  | 3 => ("ProofSeekerModel", "count", "I", false)
  | 4 => ("ProofSeekerModel", "tags", "[I", true)
  | 5 => ("ProofSeekerModel", "goals", "[I", true)
  | 6 => ("ProofSeekerModel", "firsts", "[I", true)
  | 7 => ("ProofSeekerModel", "seconds", "[I", true)
  | 8 => ("ProofSeekerModel", "thirds", "[I", true)
  | 9 => ("ProofSeekerModel", "nodes", "I", false)
  | 10 => ("ProofSeekerModel", "used", "I", false)
  | 11 => ("ProofSeekerModel", "over", "I", false)
  | 12 => ("ProofSeekerModel", "given", "[B", true)
  | 13 => ("ProofSeekerModel", "wants", "[I", true)
  | 14 => ("ProofSeekerModel", "steps", "[I", true)
  | 15 => ("ProofSeekerModel", "phases", "[I", true)
  | 16 => ("ProofSeekerModel", "tried", "[I", true)
  | 17 => ("ProofSeekerModel", "deep", "I", false)
  | 18 => ("ProofSeekerModel", "rules", "[I", true)
  | 19 => ("ProofSeekerModel", "abouts", "[I", true)
  | 20 => ("ProofSeekerModel", "aims", "[I", true)
  | 21 => ("ProofSeekerModel", "ones", "[I", true)
  | 22 => ("ProofSeekerModel", "twos", "[I", true)
  | 23 => ("ProofSeekerModel", "closed", "I", false)
  | 24 => ("ProofSeekerModel", "pile", "[I", true)
  | 25 => ("ProofSeekerModel", "states", "[I", true)
  | 26 => ("ProofSeekerModel", "befores", "[I", true)
  | 27 => ("ProofSeekerModel", "parts", "[I", true)
  | 28 => ("ProofSeekerModel", "marks", "[Z", true)
  | 29 => ("ProofSeekerModel", "rest", "[Z", true)
  | _ => ("ProofSeekerModel", "truths", "[Z", true)
def tyX8 : Nat → FieldType := fun k => match k with
  | 0 => .array .int
  | 1 => .array .int
  | 2 => .array .int
  | 3 => .int
  | 4 => .array .int
  | 5 => .array .int
  | 6 => .array .int
  | 7 => .array .int
  | 8 => .array .int
  | 9 => .int
  | 10 => .int
  | 11 => .int
  | 12 => .array .byte
  | 13 => .array .int
  | 14 => .array .int
  | 15 => .array .int
  | 16 => .array .int
  | 17 => .int
  | 18 => .array .int
  | 19 => .array .int
  | 20 => .array .int
  | 21 => .array .int
  | 22 => .array .int
  | 23 => .int
  | 24 => .array .int
  | 25 => .array .int
  | 26 => .array .int
  | 27 => .array .int
  | 28 => .array .boolean
  | 29 => .array .boolean
  | _ => .array .boolean
abbrev wsX80 : List Cond := u_ws RX8 TX8 31
theorem nmX8 : ∀ a, a < 31 → ∀ b, b < 31 → a ≠ b → (TX8 a).2.1 ≠ (TX8 b).2.1 := by decide +kernel
theorem tyX8_ok : ∀ k, k < 31 → parseFieldDescriptor (TX8 k).2.2.1 = some (tyX8 k) := by decide +kernel
abbrev cX8_init : ByteArray := prog_10_method_1_code
def yX8_init : MethodName := ⟨RX8, "<init>", "()V"⟩
abbrev cX8_isStatement : ByteArray := prog_10_method_2_code
def yX8_isStatement : MethodName := ⟨RX8, "isStatement", "(I)Z"⟩
abbrev cX8_find : ByteArray := prog_10_method_3_code
def yX8_find : MethodName := ⟨RX8, "find", "(III)I"⟩
abbrev cX8_make : ByteArray := prog_10_method_4_code
def yX8_make : MethodName := ⟨RX8, "make", "(III)I"⟩
abbrev cX8_atom : ByteArray := prog_10_method_5_code
def yX8_atom : MethodName := ⟨RX8, "atom", "(I)I"⟩
abbrev cX8_falsehood : ByteArray := prog_10_method_6_code
def yX8_falsehood : MethodName := ⟨RX8, "falsehood", "()I"⟩
abbrev cX8_join : ByteArray := prog_10_method_7_code
def yX8_join : MethodName := ⟨RX8, "join", "(III)I"⟩
abbrev cX8_told : ByteArray := prog_10_method_8_code
def yX8_told : MethodName := ⟨RX8, "told", "(II)I"⟩
abbrev cX8_statements : ByteArray := prog_10_method_9_code
def yX8_statements : MethodName := ⟨RX8, "statements", "()I"⟩
abbrev cX8_nodes : ByteArray := prog_10_method_10_code
def yX8_nodes : MethodName := ⟨RX8, "nodes", "()I"⟩
abbrev cX8_implication : ByteArray := prog_10_method_11_code
def yX8_implication : MethodName := ⟨RX8, "implication", "(II)I"⟩
abbrev cX8_has : ByteArray := prog_10_method_12_code
def yX8_has : MethodName := ⟨RX8, "has", "(II)Z"⟩
abbrev cX8_set : ByteArray := prog_10_method_13_code
def yX8_set : MethodName := ⟨RX8, "set", "(III)V"⟩
abbrev cX8_open : ByteArray := prog_10_method_14_code
def yX8_open : MethodName := ⟨RX8, "open", "(I)V"⟩
abbrev cX8_enter : ByteArray := prog_10_method_15_code
def yX8_enter : MethodName := ⟨RX8, "enter", "(I)V"⟩
abbrev cX8_close : ByteArray := prog_10_method_16_code
def yX8_close : MethodName := ⟨RX8, "close", "(Z)V"⟩
abbrev cX8_isA : ByteArray := prog_10_method_17_code
def yX8_isA : MethodName := ⟨RX8, "isA", "(II)Z"⟩
abbrev cX8_least : ByteArray := prog_10_method_18_code
def yX8_least : MethodName := ⟨RX8, "least", "(I)I"⟩
abbrev cX8_falseOne : ByteArray := prog_10_method_19_code
def yX8_falseOne : MethodName := ⟨RX8, "falseOne", "()I"⟩
abbrev cX8_choose : ByteArray := prog_10_method_20_code
def yX8_choose : MethodName := ⟨RX8, "choose", "()V"⟩
abbrev cX8_premise : ByteArray := prog_10_method_21_code
def yX8_premise : MethodName := ⟨RX8, "premise", "(III)V"⟩
abbrev cX8_turn : ByteArray := prog_10_method_22_code
def yX8_turn : MethodName := ⟨RX8, "turn", "(I)V"⟩
abbrev cX8_choices : ByteArray := prog_10_method_23_code
def yX8_choices : MethodName := ⟨RX8, "choices", "(III)V"⟩
abbrev cX8_prove : ByteArray := prog_10_method_24_code
def yX8_prove : MethodName := ⟨RX8, "prove", "(II)I"⟩
abbrev cX8_used : ByteArray := prog_10_method_25_code
def yX8_used : MethodName := ⟨RX8, "used", "()I"⟩
abbrev cX8_width : ByteArray := prog_10_method_26_code
def yX8_width : MethodName := ⟨RX8, "width", "(I)I"⟩
abbrev cX8_keep : ByteArray := prog_10_method_27_code
def yX8_keep : MethodName := ⟨RX8, "keep", "(IIIII)I"⟩
abbrev cX8_put : ByteArray := prog_10_method_28_code
def yX8_put : MethodName := ⟨RX8, "put", "(IIIII)I"⟩
abbrev cX8_v : ByteArray := prog_10_method_29_code
def yX8_v : MethodName := ⟨RX8, "v", "(I)I"⟩
abbrev cX8_l : ByteArray := prog_10_method_30_code
def yX8_l : MethodName := ⟨RX8, "l", "(II)I"⟩
abbrev cX8_a : ByteArray := prog_10_method_31_code
def yX8_a : MethodName := ⟨RX8, "a", "(II)I"⟩
abbrev cX8_lay : ByteArray := prog_10_method_32_code
def yX8_lay : MethodName := ⟨RX8, "lay", "(I)I"⟩
abbrev cX8_around : ByteArray := prog_10_method_33_code
def yX8_around : MethodName := ⟨RX8, "around", "(IIII)I"⟩
abbrev cX8_curried : ByteArray := prog_10_method_34_code
def yX8_curried : MethodName := ⟨RX8, "curried", "(II)I"⟩
abbrev cX8_shared : ByteArray := prog_10_method_35_code
def yX8_shared : MethodName := ⟨RX8, "shared", "(II)I"⟩
abbrev cX8_nested : ByteArray := prog_10_method_36_code
def yX8_nested : MethodName := ⟨RX8, "nested", "(IIII)I"⟩
abbrev cX8_isNode : ByteArray := prog_10_method_37_code
def yX8_isNode : MethodName := ⟨RX8, "isNode", "(I)Z"⟩
abbrev cX8_node : ByteArray := prog_10_method_38_code
def yX8_node : MethodName := ⟨RX8, "node", "(IIIII)I"⟩
abbrev cX8_of : ByteArray := prog_10_method_39_code
def yX8_of : MethodName := ⟨RX8, "of", "(II)I"⟩
abbrev cX8_mark : ByteArray := prog_10_method_40_code
def yX8_mark : MethodName := ⟨RX8, "mark", "(I)V"⟩
abbrev cX8_isThat : ByteArray := prog_10_method_41_code
def yX8_isThat : MethodName := ⟨RX8, "isThat", "(IIII)Z"⟩
abbrev cX8_fits : ByteArray := prog_10_method_42_code
def yX8_fits : MethodName := ⟨RX8, "fits", "(I)Z"⟩
abbrev cX8_isWell : ByteArray := prog_10_method_43_code
def yX8_isWell : MethodName := ⟨RX8, "isWell", "(I)Z"⟩
abbrev cX8_wellMade : ByteArray := prog_10_method_44_code
def yX8_wellMade : MethodName := ⟨RX8, "wellMade", "(I)I"⟩
abbrev cX8_isOn : ByteArray := prog_10_method_45_code
def yX8_isOn : MethodName := ⟨RX8, "isOn", "(II)Z"⟩
abbrev cX8_next : ByteArray := prog_10_method_46_code
def yX8_next : MethodName := ⟨RX8, "next", "(II)I"⟩
abbrev cX8_rests : ByteArray := prog_10_method_47_code
def yX8_rests : MethodName := ⟨RX8, "rests", "(I)I"⟩
abbrev cX8_restsOn : ByteArray := prog_10_method_48_code
def yX8_restsOn : MethodName := ⟨RX8, "restsOn", "(II)I"⟩
abbrev cX8_proves : ByteArray := prog_10_method_49_code
def yX8_proves : MethodName := ⟨RX8, "proves", "(I)I"⟩
abbrev cX8_isTrue : ByteArray := prog_10_method_50_code
def yX8_isTrue : MethodName := ⟨RX8, "isTrue", "(II)I"⟩
def RJx8e188 : String := "java/lang/Cloneable"
def TJx8e188 : u_T := fun k => match k with
  | _ => ("", "", "", false)
def tyJx8e188 : Nat → FieldType := fun k => match k with
  | _ => .int
theorem nmJx8e188 : ∀ a, a < 0 → ∀ b, b < 0 → a ≠ b → (TJx8e188 a).2.1 ≠ (TJx8e188 b).2.1 := by decide +kernel
theorem tyJx8e188_ok : ∀ k, k < 0 → parseFieldDescriptor (TJx8e188 k).2.2.1 = some (tyJx8e188 k) := by decide +kernel
def RJ13 : String := "java/lang/Long"
def TJ13 : u_T := fun k => match k with
  | _ => ("", "", "", false)
def tyJ13 : Nat → FieldType := fun k => match k with
  | _ => .int
theorem nmJ13 : ∀ a, a < 0 → ∀ b, b < 0 → a ≠ b → (TJ13 a).2.1 ≠ (TJ13 b).2.1 := by decide +kernel
theorem tyJ13_ok : ∀ k, k < 0 → parseFieldDescriptor (TJ13 k).2.2.1 = some (tyJ13 k) := by decide +kernel
abbrev cJ13_bitCount_95d88 : ByteArray := prog_12_method_50_code
def yJ13_bitCount_95d88 : MethodName := ⟨RJ13, "bitCount", "(J)I"⟩
def RJ9 : String := "java/lang/Math"
def TJ9 : u_T := fun k => match k with
  | _ => ("", "", "", false)
def tyJ9 : Nat → FieldType := fun k => match k with
  | _ => .int
theorem nmJ9 : ∀ a, a < 0 → ∀ b, b < 0 → a ≠ b → (TJ9 a).2.1 ≠ (TJ9 b).2.1 := by decide +kernel
theorem tyJ9_ok : ∀ k, k < 0 → parseFieldDescriptor (TJ9 k).2.2.1 = some (tyJ9 k) := by decide +kernel
abbrev cJ9_max_7cf53 : ByteArray := prog_13_method_65_code
def yJ9_max_7cf53 : MethodName := ⟨RJ9, "max", "(II)I"⟩
abbrev cJ9_min_7cf53 : ByteArray := prog_13_method_69_code
def yJ9_min_7cf53 : MethodName := ⟨RJ9, "min", "(II)I"⟩
def RJ10 : String := "java/lang/System"
def TJ10 : u_T := fun k => match k with
  | _ => ("", "", "", false)
def tyJ10 : Nat → FieldType := fun k => match k with
  | _ => .int
theorem nmJ10 : ∀ a, a < 0 → ∀ b, b < 0 → a ≠ b → (TJ10 a).2.1 ≠ (TJ10 b).2.1 := by decide +kernel
theorem tyJ10_ok : ∀ k, k < 0 → parseFieldDescriptor (TJ10 k).2.2.1 = some (tyJ10 k) := by decide +kernel
def RJ7 : String := "java/util/Arrays"
def TJ7 : u_T := fun k => match k with
  | _ => ("", "", "", false)
def tyJ7 : Nat → FieldType := fun k => match k with
  | _ => .int
theorem nmJ7 : ∀ a, a < 0 → ∀ b, b < 0 → a ≠ b → (TJ7 a).2.1 ≠ (TJ7 b).2.1 := by decide +kernel
theorem tyJ7_ok : ∀ k, k < 0 → parseFieldDescriptor (TJ7 k).2.2.1 = some (tyJ7 k) := by decide +kernel
abbrev cJ7_rangeCheck_23922 : ByteArray := prog_15_method_30_code
def yJ7_rangeCheck_23922 : MethodName := ⟨RJ7, "rangeCheck", "(III)V"⟩
abbrev cJ7_fill_bad5a : ByteArray := prog_15_method_102_code
def yJ7_fill_bad5a : MethodName := ⟨RJ7, "fill", "([JIIJ)V"⟩
abbrev cJ7_copyOf_59c91 : ByteArray := prog_15_method_123_code
def yJ7_copyOf_59c91 : MethodName := ⟨RJ7, "copyOf", "([II)[I"⟩
abbrev cJ7_copyOf_c38d5 : ByteArray := prog_15_method_124_code
def yJ7_copyOf_c38d5 : MethodName := ⟨RJ7, "copyOf", "([JI)[J"⟩
def RL : String := "ProofSeekerLaw"
abbrev cL_law : ByteArray := code
def yL_law : MethodName := ⟨RL, "law", "([I)Z"⟩
abbrev vwCl : List vw_C := [(RX0, TX0, 1), (RX1, TX1, 4), (RX2, TX2, 5), (RX3, TX3, 4), (RX4, TX4, 5), (RX5, TX5, 2), (RX6, TX6, 3), (RX7, TX7, 4), (RX8, TX8, 31)]
/-- the words: those of the tables that are kept by every call -/
def TB : List Cond := lw_tbl.filter goodWord
theorem tseg_1 {w : Cond} (h : w ∈ tables_1_1) (hg : goodWord w = true) : w ∈ TB := List.mem_filter.mpr ⟨List.mem_append_right _ (show w ∈ tables_1 from List.mem_append_left _ h), hg⟩
theorem tseg_2 {w : Cond} (h : w ∈ tables_1_2) (hg : goodWord w = true) : w ∈ TB := List.mem_filter.mpr ⟨List.mem_append_right _ (show w ∈ tables_1 from List.mem_append_right _ (List.mem_append_left _ h)), hg⟩
theorem tseg_3 {w : Cond} (h : w ∈ tables_1_3) (hg : goodWord w = true) : w ∈ TB := List.mem_filter.mpr ⟨List.mem_append_right _ (show w ∈ tables_1 from List.mem_append_right _ (List.mem_append_right _ (List.mem_append_left _ h))), hg⟩
theorem tseg_4 {w : Cond} (h : w ∈ tables_1_4) (hg : goodWord w = true) : w ∈ TB := List.mem_filter.mpr ⟨List.mem_append_right _ (show w ∈ tables_1 from List.mem_append_right _ (List.mem_append_right _ (List.mem_append_right _ h))), hg⟩
theorem tprv_1 {q : MethodName × Nat} (h : q ∈ lw_privs_1) : Cond.selects q.1.cls q.1 q.1 ∈ TB := List.mem_filter.mpr ⟨List.mem_append_left _ (List.mem_map.mpr ⟨q, (show q ∈ lw_privs from List.mem_append_left _ h), rfl⟩), rfl⟩
theorem tprv_2 {q : MethodName × Nat} (h : q ∈ lw_privs_2) : Cond.selects q.1.cls q.1 q.1 ∈ TB := List.mem_filter.mpr ⟨List.mem_append_left _ (List.mem_map.mpr ⟨q, (show q ∈ lw_privs from List.mem_append_right _ (List.mem_append_left _ h)), rfl⟩), rfl⟩
theorem tprv_3 {q : MethodName × Nat} (h : q ∈ lw_privs_3) : Cond.selects q.1.cls q.1 q.1 ∈ TB := List.mem_filter.mpr ⟨List.mem_append_left _ (List.mem_map.mpr ⟨q, (show q ∈ lw_privs from List.mem_append_right _ (List.mem_append_right _ (List.mem_append_left _ h))), rfl⟩), rfl⟩
theorem tprv_4 {q : MethodName × Nat} (h : q ∈ lw_privs_4) : Cond.selects q.1.cls q.1 q.1 ∈ TB := List.mem_filter.mpr ⟨List.mem_append_left _ (List.mem_map.mpr ⟨q, (show q ∈ lw_privs from List.mem_append_right _ (List.mem_append_right _ (List.mem_append_right _ (List.mem_append_left _ h)))), rfl⟩), rfl⟩
theorem tprv_5 {q : MethodName × Nat} (h : q ∈ lw_privs_5) : Cond.selects q.1.cls q.1 q.1 ∈ TB := List.mem_filter.mpr ⟨List.mem_append_left _ (List.mem_map.mpr ⟨q, (show q ∈ lw_privs from List.mem_append_right _ (List.mem_append_right _ (List.mem_append_right _ (List.mem_append_right _ (h))))), rfl⟩), rfl⟩
theorem w_cl_RL_7 : (Cond.classLink RL 7 RX7 : Cond) ∈ TB := tseg_1 (List.mem_of_getElem? (i := 14) rfl) rfl
theorem w_ins_RX7 : (Cond.instantiable RX7 4 : Cond) ∈ TB := tseg_1 (List.mem_of_getElem? (i := 15) rfl) rfl
theorem w_ini_RX7 : (Cond.initialized RX7 : Cond) ∈ TB := tseg_1 (List.mem_of_getElem? (i := 1) rfl) rfl
theorem w_cl_RL_10 : (Cond.classLink RL 10 RX8 : Cond) ∈ TB := tseg_3 (List.mem_of_getElem? (i := 139) rfl) rfl
theorem w_ins_RX8 : (Cond.instantiable RX8 31 : Cond) ∈ TB := tseg_3 (List.mem_of_getElem? (i := 140) rfl) rfl
theorem w_ini_RX8 : (Cond.initialized RX8 : Cond) ∈ TB := tseg_1 (List.mem_of_getElem? (i := 9) rfl) rfl
theorem w_ml_RL_9 : (Cond.methodLink RL 9 yX7_init : Cond) ∈ TB := tseg_1 (List.mem_of_getElem? (i := 16) rfl) rfl
theorem w_im_yX7_init : (Cond.instanceMethod yX7_init : Cond) ∈ TB := tseg_1 (List.mem_of_getElem? (i := 17) rfl) rfl
theorem w_cd_yX7_init : (Cond.code yX7_init cX7_init 2 none : Cond) ∈ TB := tseg_1 (List.mem_of_getElem? (i := 18) rfl) rfl
theorem w_ml_RX7_1 : (Cond.methodLink RX7 1 objectInit : Cond) ∈ TB := tseg_1 (List.mem_of_getElem? (i := 19) rfl) rfl
theorem w_im_objectInit : (Cond.instanceMethod objectInit : Cond) ∈ TB := tseg_1 (List.mem_of_getElem? (i := 20) rfl) rfl
theorem w_cd_objectInit : (Cond.code objectInit ⟨#[0xb1]⟩ 1 none : Cond) ∈ TB := tseg_1 (List.mem_of_getElem? (i := 21) rfl) rfl
theorem w_cl_RX7_7 : (Cond.classLink RX7 7 RX0 : Cond) ∈ TB := tseg_1 (List.mem_of_getElem? (i := 22) rfl) rfl
theorem w_ins_RX0 : (Cond.instantiable RX0 1 : Cond) ∈ TB := tseg_1 (List.mem_of_getElem? (i := 23) rfl) rfl
theorem w_ini_RX0 : (Cond.initialized RX0 : Cond) ∈ TB := tseg_1 (List.mem_of_getElem? (i := 2) rfl) rfl
theorem w_cl_RX7_10 : (Cond.classLink RX7 10 RX6 : Cond) ∈ TB := tseg_1 (List.mem_of_getElem? (i := 33) rfl) rfl
theorem w_ins_RX6 : (Cond.instantiable RX6 3 : Cond) ∈ TB := tseg_1 (List.mem_of_getElem? (i := 34) rfl) rfl
theorem w_ini_RX6 : (Cond.initialized RX6 : Cond) ∈ TB := tseg_1 (List.mem_of_getElem? (i := 3) rfl) rfl
theorem w_fl_RX7_13 : (Cond.fieldLink RX7 13 "ProofSeeker" "statementStore" "LProofSeeker$StatementStore;" : Cond) ∈ TB := tseg_1 (List.mem_of_getElem? (i := 151) rfl) rfl
theorem w_cl_RX7_19 : (Cond.classLink RX7 19 RX2 : Cond) ∈ TB := tseg_1 (List.mem_of_getElem? (i := 82) rfl) rfl
theorem w_ins_RX2 : (Cond.instantiable RX2 5 : Cond) ∈ TB := tseg_1 (List.mem_of_getElem? (i := 83) rfl) rfl
theorem w_ini_RX2 : (Cond.initialized RX2 : Cond) ∈ TB := tseg_1 (List.mem_of_getElem? (i := 6) rfl) rfl
theorem w_fl_RX7_24 : (Cond.fieldLink RX7 24 "ProofSeeker" "nodeStore" "LProofSeeker$NodeStore;" : Cond) ∈ TB := tseg_1 (List.mem_of_getElem? (i := 152) rfl) rfl
theorem w_cl_RX7_28 : (Cond.classLink RX7 28 RX4 : Cond) ∈ TB := tseg_1 (List.mem_of_getElem? (i := 108) rfl) rfl
theorem w_ins_RX4 : (Cond.instantiable RX4 5 : Cond) ∈ TB := tseg_1 (List.mem_of_getElem? (i := 109) rfl) rfl
theorem w_ini_RX4 : (Cond.initialized RX4 : Cond) ∈ TB := tseg_1 (List.mem_of_getElem? (i := 7) rfl) rfl
theorem w_fl_RX7_33 : (Cond.fieldLink RX7 33 "ProofSeeker" "search" "LProofSeeker$Search;" : Cond) ∈ TB := tseg_1 (List.mem_of_getElem? (i := 153) rfl) rfl
theorem w_cl_RX7_37 : (Cond.classLink RX7 37 RX3 : Cond) ∈ TB := tseg_1 (List.mem_of_getElem? (i := 132) rfl) rfl
theorem w_ins_RX3 : (Cond.instantiable RX3 4 : Cond) ∈ TB := tseg_1 (List.mem_of_getElem? (i := 133) rfl) rfl
theorem w_ini_RX3 : (Cond.initialized RX3 : Cond) ∈ TB := tseg_1 (List.mem_of_getElem? (i := 8) rfl) rfl
theorem w_fl_RX7_42 : (Cond.fieldLink RX7 42 "ProofSeeker" "proofMaker" "LProofSeeker$ProofMaker;" : Cond) ∈ TB := tseg_1 (List.mem_of_getElem? (i := 154) rfl) rfl
theorem w_im_yX0_init : (Cond.instanceMethod yX0_init : Cond) ∈ TB := tseg_1 (List.mem_of_getElem? (i := 25) rfl) rfl
theorem w_cd_yX0_init : (Cond.code yX0_init cX0_init 1 none : Cond) ∈ TB := tseg_1 (List.mem_of_getElem? (i := 26) rfl) rfl
theorem w_ml_RX0_3 : (Cond.methodLink RX0 3 objectInit : Cond) ∈ TB := tseg_1 (List.mem_of_getElem? (i := 27) rfl) rfl
theorem w_ac_int : (Cond.arrayClass .int : Cond) ∈ TB := tseg_1 (List.mem_of_getElem? (i := 32) rfl) rfl
theorem w_fl_RX0_11 : (Cond.fieldLink RX0 11 "ProofSeeker$Derivation" "cells" "[I" : Cond) ∈ TB := tseg_1 (List.mem_of_getElem? (i := 28) rfl) rfl
theorem w_im_yX6_init : (Cond.instanceMethod yX6_init : Cond) ∈ TB := tseg_1 (List.mem_of_getElem? (i := 36) rfl) rfl
theorem w_cd_yX6_init : (Cond.code yX6_init cX6_init 1 none : Cond) ∈ TB := tseg_1 (List.mem_of_getElem? (i := 37) rfl) rfl
theorem w_ml_RX6_5 : (Cond.methodLink RX6 5 objectInit : Cond) ∈ TB := tseg_1 (List.mem_of_getElem? (i := 38) rfl) rfl
theorem w_cl_RX6_11 : (Cond.classLink RX6 11 RX1 : Cond) ∈ TB := tseg_1 (List.mem_of_getElem? (i := 39) rfl) rfl
theorem w_ins_RX1 : (Cond.instantiable RX1 4 : Cond) ∈ TB := tseg_1 (List.mem_of_getElem? (i := 40) rfl) rfl
theorem w_ini_RX1 : (Cond.initialized RX1 : Cond) ∈ TB := tseg_1 (List.mem_of_getElem? (i := 4) rfl) rfl
theorem w_fl_RX6_16 : (Cond.fieldLink RX6 16 "ProofSeeker$StatementStore" "kept" "LProofSeeker$Kept;" : Cond) ∈ TB := tseg_1 (List.mem_of_getElem? (i := 72) rfl) rfl
theorem w_cl_RX6_20 : (Cond.classLink RX6 20 RX5 : Cond) ∈ TB := tseg_1 (List.mem_of_getElem? (i := 58) rfl) rfl
theorem w_ins_RX5 : (Cond.instantiable RX5 2 : Cond) ∈ TB := tseg_1 (List.mem_of_getElem? (i := 59) rfl) rfl
theorem w_ini_RX5 : (Cond.initialized RX5 : Cond) ∈ TB := tseg_1 (List.mem_of_getElem? (i := 5) rfl) rfl
theorem w_fl_RX6_23 : (Cond.fieldLink RX6 23 "ProofSeeker$StatementStore" "kinds" "LProofSeeker$Sets;" : Cond) ∈ TB := tseg_1 (List.mem_of_getElem? (i := 73) rfl) rfl
theorem w_fl_RX6_27 : (Cond.fieldLink RX6 27 "ProofSeeker$StatementStore" "trueOnes" "LProofSeeker$Sets;" : Cond) ∈ TB := tseg_1 (List.mem_of_getElem? (i := 74) rfl) rfl
theorem w_ml_RX6_13 : (Cond.methodLink RX6 13 yX1_init : Cond) ∈ TB := tseg_1 (List.mem_of_getElem? (i := 41) rfl) rfl
theorem w_im_yX1_init : (Cond.instanceMethod yX1_init : Cond) ∈ TB := tseg_1 (List.mem_of_getElem? (i := 42) rfl) rfl
theorem w_cd_yX1_init : (Cond.code yX1_init cX1_init 2 none : Cond) ∈ TB := tseg_1 (List.mem_of_getElem? (i := 43) rfl) rfl
theorem w_ml_RX1_5 : (Cond.methodLink RX1 5 objectInit : Cond) ∈ TB := tseg_1 (List.mem_of_getElem? (i := 44) rfl) rfl
theorem w_fl_RX1_11 : (Cond.fieldLink RX1 11 "ProofSeeker$Kept" "heads" "[I" : Cond) ∈ TB := tseg_1 (List.mem_of_getElem? (i := 46) rfl) rfl
theorem w_fl_RX1_15 : (Cond.fieldLink RX1 15 "ProofSeeker$Kept" "cells" "[I" : Cond) ∈ TB := tseg_1 (List.mem_of_getElem? (i := 47) rfl) rfl
theorem w_fl_RX1_18 : (Cond.fieldLink RX1 18 "ProofSeeker$Kept" "size" "I" : Cond) ∈ TB := tseg_1 (List.mem_of_getElem? (i := 48) rfl) rfl
theorem w_fl_RX1_22 : (Cond.fieldLink RX1 22 "ProofSeeker$Kept" "most" "I" : Cond) ∈ TB := tseg_1 (List.mem_of_getElem? (i := 45) rfl) rfl
theorem w_ml_RX6_22 : (Cond.methodLink RX6 22 yX5_init : Cond) ∈ TB := tseg_1 (List.mem_of_getElem? (i := 60) rfl) rfl
theorem w_im_yX5_init : (Cond.instanceMethod yX5_init : Cond) ∈ TB := tseg_1 (List.mem_of_getElem? (i := 61) rfl) rfl
theorem w_cd_yX5_init : (Cond.code yX5_init cX5_init 2 none : Cond) ∈ TB := tseg_1 (List.mem_of_getElem? (i := 62) rfl) rfl
theorem w_ml_RX5_3 : (Cond.methodLink RX5 3 objectInit : Cond) ∈ TB := tseg_1 (List.mem_of_getElem? (i := 63) rfl) rfl
theorem w_fl_RX5_9 : (Cond.fieldLink RX5 9 "ProofSeeker$Sets" "top" "I" : Cond) ∈ TB := tseg_1 (List.mem_of_getElem? (i := 65) rfl) rfl
theorem w_ac_long : (Cond.arrayClass .long : Cond) ∈ TB := tseg_1 (List.mem_of_getElem? (i := 71) rfl) rfl
theorem w_fl_RX5_15 : (Cond.fieldLink RX5 15 "ProofSeeker$Sets" "words" "[J" : Cond) ∈ TB := tseg_1 (List.mem_of_getElem? (i := 64) rfl) rfl
theorem w_ml_RX7_21 : (Cond.methodLink RX7 21 yX2_init : Cond) ∈ TB := tseg_1 (List.mem_of_getElem? (i := 84) rfl) rfl
theorem w_im_yX2_init : (Cond.instanceMethod yX2_init : Cond) ∈ TB := tseg_1 (List.mem_of_getElem? (i := 85) rfl) rfl
theorem w_cd_yX2_init : (Cond.code yX2_init cX2_init 2 none : Cond) ∈ TB := tseg_1 (List.mem_of_getElem? (i := 86) rfl) rfl
theorem w_ml_RX2_3 : (Cond.methodLink RX2 3 objectInit : Cond) ∈ TB := tseg_1 (List.mem_of_getElem? (i := 87) rfl) rfl
theorem w_cl_RX2_9 : (Cond.classLink RX2 9 RX1 : Cond) ∈ TB := tseg_1 (List.mem_of_getElem? (i := 88) rfl) rfl
theorem w_fl_RX2_14 : (Cond.fieldLink RX2 14 "ProofSeeker$NodeStore" "kept" "LProofSeeker$Kept;" : Cond) ∈ TB := tseg_1 (List.mem_of_getElem? (i := 93) rfl) rfl
theorem w_cl_RX2_20 : (Cond.classLink RX2 20 RX5 : Cond) ∈ TB := tseg_1 (List.mem_of_getElem? (i := 90) rfl) rfl
theorem w_fl_RX2_23 : (Cond.fieldLink RX2 23 "ProofSeeker$NodeStore" "rested" "LProofSeeker$Sets;" : Cond) ∈ TB := tseg_1 (List.mem_of_getElem? (i := 94) rfl) rfl
theorem w_fl_RX2_27 : (Cond.fieldLink RX2 27 "ProofSeeker$NodeStore" "sound" "[I" : Cond) ∈ TB := tseg_1 (List.mem_of_getElem? (i := 95) rfl) rfl
theorem w_fl_RX2_31 : (Cond.fieldLink RX2 31 "ProofSeeker$NodeStore" "judged" "I" : Cond) ∈ TB := tseg_1 (List.mem_of_getElem? (i := 96) rfl) rfl
theorem w_fl_RX2_35 : (Cond.fieldLink RX2 35 "ProofSeeker$NodeStore" "statementStore" "LProofSeeker$StatementStore;" : Cond) ∈ TB := tseg_1 (List.mem_of_getElem? (i := 92) rfl) rfl
theorem w_ml_RX2_11 : (Cond.methodLink RX2 11 yX1_init : Cond) ∈ TB := tseg_1 (List.mem_of_getElem? (i := 89) rfl) rfl
theorem w_ml_RX2_22 : (Cond.methodLink RX2 22 yX5_init : Cond) ∈ TB := tseg_1 (List.mem_of_getElem? (i := 91) rfl) rfl
theorem w_ml_RX7_30 : (Cond.methodLink RX7 30 yX4_init : Cond) ∈ TB := tseg_1 (List.mem_of_getElem? (i := 110) rfl) rfl
theorem w_im_yX4_init : (Cond.instanceMethod yX4_init : Cond) ∈ TB := tseg_1 (List.mem_of_getElem? (i := 111) rfl) rfl
theorem w_cd_yX4_init : (Cond.code yX4_init cX4_init 3 none : Cond) ∈ TB := tseg_1 (List.mem_of_getElem? (i := 112) rfl) rfl
theorem w_ml_RX4_3 : (Cond.methodLink RX4 3 objectInit : Cond) ∈ TB := tseg_1 (List.mem_of_getElem? (i := 113) rfl) rfl
theorem w_cl_RX4_9 : (Cond.classLink RX4 9 RX5 : Cond) ∈ TB := tseg_1 (List.mem_of_getElem? (i := 114) rfl) rfl
theorem w_fl_RX4_14 : (Cond.fieldLink RX4 14 "ProofSeeker$Search" "given" "LProofSeeker$Sets;" : Cond) ∈ TB := tseg_1 (List.mem_of_getElem? (i := 118) rfl) rfl
theorem w_fl_RX4_20 : (Cond.fieldLink RX4 20 "ProofSeeker$Search" "fuel" "I" : Cond) ∈ TB := tseg_1 (List.mem_of_getElem? (i := 119) rfl) rfl
theorem w_fl_RX4_24 : (Cond.fieldLink RX4 24 "ProofSeeker$Search" "spent" "I" : Cond) ∈ TB := tseg_1 (List.mem_of_getElem? (i := 120) rfl) rfl
theorem w_fl_RX4_27 : (Cond.fieldLink RX4 27 "ProofSeeker$Search" "statementStore" "LProofSeeker$StatementStore;" : Cond) ∈ TB := tseg_1 (List.mem_of_getElem? (i := 116) rfl) rfl
theorem w_fl_RX4_31 : (Cond.fieldLink RX4 31 "ProofSeeker$Search" "derivation" "LProofSeeker$Derivation;" : Cond) ∈ TB := tseg_1 (List.mem_of_getElem? (i := 117) rfl) rfl
theorem w_ml_RX4_11 : (Cond.methodLink RX4 11 yX5_init : Cond) ∈ TB := tseg_1 (List.mem_of_getElem? (i := 115) rfl) rfl
theorem w_ml_RX7_39 : (Cond.methodLink RX7 39 yX3_init : Cond) ∈ TB := tseg_1 (List.mem_of_getElem? (i := 134) rfl) rfl
theorem w_im_yX3_init : (Cond.instanceMethod yX3_init : Cond) ∈ TB := tseg_1 (List.mem_of_getElem? (i := 135) rfl) rfl
theorem w_cd_yX3_init : (Cond.code yX3_init cX3_init 4 none : Cond) ∈ TB := tseg_1 (List.mem_of_getElem? (i := 136) rfl) rfl
theorem w_ml_RX3_3 : (Cond.methodLink RX3 3 objectInit : Cond) ∈ TB := tseg_1 (List.mem_of_getElem? (i := 137) rfl) rfl
theorem w_fl_RX3_9 : (Cond.fieldLink RX3 9 "ProofSeeker$ProofMaker" "full" "Z" : Cond) ∈ TB := tseg_1 (List.mem_of_getElem? (i := 141) rfl) rfl
theorem w_fl_RX3_15 : (Cond.fieldLink RX3 15 "ProofSeeker$ProofMaker" "statementStore" "LProofSeeker$StatementStore;" : Cond) ∈ TB := tseg_1 (List.mem_of_getElem? (i := 138) rfl) rfl
theorem w_fl_RX3_19 : (Cond.fieldLink RX3 19 "ProofSeeker$ProofMaker" "nodeStore" "LProofSeeker$NodeStore;" : Cond) ∈ TB := tseg_1 (List.mem_of_getElem? (i := 139) rfl) rfl
theorem w_fl_RX3_23 : (Cond.fieldLink RX3 23 "ProofSeeker$ProofMaker" "derivation" "LProofSeeker$Derivation;" : Cond) ∈ TB := tseg_1 (List.mem_of_getElem? (i := 140) rfl) rfl
theorem w_ml_RL_12 : (Cond.methodLink RL 12 yX8_init : Cond) ∈ TB := tseg_3 (List.mem_of_getElem? (i := 141) rfl) rfl
theorem w_im_yX8_init : (Cond.instanceMethod yX8_init : Cond) ∈ TB := tseg_3 (List.mem_of_getElem? (i := 142) rfl) rfl
theorem w_cd_yX8_init : (Cond.code yX8_init cX8_init 1 none : Cond) ∈ TB := tseg_3 (List.mem_of_getElem? (i := 143) rfl) rfl
theorem w_ml_RX8_1 : (Cond.methodLink RX8 1 objectInit : Cond) ∈ TB := tseg_3 (List.mem_of_getElem? (i := 144) rfl) rfl
theorem w_fl_RX8_7 : (Cond.fieldLink RX8 7 "ProofSeekerModel" "sorts" "[I" : Cond) ∈ TB := tseg_3 (List.mem_of_getElem? (i := 146) rfl) rfl
theorem w_fl_RX8_13 : (Cond.fieldLink RX8 13 "ProofSeekerModel" "lefts" "[I" : Cond) ∈ TB := tseg_3 (List.mem_of_getElem? (i := 147) rfl) rfl
theorem w_fl_RX8_16 : (Cond.fieldLink RX8 16 "ProofSeekerModel" "rights" "[I" : Cond) ∈ TB := tseg_3 (List.mem_of_getElem? (i := 148) rfl) rfl
theorem w_fl_RX8_19 : (Cond.fieldLink RX8 19 "ProofSeekerModel" "tags" "[I" : Cond) ∈ TB := tseg_3 (List.mem_of_getElem? (i := 150) rfl) rfl
theorem w_fl_RX8_22 : (Cond.fieldLink RX8 22 "ProofSeekerModel" "goals" "[I" : Cond) ∈ TB := tseg_3 (List.mem_of_getElem? (i := 151) rfl) rfl
theorem w_fl_RX8_25 : (Cond.fieldLink RX8 25 "ProofSeekerModel" "firsts" "[I" : Cond) ∈ TB := tseg_3 (List.mem_of_getElem? (i := 152) rfl) rfl
theorem w_fl_RX8_28 : (Cond.fieldLink RX8 28 "ProofSeekerModel" "seconds" "[I" : Cond) ∈ TB := tseg_3 (List.mem_of_getElem? (i := 153) rfl) rfl
theorem w_fl_RX8_31 : (Cond.fieldLink RX8 31 "ProofSeekerModel" "thirds" "[I" : Cond) ∈ TB := tseg_3 (List.mem_of_getElem? (i := 154) rfl) rfl
theorem w_ki_RX8_34 : (Cond.constant RX8 34 (49200) : Cond) ∈ TB := tseg_3 (List.mem_of_getElem? (i := 145) rfl) rfl
theorem w_ac_byte : (Cond.arrayClass .byte : Cond) ∈ TB := tseg_4 (List.mem_of_getElem? (i := 0) rfl) rfl
theorem w_fl_RX8_35 : (Cond.fieldLink RX8 35 "ProofSeekerModel" "given" "[B" : Cond) ∈ TB := tseg_3 (List.mem_of_getElem? (i := 158) rfl) rfl
theorem w_fl_RX8_39 : (Cond.fieldLink RX8 39 "ProofSeekerModel" "wants" "[I" : Cond) ∈ TB := tseg_3 (List.mem_of_getElem? (i := 159) rfl) rfl
theorem w_fl_RX8_42 : (Cond.fieldLink RX8 42 "ProofSeekerModel" "steps" "[I" : Cond) ∈ TB := tseg_3 (List.mem_of_getElem? (i := 160) rfl) rfl
theorem w_fl_RX8_45 : (Cond.fieldLink RX8 45 "ProofSeekerModel" "phases" "[I" : Cond) ∈ TB := tseg_3 (List.mem_of_getElem? (i := 161) rfl) rfl
theorem w_fl_RX8_48 : (Cond.fieldLink RX8 48 "ProofSeekerModel" "tried" "[I" : Cond) ∈ TB := tseg_3 (List.mem_of_getElem? (i := 162) rfl) rfl
theorem w_fl_RX8_51 : (Cond.fieldLink RX8 51 "ProofSeekerModel" "rules" "[I" : Cond) ∈ TB := tseg_3 (List.mem_of_getElem? (i := 164) rfl) rfl
theorem w_fl_RX8_54 : (Cond.fieldLink RX8 54 "ProofSeekerModel" "abouts" "[I" : Cond) ∈ TB := tseg_3 (List.mem_of_getElem? (i := 165) rfl) rfl
theorem w_fl_RX8_57 : (Cond.fieldLink RX8 57 "ProofSeekerModel" "aims" "[I" : Cond) ∈ TB := tseg_3 (List.mem_of_getElem? (i := 166) rfl) rfl
theorem w_fl_RX8_60 : (Cond.fieldLink RX8 60 "ProofSeekerModel" "ones" "[I" : Cond) ∈ TB := tseg_3 (List.mem_of_getElem? (i := 167) rfl) rfl
theorem w_fl_RX8_63 : (Cond.fieldLink RX8 63 "ProofSeekerModel" "twos" "[I" : Cond) ∈ TB := tseg_3 (List.mem_of_getElem? (i := 168) rfl) rfl
theorem w_fl_RX8_66 : (Cond.fieldLink RX8 66 "ProofSeekerModel" "pile" "[I" : Cond) ∈ TB := tseg_3 (List.mem_of_getElem? (i := 170) rfl) rfl
theorem w_fl_RX8_69 : (Cond.fieldLink RX8 69 "ProofSeekerModel" "states" "[I" : Cond) ∈ TB := tseg_3 (List.mem_of_getElem? (i := 171) rfl) rfl
theorem w_fl_RX8_72 : (Cond.fieldLink RX8 72 "ProofSeekerModel" "befores" "[I" : Cond) ∈ TB := tseg_3 (List.mem_of_getElem? (i := 172) rfl) rfl
theorem w_fl_RX8_75 : (Cond.fieldLink RX8 75 "ProofSeekerModel" "parts" "[I" : Cond) ∈ TB := tseg_3 (List.mem_of_getElem? (i := 173) rfl) rfl
theorem w_ac_boolean : (Cond.arrayClass .boolean : Cond) ∈ TB := tseg_4 (List.mem_of_getElem? (i := 1) rfl) rfl
theorem w_fl_RX8_78 : (Cond.fieldLink RX8 78 "ProofSeekerModel" "marks" "[Z" : Cond) ∈ TB := tseg_3 (List.mem_of_getElem? (i := 174) rfl) rfl
theorem w_fl_RX8_82 : (Cond.fieldLink RX8 82 "ProofSeekerModel" "rest" "[Z" : Cond) ∈ TB := tseg_3 (List.mem_of_getElem? (i := 175) rfl) rfl
theorem w_fl_RX8_85 : (Cond.fieldLink RX8 85 "ProofSeekerModel" "truths" "[Z" : Cond) ∈ TB := tseg_3 (List.mem_of_getElem? (i := 176) rfl) rfl
theorem w_ml_RL_13 : (Cond.methodLink RL 13 yX7_atom : Cond) ∈ TB := tseg_1 (List.mem_of_getElem? (i := 164) rfl) rfl
theorem w_im_yX7_atom : (Cond.instanceMethod yX7_atom : Cond) ∈ TB := tseg_1 (List.mem_of_getElem? (i := 165) rfl) rfl
theorem w_se_yX7_atom : (Cond.selects RX7 yX7_atom yX7_atom : Cond) ∈ TB := tseg_1 (List.mem_of_getElem? (i := 166) rfl) rfl
theorem w_cd_yX7_atom : (Cond.code yX7_atom cX7_atom 2 (some .int) : Cond) ∈ TB := tseg_1 (List.mem_of_getElem? (i := 167) rfl) rfl
theorem w_ml_RX7_46 : (Cond.methodLink RX7 46 yX6_make : Cond) ∈ TB := tseg_1 (List.mem_of_getElem? (i := 168) rfl) rfl
theorem w_im_yX6_make : (Cond.instanceMethod yX6_make : Cond) ∈ TB := tseg_1 (List.mem_of_getElem? (i := 169) rfl) rfl
theorem w_se_yX6_make : (Cond.selects RX6 yX6_make yX6_make : Cond) ∈ TB := tseg_1 (List.mem_of_getElem? (i := 170) rfl) rfl
theorem w_cd_yX6_make : (Cond.code yX6_make cX6_make 6 (some .int) : Cond) ∈ TB := tseg_1 (List.mem_of_getElem? (i := 171) rfl) rfl
theorem w_ml_RX6_38 : (Cond.methodLink RX6 38 yX1_find : Cond) ∈ TB := tseg_1 (List.mem_of_getElem? (i := 172) rfl) rfl
theorem w_im_yX1_find : (Cond.instanceMethod yX1_find : Cond) ∈ TB := tseg_1 (List.mem_of_getElem? (i := 173) rfl) rfl
theorem w_se_yX1_find : (Cond.selects RX1 yX1_find yX1_find : Cond) ∈ TB := tseg_1 (List.mem_of_getElem? (i := 174) rfl) rfl
theorem w_cd_yX1_find : (Cond.code yX1_find cX1_find 9 (some .int) : Cond) ∈ TB := tseg_1 (List.mem_of_getElem? (i := 175) rfl) rfl
theorem w_ml_RX1_25 : (Cond.methodLink RX1 25 yX1_bucketOf : Cond) ∈ TB := tseg_1 (List.mem_of_getElem? (i := 176) rfl) rfl
theorem w_sta_yX1_bucketOf : (Cond.static yX1_bucketOf : Cond) ∈ TB := tseg_1 (List.mem_of_getElem? (i := 177) rfl) rfl
theorem w_cd_yX1_bucketOf : (Cond.code yX1_bucketOf cX1_bucketOf 6 (some .int) : Cond) ∈ TB := tseg_1 (List.mem_of_getElem? (i := 178) rfl) rfl
theorem w_ml_RX6_42 : (Cond.methodLink RX6 42 yX1_append : Cond) ∈ TB := tseg_1 (List.mem_of_getElem? (i := 179) rfl) rfl
theorem w_im_yX1_append : (Cond.instanceMethod yX1_append : Cond) ∈ TB := tseg_1 (List.mem_of_getElem? (i := 180) rfl) rfl
theorem w_se_yX1_append : (Cond.selects RX1 yX1_append yX1_append : Cond) ∈ TB := tseg_1 (List.mem_of_getElem? (i := 181) rfl) rfl
theorem w_cd_yX1_append : (Cond.code yX1_append cX1_append 8 (some .int) : Cond) ∈ TB := tseg_1 (List.mem_of_getElem? (i := 182) rfl) rfl
theorem w_ml_RX1_29 : (Cond.methodLink RX1 29 yJ7_copyOf_59c91 : Cond) ∈ TB := tseg_1 (List.mem_of_getElem? (i := 183) rfl) rfl
theorem w_sta_yJ7_copyOf_59c91 : (Cond.static yJ7_copyOf_59c91 : Cond) ∈ TB := tseg_1 (List.mem_of_getElem? (i := 184) rfl) rfl
theorem w_ini_RJ7 : (Cond.initialized RJ7 : Cond) ∈ TB := tseg_1 (List.mem_of_getElem? (i := 10) rfl) rfl
theorem w_cd_yJ7_copyOf_59c91 : (Cond.code yJ7_copyOf_59c91 cJ7_copyOf_59c91 3 (some (.array .int)) : Cond) ∈ TB := tseg_1 (List.mem_of_getElem? (i := 185) rfl) rfl
theorem w_ml_RJ7_316 : (Cond.methodLink RJ7 316 ⟨"[I", "clone", "()Ljava/lang/Object;"⟩ : Cond) ∈ TB := tseg_1 (List.mem_of_getElem? (i := 186) rfl) rfl
theorem w_sam_I : (Cond.sameMethod "[I" "java/lang/Object" "clone" "()Ljava/lang/Object;" : Cond) ∈ TB := tseg_1 (List.mem_of_getElem? (i := 187) rfl) rfl
theorem w_nat_java_lang_Object_clone_Ljava_lang_Object : (Cond.native ⟨"java/lang/Object", "clone", "()Ljava/lang/Object;"⟩ : Cond) ∈ TB := tseg_1 (List.mem_of_getElem? (i := 188) rfl) rfl
theorem w_im_java_lang_Object_clone_Ljava_lang_Object : (Cond.instanceMethod ⟨"java/lang/Object", "clone", "()Ljava/lang/Object;"⟩ : Cond) ∈ TB := tseg_1 (List.mem_of_getElem? (i := 189) rfl) rfl
theorem w_se_I_clone_Ljava_lang_Object : (Cond.selects "[I" ⟨"[I", "clone", "()Ljava/lang/Object;"⟩ ⟨"java/lang/Object", "clone", "()Ljava/lang/Object;"⟩ : Cond) ∈ TB := tseg_1 (List.mem_of_getElem? (i := 190) rfl) rfl
theorem w_cl_RJ7_317 : (Cond.classLink RJ7 317 "[I" : Cond) ∈ TB := tseg_1 (List.mem_of_getElem? (i := 192) rfl) rfl
theorem w_ml_RJ7_304 : (Cond.methodLink RJ7 304 Lib.Math.min.name : Cond) ∈ TB := tseg_1 (List.mem_of_getElem? (i := 193) rfl) rfl
theorem w_sta_Lib_Math_min_name : (Cond.static Lib.Math.min.name : Cond) ∈ TB := tseg_1 (List.mem_of_getElem? (i := 194) rfl) rfl
theorem w_ini_java_lang_Math : (Cond.initialized "java/lang/Math" : Cond) ∈ TB := tseg_1 (List.mem_of_getElem? (i := 11) rfl) rfl
theorem w_cd_Lib_Math_min_name : (Cond.code Lib.Math.min.name Lib.Math.min.code 2 (some .int) : Cond) ∈ TB := tseg_1 (List.mem_of_getElem? (i := 195) rfl) rfl
theorem w_ml_RJ7_150 : (Cond.methodLink RJ7 150 arraycopyName : Cond) ∈ TB := tseg_1 (List.mem_of_getElem? (i := 196) rfl) rfl
theorem w_nat_arraycopyName : (Cond.native arraycopyName : Cond) ∈ TB := tseg_1 (List.mem_of_getElem? (i := 198) rfl) rfl
theorem w_sta_arraycopyName : (Cond.static arraycopyName : Cond) ∈ TB := tseg_1 (List.mem_of_getElem? (i := 197) rfl) rfl
theorem w_ini_java_lang_System : (Cond.initialized "java/lang/System" : Cond) ∈ TB := tseg_1 (List.mem_of_getElem? (i := 12) rfl) rfl
theorem w_ml_RX6_45 : (Cond.methodLink RX6 45 yX5_add : Cond) ∈ TB := tseg_1 (List.mem_of_getElem? (i := 199) rfl) rfl
theorem w_im_yX5_add : (Cond.instanceMethod yX5_add : Cond) ∈ TB := tseg_1 (List.mem_of_getElem? (i := 200) rfl) rfl
theorem w_se_yX5_add : (Cond.selects RX5 yX5_add yX5_add : Cond) ∈ TB := tseg_1 (List.mem_of_getElem? (i := 201) rfl) rfl
theorem w_cd_yX5_add : (Cond.code yX5_add cX5_add 3 none : Cond) ∈ TB := tseg_1 (List.mem_of_getElem? (i := 202) rfl) rfl
theorem w_ml_RX5_19 : (Cond.methodLink RX5 19 Lib.Math.max.name : Cond) ∈ TB := tseg_1 (List.mem_of_getElem? (i := 207) rfl) rfl
theorem w_sta_Lib_Math_max_name : (Cond.static Lib.Math.max.name : Cond) ∈ TB := tseg_1 (List.mem_of_getElem? (i := 208) rfl) rfl
theorem w_cd_Lib_Math_max_name : (Cond.code Lib.Math.max.name Lib.Math.max.code 2 (some .int) : Cond) ∈ TB := tseg_1 (List.mem_of_getElem? (i := 209) rfl) rfl
theorem w_ml_RX5_31 : (Cond.methodLink RX5 31 yX5_isInside : Cond) ∈ TB := tseg_1 (List.mem_of_getElem? (i := 203) rfl) rfl
theorem w_im_yX5_isInside : (Cond.instanceMethod yX5_isInside : Cond) ∈ TB := tseg_1 (List.mem_of_getElem? (i := 205) rfl) rfl
theorem w_se_yX5_isInside : (Cond.selects RX5 yX5_isInside yX5_isInside : Cond) ∈ TB := tprv_1 (q := (yX5_isInside, 2)) (List.mem_of_getElem? (i := 0) rfl)
theorem w_cd_yX5_isInside : (Cond.code yX5_isInside cX5_isInside 3 (some .boolean) : Cond) ∈ TB := tseg_1 (List.mem_of_getElem? (i := 206) rfl) rfl
theorem w_ml_RX6_34 : (Cond.methodLink RX6 34 yX1_get : Cond) ∈ TB := tseg_1 (List.mem_of_getElem? (i := 210) rfl) rfl
theorem w_im_yX1_get : (Cond.instanceMethod yX1_get : Cond) ∈ TB := tseg_1 (List.mem_of_getElem? (i := 211) rfl) rfl
theorem w_se_yX1_get : (Cond.selects RX1 yX1_get yX1_get : Cond) ∈ TB := tseg_1 (List.mem_of_getElem? (i := 212) rfl) rfl
theorem w_cd_yX1_get : (Cond.code yX1_get cX1_get 4 (some .int) : Cond) ∈ TB := tseg_1 (List.mem_of_getElem? (i := 213) rfl) rfl
theorem w_ml_RL_17 : (Cond.methodLink RL 17 yX8_atom : Cond) ∈ TB := tseg_4 (List.mem_of_getElem? (i := 2) rfl) rfl
theorem w_im_yX8_atom : (Cond.instanceMethod yX8_atom : Cond) ∈ TB := tseg_4 (List.mem_of_getElem? (i := 3) rfl) rfl
theorem w_se_yX8_atom : (Cond.selects RX8 yX8_atom yX8_atom : Cond) ∈ TB := tseg_4 (List.mem_of_getElem? (i := 4) rfl) rfl
theorem w_cd_yX8_atom : (Cond.code yX8_atom cX8_atom 2 (some .int) : Cond) ∈ TB := tseg_4 (List.mem_of_getElem? (i := 5) rfl) rfl
theorem w_ml_RX8_96 : (Cond.methodLink RX8 96 yX8_make : Cond) ∈ TB := tseg_4 (List.mem_of_getElem? (i := 6) rfl) rfl
theorem w_im_yX8_make : (Cond.instanceMethod yX8_make : Cond) ∈ TB := tseg_4 (List.mem_of_getElem? (i := 8) rfl) rfl
theorem w_se_yX8_make : (Cond.selects RX8 yX8_make yX8_make : Cond) ∈ TB := tprv_3 (q := (yX8_make, 31)) (List.mem_of_getElem? (i := 2) rfl)
theorem w_cd_yX8_make : (Cond.code yX8_make cX8_make 5 (some .int) : Cond) ∈ TB := tseg_4 (List.mem_of_getElem? (i := 9) rfl) rfl
theorem w_fl_RX8_88 : (Cond.fieldLink RX8 88 "ProofSeekerModel" "count" "I" : Cond) ∈ TB := tseg_3 (List.mem_of_getElem? (i := 149) rfl) rfl
theorem w_ml_RX8_92 : (Cond.methodLink RX8 92 yX8_find : Cond) ∈ TB := tseg_4 (List.mem_of_getElem? (i := 10) rfl) rfl
theorem w_im_yX8_find : (Cond.instanceMethod yX8_find : Cond) ∈ TB := tseg_4 (List.mem_of_getElem? (i := 12) rfl) rfl
theorem w_se_yX8_find : (Cond.selects RX8 yX8_find yX8_find : Cond) ∈ TB := tprv_3 (q := (yX8_find, 31)) (List.mem_of_getElem? (i := 3) rfl)
theorem w_cd_yX8_find : (Cond.code yX8_find cX8_find 5 (some .int) : Cond) ∈ TB := tseg_4 (List.mem_of_getElem? (i := 13) rfl) rfl
theorem w_ml_RL_18 : (Cond.methodLink RL 18 yX7_falsehood : Cond) ∈ TB := tseg_1 (List.mem_of_getElem? (i := 214) rfl) rfl
theorem w_im_yX7_falsehood : (Cond.instanceMethod yX7_falsehood : Cond) ∈ TB := tseg_1 (List.mem_of_getElem? (i := 215) rfl) rfl
theorem w_se_yX7_falsehood : (Cond.selects RX7 yX7_falsehood yX7_falsehood : Cond) ∈ TB := tseg_1 (List.mem_of_getElem? (i := 216) rfl) rfl
theorem w_cd_yX7_falsehood : (Cond.code yX7_falsehood cX7_falsehood 1 (some .int) : Cond) ∈ TB := tseg_1 (List.mem_of_getElem? (i := 217) rfl) rfl
theorem w_ml_RL_22 : (Cond.methodLink RL 22 yX8_falsehood : Cond) ∈ TB := tseg_4 (List.mem_of_getElem? (i := 14) rfl) rfl
theorem w_im_yX8_falsehood : (Cond.instanceMethod yX8_falsehood : Cond) ∈ TB := tseg_4 (List.mem_of_getElem? (i := 15) rfl) rfl
theorem w_se_yX8_falsehood : (Cond.selects RX8 yX8_falsehood yX8_falsehood : Cond) ∈ TB := tseg_4 (List.mem_of_getElem? (i := 16) rfl) rfl
theorem w_cd_yX8_falsehood : (Cond.code yX8_falsehood cX8_falsehood 1 (some .int) : Cond) ∈ TB := tseg_4 (List.mem_of_getElem? (i := 17) rfl) rfl
theorem w_ml_RL_23 : (Cond.methodLink RL 23 yX7_join : Cond) ∈ TB := tseg_1 (List.mem_of_getElem? (i := 218) rfl) rfl
theorem w_im_yX7_join : (Cond.instanceMethod yX7_join : Cond) ∈ TB := tseg_1 (List.mem_of_getElem? (i := 219) rfl) rfl
theorem w_se_yX7_join : (Cond.selects RX7 yX7_join yX7_join : Cond) ∈ TB := tseg_1 (List.mem_of_getElem? (i := 220) rfl) rfl
theorem w_cd_yX7_join : (Cond.code yX7_join cX7_join 5 (some .int) : Cond) ∈ TB := tseg_1 (List.mem_of_getElem? (i := 221) rfl) rfl
theorem w_ml_RX7_50 : (Cond.methodLink RX7 50 yX6_holds : Cond) ∈ TB := tseg_1 (List.mem_of_getElem? (i := 222) rfl) rfl
theorem w_im_yX6_holds : (Cond.instanceMethod yX6_holds : Cond) ∈ TB := tseg_1 (List.mem_of_getElem? (i := 223) rfl) rfl
theorem w_se_yX6_holds : (Cond.selects RX6 yX6_holds yX6_holds : Cond) ∈ TB := tseg_1 (List.mem_of_getElem? (i := 224) rfl) rfl
theorem w_cd_yX6_holds : (Cond.code yX6_holds cX6_holds 2 (some .boolean) : Cond) ∈ TB := tseg_1 (List.mem_of_getElem? (i := 225) rfl) rfl
theorem w_ml_RX6_30 : (Cond.methodLink RX6 30 yX1_size : Cond) ∈ TB := tseg_1 (List.mem_of_getElem? (i := 226) rfl) rfl
theorem w_im_yX1_size : (Cond.instanceMethod yX1_size : Cond) ∈ TB := tseg_1 (List.mem_of_getElem? (i := 227) rfl) rfl
theorem w_se_yX1_size : (Cond.selects RX1 yX1_size yX1_size : Cond) ∈ TB := tseg_1 (List.mem_of_getElem? (i := 228) rfl) rfl
theorem w_cd_yX1_size : (Cond.code yX1_size cX1_size 1 (some .int) : Cond) ∈ TB := tseg_1 (List.mem_of_getElem? (i := 229) rfl) rfl
theorem w_ml_RL_27 : (Cond.methodLink RL 27 yX8_join : Cond) ∈ TB := tseg_4 (List.mem_of_getElem? (i := 18) rfl) rfl
theorem w_im_yX8_join : (Cond.instanceMethod yX8_join : Cond) ∈ TB := tseg_4 (List.mem_of_getElem? (i := 19) rfl) rfl
theorem w_se_yX8_join : (Cond.selects RX8 yX8_join yX8_join : Cond) ∈ TB := tseg_4 (List.mem_of_getElem? (i := 20) rfl) rfl
theorem w_cd_yX8_join : (Cond.code yX8_join cX8_join 4 (some .int) : Cond) ∈ TB := tseg_4 (List.mem_of_getElem? (i := 21) rfl) rfl
theorem w_ml_RX8_99 : (Cond.methodLink RX8 99 yX8_isStatement : Cond) ∈ TB := tseg_4 (List.mem_of_getElem? (i := 22) rfl) rfl
theorem w_im_yX8_isStatement : (Cond.instanceMethod yX8_isStatement : Cond) ∈ TB := tseg_4 (List.mem_of_getElem? (i := 24) rfl) rfl
theorem w_se_yX8_isStatement : (Cond.selects RX8 yX8_isStatement yX8_isStatement : Cond) ∈ TB := tprv_3 (q := (yX8_isStatement, 31)) (List.mem_of_getElem? (i := 4) rfl)
theorem w_cd_yX8_isStatement : (Cond.code yX8_isStatement cX8_isStatement 2 (some .boolean) : Cond) ∈ TB := tseg_4 (List.mem_of_getElem? (i := 25) rfl) rfl
theorem w_ml_RL_28 : (Cond.methodLink RL 28 yX7_told : Cond) ∈ TB := tseg_1 (List.mem_of_getElem? (i := 230) rfl) rfl
theorem w_im_yX7_told : (Cond.instanceMethod yX7_told : Cond) ∈ TB := tseg_1 (List.mem_of_getElem? (i := 231) rfl) rfl
theorem w_se_yX7_told : (Cond.selects RX7 yX7_told yX7_told : Cond) ∈ TB := tseg_1 (List.mem_of_getElem? (i := 232) rfl) rfl
theorem w_cd_yX7_told : (Cond.code yX7_told cX7_told 4 (some .int) : Cond) ∈ TB := tseg_1 (List.mem_of_getElem? (i := 233) rfl) rfl
theorem w_ml_RX7_54 : (Cond.methodLink RX7 54 yX6_read : Cond) ∈ TB := tseg_1 (List.mem_of_getElem? (i := 234) rfl) rfl
theorem w_im_yX6_read : (Cond.instanceMethod yX6_read : Cond) ∈ TB := tseg_1 (List.mem_of_getElem? (i := 235) rfl) rfl
theorem w_se_yX6_read : (Cond.selects RX6 yX6_read yX6_read : Cond) ∈ TB := tseg_1 (List.mem_of_getElem? (i := 236) rfl) rfl
theorem w_cd_yX6_read : (Cond.code yX6_read cX6_read 3 (some .int) : Cond) ∈ TB := tseg_1 (List.mem_of_getElem? (i := 237) rfl) rfl
theorem w_ml_RL_32 : (Cond.methodLink RL 32 yX8_told : Cond) ∈ TB := tseg_4 (List.mem_of_getElem? (i := 26) rfl) rfl
theorem w_im_yX8_told : (Cond.instanceMethod yX8_told : Cond) ∈ TB := tseg_4 (List.mem_of_getElem? (i := 27) rfl) rfl
theorem w_se_yX8_told : (Cond.selects RX8 yX8_told yX8_told : Cond) ∈ TB := tseg_4 (List.mem_of_getElem? (i := 28) rfl) rfl
theorem w_cd_yX8_told : (Cond.code yX8_told cX8_told 3 (some .int) : Cond) ∈ TB := tseg_4 (List.mem_of_getElem? (i := 29) rfl) rfl
theorem w_ml_RL_33 : (Cond.methodLink RL 33 yX7_statements : Cond) ∈ TB := tseg_1 (List.mem_of_getElem? (i := 238) rfl) rfl
theorem w_im_yX7_statements : (Cond.instanceMethod yX7_statements : Cond) ∈ TB := tseg_1 (List.mem_of_getElem? (i := 239) rfl) rfl
theorem w_se_yX7_statements : (Cond.selects RX7 yX7_statements yX7_statements : Cond) ∈ TB := tseg_2 (List.mem_of_getElem? (i := 0) rfl) rfl
theorem w_cd_yX7_statements : (Cond.code yX7_statements cX7_statements 1 (some .int) : Cond) ∈ TB := tseg_2 (List.mem_of_getElem? (i := 1) rfl) rfl
theorem w_ml_RX7_58 : (Cond.methodLink RX7 58 yX6_size : Cond) ∈ TB := tseg_2 (List.mem_of_getElem? (i := 2) rfl) rfl
theorem w_im_yX6_size : (Cond.instanceMethod yX6_size : Cond) ∈ TB := tseg_2 (List.mem_of_getElem? (i := 3) rfl) rfl
theorem w_se_yX6_size : (Cond.selects RX6 yX6_size yX6_size : Cond) ∈ TB := tseg_2 (List.mem_of_getElem? (i := 4) rfl) rfl
theorem w_cd_yX6_size : (Cond.code yX6_size cX6_size 1 (some .int) : Cond) ∈ TB := tseg_2 (List.mem_of_getElem? (i := 5) rfl) rfl
theorem w_ml_RL_36 : (Cond.methodLink RL 36 yX8_statements : Cond) ∈ TB := tseg_4 (List.mem_of_getElem? (i := 30) rfl) rfl
theorem w_im_yX8_statements : (Cond.instanceMethod yX8_statements : Cond) ∈ TB := tseg_4 (List.mem_of_getElem? (i := 31) rfl) rfl
theorem w_se_yX8_statements : (Cond.selects RX8 yX8_statements yX8_statements : Cond) ∈ TB := tseg_4 (List.mem_of_getElem? (i := 32) rfl) rfl
theorem w_cd_yX8_statements : (Cond.code yX8_statements cX8_statements 1 (some .int) : Cond) ∈ TB := tseg_4 (List.mem_of_getElem? (i := 33) rfl) rfl
theorem w_ml_RL_37 : (Cond.methodLink RL 37 yX7_nodes : Cond) ∈ TB := tseg_2 (List.mem_of_getElem? (i := 6) rfl) rfl
theorem w_im_yX7_nodes : (Cond.instanceMethod yX7_nodes : Cond) ∈ TB := tseg_2 (List.mem_of_getElem? (i := 7) rfl) rfl
theorem w_se_yX7_nodes : (Cond.selects RX7 yX7_nodes yX7_nodes : Cond) ∈ TB := tseg_2 (List.mem_of_getElem? (i := 8) rfl) rfl
theorem w_cd_yX7_nodes : (Cond.code yX7_nodes cX7_nodes 1 (some .int) : Cond) ∈ TB := tseg_2 (List.mem_of_getElem? (i := 9) rfl) rfl
theorem w_ml_RX7_62 : (Cond.methodLink RX7 62 yX2_size : Cond) ∈ TB := tseg_2 (List.mem_of_getElem? (i := 10) rfl) rfl
theorem w_im_yX2_size : (Cond.instanceMethod yX2_size : Cond) ∈ TB := tseg_2 (List.mem_of_getElem? (i := 11) rfl) rfl
theorem w_se_yX2_size : (Cond.selects RX2 yX2_size yX2_size : Cond) ∈ TB := tseg_2 (List.mem_of_getElem? (i := 12) rfl) rfl
theorem w_cd_yX2_size : (Cond.code yX2_size cX2_size 1 (some .int) : Cond) ∈ TB := tseg_2 (List.mem_of_getElem? (i := 13) rfl) rfl
theorem w_ml_RX2_42 : (Cond.methodLink RX2 42 yX1_size : Cond) ∈ TB := tseg_2 (List.mem_of_getElem? (i := 14) rfl) rfl
theorem w_ml_RL_40 : (Cond.methodLink RL 40 yX8_nodes : Cond) ∈ TB := tseg_4 (List.mem_of_getElem? (i := 34) rfl) rfl
theorem w_im_yX8_nodes : (Cond.instanceMethod yX8_nodes : Cond) ∈ TB := tseg_4 (List.mem_of_getElem? (i := 35) rfl) rfl
theorem w_se_yX8_nodes : (Cond.selects RX8 yX8_nodes yX8_nodes : Cond) ∈ TB := tseg_4 (List.mem_of_getElem? (i := 36) rfl) rfl
theorem w_cd_yX8_nodes : (Cond.code yX8_nodes cX8_nodes 1 (some .int) : Cond) ∈ TB := tseg_4 (List.mem_of_getElem? (i := 37) rfl) rfl
theorem w_fl_RX8_103 : (Cond.fieldLink RX8 103 "ProofSeekerModel" "nodes" "I" : Cond) ∈ TB := tseg_3 (List.mem_of_getElem? (i := 155) rfl) rfl
theorem w_ml_RL_41 : (Cond.methodLink RL 41 yX7_prove : Cond) ∈ TB := tseg_2 (List.mem_of_getElem? (i := 15) rfl) rfl
theorem w_im_yX7_prove : (Cond.instanceMethod yX7_prove : Cond) ∈ TB := tseg_2 (List.mem_of_getElem? (i := 16) rfl) rfl
theorem w_se_yX7_prove : (Cond.selects RX7 yX7_prove yX7_prove : Cond) ∈ TB := tseg_2 (List.mem_of_getElem? (i := 17) rfl) rfl
theorem w_cd_yX7_prove : (Cond.code yX7_prove cX7_prove 4 (some .int) : Cond) ∈ TB := tseg_2 (List.mem_of_getElem? (i := 18) rfl) rfl
theorem w_ml_RX7_63 : (Cond.methodLink RX7 63 yX4_run : Cond) ∈ TB := tseg_2 (List.mem_of_getElem? (i := 19) rfl) rfl
theorem w_im_yX4_run : (Cond.instanceMethod yX4_run : Cond) ∈ TB := tseg_2 (List.mem_of_getElem? (i := 20) rfl) rfl
theorem w_se_yX4_run : (Cond.selects RX4 yX4_run yX4_run : Cond) ∈ TB := tseg_2 (List.mem_of_getElem? (i := 21) rfl) rfl
theorem w_cd_yX4_run : (Cond.code yX4_run cX4_run 4 (some .int) : Cond) ∈ TB := tseg_2 (List.mem_of_getElem? (i := 22) rfl) rfl
theorem w_ml_RX4_35 : (Cond.methodLink RX4 35 yX5_clear : Cond) ∈ TB := tseg_2 (List.mem_of_getElem? (i := 23) rfl) rfl
theorem w_im_yX5_clear : (Cond.instanceMethod yX5_clear : Cond) ∈ TB := tseg_2 (List.mem_of_getElem? (i := 24) rfl) rfl
theorem w_se_yX5_clear : (Cond.selects RX5 yX5_clear yX5_clear : Cond) ∈ TB := tseg_2 (List.mem_of_getElem? (i := 25) rfl) rfl
theorem w_cd_yX5_clear : (Cond.code yX5_clear cX5_clear 2 none : Cond) ∈ TB := tseg_2 (List.mem_of_getElem? (i := 26) rfl) rfl
theorem w_ml_RX5_37 : (Cond.methodLink RX5 37 yX5_isRow : Cond) ∈ TB := tseg_2 (List.mem_of_getElem? (i := 27) rfl) rfl
theorem w_im_yX5_isRow : (Cond.instanceMethod yX5_isRow : Cond) ∈ TB := tseg_2 (List.mem_of_getElem? (i := 29) rfl) rfl
theorem w_se_yX5_isRow : (Cond.selects RX5 yX5_isRow yX5_isRow : Cond) ∈ TB := tprv_1 (q := (yX5_isRow, 2)) (List.mem_of_getElem? (i := 1) rfl)
theorem w_cd_yX5_isRow : (Cond.code yX5_isRow cX5_isRow 2 (some .boolean) : Cond) ∈ TB := tseg_2 (List.mem_of_getElem? (i := 30) rfl) rfl
theorem w_ml_RX5_41 : (Cond.methodLink RX5 41 yJ7_fill_bad5a : Cond) ∈ TB := tseg_2 (List.mem_of_getElem? (i := 31) rfl) rfl
theorem w_sta_yJ7_fill_bad5a : (Cond.static yJ7_fill_bad5a : Cond) ∈ TB := tseg_2 (List.mem_of_getElem? (i := 32) rfl) rfl
theorem w_cd_yJ7_fill_bad5a : (Cond.code yJ7_fill_bad5a cJ7_fill_bad5a 6 none : Cond) ∈ TB := tseg_2 (List.mem_of_getElem? (i := 33) rfl) rfl
theorem w_ml_RJ7_13 : (Cond.methodLink RJ7 13 yJ7_rangeCheck_23922 : Cond) ∈ TB := tseg_2 (List.mem_of_getElem? (i := 34) rfl) rfl
theorem w_sta_yJ7_rangeCheck_23922 : (Cond.static yJ7_rangeCheck_23922 : Cond) ∈ TB := tseg_2 (List.mem_of_getElem? (i := 35) rfl) rfl
theorem w_cd_yJ7_rangeCheck_23922 : (Cond.code yJ7_rangeCheck_23922 cJ7_rangeCheck_23922 3 none : Cond) ∈ TB := tseg_2 (List.mem_of_getElem? (i := 36) rfl) rfl
theorem w_ml_RX4_38 : (Cond.methodLink RX4 38 yX4_look : Cond) ∈ TB := tseg_2 (List.mem_of_getElem? (i := 37) rfl) rfl
theorem w_im_yX4_look : (Cond.instanceMethod yX4_look : Cond) ∈ TB := tseg_2 (List.mem_of_getElem? (i := 39) rfl) rfl
theorem w_se_yX4_look : (Cond.selects RX4 yX4_look yX4_look : Cond) ∈ TB := tprv_1 (q := (yX4_look, 5)) (List.mem_of_getElem? (i := 2) rfl)
theorem w_cd_yX4_look : (Cond.code yX4_look cX4_look 7 (some .int) : Cond) ∈ TB := tseg_2 (List.mem_of_getElem? (i := 40) rfl) rfl
theorem w_ml_RX4_42 : (Cond.methodLink RX4 42 yX0_begin : Cond) ∈ TB := tseg_2 (List.mem_of_getElem? (i := 41) rfl) rfl
theorem w_im_yX0_begin : (Cond.instanceMethod yX0_begin : Cond) ∈ TB := tseg_2 (List.mem_of_getElem? (i := 42) rfl) rfl
theorem w_se_yX0_begin : (Cond.selects RX0 yX0_begin yX0_begin : Cond) ∈ TB := tseg_2 (List.mem_of_getElem? (i := 43) rfl) rfl
theorem w_cd_yX0_begin : (Cond.code yX0_begin cX0_begin 3 none : Cond) ∈ TB := tseg_2 (List.mem_of_getElem? (i := 44) rfl) rfl
theorem w_ml_RX0_22 : (Cond.methodLink RX0 22 yX0_write : Cond) ∈ TB := tseg_2 (List.mem_of_getElem? (i := 45) rfl) rfl
theorem w_im_yX0_write : (Cond.instanceMethod yX0_write : Cond) ∈ TB := tseg_2 (List.mem_of_getElem? (i := 47) rfl) rfl
theorem w_se_yX0_write : (Cond.selects RX0 yX0_write yX0_write : Cond) ∈ TB := tprv_1 (q := (yX0_write, 1)) (List.mem_of_getElem? (i := 3) rfl)
theorem w_cd_yX0_write : (Cond.code yX0_write cX0_write 5 none : Cond) ∈ TB := tseg_2 (List.mem_of_getElem? (i := 48) rfl) rfl
theorem w_ml_RX0_26 : (Cond.methodLink RX0 26 Lib.Math.max.name : Cond) ∈ TB := tseg_2 (List.mem_of_getElem? (i := 49) rfl) rfl
theorem w_ml_RX0_31 : (Cond.methodLink RX0 31 yJ7_copyOf_59c91 : Cond) ∈ TB := tseg_2 (List.mem_of_getElem? (i := 50) rfl) rfl
theorem w_ml_RX4_48 : (Cond.methodLink RX4 48 yX4_firstWay : Cond) ∈ TB := tseg_2 (List.mem_of_getElem? (i := 51) rfl) rfl
theorem w_im_yX4_firstWay : (Cond.instanceMethod yX4_firstWay : Cond) ∈ TB := tseg_2 (List.mem_of_getElem? (i := 53) rfl) rfl
theorem w_se_yX4_firstWay : (Cond.selects RX4 yX4_firstWay yX4_firstWay : Cond) ∈ TB := tprv_1 (q := (yX4_firstWay, 5)) (List.mem_of_getElem? (i := 4) rfl)
theorem w_cd_yX4_firstWay : (Cond.code yX4_firstWay cX4_firstWay 4 (some .int) : Cond) ∈ TB := tseg_2 (List.mem_of_getElem? (i := 54) rfl) rfl
theorem w_ml_RX4_96 : (Cond.methodLink RX4 96 yX4_wayByGoal : Cond) ∈ TB := tseg_2 (List.mem_of_getElem? (i := 55) rfl) rfl
theorem w_im_yX4_wayByGoal : (Cond.instanceMethod yX4_wayByGoal : Cond) ∈ TB := tseg_2 (List.mem_of_getElem? (i := 57) rfl) rfl
theorem w_se_yX4_wayByGoal : (Cond.selects RX4 yX4_wayByGoal yX4_wayByGoal : Cond) ∈ TB := tprv_1 (q := (yX4_wayByGoal, 5)) (List.mem_of_getElem? (i := 5) rfl)
theorem w_cd_yX4_wayByGoal : (Cond.code yX4_wayByGoal cX4_wayByGoal 4 (some .int) : Cond) ∈ TB := tseg_2 (List.mem_of_getElem? (i := 58) rfl) rfl
theorem w_ml_RX4_113 : (Cond.methodLink RX4 113 yX5_has : Cond) ∈ TB := tseg_2 (List.mem_of_getElem? (i := 59) rfl) rfl
theorem w_im_yX5_has : (Cond.instanceMethod yX5_has : Cond) ∈ TB := tseg_2 (List.mem_of_getElem? (i := 60) rfl) rfl
theorem w_se_yX5_has : (Cond.selects RX5 yX5_has yX5_has : Cond) ∈ TB := tseg_2 (List.mem_of_getElem? (i := 61) rfl) rfl
theorem w_cd_yX5_has : (Cond.code yX5_has cX5_has 3 (some .boolean) : Cond) ∈ TB := tseg_2 (List.mem_of_getElem? (i := 62) rfl) rfl
theorem w_ml_RX4_107 : (Cond.methodLink RX4 107 yX0_way : Cond) ∈ TB := tseg_2 (List.mem_of_getElem? (i := 63) rfl) rfl
theorem w_sta_yX0_way : (Cond.static yX0_way : Cond) ∈ TB := tseg_2 (List.mem_of_getElem? (i := 64) rfl) rfl
theorem w_cd_yX0_way : (Cond.code yX0_way cX0_way 2 (some .int) : Cond) ∈ TB := tseg_2 (List.mem_of_getElem? (i := 65) rfl) rfl
theorem w_ml_RX4_117 : (Cond.methodLink RX4 117 yX4_leastOfKind : Cond) ∈ TB := tseg_2 (List.mem_of_getElem? (i := 66) rfl) rfl
theorem w_im_yX4_leastOfKind : (Cond.instanceMethod yX4_leastOfKind : Cond) ∈ TB := tseg_2 (List.mem_of_getElem? (i := 68) rfl) rfl
theorem w_se_yX4_leastOfKind : (Cond.selects RX4 yX4_leastOfKind yX4_leastOfKind : Cond) ∈ TB := tprv_1 (q := (yX4_leastOfKind, 5)) (List.mem_of_getElem? (i := 6) rfl)
theorem w_cd_yX4_leastOfKind : (Cond.code yX4_leastOfKind cX4_leastOfKind 4 (some .int) : Cond) ∈ TB := tseg_2 (List.mem_of_getElem? (i := 69) rfl) rfl
theorem w_ml_RX4_123 : (Cond.methodLink RX4 123 yX6_byKind : Cond) ∈ TB := tseg_2 (List.mem_of_getElem? (i := 70) rfl) rfl
theorem w_im_yX6_byKind : (Cond.instanceMethod yX6_byKind : Cond) ∈ TB := tseg_2 (List.mem_of_getElem? (i := 71) rfl) rfl
theorem w_se_yX6_byKind : (Cond.selects RX6 yX6_byKind yX6_byKind : Cond) ∈ TB := tseg_2 (List.mem_of_getElem? (i := 72) rfl) rfl
theorem w_cd_yX6_byKind : (Cond.code yX6_byKind cX6_byKind 1 (some (.object "ProofSeeker$Sets")) : Cond) ∈ TB := tseg_2 (List.mem_of_getElem? (i := 73) rfl) rfl
theorem w_ml_RX4_127 : (Cond.methodLink RX4 127 yX5_leastShared : Cond) ∈ TB := tseg_2 (List.mem_of_getElem? (i := 74) rfl) rfl
theorem w_im_yX5_leastShared : (Cond.instanceMethod yX5_leastShared : Cond) ∈ TB := tseg_2 (List.mem_of_getElem? (i := 75) rfl) rfl
theorem w_se_yX5_leastShared : (Cond.selects RX5 yX5_leastShared yX5_leastShared : Cond) ∈ TB := tseg_2 (List.mem_of_getElem? (i := 76) rfl) rfl
theorem w_cd_yX5_leastShared : (Cond.code yX5_leastShared cX5_leastShared 10 (some .int) : Cond) ∈ TB := tseg_2 (List.mem_of_getElem? (i := 77) rfl) rfl
theorem w_ml_RX5_57 : (Cond.methodLink RX5 57 Lib.Math.min.name : Cond) ∈ TB := tseg_2 (List.mem_of_getElem? (i := 78) rfl) rfl
theorem w_kl_RX5_35 : (Cond.constantLong RX5 35 (-1) : Cond) ∈ TB := tseg_2 (List.mem_of_getElem? (i := 79) rfl) rfl
theorem w_ml_RX5_51 : (Cond.methodLink RX5 51 yJ13_bitCount_95d88 : Cond) ∈ TB := tseg_2 (List.mem_of_getElem? (i := 80) rfl) rfl
theorem w_sta_yJ13_bitCount_95d88 : (Cond.static yJ13_bitCount_95d88 : Cond) ∈ TB := tseg_2 (List.mem_of_getElem? (i := 81) rfl) rfl
theorem w_ini_RJ13 : (Cond.initialized RJ13 : Cond) ∈ TB := tseg_1 (List.mem_of_getElem? (i := 13) rfl) rfl
theorem w_cd_yJ13_bitCount_95d88 : (Cond.code yJ13_bitCount_95d88 cJ13_bitCount_95d88 2 (some .int) : Cond) ∈ TB := tseg_2 (List.mem_of_getElem? (i := 82) rfl) rfl
theorem w_kl_RJ13_314 : (Cond.constantLong RJ13 314 (6148914691236517205) : Cond) ∈ TB := tseg_2 (List.mem_of_getElem? (i := 83) rfl) rfl
theorem w_kl_RJ13_316 : (Cond.constantLong RJ13 316 (3689348814741910323) : Cond) ∈ TB := tseg_2 (List.mem_of_getElem? (i := 84) rfl) rfl
theorem w_kl_RJ13_318 : (Cond.constantLong RJ13 318 (1085102592571150095) : Cond) ∈ TB := tseg_2 (List.mem_of_getElem? (i := 85) rfl) rfl
theorem w_ml_RX4_102 : (Cond.methodLink RX4 102 yX6_sortOf : Cond) ∈ TB := tseg_2 (List.mem_of_getElem? (i := 86) rfl) rfl
theorem w_im_yX6_sortOf : (Cond.instanceMethod yX6_sortOf : Cond) ∈ TB := tseg_2 (List.mem_of_getElem? (i := 87) rfl) rfl
theorem w_se_yX6_sortOf : (Cond.selects RX6 yX6_sortOf yX6_sortOf : Cond) ∈ TB := tseg_2 (List.mem_of_getElem? (i := 88) rfl) rfl
theorem w_cd_yX6_sortOf : (Cond.code yX6_sortOf cX6_sortOf 2 (some .int) : Cond) ∈ TB := tseg_2 (List.mem_of_getElem? (i := 89) rfl) rfl
theorem w_ml_RX4_99 : (Cond.methodLink RX4 99 yX4_wayByGiven : Cond) ∈ TB := tseg_2 (List.mem_of_getElem? (i := 90) rfl) rfl
theorem w_im_yX4_wayByGiven : (Cond.instanceMethod yX4_wayByGiven : Cond) ∈ TB := tseg_2 (List.mem_of_getElem? (i := 92) rfl) rfl
theorem w_se_yX4_wayByGiven : (Cond.selects RX4 yX4_wayByGiven yX4_wayByGiven : Cond) ∈ TB := tprv_1 (q := (yX4_wayByGiven, 5)) (List.mem_of_getElem? (i := 7) rfl)
theorem w_cd_yX4_wayByGiven : (Cond.code yX4_wayByGiven cX4_wayByGiven 3 (some .int) : Cond) ∈ TB := tseg_2 (List.mem_of_getElem? (i := 93) rfl) rfl
theorem w_ml_RX4_120 : (Cond.methodLink RX4 120 yX4_leastFired : Cond) ∈ TB := tseg_2 (List.mem_of_getElem? (i := 94) rfl) rfl
theorem w_im_yX4_leastFired : (Cond.instanceMethod yX4_leastFired : Cond) ∈ TB := tseg_2 (List.mem_of_getElem? (i := 96) rfl) rfl
theorem w_se_yX4_leastFired : (Cond.selects RX4 yX4_leastFired yX4_leastFired : Cond) ∈ TB := tprv_1 (q := (yX4_leastFired, 5)) (List.mem_of_getElem? (i := 8) rfl)
theorem w_cd_yX4_leastFired : (Cond.code yX4_leastFired cX4_leastFired 5 (some .int) : Cond) ∈ TB := tseg_2 (List.mem_of_getElem? (i := 97) rfl) rfl
theorem w_ml_RX4_131 : (Cond.methodLink RX4 131 yX6_leftOf : Cond) ∈ TB := tseg_2 (List.mem_of_getElem? (i := 98) rfl) rfl
theorem w_im_yX6_leftOf : (Cond.instanceMethod yX6_leftOf : Cond) ∈ TB := tseg_2 (List.mem_of_getElem? (i := 99) rfl) rfl
theorem w_se_yX6_leftOf : (Cond.selects RX6 yX6_leftOf yX6_leftOf : Cond) ∈ TB := tseg_2 (List.mem_of_getElem? (i := 100) rfl) rfl
theorem w_cd_yX6_leftOf : (Cond.code yX6_leftOf cX6_leftOf 2 (some .int) : Cond) ∈ TB := tseg_2 (List.mem_of_getElem? (i := 101) rfl) rfl
theorem w_ml_RX4_110 : (Cond.methodLink RX4 110 yX4_nestedAbove : Cond) ∈ TB := tseg_2 (List.mem_of_getElem? (i := 102) rfl) rfl
theorem w_im_yX4_nestedAbove : (Cond.instanceMethod yX4_nestedAbove : Cond) ∈ TB := tseg_2 (List.mem_of_getElem? (i := 104) rfl) rfl
theorem w_se_yX4_nestedAbove : (Cond.selects RX4 yX4_nestedAbove yX4_nestedAbove : Cond) ∈ TB := tprv_1 (q := (yX4_nestedAbove, 5)) (List.mem_of_getElem? (i := 9) rfl)
theorem w_cd_yX4_nestedAbove : (Cond.code yX4_nestedAbove cX4_nestedAbove 4 (some .int) : Cond) ∈ TB := tseg_2 (List.mem_of_getElem? (i := 105) rfl) rfl
theorem w_ml_RX4_51 : (Cond.methodLink RX4 51 yX4_follow : Cond) ∈ TB := tseg_2 (List.mem_of_getElem? (i := 106) rfl) rfl
theorem w_im_yX4_follow : (Cond.instanceMethod yX4_follow : Cond) ∈ TB := tseg_2 (List.mem_of_getElem? (i := 108) rfl) rfl
theorem w_se_yX4_follow : (Cond.selects RX4 yX4_follow yX4_follow : Cond) ∈ TB := tprv_1 (q := (yX4_follow, 5)) (List.mem_of_getElem? (i := 10) rfl)
theorem w_ml_RX4_55 : (Cond.methodLink RX4 55 yX4_nextWay : Cond) ∈ TB := tseg_2 (List.mem_of_getElem? (i := 164) rfl) rfl
theorem w_im_yX4_nextWay : (Cond.instanceMethod yX4_nextWay : Cond) ∈ TB := tseg_2 (List.mem_of_getElem? (i := 166) rfl) rfl
theorem w_se_yX4_nextWay : (Cond.selects RX4 yX4_nextWay yX4_nextWay : Cond) ∈ TB := tprv_1 (q := (yX4_nextWay, 5)) (List.mem_of_getElem? (i := 15) rfl)
theorem w_cd_yX4_nextWay : (Cond.code yX4_nextWay cX4_nextWay 3 (some .int) : Cond) ∈ TB := tseg_2 (List.mem_of_getElem? (i := 167) rfl) rfl
theorem w_ml_RX4_65 : (Cond.methodLink RX4 65 yX0_ruleOf : Cond) ∈ TB := tseg_2 (List.mem_of_getElem? (i := 122) rfl) rfl
theorem w_sta_yX0_ruleOf : (Cond.static yX0_ruleOf : Cond) ∈ TB := tseg_2 (List.mem_of_getElem? (i := 123) rfl) rfl
theorem w_cd_yX0_ruleOf : (Cond.code yX0_ruleOf cX0_ruleOf 1 (some .int) : Cond) ∈ TB := tseg_2 (List.mem_of_getElem? (i := 124) rfl) rfl
theorem w_ml_RX4_68 : (Cond.methodLink RX4 68 yX0_takenBy : Cond) ∈ TB := tseg_2 (List.mem_of_getElem? (i := 125) rfl) rfl
theorem w_sta_yX0_takenBy : (Cond.static yX0_takenBy : Cond) ∈ TB := tseg_2 (List.mem_of_getElem? (i := 126) rfl) rfl
theorem w_cd_yX0_takenBy : (Cond.code yX0_takenBy cX0_takenBy 1 (some .int) : Cond) ∈ TB := tseg_2 (List.mem_of_getElem? (i := 127) rfl) rfl
theorem w_cd_yX4_follow : (Cond.code yX4_follow cX4_follow 10 (some .int) : Cond) ∈ TB := tseg_2 (List.mem_of_getElem? (i := 109) rfl) rfl
theorem w_ml_RX4_58 : (Cond.methodLink RX4 58 yX0_setWay : Cond) ∈ TB := tseg_2 (List.mem_of_getElem? (i := 110) rfl) rfl
theorem w_im_yX0_setWay : (Cond.instanceMethod yX0_setWay : Cond) ∈ TB := tseg_2 (List.mem_of_getElem? (i := 111) rfl) rfl
theorem w_se_yX0_setWay : (Cond.selects RX0 yX0_setWay yX0_setWay : Cond) ∈ TB := tseg_2 (List.mem_of_getElem? (i := 112) rfl) rfl
theorem w_cd_yX0_setWay : (Cond.code yX0_setWay cX0_setWay 3 none : Cond) ∈ TB := tseg_2 (List.mem_of_getElem? (i := 113) rfl) rfl
theorem w_ml_RX4_61 : (Cond.methodLink RX4 61 yX0_goalOf : Cond) ∈ TB := tseg_2 (List.mem_of_getElem? (i := 114) rfl) rfl
theorem w_im_yX0_goalOf : (Cond.instanceMethod yX0_goalOf : Cond) ∈ TB := tseg_2 (List.mem_of_getElem? (i := 115) rfl) rfl
theorem w_se_yX0_goalOf : (Cond.selects RX0 yX0_goalOf yX0_goalOf : Cond) ∈ TB := tseg_2 (List.mem_of_getElem? (i := 116) rfl) rfl
theorem w_cd_yX0_goalOf : (Cond.code yX0_goalOf cX0_goalOf 2 (some .int) : Cond) ∈ TB := tseg_2 (List.mem_of_getElem? (i := 117) rfl) rfl
theorem w_ml_RX0_18 : (Cond.methodLink RX0 18 yX0_read : Cond) ∈ TB := tseg_2 (List.mem_of_getElem? (i := 118) rfl) rfl
theorem w_im_yX0_read : (Cond.instanceMethod yX0_read : Cond) ∈ TB := tseg_2 (List.mem_of_getElem? (i := 120) rfl) rfl
theorem w_se_yX0_read : (Cond.selects RX0 yX0_read yX0_read : Cond) ∈ TB := tprv_1 (q := (yX0_read, 1)) (List.mem_of_getElem? (i := 11) rfl)
theorem w_cd_yX0_read : (Cond.code yX0_read cX0_read 4 (some .int) : Cond) ∈ TB := tseg_2 (List.mem_of_getElem? (i := 121) rfl) rfl
theorem w_ml_RX4_71 : (Cond.methodLink RX4 71 yX0_premisesOf : Cond) ∈ TB := tseg_2 (List.mem_of_getElem? (i := 128) rfl) rfl
theorem w_sta_yX0_premisesOf : (Cond.static yX0_premisesOf : Cond) ∈ TB := tseg_2 (List.mem_of_getElem? (i := 129) rfl) rfl
theorem w_cd_yX0_premisesOf : (Cond.code yX0_premisesOf cX0_premisesOf 1 (some .int) : Cond) ∈ TB := tseg_2 (List.mem_of_getElem? (i := 130) rfl) rfl
theorem w_fl_RX0_15 : (Cond.fieldLink RX0 15 "ProofSeeker$Derivation" "PREMISES" "[I" : Cond) ∈ TB := tseg_2 (List.mem_of_getElem? (i := 131) rfl) rfl
theorem w_ml_RX4_74 : (Cond.methodLink RX4 74 yX5_copy : Cond) ∈ TB := tseg_2 (List.mem_of_getElem? (i := 133) rfl) rfl
theorem w_im_yX5_copy : (Cond.instanceMethod yX5_copy : Cond) ∈ TB := tseg_2 (List.mem_of_getElem? (i := 134) rfl) rfl
theorem w_se_yX5_copy : (Cond.selects RX5 yX5_copy yX5_copy : Cond) ∈ TB := tseg_2 (List.mem_of_getElem? (i := 135) rfl) rfl
theorem w_cd_yX5_copy : (Cond.code yX5_copy cX5_copy 3 none : Cond) ∈ TB := tseg_2 (List.mem_of_getElem? (i := 136) rfl) rfl
theorem w_ml_RX5_45 : (Cond.methodLink RX5 45 arraycopyName : Cond) ∈ TB := tseg_2 (List.mem_of_getElem? (i := 137) rfl) rfl
theorem w_ml_RX4_77 : (Cond.methodLink RX4 77 yX5_remove : Cond) ∈ TB := tseg_2 (List.mem_of_getElem? (i := 138) rfl) rfl
theorem w_im_yX5_remove : (Cond.instanceMethod yX5_remove : Cond) ∈ TB := tseg_2 (List.mem_of_getElem? (i := 139) rfl) rfl
theorem w_se_yX5_remove : (Cond.selects RX5 yX5_remove yX5_remove : Cond) ∈ TB := tseg_2 (List.mem_of_getElem? (i := 140) rfl) rfl
theorem w_cd_yX5_remove : (Cond.code yX5_remove cX5_remove 3 none : Cond) ∈ TB := tseg_2 (List.mem_of_getElem? (i := 141) rfl) rfl
theorem w_ml_RX4_80 : (Cond.methodLink RX4 80 yX4_bringNew : Cond) ∈ TB := tseg_2 (List.mem_of_getElem? (i := 142) rfl) rfl
theorem w_im_yX4_bringNew : (Cond.instanceMethod yX4_bringNew : Cond) ∈ TB := tseg_2 (List.mem_of_getElem? (i := 144) rfl) rfl
theorem w_se_yX4_bringNew : (Cond.selects RX4 yX4_bringNew yX4_bringNew : Cond) ∈ TB := tprv_1 (q := (yX4_bringNew, 5)) (List.mem_of_getElem? (i := 12) rfl)
theorem w_cd_yX4_bringNew : (Cond.code yX4_bringNew cX4_bringNew 12 (some .boolean) : Cond) ∈ TB := tseg_2 (List.mem_of_getElem? (i := 145) rfl) rfl
theorem w_ml_RX4_134 : (Cond.methodLink RX4 134 yX6_rightOf : Cond) ∈ TB := tseg_2 (List.mem_of_getElem? (i := 146) rfl) rfl
theorem w_im_yX6_rightOf : (Cond.instanceMethod yX6_rightOf : Cond) ∈ TB := tseg_2 (List.mem_of_getElem? (i := 147) rfl) rfl
theorem w_se_yX6_rightOf : (Cond.selects RX6 yX6_rightOf yX6_rightOf : Cond) ∈ TB := tseg_2 (List.mem_of_getElem? (i := 148) rfl) rfl
theorem w_cd_yX6_rightOf : (Cond.code yX6_rightOf cX6_rightOf 2 (some .int) : Cond) ∈ TB := tseg_2 (List.mem_of_getElem? (i := 149) rfl) rfl
theorem w_ml_RX4_137 : (Cond.methodLink RX4 137 yX6_make : Cond) ∈ TB := tseg_2 (List.mem_of_getElem? (i := 150) rfl) rfl
theorem w_ml_RX4_140 : (Cond.methodLink RX4 140 yX5_add : Cond) ∈ TB := tseg_2 (List.mem_of_getElem? (i := 151) rfl) rfl
theorem w_ml_RX4_84 : (Cond.methodLink RX4 84 yX4_bringParts : Cond) ∈ TB := tseg_2 (List.mem_of_getElem? (i := 152) rfl) rfl
theorem w_im_yX4_bringParts : (Cond.instanceMethod yX4_bringParts : Cond) ∈ TB := tseg_2 (List.mem_of_getElem? (i := 154) rfl) rfl
theorem w_se_yX4_bringParts : (Cond.selects RX4 yX4_bringParts yX4_bringParts : Cond) ∈ TB := tprv_1 (q := (yX4_bringParts, 5)) (List.mem_of_getElem? (i := 13) rfl)
theorem w_cd_yX4_bringParts : (Cond.code yX4_bringParts cX4_bringParts 7 none : Cond) ∈ TB := tseg_2 (List.mem_of_getElem? (i := 155) rfl) rfl
theorem w_ml_RX4_88 : (Cond.methodLink RX4 88 yX4_goalOfPremise : Cond) ∈ TB := tseg_2 (List.mem_of_getElem? (i := 156) rfl) rfl
theorem w_im_yX4_goalOfPremise : (Cond.instanceMethod yX4_goalOfPremise : Cond) ∈ TB := tseg_2 (List.mem_of_getElem? (i := 158) rfl) rfl
theorem w_se_yX4_goalOfPremise : (Cond.selects RX4 yX4_goalOfPremise yX4_goalOfPremise : Cond) ∈ TB := tprv_1 (q := (yX4_goalOfPremise, 5)) (List.mem_of_getElem? (i := 14) rfl)
theorem w_cd_yX4_goalOfPremise : (Cond.code yX4_goalOfPremise cX4_goalOfPremise 5 (some .int) : Cond) ∈ TB := tseg_2 (List.mem_of_getElem? (i := 159) rfl) rfl
theorem w_ml_RX4_92 : (Cond.methodLink RX4 92 yX0_setPremise : Cond) ∈ TB := tseg_2 (List.mem_of_getElem? (i := 160) rfl) rfl
theorem w_im_yX0_setPremise : (Cond.instanceMethod yX0_setPremise : Cond) ∈ TB := tseg_2 (List.mem_of_getElem? (i := 161) rfl) rfl
theorem w_se_yX0_setPremise : (Cond.selects RX0 yX0_setPremise yX0_setPremise : Cond) ∈ TB := tseg_2 (List.mem_of_getElem? (i := 162) rfl) rfl
theorem w_cd_yX0_setPremise : (Cond.code yX0_setPremise cX0_setPremise 4 none : Cond) ∈ TB := tseg_2 (List.mem_of_getElem? (i := 163) rfl) rfl
theorem w_ml_RX7_66 : (Cond.methodLink RX7 66 yX3_makeAll : Cond) ∈ TB := tseg_2 (List.mem_of_getElem? (i := 168) rfl) rfl
theorem w_im_yX3_makeAll : (Cond.instanceMethod yX3_makeAll : Cond) ∈ TB := tseg_2 (List.mem_of_getElem? (i := 169) rfl) rfl
theorem w_se_yX3_makeAll : (Cond.selects RX3 yX3_makeAll yX3_makeAll : Cond) ∈ TB := tseg_2 (List.mem_of_getElem? (i := 170) rfl) rfl
theorem w_cd_yX3_makeAll : (Cond.code yX3_makeAll cX3_makeAll 2 (some .int) : Cond) ∈ TB := tseg_2 (List.mem_of_getElem? (i := 171) rfl) rfl
theorem w_ml_RX3_27 : (Cond.methodLink RX3 27 yX3_build : Cond) ∈ TB := tseg_2 (List.mem_of_getElem? (i := 172) rfl) rfl
theorem w_im_yX3_build : (Cond.instanceMethod yX3_build : Cond) ∈ TB := tseg_2 (List.mem_of_getElem? (i := 174) rfl) rfl
theorem w_se_yX3_build : (Cond.selects RX3 yX3_build yX3_build : Cond) ∈ TB := tprv_2 (q := (yX3_build, 4)) (List.mem_of_getElem? (i := 0) rfl)
theorem w_cd_yX3_build : (Cond.code yX3_build cX3_build 8 (some .int) : Cond) ∈ TB := tseg_2 (List.mem_of_getElem? (i := 175) rfl) rfl
theorem w_ml_RX3_31 : (Cond.methodLink RX3 31 yX0_goalOf : Cond) ∈ TB := tseg_2 (List.mem_of_getElem? (i := 176) rfl) rfl
theorem w_ml_RX3_37 : (Cond.methodLink RX3 37 yX0_wayOf : Cond) ∈ TB := tseg_2 (List.mem_of_getElem? (i := 177) rfl) rfl
theorem w_im_yX0_wayOf : (Cond.instanceMethod yX0_wayOf : Cond) ∈ TB := tseg_2 (List.mem_of_getElem? (i := 178) rfl) rfl
theorem w_se_yX0_wayOf : (Cond.selects RX0 yX0_wayOf yX0_wayOf : Cond) ∈ TB := tseg_2 (List.mem_of_getElem? (i := 179) rfl) rfl
theorem w_cd_yX0_wayOf : (Cond.code yX0_wayOf cX0_wayOf 2 (some .int) : Cond) ∈ TB := tseg_2 (List.mem_of_getElem? (i := 180) rfl) rfl
theorem w_ml_RX3_40 : (Cond.methodLink RX3 40 yX0_takenBy : Cond) ∈ TB := tseg_2 (List.mem_of_getElem? (i := 181) rfl) rfl
theorem w_ml_RX3_43 : (Cond.methodLink RX3 43 yX0_premiseOf : Cond) ∈ TB := tseg_2 (List.mem_of_getElem? (i := 182) rfl) rfl
theorem w_im_yX0_premiseOf : (Cond.instanceMethod yX0_premiseOf : Cond) ∈ TB := tseg_2 (List.mem_of_getElem? (i := 183) rfl) rfl
theorem w_se_yX0_premiseOf : (Cond.selects RX0 yX0_premiseOf yX0_premiseOf : Cond) ∈ TB := tseg_2 (List.mem_of_getElem? (i := 184) rfl) rfl
theorem w_cd_yX0_premiseOf : (Cond.code yX0_premiseOf cX0_premiseOf 3 (some .int) : Cond) ∈ TB := tseg_2 (List.mem_of_getElem? (i := 185) rfl) rfl
theorem w_ml_RX3_46 : (Cond.methodLink RX3 46 yX0_ruleOf : Cond) ∈ TB := tseg_2 (List.mem_of_getElem? (i := 186) rfl) rfl
theorem w_ml_RX3_49 : (Cond.methodLink RX3 49 yX3_given : Cond) ∈ TB := tseg_2 (List.mem_of_getElem? (i := 187) rfl) rfl
theorem w_im_yX3_given : (Cond.instanceMethod yX3_given : Cond) ∈ TB := tseg_2 (List.mem_of_getElem? (i := 189) rfl) rfl
theorem w_se_yX3_given : (Cond.selects RX3 yX3_given yX3_given : Cond) ∈ TB := tprv_2 (q := (yX3_given, 4)) (List.mem_of_getElem? (i := 1) rfl)
theorem w_cd_yX3_given : (Cond.code yX3_given cX3_given 2 (some .int) : Cond) ∈ TB := tseg_2 (List.mem_of_getElem? (i := 190) rfl) rfl
theorem w_ml_RX3_93 : (Cond.methodLink RX3 93 yX2_make : Cond) ∈ TB := tseg_2 (List.mem_of_getElem? (i := 191) rfl) rfl
theorem w_im_yX2_make : (Cond.instanceMethod yX2_make : Cond) ∈ TB := tseg_2 (List.mem_of_getElem? (i := 192) rfl) rfl
theorem w_se_yX2_make : (Cond.selects RX2 yX2_make yX2_make : Cond) ∈ TB := tseg_2 (List.mem_of_getElem? (i := 193) rfl) rfl
theorem w_cd_yX2_make : (Cond.code yX2_make cX2_make 7 (some .int) : Cond) ∈ TB := tseg_2 (List.mem_of_getElem? (i := 194) rfl) rfl
theorem w_ml_RX2_50 : (Cond.methodLink RX2 50 yX1_find : Cond) ∈ TB := tseg_2 (List.mem_of_getElem? (i := 195) rfl) rfl
theorem w_ml_RX2_54 : (Cond.methodLink RX2 54 yX1_append : Cond) ∈ TB := tseg_2 (List.mem_of_getElem? (i := 196) rfl) rfl
theorem w_ml_RX3_96 : (Cond.methodLink RX3 96 yX3_noted : Cond) ∈ TB := tseg_2 (List.mem_of_getElem? (i := 197) rfl) rfl
theorem w_im_yX3_noted : (Cond.instanceMethod yX3_noted : Cond) ∈ TB := tseg_2 (List.mem_of_getElem? (i := 199) rfl) rfl
theorem w_se_yX3_noted : (Cond.selects RX3 yX3_noted yX3_noted : Cond) ∈ TB := tprv_2 (q := (yX3_noted, 4)) (List.mem_of_getElem? (i := 2) rfl)
theorem w_cd_yX3_noted : (Cond.code yX3_noted cX3_noted 2 (some .int) : Cond) ∈ TB := tseg_2 (List.mem_of_getElem? (i := 200) rfl) rfl
theorem w_ml_RX3_52 : (Cond.methodLink RX3 52 yX3_make : Cond) ∈ TB := tseg_2 (List.mem_of_getElem? (i := 201) rfl) rfl
theorem w_im_yX3_make : (Cond.instanceMethod yX3_make : Cond) ∈ TB := tseg_2 (List.mem_of_getElem? (i := 203) rfl) rfl
theorem w_se_yX3_make : (Cond.selects RX3 yX3_make yX3_make : Cond) ∈ TB := tprv_2 (q := (yX3_make, 4)) (List.mem_of_getElem? (i := 3) rfl)
theorem w_cd_yX3_make : (Cond.code yX3_make cX3_make 6 (some .int) : Cond) ∈ TB := tseg_2 (List.mem_of_getElem? (i := 204) rfl) rfl
theorem w_ml_RX3_56 : (Cond.methodLink RX3 56 yX6_leftOf : Cond) ∈ TB := tseg_2 (List.mem_of_getElem? (i := 205) rfl) rfl
theorem w_ml_RX3_61 : (Cond.methodLink RX3 61 yX3_lambda : Cond) ∈ TB := tseg_2 (List.mem_of_getElem? (i := 206) rfl) rfl
theorem w_im_yX3_lambda : (Cond.instanceMethod yX3_lambda : Cond) ∈ TB := tseg_2 (List.mem_of_getElem? (i := 208) rfl) rfl
theorem w_se_yX3_lambda : (Cond.selects RX3 yX3_lambda yX3_lambda : Cond) ∈ TB := tprv_2 (q := (yX3_lambda, 4)) (List.mem_of_getElem? (i := 4) rfl)
theorem w_cd_yX3_lambda : (Cond.code yX3_lambda cX3_lambda 4 (some .int) : Cond) ∈ TB := tseg_2 (List.mem_of_getElem? (i := 209) rfl) rfl
theorem w_ml_RX3_99 : (Cond.methodLink RX3 99 yX2_goalOf : Cond) ∈ TB := tseg_2 (List.mem_of_getElem? (i := 210) rfl) rfl
theorem w_im_yX2_goalOf : (Cond.instanceMethod yX2_goalOf : Cond) ∈ TB := tseg_2 (List.mem_of_getElem? (i := 211) rfl) rfl
theorem w_se_yX2_goalOf : (Cond.selects RX2 yX2_goalOf yX2_goalOf : Cond) ∈ TB := tseg_2 (List.mem_of_getElem? (i := 212) rfl) rfl
theorem w_cd_yX2_goalOf : (Cond.code yX2_goalOf cX2_goalOf 2 (some .int) : Cond) ∈ TB := tseg_2 (List.mem_of_getElem? (i := 213) rfl) rfl
theorem w_ml_RX2_46 : (Cond.methodLink RX2 46 yX1_get : Cond) ∈ TB := tseg_2 (List.mem_of_getElem? (i := 214) rfl) rfl
theorem w_ml_RX3_100 : (Cond.methodLink RX3 100 yX6_make : Cond) ∈ TB := tseg_2 (List.mem_of_getElem? (i := 215) rfl) rfl
theorem w_ml_RX3_64 : (Cond.methodLink RX3 64 yX3_unpack : Cond) ∈ TB := tseg_2 (List.mem_of_getElem? (i := 216) rfl) rfl
theorem w_im_yX3_unpack : (Cond.instanceMethod yX3_unpack : Cond) ∈ TB := tseg_2 (List.mem_of_getElem? (i := 218) rfl) rfl
theorem w_se_yX3_unpack : (Cond.selects RX3 yX3_unpack yX3_unpack : Cond) ∈ TB := tprv_2 (q := (yX3_unpack, 4)) (List.mem_of_getElem? (i := 5) rfl)
theorem w_cd_yX3_unpack : (Cond.code yX3_unpack cX3_unpack 5 (some .int) : Cond) ∈ TB := tseg_2 (List.mem_of_getElem? (i := 219) rfl) rfl
theorem w_ml_RX3_76 : (Cond.methodLink RX3 76 yX6_rightOf : Cond) ∈ TB := tseg_2 (List.mem_of_getElem? (i := 220) rfl) rfl
theorem w_ml_RX3_83 : (Cond.methodLink RX3 83 yX3_apply : Cond) ∈ TB := tseg_2 (List.mem_of_getElem? (i := 221) rfl) rfl
theorem w_im_yX3_apply : (Cond.instanceMethod yX3_apply : Cond) ∈ TB := tseg_2 (List.mem_of_getElem? (i := 223) rfl) rfl
theorem w_se_yX3_apply : (Cond.selects RX3 yX3_apply yX3_apply : Cond) ∈ TB := tprv_2 (q := (yX3_apply, 4)) (List.mem_of_getElem? (i := 6) rfl)
theorem w_cd_yX3_apply : (Cond.code yX3_apply cX3_apply 4 (some .int) : Cond) ∈ TB := tseg_2 (List.mem_of_getElem? (i := 224) rfl) rfl
theorem w_ml_RX3_67 : (Cond.methodLink RX3 67 yX3_fire : Cond) ∈ TB := tseg_2 (List.mem_of_getElem? (i := 225) rfl) rfl
theorem w_im_yX3_fire : (Cond.instanceMethod yX3_fire : Cond) ∈ TB := tseg_2 (List.mem_of_getElem? (i := 227) rfl) rfl
theorem w_se_yX3_fire : (Cond.selects RX3 yX3_fire yX3_fire : Cond) ∈ TB := tprv_2 (q := (yX3_fire, 4)) (List.mem_of_getElem? (i := 7) rfl)
theorem w_cd_yX3_fire : (Cond.code yX3_fire cX3_fire 3 (some .int) : Cond) ∈ TB := tseg_2 (List.mem_of_getElem? (i := 228) rfl) rfl
theorem w_ml_RX3_70 : (Cond.methodLink RX3 70 yX3_uncurry : Cond) ∈ TB := tseg_2 (List.mem_of_getElem? (i := 229) rfl) rfl
theorem w_im_yX3_uncurry : (Cond.instanceMethod yX3_uncurry : Cond) ∈ TB := tseg_2 (List.mem_of_getElem? (i := 231) rfl) rfl
theorem w_se_yX3_uncurry : (Cond.selects RX3 yX3_uncurry yX3_uncurry : Cond) ∈ TB := tprv_2 (q := (yX3_uncurry, 4)) (List.mem_of_getElem? (i := 8) rfl)
theorem w_cd_yX3_uncurry : (Cond.code yX3_uncurry cX3_uncurry 7 (some .int) : Cond) ∈ TB := tseg_2 (List.mem_of_getElem? (i := 232) rfl) rfl
theorem w_ml_RX3_86 : (Cond.methodLink RX3 86 yX3_implication : Cond) ∈ TB := tseg_2 (List.mem_of_getElem? (i := 233) rfl) rfl
theorem w_im_yX3_implication : (Cond.instanceMethod yX3_implication : Cond) ∈ TB := tseg_2 (List.mem_of_getElem? (i := 235) rfl) rfl
theorem w_se_yX3_implication : (Cond.selects RX3 yX3_implication yX3_implication : Cond) ∈ TB := tprv_2 (q := (yX3_implication, 4)) (List.mem_of_getElem? (i := 9) rfl)
theorem w_cd_yX3_implication : (Cond.code yX3_implication cX3_implication 3 (some .int) : Cond) ∈ TB := tseg_2 (List.mem_of_getElem? (i := 236) rfl) rfl
theorem w_ml_RX3_89 : (Cond.methodLink RX3 89 yX6_find : Cond) ∈ TB := tseg_2 (List.mem_of_getElem? (i := 237) rfl) rfl
theorem w_im_yX6_find : (Cond.instanceMethod yX6_find : Cond) ∈ TB := tseg_2 (List.mem_of_getElem? (i := 238) rfl) rfl
theorem w_se_yX6_find : (Cond.selects RX6 yX6_find yX6_find : Cond) ∈ TB := tseg_2 (List.mem_of_getElem? (i := 239) rfl) rfl
theorem w_cd_yX6_find : (Cond.code yX6_find cX6_find 4 (some .int) : Cond) ∈ TB := tseg_3 (List.mem_of_getElem? (i := 0) rfl) rfl
theorem w_ml_RX3_73 : (Cond.methodLink RX3 73 yX3_rejoin : Cond) ∈ TB := tseg_3 (List.mem_of_getElem? (i := 1) rfl) rfl
theorem w_im_yX3_rejoin : (Cond.instanceMethod yX3_rejoin : Cond) ∈ TB := tseg_3 (List.mem_of_getElem? (i := 3) rfl) rfl
theorem w_se_yX3_rejoin : (Cond.selects RX3 yX3_rejoin yX3_rejoin : Cond) ∈ TB := tprv_2 (q := (yX3_rejoin, 4)) (List.mem_of_getElem? (i := 10) rfl)
theorem w_cd_yX3_rejoin : (Cond.code yX3_rejoin cX3_rejoin 8 (some .int) : Cond) ∈ TB := tseg_3 (List.mem_of_getElem? (i := 4) rfl) rfl
theorem w_ml_RX3_79 : (Cond.methodLink RX3 79 yX3_nest : Cond) ∈ TB := tseg_3 (List.mem_of_getElem? (i := 5) rfl) rfl
theorem w_im_yX3_nest : (Cond.instanceMethod yX3_nest : Cond) ∈ TB := tseg_3 (List.mem_of_getElem? (i := 7) rfl) rfl
theorem w_se_yX3_nest : (Cond.selects RX3 yX3_nest yX3_nest : Cond) ∈ TB := tprv_2 (q := (yX3_nest, 4)) (List.mem_of_getElem? (i := 11) rfl)
theorem w_cd_yX3_nest : (Cond.code yX3_nest cX3_nest 10 (some .int) : Cond) ∈ TB := tseg_3 (List.mem_of_getElem? (i := 8) rfl) rfl
theorem w_ml_RL_44 : (Cond.methodLink RL 44 yX8_prove : Cond) ∈ TB := tseg_4 (List.mem_of_getElem? (i := 38) rfl) rfl
theorem w_im_yX8_prove : (Cond.instanceMethod yX8_prove : Cond) ∈ TB := tseg_4 (List.mem_of_getElem? (i := 39) rfl) rfl
theorem w_se_yX8_prove : (Cond.selects RX8 yX8_prove yX8_prove : Cond) ∈ TB := tseg_4 (List.mem_of_getElem? (i := 40) rfl) rfl
theorem w_cd_yX8_prove : (Cond.code yX8_prove cX8_prove 4 (some .int) : Cond) ∈ TB := tseg_4 (List.mem_of_getElem? (i := 41) rfl) rfl
theorem w_fl_RX8_106 : (Cond.fieldLink RX8 106 "ProofSeekerModel" "over" "I" : Cond) ∈ TB := tseg_3 (List.mem_of_getElem? (i := 157) rfl) rfl
theorem w_fl_RX8_112 : (Cond.fieldLink RX8 112 "ProofSeekerModel" "used" "I" : Cond) ∈ TB := tseg_3 (List.mem_of_getElem? (i := 156) rfl) rfl
theorem w_fl_RX8_109 : (Cond.fieldLink RX8 109 "ProofSeekerModel" "deep" "I" : Cond) ∈ TB := tseg_3 (List.mem_of_getElem? (i := 163) rfl) rfl
theorem w_fl_RX8_115 : (Cond.fieldLink RX8 115 "ProofSeekerModel" "closed" "I" : Cond) ∈ TB := tseg_3 (List.mem_of_getElem? (i := 169) rfl) rfl
theorem w_ml_RX8_133 : (Cond.methodLink RX8 133 yX8_open : Cond) ∈ TB := tseg_4 (List.mem_of_getElem? (i := 42) rfl) rfl
theorem w_im_yX8_open : (Cond.instanceMethod yX8_open : Cond) ∈ TB := tseg_4 (List.mem_of_getElem? (i := 44) rfl) rfl
theorem w_se_yX8_open : (Cond.selects RX8 yX8_open yX8_open : Cond) ∈ TB := tprv_3 (q := (yX8_open, 31)) (List.mem_of_getElem? (i := 5) rfl)
theorem w_cd_yX8_open : (Cond.code yX8_open cX8_open 3 none : Cond) ∈ TB := tseg_4 (List.mem_of_getElem? (i := 45) rfl) rfl
theorem w_ml_RX8_158 : (Cond.methodLink RX8 158 yX8_enter : Cond) ∈ TB := tseg_4 (List.mem_of_getElem? (i := 46) rfl) rfl
theorem w_im_yX8_enter : (Cond.instanceMethod yX8_enter : Cond) ∈ TB := tseg_4 (List.mem_of_getElem? (i := 48) rfl) rfl
theorem w_se_yX8_enter : (Cond.selects RX8 yX8_enter yX8_enter : Cond) ∈ TB := tprv_3 (q := (yX8_enter, 31)) (List.mem_of_getElem? (i := 6) rfl)
theorem w_cd_yX8_enter : (Cond.code yX8_enter cX8_enter 2 none : Cond) ∈ TB := tseg_4 (List.mem_of_getElem? (i := 49) rfl) rfl
theorem w_ml_RX8_161 : (Cond.methodLink RX8 161 yX8_turn : Cond) ∈ TB := tseg_4 (List.mem_of_getElem? (i := 50) rfl) rfl
theorem w_im_yX8_turn : (Cond.instanceMethod yX8_turn : Cond) ∈ TB := tseg_4 (List.mem_of_getElem? (i := 52) rfl) rfl
theorem w_se_yX8_turn : (Cond.selects RX8 yX8_turn yX8_turn : Cond) ∈ TB := tprv_3 (q := (yX8_turn, 31)) (List.mem_of_getElem? (i := 7) rfl)
theorem w_cd_yX8_turn : (Cond.code yX8_turn cX8_turn 6 none : Cond) ∈ TB := tseg_4 (List.mem_of_getElem? (i := 53) rfl) rfl
theorem w_ml_RX8_145 : (Cond.methodLink RX8 145 yX8_choose : Cond) ∈ TB := tseg_4 (List.mem_of_getElem? (i := 54) rfl) rfl
theorem w_im_yX8_choose : (Cond.instanceMethod yX8_choose : Cond) ∈ TB := tseg_4 (List.mem_of_getElem? (i := 56) rfl) rfl
theorem w_se_yX8_choose : (Cond.selects RX8 yX8_choose yX8_choose : Cond) ∈ TB := tprv_3 (q := (yX8_choose, 31)) (List.mem_of_getElem? (i := 8) rfl)
theorem w_cd_yX8_choose : (Cond.code yX8_choose cX8_choose 5 none : Cond) ∈ TB := tseg_4 (List.mem_of_getElem? (i := 57) rfl) rfl
theorem w_ml_RX8_118 : (Cond.methodLink RX8 118 yX8_has : Cond) ∈ TB := tseg_4 (List.mem_of_getElem? (i := 58) rfl) rfl
theorem w_im_yX8_has : (Cond.instanceMethod yX8_has : Cond) ∈ TB := tseg_4 (List.mem_of_getElem? (i := 60) rfl) rfl
theorem w_se_yX8_has : (Cond.selects RX8 yX8_has yX8_has : Cond) ∈ TB := tprv_3 (q := (yX8_has, 31)) (List.mem_of_getElem? (i := 9) rfl)
theorem w_cd_yX8_has : (Cond.code yX8_has cX8_has 3 (some .boolean) : Cond) ∈ TB := tseg_4 (List.mem_of_getElem? (i := 61) rfl) rfl
theorem w_ml_RX8_125 : (Cond.methodLink RX8 125 yX8_falseOne : Cond) ∈ TB := tseg_4 (List.mem_of_getElem? (i := 62) rfl) rfl
theorem w_im_yX8_falseOne : (Cond.instanceMethod yX8_falseOne : Cond) ∈ TB := tseg_4 (List.mem_of_getElem? (i := 64) rfl) rfl
theorem w_se_yX8_falseOne : (Cond.selects RX8 yX8_falseOne yX8_falseOne : Cond) ∈ TB := tprv_3 (q := (yX8_falseOne, 31)) (List.mem_of_getElem? (i := 10) rfl)
theorem w_cd_yX8_falseOne : (Cond.code yX8_falseOne cX8_falseOne 2 (some .int) : Cond) ∈ TB := tseg_4 (List.mem_of_getElem? (i := 65) rfl) rfl
theorem w_ml_RX8_122 : (Cond.methodLink RX8 122 yX8_isA : Cond) ∈ TB := tseg_4 (List.mem_of_getElem? (i := 66) rfl) rfl
theorem w_im_yX8_isA : (Cond.instanceMethod yX8_isA : Cond) ∈ TB := tseg_4 (List.mem_of_getElem? (i := 68) rfl) rfl
theorem w_se_yX8_isA : (Cond.selects RX8 yX8_isA yX8_isA : Cond) ∈ TB := tprv_3 (q := (yX8_isA, 31)) (List.mem_of_getElem? (i := 11) rfl)
theorem w_cd_yX8_isA : (Cond.code yX8_isA cX8_isA 3 (some .boolean) : Cond) ∈ TB := tseg_4 (List.mem_of_getElem? (i := 69) rfl) rfl
theorem w_ml_RX8_129 : (Cond.methodLink RX8 129 yX8_least : Cond) ∈ TB := tseg_4 (List.mem_of_getElem? (i := 70) rfl) rfl
theorem w_im_yX8_least : (Cond.instanceMethod yX8_least : Cond) ∈ TB := tseg_4 (List.mem_of_getElem? (i := 72) rfl) rfl
theorem w_se_yX8_least : (Cond.selects RX8 yX8_least yX8_least : Cond) ∈ TB := tprv_3 (q := (yX8_least, 31)) (List.mem_of_getElem? (i := 12) rfl)
theorem w_cd_yX8_least : (Cond.code yX8_least cX8_least 6 (some .int) : Cond) ∈ TB := tseg_4 (List.mem_of_getElem? (i := 73) rfl) rfl
theorem w_ml_RX8_148 : (Cond.methodLink RX8 148 yX8_choices : Cond) ∈ TB := tseg_4 (List.mem_of_getElem? (i := 74) rfl) rfl
theorem w_im_yX8_choices : (Cond.instanceMethod yX8_choices : Cond) ∈ TB := tseg_4 (List.mem_of_getElem? (i := 76) rfl) rfl
theorem w_se_yX8_choices : (Cond.selects RX8 yX8_choices yX8_choices : Cond) ∈ TB := tprv_3 (q := (yX8_choices, 31)) (List.mem_of_getElem? (i := 13) rfl)
theorem w_cd_yX8_choices : (Cond.code yX8_choices cX8_choices 8 none : Cond) ∈ TB := tseg_4 (List.mem_of_getElem? (i := 77) rfl) rfl
theorem w_ml_RX8_151 : (Cond.methodLink RX8 151 yX8_close : Cond) ∈ TB := tseg_4 (List.mem_of_getElem? (i := 78) rfl) rfl
theorem w_im_yX8_close : (Cond.instanceMethod yX8_close : Cond) ∈ TB := tseg_4 (List.mem_of_getElem? (i := 80) rfl) rfl
theorem w_se_yX8_close : (Cond.selects RX8 yX8_close yX8_close : Cond) ∈ TB := tprv_3 (q := (yX8_close, 31)) (List.mem_of_getElem? (i := 14) rfl)
theorem w_cd_yX8_close : (Cond.code yX8_close cX8_close 2 none : Cond) ∈ TB := tseg_4 (List.mem_of_getElem? (i := 81) rfl) rfl
theorem w_ml_RX8_137 : (Cond.methodLink RX8 137 yX8_set : Cond) ∈ TB := tseg_4 (List.mem_of_getElem? (i := 82) rfl) rfl
theorem w_im_yX8_set : (Cond.instanceMethod yX8_set : Cond) ∈ TB := tseg_4 (List.mem_of_getElem? (i := 84) rfl) rfl
theorem w_se_yX8_set : (Cond.selects RX8 yX8_set yX8_set : Cond) ∈ TB := tprv_3 (q := (yX8_set, 31)) (List.mem_of_getElem? (i := 15) rfl)
theorem w_cd_yX8_set : (Cond.code yX8_set cX8_set 4 none : Cond) ∈ TB := tseg_4 (List.mem_of_getElem? (i := 85) rfl) rfl
theorem w_ml_RX8_141 : (Cond.methodLink RX8 141 yX8_implication : Cond) ∈ TB := tseg_4 (List.mem_of_getElem? (i := 86) rfl) rfl
theorem w_im_yX8_implication : (Cond.instanceMethod yX8_implication : Cond) ∈ TB := tseg_4 (List.mem_of_getElem? (i := 88) rfl) rfl
theorem w_se_yX8_implication : (Cond.selects RX8 yX8_implication yX8_implication : Cond) ∈ TB := tprv_4 (q := (yX8_implication, 31)) (List.mem_of_getElem? (i := 0) rfl)
theorem w_cd_yX8_implication : (Cond.code yX8_implication cX8_implication 4 (some .int) : Cond) ∈ TB := tseg_4 (List.mem_of_getElem? (i := 89) rfl) rfl
theorem w_ml_RX8_155 : (Cond.methodLink RX8 155 yX8_premise : Cond) ∈ TB := tseg_4 (List.mem_of_getElem? (i := 90) rfl) rfl
theorem w_im_yX8_premise : (Cond.instanceMethod yX8_premise : Cond) ∈ TB := tseg_4 (List.mem_of_getElem? (i := 92) rfl) rfl
theorem w_se_yX8_premise : (Cond.selects RX8 yX8_premise yX8_premise : Cond) ∈ TB := tprv_4 (q := (yX8_premise, 31)) (List.mem_of_getElem? (i := 1) rfl)
theorem w_cd_yX8_premise : (Cond.code yX8_premise cX8_premise 9 none : Cond) ∈ TB := tseg_4 (List.mem_of_getElem? (i := 93) rfl) rfl
theorem w_ml_RX8_164 : (Cond.methodLink RX8 164 yX8_lay : Cond) ∈ TB := tseg_4 (List.mem_of_getElem? (i := 94) rfl) rfl
theorem w_im_yX8_lay : (Cond.instanceMethod yX8_lay : Cond) ∈ TB := tseg_4 (List.mem_of_getElem? (i := 96) rfl) rfl
theorem w_se_yX8_lay : (Cond.selects RX8 yX8_lay yX8_lay : Cond) ∈ TB := tprv_4 (q := (yX8_lay, 31)) (List.mem_of_getElem? (i := 2) rfl)
theorem w_cd_yX8_lay : (Cond.code yX8_lay cX8_lay 9 (some .int) : Cond) ∈ TB := tseg_4 (List.mem_of_getElem? (i := 97) rfl) rfl
theorem w_ml_RX8_174 : (Cond.methodLink RX8 174 yX8_l : Cond) ∈ TB := tseg_4 (List.mem_of_getElem? (i := 98) rfl) rfl
theorem w_im_yX8_l : (Cond.instanceMethod yX8_l : Cond) ∈ TB := tseg_4 (List.mem_of_getElem? (i := 100) rfl) rfl
theorem w_se_yX8_l : (Cond.selects RX8 yX8_l yX8_l : Cond) ∈ TB := tprv_4 (q := (yX8_l, 31)) (List.mem_of_getElem? (i := 3) rfl)
theorem w_cd_yX8_l : (Cond.code yX8_l cX8_l 3 (some .int) : Cond) ∈ TB := tseg_4 (List.mem_of_getElem? (i := 101) rfl) rfl
theorem w_ml_RX8_171 : (Cond.methodLink RX8 171 yX8_put : Cond) ∈ TB := tseg_4 (List.mem_of_getElem? (i := 102) rfl) rfl
theorem w_im_yX8_put : (Cond.instanceMethod yX8_put : Cond) ∈ TB := tseg_4 (List.mem_of_getElem? (i := 104) rfl) rfl
theorem w_se_yX8_put : (Cond.selects RX8 yX8_put yX8_put : Cond) ∈ TB := tprv_4 (q := (yX8_put, 31)) (List.mem_of_getElem? (i := 4) rfl)
theorem w_cd_yX8_put : (Cond.code yX8_put cX8_put 7 (some .int) : Cond) ∈ TB := tseg_4 (List.mem_of_getElem? (i := 105) rfl) rfl
theorem w_ml_RX8_167 : (Cond.methodLink RX8 167 yX8_keep : Cond) ∈ TB := tseg_4 (List.mem_of_getElem? (i := 106) rfl) rfl
theorem w_im_yX8_keep : (Cond.instanceMethod yX8_keep : Cond) ∈ TB := tseg_4 (List.mem_of_getElem? (i := 108) rfl) rfl
theorem w_se_yX8_keep : (Cond.selects RX8 yX8_keep yX8_keep : Cond) ∈ TB := tprv_4 (q := (yX8_keep, 31)) (List.mem_of_getElem? (i := 5) rfl)
theorem w_cd_yX8_keep : (Cond.code yX8_keep cX8_keep 7 (some .int) : Cond) ∈ TB := tseg_4 (List.mem_of_getElem? (i := 109) rfl) rfl
theorem w_ml_RX8_177 : (Cond.methodLink RX8 177 yX8_v : Cond) ∈ TB := tseg_4 (List.mem_of_getElem? (i := 110) rfl) rfl
theorem w_im_yX8_v : (Cond.instanceMethod yX8_v : Cond) ∈ TB := tseg_4 (List.mem_of_getElem? (i := 112) rfl) rfl
theorem w_se_yX8_v : (Cond.selects RX8 yX8_v yX8_v : Cond) ∈ TB := tprv_4 (q := (yX8_v, 31)) (List.mem_of_getElem? (i := 6) rfl)
theorem w_cd_yX8_v : (Cond.code yX8_v cX8_v 2 (some .int) : Cond) ∈ TB := tseg_4 (List.mem_of_getElem? (i := 113) rfl) rfl
theorem w_ml_RX8_180 : (Cond.methodLink RX8 180 yX8_around : Cond) ∈ TB := tseg_4 (List.mem_of_getElem? (i := 114) rfl) rfl
theorem w_im_yX8_around : (Cond.instanceMethod yX8_around : Cond) ∈ TB := tseg_4 (List.mem_of_getElem? (i := 116) rfl) rfl
theorem w_se_yX8_around : (Cond.selects RX8 yX8_around yX8_around : Cond) ∈ TB := tprv_4 (q := (yX8_around, 31)) (List.mem_of_getElem? (i := 7) rfl)
theorem w_cd_yX8_around : (Cond.code yX8_around cX8_around 13 (some .int) : Cond) ∈ TB := tseg_4 (List.mem_of_getElem? (i := 117) rfl) rfl
theorem w_ml_RX8_184 : (Cond.methodLink RX8 184 yX8_a : Cond) ∈ TB := tseg_4 (List.mem_of_getElem? (i := 118) rfl) rfl
theorem w_im_yX8_a : (Cond.instanceMethod yX8_a : Cond) ∈ TB := tseg_4 (List.mem_of_getElem? (i := 120) rfl) rfl
theorem w_se_yX8_a : (Cond.selects RX8 yX8_a yX8_a : Cond) ∈ TB := tprv_4 (q := (yX8_a, 31)) (List.mem_of_getElem? (i := 8) rfl)
theorem w_cd_yX8_a : (Cond.code yX8_a cX8_a 3 (some .int) : Cond) ∈ TB := tseg_4 (List.mem_of_getElem? (i := 121) rfl) rfl
theorem w_ml_RX8_187 : (Cond.methodLink RX8 187 yX8_curried : Cond) ∈ TB := tseg_4 (List.mem_of_getElem? (i := 122) rfl) rfl
theorem w_im_yX8_curried : (Cond.instanceMethod yX8_curried : Cond) ∈ TB := tseg_4 (List.mem_of_getElem? (i := 124) rfl) rfl
theorem w_se_yX8_curried : (Cond.selects RX8 yX8_curried yX8_curried : Cond) ∈ TB := tprv_4 (q := (yX8_curried, 31)) (List.mem_of_getElem? (i := 9) rfl)
theorem w_cd_yX8_curried : (Cond.code yX8_curried cX8_curried 9 (some .int) : Cond) ∈ TB := tseg_4 (List.mem_of_getElem? (i := 125) rfl) rfl
theorem w_ml_RX8_190 : (Cond.methodLink RX8 190 yX8_shared : Cond) ∈ TB := tseg_4 (List.mem_of_getElem? (i := 126) rfl) rfl
theorem w_im_yX8_shared : (Cond.instanceMethod yX8_shared : Cond) ∈ TB := tseg_4 (List.mem_of_getElem? (i := 128) rfl) rfl
theorem w_se_yX8_shared : (Cond.selects RX8 yX8_shared yX8_shared : Cond) ∈ TB := tprv_4 (q := (yX8_shared, 31)) (List.mem_of_getElem? (i := 10) rfl)
theorem w_cd_yX8_shared : (Cond.code yX8_shared cX8_shared 10 (some .int) : Cond) ∈ TB := tseg_4 (List.mem_of_getElem? (i := 129) rfl) rfl
theorem w_ml_RX8_193 : (Cond.methodLink RX8 193 yX8_nested : Cond) ∈ TB := tseg_4 (List.mem_of_getElem? (i := 130) rfl) rfl
theorem w_im_yX8_nested : (Cond.instanceMethod yX8_nested : Cond) ∈ TB := tseg_4 (List.mem_of_getElem? (i := 132) rfl) rfl
theorem w_se_yX8_nested : (Cond.selects RX8 yX8_nested yX8_nested : Cond) ∈ TB := tprv_4 (q := (yX8_nested, 31)) (List.mem_of_getElem? (i := 11) rfl)
theorem w_cd_yX8_nested : (Cond.code yX8_nested cX8_nested 9 (some .int) : Cond) ∈ TB := tseg_4 (List.mem_of_getElem? (i := 133) rfl) rfl
theorem w_ml_RL_45 : (Cond.methodLink RL 45 yX7_used : Cond) ∈ TB := tseg_3 (List.mem_of_getElem? (i := 9) rfl) rfl
theorem w_im_yX7_used : (Cond.instanceMethod yX7_used : Cond) ∈ TB := tseg_3 (List.mem_of_getElem? (i := 10) rfl) rfl
theorem w_se_yX7_used : (Cond.selects RX7 yX7_used yX7_used : Cond) ∈ TB := tseg_3 (List.mem_of_getElem? (i := 11) rfl) rfl
theorem w_cd_yX7_used : (Cond.code yX7_used cX7_used 1 (some .int) : Cond) ∈ TB := tseg_3 (List.mem_of_getElem? (i := 12) rfl) rfl
theorem w_ml_RX7_70 : (Cond.methodLink RX7 70 yX4_fuelSpent : Cond) ∈ TB := tseg_3 (List.mem_of_getElem? (i := 13) rfl) rfl
theorem w_im_yX4_fuelSpent : (Cond.instanceMethod yX4_fuelSpent : Cond) ∈ TB := tseg_3 (List.mem_of_getElem? (i := 14) rfl) rfl
theorem w_se_yX4_fuelSpent : (Cond.selects RX4 yX4_fuelSpent yX4_fuelSpent : Cond) ∈ TB := tseg_3 (List.mem_of_getElem? (i := 15) rfl) rfl
theorem w_cd_yX4_fuelSpent : (Cond.code yX4_fuelSpent cX4_fuelSpent 1 (some .int) : Cond) ∈ TB := tseg_3 (List.mem_of_getElem? (i := 16) rfl) rfl
theorem w_ml_RL_48 : (Cond.methodLink RL 48 yX8_used : Cond) ∈ TB := tseg_4 (List.mem_of_getElem? (i := 134) rfl) rfl
theorem w_im_yX8_used : (Cond.instanceMethod yX8_used : Cond) ∈ TB := tseg_4 (List.mem_of_getElem? (i := 135) rfl) rfl
theorem w_se_yX8_used : (Cond.selects RX8 yX8_used yX8_used : Cond) ∈ TB := tseg_4 (List.mem_of_getElem? (i := 136) rfl) rfl
theorem w_cd_yX8_used : (Cond.code yX8_used cX8_used 1 (some .int) : Cond) ∈ TB := tseg_4 (List.mem_of_getElem? (i := 137) rfl) rfl
theorem w_ml_RL_49 : (Cond.methodLink RL 49 yX7_node : Cond) ∈ TB := tseg_3 (List.mem_of_getElem? (i := 17) rfl) rfl
theorem w_im_yX7_node : (Cond.instanceMethod yX7_node : Cond) ∈ TB := tseg_3 (List.mem_of_getElem? (i := 18) rfl) rfl
theorem w_se_yX7_node : (Cond.selects RX7 yX7_node yX7_node : Cond) ∈ TB := tseg_3 (List.mem_of_getElem? (i := 19) rfl) rfl
theorem w_cd_yX7_node : (Cond.code yX7_node cX7_node 7 (some .int) : Cond) ∈ TB := tseg_3 (List.mem_of_getElem? (i := 20) rfl) rfl
theorem w_ml_RX7_73 : (Cond.methodLink RX7 73 yX2_partsOf : Cond) ∈ TB := tseg_3 (List.mem_of_getElem? (i := 21) rfl) rfl
theorem w_sta_yX2_partsOf : (Cond.static yX2_partsOf : Cond) ∈ TB := tseg_3 (List.mem_of_getElem? (i := 22) rfl) rfl
theorem w_cd_yX2_partsOf : (Cond.code yX2_partsOf cX2_partsOf 1 (some .int) : Cond) ∈ TB := tseg_3 (List.mem_of_getElem? (i := 23) rfl) rfl
theorem w_fl_RX2_39 : (Cond.fieldLink RX2 39 "ProofSeeker$NodeStore" "PARTS" "[I" : Cond) ∈ TB := tseg_3 (List.mem_of_getElem? (i := 24) rfl) rfl
theorem w_ml_RX7_76 : (Cond.methodLink RX7 76 yX2_holds : Cond) ∈ TB := tseg_3 (List.mem_of_getElem? (i := 26) rfl) rfl
theorem w_im_yX2_holds : (Cond.instanceMethod yX2_holds : Cond) ∈ TB := tseg_3 (List.mem_of_getElem? (i := 27) rfl) rfl
theorem w_se_yX2_holds : (Cond.selects RX2 yX2_holds yX2_holds : Cond) ∈ TB := tseg_3 (List.mem_of_getElem? (i := 28) rfl) rfl
theorem w_cd_yX2_holds : (Cond.code yX2_holds cX2_holds 2 (some .boolean) : Cond) ∈ TB := tseg_3 (List.mem_of_getElem? (i := 29) rfl) rfl
theorem w_ml_RX7_77 : (Cond.methodLink RX7 77 yX2_make : Cond) ∈ TB := tseg_3 (List.mem_of_getElem? (i := 30) rfl) rfl
theorem w_ml_RL_53 : (Cond.methodLink RL 53 yX8_node : Cond) ∈ TB := tseg_4 (List.mem_of_getElem? (i := 138) rfl) rfl
theorem w_im_yX8_node : (Cond.instanceMethod yX8_node : Cond) ∈ TB := tseg_4 (List.mem_of_getElem? (i := 139) rfl) rfl
theorem w_se_yX8_node : (Cond.selects RX8 yX8_node yX8_node : Cond) ∈ TB := tseg_4 (List.mem_of_getElem? (i := 140) rfl) rfl
theorem w_cd_yX8_node : (Cond.code yX8_node cX8_node 7 (some .int) : Cond) ∈ TB := tseg_4 (List.mem_of_getElem? (i := 141) rfl) rfl
theorem w_ml_RX8_196 : (Cond.methodLink RX8 196 yX8_width : Cond) ∈ TB := tseg_4 (List.mem_of_getElem? (i := 142) rfl) rfl
theorem w_sta_yX8_width : (Cond.static yX8_width : Cond) ∈ TB := tseg_4 (List.mem_of_getElem? (i := 143) rfl) rfl
theorem w_cd_yX8_width : (Cond.code yX8_width cX8_width 1 (some .int) : Cond) ∈ TB := tseg_4 (List.mem_of_getElem? (i := 144) rfl) rfl
theorem w_ml_RX8_199 : (Cond.methodLink RX8 199 yX8_isNode : Cond) ∈ TB := tseg_4 (List.mem_of_getElem? (i := 145) rfl) rfl
theorem w_im_yX8_isNode : (Cond.instanceMethod yX8_isNode : Cond) ∈ TB := tseg_4 (List.mem_of_getElem? (i := 147) rfl) rfl
theorem w_se_yX8_isNode : (Cond.selects RX8 yX8_isNode yX8_isNode : Cond) ∈ TB := tprv_4 (q := (yX8_isNode, 31)) (List.mem_of_getElem? (i := 12) rfl)
theorem w_cd_yX8_isNode : (Cond.code yX8_isNode cX8_isNode 2 (some .boolean) : Cond) ∈ TB := tseg_4 (List.mem_of_getElem? (i := 148) rfl) rfl
theorem w_ml_RL_54 : (Cond.methodLink RL 54 yX7_of : Cond) ∈ TB := tseg_3 (List.mem_of_getElem? (i := 31) rfl) rfl
theorem w_im_yX7_of : (Cond.instanceMethod yX7_of : Cond) ∈ TB := tseg_3 (List.mem_of_getElem? (i := 32) rfl) rfl
theorem w_se_yX7_of : (Cond.selects RX7 yX7_of yX7_of : Cond) ∈ TB := tseg_3 (List.mem_of_getElem? (i := 33) rfl) rfl
theorem w_cd_yX7_of : (Cond.code yX7_of cX7_of 4 (some .int) : Cond) ∈ TB := tseg_3 (List.mem_of_getElem? (i := 34) rfl) rfl
theorem w_ml_RX7_80 : (Cond.methodLink RX7 80 yX2_read : Cond) ∈ TB := tseg_3 (List.mem_of_getElem? (i := 35) rfl) rfl
theorem w_im_yX2_read : (Cond.instanceMethod yX2_read : Cond) ∈ TB := tseg_3 (List.mem_of_getElem? (i := 36) rfl) rfl
theorem w_se_yX2_read : (Cond.selects RX2 yX2_read yX2_read : Cond) ∈ TB := tseg_3 (List.mem_of_getElem? (i := 37) rfl) rfl
theorem w_cd_yX2_read : (Cond.code yX2_read cX2_read 3 (some .int) : Cond) ∈ TB := tseg_3 (List.mem_of_getElem? (i := 38) rfl) rfl
theorem w_ml_RL_57 : (Cond.methodLink RL 57 yX8_of : Cond) ∈ TB := tseg_4 (List.mem_of_getElem? (i := 149) rfl) rfl
theorem w_im_yX8_of : (Cond.instanceMethod yX8_of : Cond) ∈ TB := tseg_4 (List.mem_of_getElem? (i := 150) rfl) rfl
theorem w_se_yX8_of : (Cond.selects RX8 yX8_of yX8_of : Cond) ∈ TB := tseg_4 (List.mem_of_getElem? (i := 151) rfl) rfl
theorem w_cd_yX8_of : (Cond.code yX8_of cX8_of 3 (some .int) : Cond) ∈ TB := tseg_4 (List.mem_of_getElem? (i := 152) rfl) rfl
theorem w_ml_RL_58 : (Cond.methodLink RL 58 yX7_wellMade : Cond) ∈ TB := tseg_3 (List.mem_of_getElem? (i := 39) rfl) rfl
theorem w_im_yX7_wellMade : (Cond.instanceMethod yX7_wellMade : Cond) ∈ TB := tseg_3 (List.mem_of_getElem? (i := 40) rfl) rfl
theorem w_se_yX7_wellMade : (Cond.selects RX7 yX7_wellMade yX7_wellMade : Cond) ∈ TB := tseg_3 (List.mem_of_getElem? (i := 41) rfl) rfl
theorem w_cd_yX7_wellMade : (Cond.code yX7_wellMade cX7_wellMade 2 (some .int) : Cond) ∈ TB := tseg_3 (List.mem_of_getElem? (i := 42) rfl) rfl
theorem w_ml_RX7_81 : (Cond.methodLink RX7 81 yX2_isSound : Cond) ∈ TB := tseg_3 (List.mem_of_getElem? (i := 43) rfl) rfl
theorem w_im_yX2_isSound : (Cond.instanceMethod yX2_isSound : Cond) ∈ TB := tseg_3 (List.mem_of_getElem? (i := 44) rfl) rfl
theorem w_se_yX2_isSound : (Cond.selects RX2 yX2_isSound yX2_isSound : Cond) ∈ TB := tseg_3 (List.mem_of_getElem? (i := 45) rfl) rfl
theorem w_cd_yX2_isSound : (Cond.code yX2_isSound cX2_isSound 2 (some .boolean) : Cond) ∈ TB := tseg_3 (List.mem_of_getElem? (i := 46) rfl) rfl
theorem w_ml_RX2_57 : (Cond.methodLink RX2 57 yX2_judgeUpTo : Cond) ∈ TB := tseg_3 (List.mem_of_getElem? (i := 47) rfl) rfl
theorem w_im_yX2_judgeUpTo : (Cond.instanceMethod yX2_judgeUpTo : Cond) ∈ TB := tseg_3 (List.mem_of_getElem? (i := 49) rfl) rfl
theorem w_se_yX2_judgeUpTo : (Cond.selects RX2 yX2_judgeUpTo yX2_judgeUpTo : Cond) ∈ TB := tprv_2 (q := (yX2_judgeUpTo, 5)) (List.mem_of_getElem? (i := 12) rfl)
theorem w_cd_yX2_judgeUpTo : (Cond.code yX2_judgeUpTo cX2_judgeUpTo 3 none : Cond) ∈ TB := tseg_3 (List.mem_of_getElem? (i := 50) rfl) rfl
theorem w_ml_RX2_71 : (Cond.methodLink RX2 71 Lib.Math.max.name : Cond) ∈ TB := tseg_3 (List.mem_of_getElem? (i := 63) rfl) rfl
theorem w_ml_RX2_68 : (Cond.methodLink RX2 68 yX5_reach : Cond) ∈ TB := tseg_3 (List.mem_of_getElem? (i := 51) rfl) rfl
theorem w_im_yX5_reach : (Cond.instanceMethod yX5_reach : Cond) ∈ TB := tseg_3 (List.mem_of_getElem? (i := 52) rfl) rfl
theorem w_se_yX5_reach : (Cond.selects RX5 yX5_reach yX5_reach : Cond) ∈ TB := tseg_3 (List.mem_of_getElem? (i := 53) rfl) rfl
theorem w_cd_yX5_reach : (Cond.code yX5_reach cX5_reach 3 none : Cond) ∈ TB := tseg_3 (List.mem_of_getElem? (i := 54) rfl) rfl
theorem w_ml_RX5_25 : (Cond.methodLink RX5 25 yJ7_copyOf_c38d5 : Cond) ∈ TB := tseg_3 (List.mem_of_getElem? (i := 55) rfl) rfl
theorem w_sta_yJ7_copyOf_c38d5 : (Cond.static yJ7_copyOf_c38d5 : Cond) ∈ TB := tseg_3 (List.mem_of_getElem? (i := 56) rfl) rfl
theorem w_cd_yJ7_copyOf_c38d5 : (Cond.code yJ7_copyOf_c38d5 cJ7_copyOf_c38d5 3 (some (.array .long)) : Cond) ∈ TB := tseg_3 (List.mem_of_getElem? (i := 57) rfl) rfl
theorem w_ml_RJ7_319 : (Cond.methodLink RJ7 319 ⟨"[J", "clone", "()Ljava/lang/Object;"⟩ : Cond) ∈ TB := tseg_3 (List.mem_of_getElem? (i := 58) rfl) rfl
theorem w_sam_J : (Cond.sameMethod "[J" "java/lang/Object" "clone" "()Ljava/lang/Object;" : Cond) ∈ TB := tseg_3 (List.mem_of_getElem? (i := 59) rfl) rfl
theorem w_se_J_clone_Ljava_lang_Object : (Cond.selects "[J" ⟨"[J", "clone", "()Ljava/lang/Object;"⟩ ⟨"java/lang/Object", "clone", "()Ljava/lang/Object;"⟩ : Cond) ∈ TB := tseg_3 (List.mem_of_getElem? (i := 60) rfl) rfl
theorem w_cl_RJ7_320 : (Cond.classLink RJ7 320 "[J" : Cond) ∈ TB := tseg_3 (List.mem_of_getElem? (i := 62) rfl) rfl
theorem w_ml_RX2_76 : (Cond.methodLink RX2 76 yJ7_copyOf_59c91 : Cond) ∈ TB := tseg_3 (List.mem_of_getElem? (i := 64) rfl) rfl
theorem w_ml_RX2_82 : (Cond.methodLink RX2 82 yX2_partsAreSound : Cond) ∈ TB := tseg_3 (List.mem_of_getElem? (i := 65) rfl) rfl
theorem w_im_yX2_partsAreSound : (Cond.instanceMethod yX2_partsAreSound : Cond) ∈ TB := tseg_3 (List.mem_of_getElem? (i := 67) rfl) rfl
theorem w_se_yX2_partsAreSound : (Cond.selects RX2 yX2_partsAreSound yX2_partsAreSound : Cond) ∈ TB := tprv_2 (q := (yX2_partsAreSound, 5)) (List.mem_of_getElem? (i := 13) rfl)
theorem w_cd_yX2_partsAreSound : (Cond.code yX2_partsAreSound cX2_partsAreSound 5 (some .boolean) : Cond) ∈ TB := tseg_3 (List.mem_of_getElem? (i := 68) rfl) rfl
theorem w_ml_RX2_92 : (Cond.methodLink RX2 92 yX2_partsOf : Cond) ∈ TB := tseg_3 (List.mem_of_getElem? (i := 69) rfl) rfl
theorem w_ml_RX2_86 : (Cond.methodLink RX2 86 yX2_goalFits : Cond) ∈ TB := tseg_3 (List.mem_of_getElem? (i := 70) rfl) rfl
theorem w_im_yX2_goalFits : (Cond.instanceMethod yX2_goalFits : Cond) ∈ TB := tseg_3 (List.mem_of_getElem? (i := 72) rfl) rfl
theorem w_se_yX2_goalFits : (Cond.selects RX2 yX2_goalFits yX2_goalFits : Cond) ∈ TB := tprv_2 (q := (yX2_goalFits, 5)) (List.mem_of_getElem? (i := 14) rfl)
theorem w_cd_yX2_goalFits : (Cond.code yX2_goalFits cX2_goalFits 6 (some .boolean) : Cond) ∈ TB := tseg_3 (List.mem_of_getElem? (i := 73) rfl) rfl
theorem w_ml_RX2_95 : (Cond.methodLink RX2 95 yX2_goalOf : Cond) ∈ TB := tseg_3 (List.mem_of_getElem? (i := 74) rfl) rfl
theorem w_ml_RX2_98 : (Cond.methodLink RX2 98 yX6_leftOf : Cond) ∈ TB := tseg_3 (List.mem_of_getElem? (i := 75) rfl) rfl
theorem w_ml_RX2_103 : (Cond.methodLink RX2 103 yX2_isWhole : Cond) ∈ TB := tseg_3 (List.mem_of_getElem? (i := 76) rfl) rfl
theorem w_im_yX2_isWhole : (Cond.instanceMethod yX2_isWhole : Cond) ∈ TB := tseg_3 (List.mem_of_getElem? (i := 78) rfl) rfl
theorem w_se_yX2_isWhole : (Cond.selects RX2 yX2_isWhole yX2_isWhole : Cond) ∈ TB := tprv_2 (q := (yX2_isWhole, 5)) (List.mem_of_getElem? (i := 15) rfl)
theorem w_cd_yX2_isWhole : (Cond.code yX2_isWhole cX2_isWhole 5 (some .boolean) : Cond) ∈ TB := tseg_3 (List.mem_of_getElem? (i := 79) rfl) rfl
theorem w_ml_RX2_110 : (Cond.methodLink RX2 110 yX6_isOf : Cond) ∈ TB := tseg_3 (List.mem_of_getElem? (i := 80) rfl) rfl
theorem w_im_yX6_isOf : (Cond.instanceMethod yX6_isOf : Cond) ∈ TB := tseg_3 (List.mem_of_getElem? (i := 81) rfl) rfl
theorem w_se_yX6_isOf : (Cond.selects RX6 yX6_isOf yX6_isOf : Cond) ∈ TB := tseg_3 (List.mem_of_getElem? (i := 82) rfl) rfl
theorem w_cd_yX6_isOf : (Cond.code yX6_isOf cX6_isOf 3 (some .boolean) : Cond) ∈ TB := tseg_3 (List.mem_of_getElem? (i := 83) rfl) rfl
theorem w_ml_RX2_107 : (Cond.methodLink RX2 107 yX6_rightOf : Cond) ∈ TB := tseg_3 (List.mem_of_getElem? (i := 84) rfl) rfl
theorem w_ml_RX2_89 : (Cond.methodLink RX2 89 yX2_gatherRests : Cond) ∈ TB := tseg_3 (List.mem_of_getElem? (i := 85) rfl) rfl
theorem w_im_yX2_gatherRests : (Cond.instanceMethod yX2_gatherRests : Cond) ∈ TB := tseg_3 (List.mem_of_getElem? (i := 87) rfl) rfl
theorem w_se_yX2_gatherRests : (Cond.selects RX2 yX2_gatherRests yX2_gatherRests : Cond) ∈ TB := tprv_3 (q := (yX2_gatherRests, 5)) (List.mem_of_getElem? (i := 0) rfl)
theorem w_cd_yX2_gatherRests : (Cond.code yX2_gatherRests cX2_gatherRests 7 none : Cond) ∈ TB := tseg_3 (List.mem_of_getElem? (i := 88) rfl) rfl
theorem w_ml_RX2_114 : (Cond.methodLink RX2 114 yX5_add : Cond) ∈ TB := tseg_3 (List.mem_of_getElem? (i := 89) rfl) rfl
theorem w_ml_RX2_118 : (Cond.methodLink RX2 118 yX5_merge : Cond) ∈ TB := tseg_3 (List.mem_of_getElem? (i := 90) rfl) rfl
theorem w_im_yX5_merge : (Cond.instanceMethod yX5_merge : Cond) ∈ TB := tseg_3 (List.mem_of_getElem? (i := 91) rfl) rfl
theorem w_se_yX5_merge : (Cond.selects RX5 yX5_merge yX5_merge : Cond) ∈ TB := tseg_3 (List.mem_of_getElem? (i := 92) rfl) rfl
theorem w_cd_yX5_merge : (Cond.code yX5_merge cX5_merge 7 none : Cond) ∈ TB := tseg_3 (List.mem_of_getElem? (i := 93) rfl) rfl
theorem w_ml_RX7_84 : (Cond.methodLink RX7 84 yX7_asAnswer : Cond) ∈ TB := tseg_3 (List.mem_of_getElem? (i := 94) rfl) rfl
theorem w_sta_yX7_asAnswer : (Cond.static yX7_asAnswer : Cond) ∈ TB := tseg_3 (List.mem_of_getElem? (i := 95) rfl) rfl
theorem w_cd_yX7_asAnswer : (Cond.code yX7_asAnswer cX7_asAnswer 1 (some .int) : Cond) ∈ TB := tseg_3 (List.mem_of_getElem? (i := 96) rfl) rfl
theorem w_ml_RL_61 : (Cond.methodLink RL 61 yX8_wellMade : Cond) ∈ TB := tseg_4 (List.mem_of_getElem? (i := 153) rfl) rfl
theorem w_im_yX8_wellMade : (Cond.instanceMethod yX8_wellMade : Cond) ∈ TB := tseg_4 (List.mem_of_getElem? (i := 154) rfl) rfl
theorem w_se_yX8_wellMade : (Cond.selects RX8 yX8_wellMade yX8_wellMade : Cond) ∈ TB := tseg_4 (List.mem_of_getElem? (i := 155) rfl) rfl
theorem w_cd_yX8_wellMade : (Cond.code yX8_wellMade cX8_wellMade 2 (some .int) : Cond) ∈ TB := tseg_4 (List.mem_of_getElem? (i := 156) rfl) rfl
theorem w_ml_RX8_212 : (Cond.methodLink RX8 212 yX8_isWell : Cond) ∈ TB := tseg_4 (List.mem_of_getElem? (i := 157) rfl) rfl
theorem w_im_yX8_isWell : (Cond.instanceMethod yX8_isWell : Cond) ∈ TB := tseg_4 (List.mem_of_getElem? (i := 159) rfl) rfl
theorem w_se_yX8_isWell : (Cond.selects RX8 yX8_isWell yX8_isWell : Cond) ∈ TB := tprv_4 (q := (yX8_isWell, 31)) (List.mem_of_getElem? (i := 13) rfl)
theorem w_cd_yX8_isWell : (Cond.code yX8_isWell cX8_isWell 4 (some .boolean) : Cond) ∈ TB := tseg_4 (List.mem_of_getElem? (i := 160) rfl) rfl
theorem w_ml_RX8_206 : (Cond.methodLink RX8 206 yX8_mark : Cond) ∈ TB := tseg_4 (List.mem_of_getElem? (i := 161) rfl) rfl
theorem w_im_yX8_mark : (Cond.instanceMethod yX8_mark : Cond) ∈ TB := tseg_4 (List.mem_of_getElem? (i := 163) rfl) rfl
theorem w_se_yX8_mark : (Cond.selects RX8 yX8_mark yX8_mark : Cond) ∈ TB := tprv_4 (q := (yX8_mark, 31)) (List.mem_of_getElem? (i := 14) rfl)
theorem w_cd_yX8_mark : (Cond.code yX8_mark cX8_mark 3 none : Cond) ∈ TB := tseg_4 (List.mem_of_getElem? (i := 164) rfl) rfl
theorem w_ml_RX8_209 : (Cond.methodLink RX8 209 yX8_fits : Cond) ∈ TB := tseg_4 (List.mem_of_getElem? (i := 165) rfl) rfl
theorem w_im_yX8_fits : (Cond.instanceMethod yX8_fits : Cond) ∈ TB := tseg_4 (List.mem_of_getElem? (i := 167) rfl) rfl
theorem w_se_yX8_fits : (Cond.selects RX8 yX8_fits yX8_fits : Cond) ∈ TB := tprv_4 (q := (yX8_fits, 31)) (List.mem_of_getElem? (i := 15) rfl)
theorem w_cd_yX8_fits : (Cond.code yX8_fits cX8_fits 5 (some .boolean) : Cond) ∈ TB := tseg_4 (List.mem_of_getElem? (i := 168) rfl) rfl
theorem w_ml_RX8_202 : (Cond.methodLink RX8 202 yX8_isThat : Cond) ∈ TB := tseg_4 (List.mem_of_getElem? (i := 169) rfl) rfl
theorem w_im_yX8_isThat : (Cond.instanceMethod yX8_isThat : Cond) ∈ TB := tseg_4 (List.mem_of_getElem? (i := 171) rfl) rfl
theorem w_se_yX8_isThat : (Cond.selects RX8 yX8_isThat yX8_isThat : Cond) ∈ TB := tprv_5 (q := (yX8_isThat, 31)) (List.mem_of_getElem? (i := 0) rfl)
theorem w_cd_yX8_isThat : (Cond.code yX8_isThat cX8_isThat 5 (some .boolean) : Cond) ∈ TB := tseg_4 (List.mem_of_getElem? (i := 172) rfl) rfl
theorem w_ml_RL_62 : (Cond.methodLink RL 62 yX7_rests : Cond) ∈ TB := tseg_3 (List.mem_of_getElem? (i := 97) rfl) rfl
theorem w_im_yX7_rests : (Cond.instanceMethod yX7_rests : Cond) ∈ TB := tseg_3 (List.mem_of_getElem? (i := 98) rfl) rfl
theorem w_se_yX7_rests : (Cond.selects RX7 yX7_rests yX7_rests : Cond) ∈ TB := tseg_3 (List.mem_of_getElem? (i := 99) rfl) rfl
theorem w_cd_yX7_rests : (Cond.code yX7_rests cX7_rests 2 (some .int) : Cond) ∈ TB := tseg_3 (List.mem_of_getElem? (i := 100) rfl) rfl
theorem w_ml_RX7_88 : (Cond.methodLink RX7 88 yX2_restCount : Cond) ∈ TB := tseg_3 (List.mem_of_getElem? (i := 101) rfl) rfl
theorem w_im_yX2_restCount : (Cond.instanceMethod yX2_restCount : Cond) ∈ TB := tseg_3 (List.mem_of_getElem? (i := 102) rfl) rfl
theorem w_se_yX2_restCount : (Cond.selects RX2 yX2_restCount yX2_restCount : Cond) ∈ TB := tseg_3 (List.mem_of_getElem? (i := 103) rfl) rfl
theorem w_cd_yX2_restCount : (Cond.code yX2_restCount cX2_restCount 2 (some .int) : Cond) ∈ TB := tseg_3 (List.mem_of_getElem? (i := 104) rfl) rfl
theorem w_ml_RX2_60 : (Cond.methodLink RX2 60 yX5_count : Cond) ∈ TB := tseg_3 (List.mem_of_getElem? (i := 105) rfl) rfl
theorem w_im_yX5_count : (Cond.instanceMethod yX5_count : Cond) ∈ TB := tseg_3 (List.mem_of_getElem? (i := 106) rfl) rfl
theorem w_se_yX5_count : (Cond.selects RX5 yX5_count yX5_count : Cond) ∈ TB := tseg_3 (List.mem_of_getElem? (i := 107) rfl) rfl
theorem w_cd_yX5_count : (Cond.code yX5_count cX5_count 4 (some .int) : Cond) ∈ TB := tseg_3 (List.mem_of_getElem? (i := 108) rfl) rfl
theorem w_ml_RL_65 : (Cond.methodLink RL 65 yX8_rests : Cond) ∈ TB := tseg_4 (List.mem_of_getElem? (i := 173) rfl) rfl
theorem w_im_yX8_rests : (Cond.instanceMethod yX8_rests : Cond) ∈ TB := tseg_4 (List.mem_of_getElem? (i := 174) rfl) rfl
theorem w_se_yX8_rests : (Cond.selects RX8 yX8_rests yX8_rests : Cond) ∈ TB := tseg_4 (List.mem_of_getElem? (i := 175) rfl) rfl
theorem w_cd_yX8_rests : (Cond.code yX8_rests cX8_rests 4 (some .int) : Cond) ∈ TB := tseg_4 (List.mem_of_getElem? (i := 176) rfl) rfl
theorem w_ml_RX8_218 : (Cond.methodLink RX8 218 yX8_next : Cond) ∈ TB := tseg_4 (List.mem_of_getElem? (i := 177) rfl) rfl
theorem w_im_yX8_next : (Cond.instanceMethod yX8_next : Cond) ∈ TB := tseg_4 (List.mem_of_getElem? (i := 179) rfl) rfl
theorem w_se_yX8_next : (Cond.selects RX8 yX8_next yX8_next : Cond) ∈ TB := tprv_5 (q := (yX8_next, 31)) (List.mem_of_getElem? (i := 1) rfl)
theorem w_cd_yX8_next : (Cond.code yX8_next cX8_next 6 (some .int) : Cond) ∈ TB := tseg_4 (List.mem_of_getElem? (i := 180) rfl) rfl
theorem w_ml_RX8_215 : (Cond.methodLink RX8 215 yX8_isOn : Cond) ∈ TB := tseg_4 (List.mem_of_getElem? (i := 181) rfl) rfl
theorem w_im_yX8_isOn : (Cond.instanceMethod yX8_isOn : Cond) ∈ TB := tseg_4 (List.mem_of_getElem? (i := 183) rfl) rfl
theorem w_se_yX8_isOn : (Cond.selects RX8 yX8_isOn yX8_isOn : Cond) ∈ TB := tprv_5 (q := (yX8_isOn, 31)) (List.mem_of_getElem? (i := 2) rfl)
theorem w_cd_yX8_isOn : (Cond.code yX8_isOn cX8_isOn 9 (some .boolean) : Cond) ∈ TB := tseg_4 (List.mem_of_getElem? (i := 184) rfl) rfl
theorem w_ml_RL_66 : (Cond.methodLink RL 66 yX7_restsOn : Cond) ∈ TB := tseg_3 (List.mem_of_getElem? (i := 109) rfl) rfl
theorem w_im_yX7_restsOn : (Cond.instanceMethod yX7_restsOn : Cond) ∈ TB := tseg_3 (List.mem_of_getElem? (i := 110) rfl) rfl
theorem w_se_yX7_restsOn : (Cond.selects RX7 yX7_restsOn yX7_restsOn : Cond) ∈ TB := tseg_3 (List.mem_of_getElem? (i := 111) rfl) rfl
theorem w_cd_yX7_restsOn : (Cond.code yX7_restsOn cX7_restsOn 4 (some .int) : Cond) ∈ TB := tseg_3 (List.mem_of_getElem? (i := 112) rfl) rfl
theorem w_ml_RX7_91 : (Cond.methodLink RX7 91 yX2_restAbove : Cond) ∈ TB := tseg_3 (List.mem_of_getElem? (i := 113) rfl) rfl
theorem w_im_yX2_restAbove : (Cond.instanceMethod yX2_restAbove : Cond) ∈ TB := tseg_3 (List.mem_of_getElem? (i := 114) rfl) rfl
theorem w_se_yX2_restAbove : (Cond.selects RX2 yX2_restAbove yX2_restAbove : Cond) ∈ TB := tseg_3 (List.mem_of_getElem? (i := 115) rfl) rfl
theorem w_cd_yX2_restAbove : (Cond.code yX2_restAbove cX2_restAbove 3 (some .int) : Cond) ∈ TB := tseg_3 (List.mem_of_getElem? (i := 116) rfl) rfl
theorem w_ml_RX2_64 : (Cond.methodLink RX2 64 yX5_leastShared : Cond) ∈ TB := tseg_3 (List.mem_of_getElem? (i := 117) rfl) rfl
theorem w_ml_RL_69 : (Cond.methodLink RL 69 yX8_restsOn : Cond) ∈ TB := tseg_4 (List.mem_of_getElem? (i := 185) rfl) rfl
theorem w_im_yX8_restsOn : (Cond.instanceMethod yX8_restsOn : Cond) ∈ TB := tseg_4 (List.mem_of_getElem? (i := 186) rfl) rfl
theorem w_se_yX8_restsOn : (Cond.selects RX8 yX8_restsOn yX8_restsOn : Cond) ∈ TB := tseg_4 (List.mem_of_getElem? (i := 187) rfl) rfl
theorem w_cd_yX8_restsOn : (Cond.code yX8_restsOn cX8_restsOn 4 (some .int) : Cond) ∈ TB := tseg_4 (List.mem_of_getElem? (i := 188) rfl) rfl
theorem w_ml_RL_70 : (Cond.methodLink RL 70 yX7_proves : Cond) ∈ TB := tseg_3 (List.mem_of_getElem? (i := 118) rfl) rfl
theorem w_im_yX7_proves : (Cond.instanceMethod yX7_proves : Cond) ∈ TB := tseg_3 (List.mem_of_getElem? (i := 119) rfl) rfl
theorem w_se_yX7_proves : (Cond.selects RX7 yX7_proves yX7_proves : Cond) ∈ TB := tseg_3 (List.mem_of_getElem? (i := 120) rfl) rfl
theorem w_cd_yX7_proves : (Cond.code yX7_proves cX7_proves 2 (some .int) : Cond) ∈ TB := tseg_3 (List.mem_of_getElem? (i := 121) rfl) rfl
theorem w_ml_RL_73 : (Cond.methodLink RL 73 yX8_proves : Cond) ∈ TB := tseg_4 (List.mem_of_getElem? (i := 189) rfl) rfl
theorem w_im_yX8_proves : (Cond.instanceMethod yX8_proves : Cond) ∈ TB := tseg_4 (List.mem_of_getElem? (i := 190) rfl) rfl
theorem w_se_yX8_proves : (Cond.selects RX8 yX8_proves yX8_proves : Cond) ∈ TB := tseg_4 (List.mem_of_getElem? (i := 191) rfl) rfl
theorem w_cd_yX8_proves : (Cond.code yX8_proves cX8_proves 2 (some .int) : Cond) ∈ TB := tseg_4 (List.mem_of_getElem? (i := 192) rfl) rfl
theorem w_ml_RL_74 : (Cond.methodLink RL 74 yX7_isTrue : Cond) ∈ TB := tseg_3 (List.mem_of_getElem? (i := 122) rfl) rfl
theorem w_im_yX7_isTrue : (Cond.instanceMethod yX7_isTrue : Cond) ∈ TB := tseg_3 (List.mem_of_getElem? (i := 123) rfl) rfl
theorem w_se_yX7_isTrue : (Cond.selects RX7 yX7_isTrue yX7_isTrue : Cond) ∈ TB := tseg_3 (List.mem_of_getElem? (i := 124) rfl) rfl
theorem w_cd_yX7_isTrue : (Cond.code yX7_isTrue cX7_isTrue 3 (some .int) : Cond) ∈ TB := tseg_3 (List.mem_of_getElem? (i := 125) rfl) rfl
theorem w_ml_RX7_94 : (Cond.methodLink RX7 94 yX6_holdsWhen : Cond) ∈ TB := tseg_3 (List.mem_of_getElem? (i := 126) rfl) rfl
theorem w_im_yX6_holdsWhen : (Cond.instanceMethod yX6_holdsWhen : Cond) ∈ TB := tseg_3 (List.mem_of_getElem? (i := 127) rfl) rfl
theorem w_se_yX6_holdsWhen : (Cond.selects RX6 yX6_holdsWhen yX6_holdsWhen : Cond) ∈ TB := tseg_3 (List.mem_of_getElem? (i := 128) rfl) rfl
theorem w_cd_yX6_holdsWhen : (Cond.code yX6_holdsWhen cX6_holdsWhen 4 (some .boolean) : Cond) ∈ TB := tseg_3 (List.mem_of_getElem? (i := 129) rfl) rfl
theorem w_ml_RX6_49 : (Cond.methodLink RX6 49 yX5_clear : Cond) ∈ TB := tseg_3 (List.mem_of_getElem? (i := 130) rfl) rfl
theorem w_ml_RX6_52 : (Cond.methodLink RX6 52 yX6_followsFromParts : Cond) ∈ TB := tseg_3 (List.mem_of_getElem? (i := 131) rfl) rfl
theorem w_im_yX6_followsFromParts : (Cond.instanceMethod yX6_followsFromParts : Cond) ∈ TB := tseg_3 (List.mem_of_getElem? (i := 133) rfl) rfl
theorem w_se_yX6_followsFromParts : (Cond.selects RX6 yX6_followsFromParts yX6_followsFromParts : Cond) ∈ TB := tprv_3 (q := (yX6_followsFromParts, 3)) (List.mem_of_getElem? (i := 1) rfl)
theorem w_cd_yX6_followsFromParts : (Cond.code yX6_followsFromParts cX6_followsFromParts 5 (some .boolean) : Cond) ∈ TB := tseg_3 (List.mem_of_getElem? (i := 134) rfl) rfl
theorem w_ml_RX6_59 : (Cond.methodLink RX6 59 yX6_leftOf : Cond) ∈ TB := tseg_3 (List.mem_of_getElem? (i := 135) rfl) rfl
theorem w_ml_RX6_63 : (Cond.methodLink RX6 63 yX6_rightOf : Cond) ∈ TB := tseg_3 (List.mem_of_getElem? (i := 136) rfl) rfl
theorem w_ml_RX6_66 : (Cond.methodLink RX6 66 yX6_sortOf : Cond) ∈ TB := tseg_3 (List.mem_of_getElem? (i := 137) rfl) rfl
theorem w_ml_RX6_56 : (Cond.methodLink RX6 56 yX5_has : Cond) ∈ TB := tseg_3 (List.mem_of_getElem? (i := 138) rfl) rfl
theorem w_ml_RL_77 : (Cond.methodLink RL 77 yX8_isTrue : Cond) ∈ TB := tseg_4 (List.mem_of_getElem? (i := 193) rfl) rfl
theorem w_im_yX8_isTrue : (Cond.instanceMethod yX8_isTrue : Cond) ∈ TB := tseg_4 (List.mem_of_getElem? (i := 194) rfl) rfl
theorem w_se_yX8_isTrue : (Cond.selects RX8 yX8_isTrue yX8_isTrue : Cond) ∈ TB := tseg_4 (List.mem_of_getElem? (i := 195) rfl) rfl
theorem w_cd_yX8_isTrue : (Cond.code yX8_isTrue cX8_isTrue 6 (some .int) : Cond) ∈ TB := tseg_4 (List.mem_of_getElem? (i := 196) rfl) rfl
theorem w_lay_X0_0 : (Cond.lays RX0 "ProofSeeker$Derivation" "cells" "[I" : Cond) ∈ TB := tseg_1 (List.mem_of_getElem? (i := 29) rfl) rfl
theorem inlX0 : ∀ w ∈ u_ws RX0 TX0 1, w ∈ TB := by
  intro w hw
  obtain ⟨k, hk, rfl⟩ := List.mem_map.mp hw
  have hk2 := List.mem_range.mp hk
  match k, hk2 with
  | 0, _ => exact w_lay_X0_0
  | k + 1, h => exact absurd h (by omega)
theorem w_lay_X1_0 : (Cond.laysFinal RX1 "ProofSeeker$Kept" "most" "I" : Cond) ∈ TB := tseg_1 (List.mem_of_getElem? (i := 49) rfl) rfl
theorem w_lay_X1_1 : (Cond.laysFinal RX1 "ProofSeeker$Kept" "heads" "[I" : Cond) ∈ TB := tseg_1 (List.mem_of_getElem? (i := 51) rfl) rfl
theorem w_lay_X1_2 : (Cond.lays RX1 "ProofSeeker$Kept" "cells" "[I" : Cond) ∈ TB := tseg_1 (List.mem_of_getElem? (i := 53) rfl) rfl
theorem w_lay_X1_3 : (Cond.lays RX1 "ProofSeeker$Kept" "size" "I" : Cond) ∈ TB := tseg_1 (List.mem_of_getElem? (i := 55) rfl) rfl
theorem inlX1 : ∀ w ∈ u_ws RX1 TX1 4, w ∈ TB := by
  intro w hw
  obtain ⟨k, hk, rfl⟩ := List.mem_map.mp hw
  have hk2 := List.mem_range.mp hk
  match k, hk2 with
  | 0, _ => exact w_lay_X1_0
  | 1, _ => exact w_lay_X1_1
  | 2, _ => exact w_lay_X1_2
  | 3, _ => exact w_lay_X1_3
  | k + 4, h => exact absurd h (by omega)
theorem w_lay_X2_0 : (Cond.laysFinal RX2 "ProofSeeker$NodeStore" "statementStore" "LProofSeeker$StatementStore;" : Cond) ∈ TB := tseg_1 (List.mem_of_getElem? (i := 97) rfl) rfl
theorem w_lay_X2_1 : (Cond.laysFinal RX2 "ProofSeeker$NodeStore" "kept" "LProofSeeker$Kept;" : Cond) ∈ TB := tseg_1 (List.mem_of_getElem? (i := 99) rfl) rfl
theorem w_lay_X2_2 : (Cond.laysFinal RX2 "ProofSeeker$NodeStore" "rested" "LProofSeeker$Sets;" : Cond) ∈ TB := tseg_1 (List.mem_of_getElem? (i := 101) rfl) rfl
theorem w_lay_X2_3 : (Cond.lays RX2 "ProofSeeker$NodeStore" "sound" "[I" : Cond) ∈ TB := tseg_1 (List.mem_of_getElem? (i := 103) rfl) rfl
theorem w_lay_X2_4 : (Cond.lays RX2 "ProofSeeker$NodeStore" "judged" "I" : Cond) ∈ TB := tseg_1 (List.mem_of_getElem? (i := 105) rfl) rfl
theorem inlX2 : ∀ w ∈ u_ws RX2 TX2 5, w ∈ TB := by
  intro w hw
  obtain ⟨k, hk, rfl⟩ := List.mem_map.mp hw
  have hk2 := List.mem_range.mp hk
  match k, hk2 with
  | 0, _ => exact w_lay_X2_0
  | 1, _ => exact w_lay_X2_1
  | 2, _ => exact w_lay_X2_2
  | 3, _ => exact w_lay_X2_3
  | 4, _ => exact w_lay_X2_4
  | k + 5, h => exact absurd h (by omega)
theorem w_lay_X3_0 : (Cond.laysFinal RX3 "ProofSeeker$ProofMaker" "statementStore" "LProofSeeker$StatementStore;" : Cond) ∈ TB := tseg_1 (List.mem_of_getElem? (i := 142) rfl) rfl
theorem w_lay_X3_1 : (Cond.laysFinal RX3 "ProofSeeker$ProofMaker" "nodeStore" "LProofSeeker$NodeStore;" : Cond) ∈ TB := tseg_1 (List.mem_of_getElem? (i := 144) rfl) rfl
theorem w_lay_X3_2 : (Cond.laysFinal RX3 "ProofSeeker$ProofMaker" "derivation" "LProofSeeker$Derivation;" : Cond) ∈ TB := tseg_1 (List.mem_of_getElem? (i := 146) rfl) rfl
theorem w_lay_X3_3 : (Cond.lays RX3 "ProofSeeker$ProofMaker" "full" "Z" : Cond) ∈ TB := tseg_1 (List.mem_of_getElem? (i := 148) rfl) rfl
theorem inlX3 : ∀ w ∈ u_ws RX3 TX3 4, w ∈ TB := by
  intro w hw
  obtain ⟨k, hk, rfl⟩ := List.mem_map.mp hw
  have hk2 := List.mem_range.mp hk
  match k, hk2 with
  | 0, _ => exact w_lay_X3_0
  | 1, _ => exact w_lay_X3_1
  | 2, _ => exact w_lay_X3_2
  | 3, _ => exact w_lay_X3_3
  | k + 4, h => exact absurd h (by omega)
theorem w_lay_X4_0 : (Cond.laysFinal RX4 "ProofSeeker$Search" "statementStore" "LProofSeeker$StatementStore;" : Cond) ∈ TB := tseg_1 (List.mem_of_getElem? (i := 121) rfl) rfl
theorem w_lay_X4_1 : (Cond.laysFinal RX4 "ProofSeeker$Search" "derivation" "LProofSeeker$Derivation;" : Cond) ∈ TB := tseg_1 (List.mem_of_getElem? (i := 123) rfl) rfl
theorem w_lay_X4_2 : (Cond.laysFinal RX4 "ProofSeeker$Search" "given" "LProofSeeker$Sets;" : Cond) ∈ TB := tseg_1 (List.mem_of_getElem? (i := 125) rfl) rfl
theorem w_lay_X4_3 : (Cond.lays RX4 "ProofSeeker$Search" "fuel" "I" : Cond) ∈ TB := tseg_1 (List.mem_of_getElem? (i := 127) rfl) rfl
theorem w_lay_X4_4 : (Cond.lays RX4 "ProofSeeker$Search" "spent" "I" : Cond) ∈ TB := tseg_1 (List.mem_of_getElem? (i := 129) rfl) rfl
theorem inlX4 : ∀ w ∈ u_ws RX4 TX4 5, w ∈ TB := by
  intro w hw
  obtain ⟨k, hk, rfl⟩ := List.mem_map.mp hw
  have hk2 := List.mem_range.mp hk
  match k, hk2 with
  | 0, _ => exact w_lay_X4_0
  | 1, _ => exact w_lay_X4_1
  | 2, _ => exact w_lay_X4_2
  | 3, _ => exact w_lay_X4_3
  | 4, _ => exact w_lay_X4_4
  | k + 5, h => exact absurd h (by omega)
theorem w_lay_X5_0 : (Cond.lays RX5 "ProofSeeker$Sets" "words" "[J" : Cond) ∈ TB := tseg_1 (List.mem_of_getElem? (i := 66) rfl) rfl
theorem w_lay_X5_1 : (Cond.lays RX5 "ProofSeeker$Sets" "top" "I" : Cond) ∈ TB := tseg_1 (List.mem_of_getElem? (i := 68) rfl) rfl
theorem inlX5 : ∀ w ∈ u_ws RX5 TX5 2, w ∈ TB := by
  intro w hw
  obtain ⟨k, hk, rfl⟩ := List.mem_map.mp hw
  have hk2 := List.mem_range.mp hk
  match k, hk2 with
  | 0, _ => exact w_lay_X5_0
  | 1, _ => exact w_lay_X5_1
  | k + 2, h => exact absurd h (by omega)
theorem w_lay_X6_0 : (Cond.laysFinal RX6 "ProofSeeker$StatementStore" "kept" "LProofSeeker$Kept;" : Cond) ∈ TB := tseg_1 (List.mem_of_getElem? (i := 75) rfl) rfl
theorem w_lay_X6_1 : (Cond.laysFinal RX6 "ProofSeeker$StatementStore" "kinds" "LProofSeeker$Sets;" : Cond) ∈ TB := tseg_1 (List.mem_of_getElem? (i := 77) rfl) rfl
theorem w_lay_X6_2 : (Cond.laysFinal RX6 "ProofSeeker$StatementStore" "trueOnes" "LProofSeeker$Sets;" : Cond) ∈ TB := tseg_1 (List.mem_of_getElem? (i := 79) rfl) rfl
theorem inlX6 : ∀ w ∈ u_ws RX6 TX6 3, w ∈ TB := by
  intro w hw
  obtain ⟨k, hk, rfl⟩ := List.mem_map.mp hw
  have hk2 := List.mem_range.mp hk
  match k, hk2 with
  | 0, _ => exact w_lay_X6_0
  | 1, _ => exact w_lay_X6_1
  | 2, _ => exact w_lay_X6_2
  | k + 3, h => exact absurd h (by omega)
theorem w_lay_X7_0 : (Cond.laysFinal RX7 "ProofSeeker" "statementStore" "LProofSeeker$StatementStore;" : Cond) ∈ TB := tseg_1 (List.mem_of_getElem? (i := 155) rfl) rfl
theorem w_lay_X7_1 : (Cond.laysFinal RX7 "ProofSeeker" "nodeStore" "LProofSeeker$NodeStore;" : Cond) ∈ TB := tseg_1 (List.mem_of_getElem? (i := 157) rfl) rfl
theorem w_lay_X7_2 : (Cond.laysFinal RX7 "ProofSeeker" "search" "LProofSeeker$Search;" : Cond) ∈ TB := tseg_1 (List.mem_of_getElem? (i := 159) rfl) rfl
theorem w_lay_X7_3 : (Cond.laysFinal RX7 "ProofSeeker" "proofMaker" "LProofSeeker$ProofMaker;" : Cond) ∈ TB := tseg_1 (List.mem_of_getElem? (i := 161) rfl) rfl
theorem inlX7 : ∀ w ∈ u_ws RX7 TX7 4, w ∈ TB := by
  intro w hw
  obtain ⟨k, hk, rfl⟩ := List.mem_map.mp hw
  have hk2 := List.mem_range.mp hk
  match k, hk2 with
  | 0, _ => exact w_lay_X7_0
  | 1, _ => exact w_lay_X7_1
  | 2, _ => exact w_lay_X7_2
  | 3, _ => exact w_lay_X7_3
  | k + 4, h => exact absurd h (by omega)
theorem w_lay_X8_0 : (Cond.laysFinal RX8 "ProofSeekerModel" "sorts" "[I" : Cond) ∈ TB := tseg_3 (List.mem_of_getElem? (i := 177) rfl) rfl
theorem w_lay_X8_1 : (Cond.laysFinal RX8 "ProofSeekerModel" "lefts" "[I" : Cond) ∈ TB := tseg_3 (List.mem_of_getElem? (i := 179) rfl) rfl
theorem w_lay_X8_2 : (Cond.laysFinal RX8 "ProofSeekerModel" "rights" "[I" : Cond) ∈ TB := tseg_3 (List.mem_of_getElem? (i := 181) rfl) rfl
theorem w_lay_X8_3 : (Cond.lays RX8 "ProofSeekerModel" "count" "I" : Cond) ∈ TB := tseg_3 (List.mem_of_getElem? (i := 183) rfl) rfl
theorem w_lay_X8_4 : (Cond.laysFinal RX8 "ProofSeekerModel" "tags" "[I" : Cond) ∈ TB := tseg_3 (List.mem_of_getElem? (i := 185) rfl) rfl
theorem w_lay_X8_5 : (Cond.laysFinal RX8 "ProofSeekerModel" "goals" "[I" : Cond) ∈ TB := tseg_3 (List.mem_of_getElem? (i := 187) rfl) rfl
theorem w_lay_X8_6 : (Cond.laysFinal RX8 "ProofSeekerModel" "firsts" "[I" : Cond) ∈ TB := tseg_3 (List.mem_of_getElem? (i := 189) rfl) rfl
theorem w_lay_X8_7 : (Cond.laysFinal RX8 "ProofSeekerModel" "seconds" "[I" : Cond) ∈ TB := tseg_3 (List.mem_of_getElem? (i := 191) rfl) rfl
theorem w_lay_X8_8 : (Cond.laysFinal RX8 "ProofSeekerModel" "thirds" "[I" : Cond) ∈ TB := tseg_3 (List.mem_of_getElem? (i := 193) rfl) rfl
theorem w_lay_X8_9 : (Cond.lays RX8 "ProofSeekerModel" "nodes" "I" : Cond) ∈ TB := tseg_3 (List.mem_of_getElem? (i := 195) rfl) rfl
theorem w_lay_X8_10 : (Cond.lays RX8 "ProofSeekerModel" "used" "I" : Cond) ∈ TB := tseg_3 (List.mem_of_getElem? (i := 197) rfl) rfl
theorem w_lay_X8_11 : (Cond.lays RX8 "ProofSeekerModel" "over" "I" : Cond) ∈ TB := tseg_3 (List.mem_of_getElem? (i := 199) rfl) rfl
theorem w_lay_X8_12 : (Cond.laysFinal RX8 "ProofSeekerModel" "given" "[B" : Cond) ∈ TB := tseg_3 (List.mem_of_getElem? (i := 201) rfl) rfl
theorem w_lay_X8_13 : (Cond.laysFinal RX8 "ProofSeekerModel" "wants" "[I" : Cond) ∈ TB := tseg_3 (List.mem_of_getElem? (i := 203) rfl) rfl
theorem w_lay_X8_14 : (Cond.laysFinal RX8 "ProofSeekerModel" "steps" "[I" : Cond) ∈ TB := tseg_3 (List.mem_of_getElem? (i := 205) rfl) rfl
theorem w_lay_X8_15 : (Cond.laysFinal RX8 "ProofSeekerModel" "phases" "[I" : Cond) ∈ TB := tseg_3 (List.mem_of_getElem? (i := 207) rfl) rfl
theorem w_lay_X8_16 : (Cond.laysFinal RX8 "ProofSeekerModel" "tried" "[I" : Cond) ∈ TB := tseg_3 (List.mem_of_getElem? (i := 209) rfl) rfl
theorem w_lay_X8_17 : (Cond.lays RX8 "ProofSeekerModel" "deep" "I" : Cond) ∈ TB := tseg_3 (List.mem_of_getElem? (i := 211) rfl) rfl
theorem w_lay_X8_18 : (Cond.laysFinal RX8 "ProofSeekerModel" "rules" "[I" : Cond) ∈ TB := tseg_3 (List.mem_of_getElem? (i := 213) rfl) rfl
theorem w_lay_X8_19 : (Cond.laysFinal RX8 "ProofSeekerModel" "abouts" "[I" : Cond) ∈ TB := tseg_3 (List.mem_of_getElem? (i := 215) rfl) rfl
theorem w_lay_X8_20 : (Cond.laysFinal RX8 "ProofSeekerModel" "aims" "[I" : Cond) ∈ TB := tseg_3 (List.mem_of_getElem? (i := 217) rfl) rfl
theorem w_lay_X8_21 : (Cond.laysFinal RX8 "ProofSeekerModel" "ones" "[I" : Cond) ∈ TB := tseg_3 (List.mem_of_getElem? (i := 219) rfl) rfl
theorem w_lay_X8_22 : (Cond.laysFinal RX8 "ProofSeekerModel" "twos" "[I" : Cond) ∈ TB := tseg_3 (List.mem_of_getElem? (i := 221) rfl) rfl
theorem w_lay_X8_23 : (Cond.lays RX8 "ProofSeekerModel" "closed" "I" : Cond) ∈ TB := tseg_3 (List.mem_of_getElem? (i := 223) rfl) rfl
theorem w_lay_X8_24 : (Cond.laysFinal RX8 "ProofSeekerModel" "pile" "[I" : Cond) ∈ TB := tseg_3 (List.mem_of_getElem? (i := 225) rfl) rfl
theorem w_lay_X8_25 : (Cond.laysFinal RX8 "ProofSeekerModel" "states" "[I" : Cond) ∈ TB := tseg_3 (List.mem_of_getElem? (i := 227) rfl) rfl
theorem w_lay_X8_26 : (Cond.laysFinal RX8 "ProofSeekerModel" "befores" "[I" : Cond) ∈ TB := tseg_3 (List.mem_of_getElem? (i := 229) rfl) rfl
theorem w_lay_X8_27 : (Cond.laysFinal RX8 "ProofSeekerModel" "parts" "[I" : Cond) ∈ TB := tseg_3 (List.mem_of_getElem? (i := 231) rfl) rfl
theorem w_lay_X8_28 : (Cond.laysFinal RX8 "ProofSeekerModel" "marks" "[Z" : Cond) ∈ TB := tseg_3 (List.mem_of_getElem? (i := 233) rfl) rfl
theorem w_lay_X8_29 : (Cond.laysFinal RX8 "ProofSeekerModel" "rest" "[Z" : Cond) ∈ TB := tseg_3 (List.mem_of_getElem? (i := 235) rfl) rfl
theorem w_lay_X8_30 : (Cond.laysFinal RX8 "ProofSeekerModel" "truths" "[Z" : Cond) ∈ TB := tseg_3 (List.mem_of_getElem? (i := 237) rfl) rfl
theorem inlX8 : ∀ w ∈ u_ws RX8 TX8 31, w ∈ TB := by
  intro w hw
  obtain ⟨k, hk, rfl⟩ := List.mem_map.mp hw
  have hk2 := List.mem_range.mp hk
  match k, hk2 with
  | 0, _ => exact w_lay_X8_0
  | 1, _ => exact w_lay_X8_1
  | 2, _ => exact w_lay_X8_2
  | 3, _ => exact w_lay_X8_3
  | 4, _ => exact w_lay_X8_4
  | 5, _ => exact w_lay_X8_5
  | 6, _ => exact w_lay_X8_6
  | 7, _ => exact w_lay_X8_7
  | 8, _ => exact w_lay_X8_8
  | 9, _ => exact w_lay_X8_9
  | 10, _ => exact w_lay_X8_10
  | 11, _ => exact w_lay_X8_11
  | 12, _ => exact w_lay_X8_12
  | 13, _ => exact w_lay_X8_13
  | 14, _ => exact w_lay_X8_14
  | 15, _ => exact w_lay_X8_15
  | 16, _ => exact w_lay_X8_16
  | 17, _ => exact w_lay_X8_17
  | 18, _ => exact w_lay_X8_18
  | 19, _ => exact w_lay_X8_19
  | 20, _ => exact w_lay_X8_20
  | 21, _ => exact w_lay_X8_21
  | 22, _ => exact w_lay_X8_22
  | 23, _ => exact w_lay_X8_23
  | 24, _ => exact w_lay_X8_24
  | 25, _ => exact w_lay_X8_25
  | 26, _ => exact w_lay_X8_26
  | 27, _ => exact w_lay_X8_27
  | 28, _ => exact w_lay_X8_28
  | 29, _ => exact w_lay_X8_29
  | 30, _ => exact w_lay_X8_30
  | k + 31, h => exact absurd h (by omega)
theorem tb_good : ∀ w ∈ TB, ((w.onTables && w.keeps) = true ∨ ∃ ty, w = .arrayClass ty) := fun w hw => good_of_word (List.mem_filter.mp hw).2
theorem tb_hts {args : Array Value} {s : State} (h : ∀ w ∈ lw_tbl, w.before args s = true) : ∀ w ∈ TB, w.before args s = true := fun w hw => h w (List.mem_filter.mp hw).1
theorem tbI {cd : Cond} (h : cd ∈ TB) : GoodIn TB (cd :: TB) := fun w hw => by
  rcases List.mem_cons.mp hw with rfl | hw
  · exact ⟨h, tb_good _ h⟩
  · exact ⟨hw, tb_good _ hw⟩
theorem tbV {own C : String} {idx : Nat} {y : MethodName} {cd : Cond} (h1 : Cond.methodLink own idx y ∈ TB) (h2 : Cond.instanceMethod y ∈ TB) (h3 : Cond.selects C y y ∈ TB) (h4 : Cond.initialized C ∈ TB) (h5 : cd ∈ TB) : GoodIn TB (wsV own idx C y (cd :: TB)) := by
  intro w hw
  have k : w ∈ TB := by
    simp only [wsV, List.mem_append, List.mem_cons, List.not_mem_nil, or_false] at hw
    rcases hw with (rfl | rfl | rfl | rfl) | rfl | hw <;> assumption
  exact ⟨k, tb_good w k⟩
theorem tbS {own : String} {idx : Nat} {y : MethodName} {cd : Cond} (h1 : Cond.methodLink own idx y ∈ TB) (h2 : Cond.static y ∈ TB) (h3 : Cond.initialized y.cls ∈ TB) (h5 : cd ∈ TB) : GoodIn TB (va_wsS own idx y (cd :: TB)) := by
  intro w hw
  have k : w ∈ TB := by
    simp only [va_wsS, List.mem_append, List.mem_cons, List.not_mem_nil, or_false] at hw
    rcases hw with (rfl | rfl | rfl) | rfl | hw <;> assumption
  exact ⟨k, tb_good w k⟩
abbrev uX0_init : List Cond := .code yX0_init cX0_init 1 none ::  TB
abbrev uX0_way : List Cond := .code yX0_way cX0_way 2 (some .int) ::  TB
abbrev uX0_ruleOf : List Cond := .code yX0_ruleOf cX0_ruleOf 1 (some .int) ::  TB
abbrev uX0_takenBy : List Cond := .code yX0_takenBy cX0_takenBy 1 (some .int) ::  TB
abbrev uX0_premisesOf : List Cond := .code yX0_premisesOf cX0_premisesOf 1 (some .int) ::  TB
abbrev uX0_read : List Cond := .code yX0_read cX0_read 4 (some .int) ::  TB
abbrev uX0_goalOf : List Cond := .code yX0_goalOf cX0_goalOf 2 (some .int) ::  TB
abbrev uX0_wayOf : List Cond := .code yX0_wayOf cX0_wayOf 2 (some .int) ::  TB
abbrev uX0_premiseOf : List Cond := .code yX0_premiseOf cX0_premiseOf 3 (some .int) ::  TB
abbrev uJ7_copyOf_59c91 : List Cond := .code yJ7_copyOf_59c91 cJ7_copyOf_59c91 3 (some (.array .int)) ::  TB
abbrev uX0_write : List Cond := .code yX0_write cX0_write 5 none ::  TB
abbrev uX0_begin : List Cond := .code yX0_begin cX0_begin 3 none ::  TB
abbrev uX0_setWay : List Cond := .code yX0_setWay cX0_setWay 3 none ::  TB
abbrev uX0_setPremise : List Cond := .code yX0_setPremise cX0_setPremise 4 none ::  TB
abbrev uX1_init : List Cond := .code yX1_init cX1_init 2 none ::  TB
abbrev uX1_size : List Cond := .code yX1_size cX1_size 1 (some .int) ::  TB
abbrev uX1_get : List Cond := .code yX1_get cX1_get 4 (some .int) ::  TB
abbrev uX1_bucketOf : List Cond := .code yX1_bucketOf cX1_bucketOf 6 (some .int) ::  TB
abbrev uX1_find : List Cond := .code yX1_find cX1_find 9 (some .int) ::  TB
abbrev uX1_append : List Cond := .code yX1_append cX1_append 8 (some .int) ::  TB
abbrev uX5_init : List Cond := .code yX5_init cX5_init 2 none ::  TB
abbrev uX2_init : List Cond := .code yX2_init cX2_init 2 none ::  TB
abbrev uX2_partsOf : List Cond := .code yX2_partsOf cX2_partsOf 1 (some .int) ::  TB
abbrev uX2_size : List Cond := .code yX2_size cX2_size 1 (some .int) ::  TB
abbrev uX2_holds : List Cond := .code yX2_holds cX2_holds 2 (some .boolean) ::  TB
abbrev uX2_read : List Cond := .code yX2_read cX2_read 3 (some .int) ::  TB
abbrev uX2_goalOf : List Cond := .code yX2_goalOf cX2_goalOf 2 (some .int) ::  TB
abbrev uX2_make : List Cond := .code yX2_make cX2_make 7 (some .int) ::  TB
abbrev uJ7_copyOf_c38d5 : List Cond := .code yJ7_copyOf_c38d5 cJ7_copyOf_c38d5 3 (some (.array .long)) ::  TB
abbrev uX5_reach : List Cond := .code yX5_reach cX5_reach 3 none ::  TB
abbrev uX2_partsAreSound : List Cond := .code yX2_partsAreSound cX2_partsAreSound 5 (some .boolean) ::  TB
abbrev uX6_leftOf : List Cond := .code yX6_leftOf cX6_leftOf 2 (some .int) ::  TB
abbrev uX6_isOf : List Cond := .code yX6_isOf cX6_isOf 3 (some .boolean) ::  TB
abbrev uX6_rightOf : List Cond := .code yX6_rightOf cX6_rightOf 2 (some .int) ::  TB
abbrev uX2_isWhole : List Cond := .code yX2_isWhole cX2_isWhole 5 (some .boolean) ::  TB
abbrev uX2_goalFits : List Cond := .code yX2_goalFits cX2_goalFits 6 (some .boolean) ::  TB
abbrev uX5_isInside : List Cond := .code yX5_isInside cX5_isInside 3 (some .boolean) ::  TB
abbrev uX5_add : List Cond := .code yX5_add cX5_add 3 none ::  TB
abbrev uX5_isRow : List Cond := .code yX5_isRow cX5_isRow 2 (some .boolean) ::  TB
abbrev uX5_merge : List Cond := .code yX5_merge cX5_merge 7 none ::  TB
abbrev uX2_gatherRests : List Cond := .code yX2_gatherRests cX2_gatherRests 7 none ::  TB
abbrev uX2_judgeUpTo : List Cond := .code yX2_judgeUpTo cX2_judgeUpTo 3 none ::  TB
abbrev uX2_isSound : List Cond := .code yX2_isSound cX2_isSound 2 (some .boolean) ::  TB
abbrev uJ13_bitCount_95d88 : List Cond := .code yJ13_bitCount_95d88 cJ13_bitCount_95d88 2 (some .int) ::  TB
abbrev uX5_count : List Cond := .code yX5_count cX5_count 4 (some .int) ::  TB
abbrev uX2_restCount : List Cond := .code yX2_restCount cX2_restCount 2 (some .int) ::  TB
abbrev uX5_leastShared : List Cond := .code yX5_leastShared cX5_leastShared 10 (some .int) ::  TB
abbrev uX2_restAbove : List Cond := .code yX2_restAbove cX2_restAbove 3 (some .int) ::  TB
abbrev uX3_init : List Cond := .code yX3_init cX3_init 4 none ::  TB
abbrev uX3_noted : List Cond := .code yX3_noted cX3_noted 2 (some .int) ::  TB
abbrev uX3_given : List Cond := .code yX3_given cX3_given 2 (some .int) ::  TB
abbrev uX3_make : List Cond := .code yX3_make cX3_make 6 (some .int) ::  TB
abbrev uX6_make : List Cond := .code yX6_make cX6_make 6 (some .int) ::  TB
abbrev uX3_lambda : List Cond := .code yX3_lambda cX3_lambda 4 (some .int) ::  TB
abbrev uX3_apply : List Cond := .code yX3_apply cX3_apply 4 (some .int) ::  TB
abbrev uX3_unpack : List Cond := .code yX3_unpack cX3_unpack 5 (some .int) ::  TB
abbrev uX3_fire : List Cond := .code yX3_fire cX3_fire 3 (some .int) ::  TB
abbrev uX6_find : List Cond := .code yX6_find cX6_find 4 (some .int) ::  TB
abbrev uX3_implication : List Cond := .code yX3_implication cX3_implication 3 (some .int) ::  TB
abbrev uX3_uncurry : List Cond := .code yX3_uncurry cX3_uncurry 7 (some .int) ::  TB
abbrev uX3_rejoin : List Cond := .code yX3_rejoin cX3_rejoin 8 (some .int) ::  TB
abbrev uX3_nest : List Cond := .code yX3_nest cX3_nest 10 (some .int) ::  TB
abbrev uX3_build : List Cond := .code yX3_build cX3_build 8 (some .int) ::  TB
abbrev uX3_makeAll : List Cond := .code yX3_makeAll cX3_makeAll 2 (some .int) ::  TB
abbrev uX4_init : List Cond := .code yX4_init cX4_init 3 none ::  TB
abbrev uX4_fuelSpent : List Cond := .code yX4_fuelSpent cX4_fuelSpent 1 (some .int) ::  TB
abbrev uJ7_rangeCheck_23922 : List Cond := .code yJ7_rangeCheck_23922 cJ7_rangeCheck_23922 3 none ::  TB
abbrev uJ7_fill_bad5a : List Cond := .code yJ7_fill_bad5a cJ7_fill_bad5a 6 none ::  TB
abbrev uX5_clear : List Cond := .code yX5_clear cX5_clear 2 none ::  TB
abbrev uX5_copy : List Cond := .code yX5_copy cX5_copy 3 none ::  TB
abbrev uX5_remove : List Cond := .code yX5_remove cX5_remove 3 none ::  TB
abbrev uX4_bringNew : List Cond := .code yX4_bringNew cX4_bringNew 12 (some .boolean) ::  TB
abbrev uX4_bringParts : List Cond := .code yX4_bringParts cX4_bringParts 7 none ::  TB
abbrev uX4_goalOfPremise : List Cond := .code yX4_goalOfPremise cX4_goalOfPremise 5 (some .int) ::  TB
abbrev uX5_has : List Cond := .code yX5_has cX5_has 3 (some .boolean) ::  TB
abbrev uX6_byKind : List Cond := .code yX6_byKind cX6_byKind 1 (some (.object "ProofSeeker$Sets")) ::  TB
abbrev uX4_leastOfKind : List Cond := .code yX4_leastOfKind cX4_leastOfKind 4 (some .int) ::  TB
abbrev uX6_sortOf : List Cond := .code yX6_sortOf cX6_sortOf 2 (some .int) ::  TB
abbrev uX4_wayByGoal : List Cond := .code yX4_wayByGoal cX4_wayByGoal 4 (some .int) ::  TB
abbrev uX4_leastFired : List Cond := .code yX4_leastFired cX4_leastFired 5 (some .int) ::  TB
abbrev uX4_wayByGiven : List Cond := .code yX4_wayByGiven cX4_wayByGiven 3 (some .int) ::  TB
abbrev uX4_nestedAbove : List Cond := .code yX4_nestedAbove cX4_nestedAbove 4 (some .int) ::  TB
abbrev uX4_firstWay : List Cond := .code yX4_firstWay cX4_firstWay 4 (some .int) ::  TB
abbrev uX4_nextWay : List Cond := .code yX4_nextWay cX4_nextWay 3 (some .int) ::  TB
abbrev uX4_follow : List Cond := .code yX4_follow cX4_follow 10 (some .int) ::  TB
abbrev uX4_look : List Cond := .code yX4_look cX4_look 7 (some .int) ::  TB
abbrev uX4_run : List Cond := .code yX4_run cX4_run 4 (some .int) ::  TB
abbrev uX6_init : List Cond := .code yX6_init cX6_init 1 none ::  TB
abbrev uX6_size : List Cond := .code yX6_size cX6_size 1 (some .int) ::  TB
abbrev uX6_holds : List Cond := .code yX6_holds cX6_holds 2 (some .boolean) ::  TB
abbrev uX6_read : List Cond := .code yX6_read cX6_read 3 (some .int) ::  TB
abbrev uX6_followsFromParts : List Cond := .code yX6_followsFromParts cX6_followsFromParts 5 (some .boolean) ::  TB
abbrev uX6_holdsWhen : List Cond := .code yX6_holdsWhen cX6_holdsWhen 4 (some .boolean) ::  TB
abbrev uX7_init : List Cond := .code yX7_init cX7_init 2 none ::  TB
abbrev uX7_atom : List Cond := .code yX7_atom cX7_atom 2 (some .int) ::  TB
abbrev uX7_falsehood : List Cond := .code yX7_falsehood cX7_falsehood 1 (some .int) ::  TB
abbrev uX7_join : List Cond := .code yX7_join cX7_join 5 (some .int) ::  TB
abbrev uX7_told : List Cond := .code yX7_told cX7_told 4 (some .int) ::  TB
abbrev uX7_statements : List Cond := .code yX7_statements cX7_statements 1 (some .int) ::  TB
abbrev uX7_nodes : List Cond := .code yX7_nodes cX7_nodes 1 (some .int) ::  TB
abbrev uX7_prove : List Cond := .code yX7_prove cX7_prove 4 (some .int) ::  TB
abbrev uX7_used : List Cond := .code yX7_used cX7_used 1 (some .int) ::  TB
abbrev uX7_node : List Cond := .code yX7_node cX7_node 7 (some .int) ::  TB
abbrev uX7_of : List Cond := .code yX7_of cX7_of 4 (some .int) ::  TB
abbrev uX7_asAnswer : List Cond := .code yX7_asAnswer cX7_asAnswer 1 (some .int) ::  TB
abbrev uX7_wellMade : List Cond := .code yX7_wellMade cX7_wellMade 2 (some .int) ::  TB
abbrev uX7_rests : List Cond := .code yX7_rests cX7_rests 2 (some .int) ::  TB
abbrev uX7_restsOn : List Cond := .code yX7_restsOn cX7_restsOn 4 (some .int) ::  TB
abbrev uX7_proves : List Cond := .code yX7_proves cX7_proves 2 (some .int) ::  TB
abbrev uX7_isTrue : List Cond := .code yX7_isTrue cX7_isTrue 3 (some .int) ::  TB
abbrev uX8_init : List Cond := .code yX8_init cX8_init 1 none ::  TB
abbrev uX8_isStatement : List Cond := .code yX8_isStatement cX8_isStatement 2 (some .boolean) ::  TB
abbrev uX8_find : List Cond := .code yX8_find cX8_find 5 (some .int) ::  TB
abbrev uX8_make : List Cond := .code yX8_make cX8_make 5 (some .int) ::  TB
abbrev uX8_atom : List Cond := .code yX8_atom cX8_atom 2 (some .int) ::  TB
abbrev uX8_falsehood : List Cond := .code yX8_falsehood cX8_falsehood 1 (some .int) ::  TB
abbrev uX8_join : List Cond := .code yX8_join cX8_join 4 (some .int) ::  TB
abbrev uX8_told : List Cond := .code yX8_told cX8_told 3 (some .int) ::  TB
abbrev uX8_statements : List Cond := .code yX8_statements cX8_statements 1 (some .int) ::  TB
abbrev uX8_nodes : List Cond := .code yX8_nodes cX8_nodes 1 (some .int) ::  TB
abbrev uX8_implication : List Cond := .code yX8_implication cX8_implication 4 (some .int) ::  TB
abbrev uX8_has : List Cond := .code yX8_has cX8_has 3 (some .boolean) ::  TB
abbrev uX8_set : List Cond := .code yX8_set cX8_set 4 none ::  TB
abbrev uX8_open : List Cond := .code yX8_open cX8_open 3 none ::  TB
abbrev uX8_enter : List Cond := .code yX8_enter cX8_enter 2 none ::  TB
abbrev uX8_close : List Cond := .code yX8_close cX8_close 2 none ::  TB
abbrev uX8_isA : List Cond := .code yX8_isA cX8_isA 3 (some .boolean) ::  TB
abbrev uX8_least : List Cond := .code yX8_least cX8_least 6 (some .int) ::  TB
abbrev uX8_falseOne : List Cond := .code yX8_falseOne cX8_falseOne 2 (some .int) ::  TB
abbrev uX8_choose : List Cond := .code yX8_choose cX8_choose 5 none ::  TB
abbrev uX8_premise : List Cond := .code yX8_premise cX8_premise 9 none ::  TB
abbrev uX8_choices : List Cond := .code yX8_choices cX8_choices 8 none ::  TB
abbrev uX8_turn : List Cond := .code yX8_turn cX8_turn 6 none ::  TB
abbrev uX8_keep : List Cond := .code yX8_keep cX8_keep 7 (some .int) ::  TB
abbrev uX8_put : List Cond := .code yX8_put cX8_put 7 (some .int) ::  TB
abbrev uX8_l : List Cond := .code yX8_l cX8_l 3 (some .int) ::  TB
abbrev uX8_v : List Cond := .code yX8_v cX8_v 2 (some .int) ::  TB
abbrev uX8_a : List Cond := .code yX8_a cX8_a 3 (some .int) ::  TB
abbrev uX8_curried : List Cond := .code yX8_curried cX8_curried 9 (some .int) ::  TB
abbrev uX8_shared : List Cond := .code yX8_shared cX8_shared 10 (some .int) ::  TB
abbrev uX8_nested : List Cond := .code yX8_nested cX8_nested 9 (some .int) ::  TB
abbrev uX8_around : List Cond := .code yX8_around cX8_around 13 (some .int) ::  TB
abbrev uX8_lay : List Cond := .code yX8_lay cX8_lay 9 (some .int) ::  TB
abbrev uX8_prove : List Cond := .code yX8_prove cX8_prove 4 (some .int) ::  TB
abbrev uX8_used : List Cond := .code yX8_used cX8_used 1 (some .int) ::  TB
abbrev uX8_width : List Cond := .code yX8_width cX8_width 1 (some .int) ::  TB
abbrev uX8_isNode : List Cond := .code yX8_isNode cX8_isNode 2 (some .boolean) ::  TB
abbrev uX8_node : List Cond := .code yX8_node cX8_node 7 (some .int) ::  TB
abbrev uX8_of : List Cond := .code yX8_of cX8_of 3 (some .int) ::  TB
abbrev uX8_mark : List Cond := .code yX8_mark cX8_mark 3 none ::  TB
abbrev uX8_isThat : List Cond := .code yX8_isThat cX8_isThat 5 (some .boolean) ::  TB
abbrev uX8_fits : List Cond := .code yX8_fits cX8_fits 5 (some .boolean) ::  TB
abbrev uX8_isWell : List Cond := .code yX8_isWell cX8_isWell 4 (some .boolean) ::  TB
abbrev uX8_wellMade : List Cond := .code yX8_wellMade cX8_wellMade 2 (some .int) ::  TB
abbrev uX8_isOn : List Cond := .code yX8_isOn cX8_isOn 9 (some .boolean) ::  TB
abbrev uX8_next : List Cond := .code yX8_next cX8_next 6 (some .int) ::  TB
abbrev uX8_rests : List Cond := .code yX8_rests cX8_rests 4 (some .int) ::  TB
abbrev uX8_restsOn : List Cond := .code yX8_restsOn cX8_restsOn 4 (some .int) ::  TB
abbrev uX8_proves : List Cond := .code yX8_proves cX8_proves 2 (some .int) ::  TB
abbrev uX8_isTrue : List Cond := .code yX8_isTrue cX8_isTrue 6 (some .int) ::  TB
abbrev uJ9_max_7cf53 : List Cond := .code yJ9_max_7cf53 cJ9_max_7cf53 2 (some .int) ::  TB
abbrev uJ9_min_7cf53 : List Cond := .code yJ9_min_7cf53 cJ9_min_7cf53 2 (some .int) ::  TB
