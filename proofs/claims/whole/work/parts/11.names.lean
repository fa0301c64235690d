abbrev RR : String := "BlockWays$Rounds"
def TR : u_T := fun k => match k with
  | _ => ("BlockWays$Rounds", "blocks", "[J", true)
def tyR : Nat → FieldType := fun k => match k with
  | _ => .array .long
theorem nmR : ∀ a, a < 1 → ∀ b, b < 1 → a ≠ b → (TR a).2.1 ≠ (TR b).2.1 := by decide +kernel
theorem tokR : ∀ k, k < 1 → parseFieldDescriptor (TR k).2.2.1 = some (tyR k) := by decide +kernel
abbrev RS : String := "BlockWays$Spread"
def TS : u_T := fun k => match k with
  | 0 => ("BlockWays$Spread", "steps", "[J", true)
  | 1 => ("BlockWays$Spread", "gated", "[J", true)
  | _ => ("BlockWays$Spread", "covered", "J", false)
def tyS : Nat → FieldType := fun k => match k with
  | 0 => .array .long
  | 1 => .array .long
  | _ => .long
theorem nmS : ∀ a, a < 3 → ∀ b, b < 3 → a ≠ b → (TS a).2.1 ≠ (TS b).2.1 := by decide +kernel
theorem tokS : ∀ k, k < 3 → parseFieldDescriptor (TS k).2.2.1 = some (tyS k) := by decide +kernel
abbrev RB : String := "BlockWays"
def TB : u_T := fun k => match k with
  | 0 => ("BlockWays", "told", "J", false)
  | 1 => ("BlockWays", "targetCounts", "[I", true)
  | 2 => ("BlockWays", "onward", "LBlockWays$Spread;", true)
  | 3 => ("BlockWays", "backward", "LBlockWays$Spread;", true)
  | 4 => ("BlockWays", "rounds", "LBlockWays$Rounds;", true)
  | 5 => ("BlockWays", "onwardStale", "Z", false)
  | _ => ("BlockWays", "backwardStale", "Z", false)
def tyB : Nat → FieldType := fun k => match k with
  | 0 => .long
  | 1 => .array .int
  | 2 => .object "BlockWays$Spread"
  | 3 => .object "BlockWays$Spread"
  | 4 => .object "BlockWays$Rounds"
  | 5 => .boolean
  | _ => .boolean
theorem nmB : ∀ a, a < 7 → ∀ b, b < 7 → a ≠ b → (TB a).2.1 ≠ (TB b).2.1 := by decide +kernel
theorem tokB : ∀ k, k < 7 → parseFieldDescriptor (TB k).2.2.1 = some (tyB k) := by decide +kernel
abbrev RM : String := "BlockWaysModel"
def TM : u_T := fun k => match k with
  | 0 => ("BlockWaysModel", "thrown", "I", false)
  | 1 => ("BlockWaysModel", "there", "J", false)
  | 2 => ("BlockWaysModel", "many", "[I", true)
  | 3 => ("BlockWaysModel", "targets", "[I", true)
  | 4 => ("BlockWaysModel", "known", "Z", false)
  | 5 => ("BlockWaysModel", "steps", "[J", true)
  | 6 => ("BlockWaysModel", "reached", "J", false)
  | 7 => ("BlockWaysModel", "good", "J", false)
  | 8 => ("BlockWaysModel", "ends", "J", false)
  | 9 => ("BlockWaysModel", "over", "[J", true)
  | 10 => ("BlockWaysModel", "behind", "[J", true)
  | 11 => ("BlockWaysModel", "heads", "J", false)
  | 12 => ("BlockWaysModel", "rounds", "[J", true)
  | 13 => ("BlockWaysModel", "edges", "[J", true)
  | _ => ("BlockWaysModel", "plain", "Z", false)
def tyM : Nat → FieldType := fun k => match k with
  | 0 => .int
  | 1 => .long
  | 2 => .array .int
  | 3 => .array .int
  | 4 => .boolean
  | 5 => .array .long
  | 6 => .long
  | 7 => .long
  | 8 => .long
  | 9 => .array .long
  | 10 => .array .long
  | 11 => .long
  | 12 => .array .long
  | 13 => .array .long
  | _ => .boolean
theorem nmM : ∀ a, a < 15 → ∀ b, b < 15 → a ≠ b → (TM a).2.1 ≠ (TM b).2.1 := by decide +kernel
theorem tokM : ∀ k, k < 15 → parseFieldDescriptor (TM k).2.2.1 = some (tyM k) := by decide +kernel
abbrev RL : String := "BlockWaysLaw"
abbrev RJ : String := "java/lang/Long"
/-- the classes whose objects the worlds hold -/
abbrev vwCl : List vw_C := [(RR, TR, 1), (RS, TS, 3), (RB, TB, 7), (RM, TM, 15)]
abbrev yB_init : MethodName := ⟨RB, "<init>", "()V"⟩
abbrev cB_init : ByteArray := prog_1_method_1_code
abbrev yS_init : MethodName := ⟨RS, "<init>", "()V"⟩
abbrev cS_init : ByteArray := prog_3_method_1_code
abbrev yR_init : MethodName := ⟨RR, "<init>", "()V"⟩
abbrev cR_init : ByteArray := prog_2_method_1_code
abbrev yB_block : MethodName := ⟨RB, "block", "(I)Z"⟩
abbrev cB_block : ByteArray := prog_1_method_2_code
abbrev yB_isBlock : MethodName := ⟨RB, "isBlock", "(I)Z"⟩
abbrev cB_isBlock : ByteArray := prog_1_method_12_code
abbrev yB_has : MethodName := ⟨RB, "has", "(JI)Z"⟩
abbrev cB_has : ByteArray := prog_1_method_15_code
abbrev yB_bit : MethodName := ⟨RB, "bit", "(I)J"⟩
abbrev cB_bit : ByteArray := prog_1_method_14_code
abbrev yB_forgetAnswers : MethodName := ⟨RB, "forgetAnswers", "()V"⟩
abbrev cB_forgetAnswers : ByteArray := prog_1_method_17_code
abbrev yB_target : MethodName := ⟨RB, "target", "(II)Z"⟩
abbrev cB_target : ByteArray := prog_1_method_3_code
abbrev yB_isTold : MethodName := ⟨RB, "isTold", "(I)Z"⟩
abbrev cB_isTold : ByteArray := prog_1_method_13_code
abbrev yS_addStep : MethodName := ⟨RS, "addStep", "(II)V"⟩
abbrev cS_addStep : ByteArray := prog_3_method_2_code
abbrev yB_drop : MethodName := ⟨RB, "drop", "(I)Z"⟩
abbrev cB_drop : ByteArray := prog_1_method_4_code
abbrev yS_removeStepsFrom : MethodName := ⟨RS, "removeStepsFrom", "(I)V"⟩
abbrev cS_removeStepsFrom : ByteArray := prog_3_method_3_code
abbrev yS_removeStepsTo : MethodName := ⟨RS, "removeStepsTo", "(I)V"⟩
abbrev cS_removeStepsTo : ByteArray := prog_3_method_4_code
abbrev yB_count : MethodName := ⟨RB, "count", "(I)I"⟩
abbrev cB_count : ByteArray := prog_1_method_5_code
abbrev yJ_bitCount : MethodName := ⟨RJ, "bitCount", "(J)I"⟩
abbrev cJ_bitCount : ByteArray := prog_7_method_50_code
abbrev yB_freshOnward : MethodName := ⟨RB, "freshOnward", "()LBlockWays$Spread;"⟩
abbrev cB_freshOnward : ByteArray := prog_1_method_18_code
abbrev yB_renewOnward : MethodName := ⟨RB, "renewOnward", "()V"⟩
abbrev cB_renewOnward : ByteArray := prog_1_method_20_code
abbrev yS_renew : MethodName := ⟨RS, "renew", "(JJ)V"⟩
abbrev cS_renew : ByteArray := prog_3_method_5_code
abbrev yS_flood : MethodName := ⟨RS, "flood", "(JJ)J"⟩
abbrev cS_flood : ByteArray := prog_3_method_6_code
abbrev yB_lowest : MethodName := ⟨RB, "lowest", "(J)I"⟩
abbrev cB_lowest : ByteArray := prog_1_method_16_code
abbrev yR_renew : MethodName := ⟨RR, "renew", "(LBlockWays$Spread;LBlockWays$Spread;)V"⟩
abbrev cR_renew : ByteArray := prog_2_method_2_code
abbrev yS_stepsOf : MethodName := ⟨RS, "stepsOf", "(I)J"⟩
abbrev cS_stepsOf : ByteArray := prog_3_method_8_code
abbrev yS_gated : MethodName := ⟨RS, "gated", "(I)J"⟩
abbrev cS_gated : ByteArray := prog_3_method_9_code
abbrev yS_covered : MethodName := ⟨RS, "covered", "()J"⟩
abbrev cS_covered : ByteArray := prog_3_method_7_code
abbrev yB_freshBackward : MethodName := ⟨RB, "freshBackward", "()LBlockWays$Spread;"⟩
abbrev cB_freshBackward : ByteArray := prog_1_method_21_code
abbrev yB_ends : MethodName := ⟨RB, "ends", "()J"⟩
abbrev cB_ends : ByteArray := prog_1_method_22_code
abbrev yB_freshRounds : MethodName := ⟨RB, "freshRounds", "()LBlockWays$Rounds;"⟩
abbrev cB_freshRounds : ByteArray := prog_1_method_19_code
abbrev yR_number : MethodName := ⟨RR, "number", "()I"⟩
abbrev cR_number : ByteArray := prog_2_method_4_code
abbrev yR_deepest : MethodName := ⟨RR, "deepest", "()I"⟩
abbrev cR_deepest : ByteArray := prog_2_method_6_code
abbrev yR_numberAround : MethodName := ⟨RR, "numberAround", "(I)I"⟩
abbrev cR_numberAround : ByteArray := prog_2_method_5_code
abbrev yB_isPlain : MethodName := ⟨RB, "isPlain", "()Z"⟩
abbrev cB_isPlain : ByteArray := prog_1_method_23_code
abbrev yB_lid : MethodName := ⟨RB, "lid", "(I)I"⟩
abbrev cB_lid : ByteArray := prog_1_method_6_code
abbrev yS_nearestGate : MethodName := ⟨RS, "nearestGate", "(I)I"⟩
abbrev cS_nearestGate : ByteArray := prog_3_method_11_code
abbrev yS_gates : MethodName := ⟨RS, "gates", "(I)J"⟩
abbrev cS_gates : ByteArray := prog_3_method_10_code
abbrev yB_meeting : MethodName := ⟨RB, "meeting", "(I)I"⟩
abbrev cB_meeting : ByteArray := prog_1_method_7_code
abbrev yB_set : MethodName := ⟨RB, "set", "(II)J"⟩
abbrev cB_set : ByteArray := prog_1_method_8_code
abbrev yR_blocksOf : MethodName := ⟨RR, "blocksOf", "(I)J"⟩
abbrev cR_blocksOf : ByteArray := prog_2_method_3_code
abbrev yS_rim : MethodName := ⟨RS, "rim", "(I)J"⟩
abbrev cS_rim : ByteArray := prog_3_method_12_code
abbrev yB_depth : MethodName := ⟨RB, "depth", "(I)I"⟩
abbrev cB_depth : ByteArray := prog_1_method_9_code
abbrev yB_joins : MethodName := ⟨RB, "joins", "(J)J"⟩
abbrev cB_joins : ByteArray := prog_1_method_11_code
abbrev yL_inner : MethodName := ⟨RL, "inner", "(LBlockWays;I[J)I"⟩
abbrev cL_inner : ByteArray := method_3_code
abbrev yB_inner : MethodName := ⟨RB, "inner", "(I)I"⟩
abbrev cB_inner : ByteArray := prog_1_method_10_code
abbrev yR_smallestAround : MethodName := ⟨RR, "smallestAround", "(I)I"⟩
abbrev cR_smallestAround : ByteArray := prog_2_method_7_code
abbrev yM_init : MethodName := ⟨RM, "<init>", "()V"⟩
abbrev cM_init : ByteArray := prog_5_method_1_code
abbrev yM_thrown : MethodName := ⟨RM, "thrown", "()I"⟩
abbrev cM_thrown : ByteArray := prog_5_method_2_code
abbrev yM_block : MethodName := ⟨RM, "block", "(I)Z"⟩
abbrev cM_block : ByteArray := prog_5_method_7_code
abbrev yM_isBlock : MethodName := ⟨RM, "isBlock", "(I)Z"⟩
abbrev cM_isBlock : ByteArray := prog_5_method_3_code
abbrev yM_is : MethodName := ⟨RM, "is", "(JI)Z"⟩
abbrev cM_is : ByteArray := prog_5_method_4_code
abbrev yM_bit : MethodName := ⟨RM, "bit", "(I)J"⟩
abbrev cM_bit : ByteArray := prog_5_method_5_code
abbrev yM_target : MethodName := ⟨RM, "target", "(II)Z"⟩
abbrev cM_target : ByteArray := prog_5_method_8_code
abbrev yM_drop : MethodName := ⟨RM, "drop", "(I)Z"⟩
abbrev cM_drop : ByteArray := prog_5_method_9_code
abbrev yM_count : MethodName := ⟨RM, "count", "(I)I"⟩
abbrev cM_count : ByteArray := prog_5_method_16_code
abbrev yM_look : MethodName := ⟨RM, "look", "()V"⟩
abbrev cM_look : ByteArray := prog_5_method_12_code
abbrev yM_comeTo : MethodName := ⟨RM, "comeTo", "(I)J"⟩
abbrev cM_comeTo : ByteArray := prog_5_method_10_code
abbrev yM_leadTo : MethodName := ⟨RM, "leadTo", "(JI)J"⟩
abbrev cM_leadTo : ByteArray := prog_5_method_11_code
abbrev yM_lookAtRounds : MethodName := ⟨RM, "lookAtRounds", "()V"⟩
abbrev cM_lookAtRounds : ByteArray := prog_5_method_13_code
abbrev yM_lookAtEdges : MethodName := ⟨RM, "lookAtEdges", "()V"⟩
abbrev cM_lookAtEdges : ByteArray := prog_5_method_14_code
abbrev yM_sizeOf : MethodName := ⟨RM, "sizeOf", "(J)I"⟩
abbrev cM_sizeOf : ByteArray := prog_5_method_6_code
abbrev yM_in : MethodName := ⟨RM, "in", "(I)I"⟩
abbrev cM_in : ByteArray := prog_5_method_17_code
abbrev yM_lid : MethodName := ⟨RM, "lid", "(I)I"⟩
abbrev cM_lid : ByteArray := prog_5_method_18_code
abbrev yM_nearest : MethodName := ⟨RM, "nearest", "([JI)I"⟩
abbrev cM_nearest : ByteArray := prog_5_method_15_code
abbrev yM_meeting : MethodName := ⟨RM, "meeting", "(I)I"⟩
abbrev cM_meeting : ByteArray := prog_5_method_19_code
abbrev yM_set : MethodName := ⟨RM, "set", "(II)J"⟩
abbrev cM_set : ByteArray := prog_5_method_22_code
abbrev yM_hangsOn : MethodName := ⟨RM, "hangsOn", "(I)J"⟩
abbrev cM_hangsOn : ByteArray := prog_5_method_21_code
abbrev yM_under : MethodName := ⟨RM, "under", "(I)J"⟩
abbrev cM_under : ByteArray := prog_5_method_20_code
abbrev yM_depth : MethodName := ⟨RM, "depth", "(I)I"⟩
abbrev cM_depth : ByteArray := prog_5_method_23_code
abbrev yM_inner : MethodName := ⟨RM, "inner", "(I)I"⟩
abbrev cM_inner : ByteArray := prog_5_method_24_code
abbrev yM_joins : MethodName := ⟨RM, "joins", "(J)J"⟩
abbrev cM_joins : ByteArray := prog_5_method_25_code
abbrev yL_law : MethodName := ⟨RL, "law", "([I)Z"⟩
abbrev cL_law : ByteArray := code
/-- all the good words -/
def bwB : List Cond := lw_tbl.filter goodWord
theorem bw_in {w : Cond} (i : Nat) (h : lw_tbl[i]? = some w) (hg : goodWord w = true) : w ∈ bwB := List.mem_filter.mpr ⟨List.mem_of_getElem? h, hg⟩
theorem bw_gi {ws : List Cond} (h : ∀ w ∈ ws, w ∈ bwB) : GoodIn bwB ws := fun w hw => ⟨h w hw, good_of_word (List.mem_filter.mp (h w hw)).2⟩
theorem bw_gt_ {w : Cond} {ws : List Cond} (h1 : w ∈ bwB) (h : ∀ w ∈ ws, w ∈ bwB) : ∀ x ∈ w :: ws, x ∈ bwB := fun x hx => (List.mem_cons.mp hx).elim (fun e => by rw [e]; exact h1) (h x)
theorem bw_gn {P : Cond → Prop} : ∀ x ∈ ([] : List Cond), P x := fun _ h => nomatch h
theorem bw_gb : ∀ x ∈ bwB, x ∈ bwB := fun _ h => h
theorem hw_17 : (Jvm.Cond.initialized "BlockWaysLaw") ∈ bwB := bw_in 17 (by rfl) (by rfl)
theorem hw_18 : (Jvm.Cond.initialized "BlockWays") ∈ bwB := bw_in 18 (by rfl) (by rfl)
theorem hw_19 : (Jvm.Cond.initialized "BlockWays$Spread") ∈ bwB := bw_in 19 (by rfl) (by rfl)
theorem hw_20 : (Jvm.Cond.initialized "BlockWays$Rounds") ∈ bwB := bw_in 20 (by rfl) (by rfl)
theorem hw_21 : (Jvm.Cond.initialized "BlockWaysModel") ∈ bwB := bw_in 21 (by rfl) (by rfl)
theorem hw_22 : (Jvm.Cond.initialized "java/lang/Long") ∈ bwB := bw_in 22 (by rfl) (by rfl)
theorem hw_23 : (Jvm.Cond.initialized "java/lang/Math") ∈ bwB := bw_in 23 (by rfl) (by rfl)
theorem hw_24 : (Jvm.Cond.initialized "java/lang/Throwable") ∈ bwB := bw_in 24 (by rfl) (by rfl)
theorem hw_25 : (Jvm.Cond.initialized "java/lang/Exception") ∈ bwB := bw_in 25 (by rfl) (by rfl)
theorem hw_26 : (Jvm.Cond.initialized "java/lang/RuntimeException") ∈ bwB := bw_in 26 (by rfl) (by rfl)
theorem hw_27 : (Jvm.Cond.initialized "java/util/NoSuchElementException") ∈ bwB := bw_in 27 (by rfl) (by rfl)
theorem hw_28 : (Jvm.Cond.classLink "BlockWaysLaw" (8 : Nat) "BlockWays") ∈ bwB := bw_in 28 (by rfl) (by rfl)
theorem hw_29 : (Jvm.Cond.instantiable "BlockWays" (7 : Nat)) ∈ bwB := bw_in 29 (by rfl) (by rfl)
theorem hw_30 : (Jvm.Cond.methodLink "BlockWaysLaw" (15 : Nat) ({ cls := "BlockWays", name := "<init>", desc := "()V" } : Jvm.MethodName)) ∈ bwB := bw_in 30 (by rfl) (by rfl)
theorem hw_31 : (Jvm.Cond.instanceMethod ({ cls := "BlockWays", name := "<init>", desc := "()V" } : Jvm.MethodName)) ∈ bwB := bw_in 31 (by rfl) (by rfl)
theorem hw_32 : (Jvm.Cond.code ({ cls := "BlockWays", name := "<init>", desc := "()V" } : Jvm.MethodName) prog_1_method_1_code (1 : Nat) (Option.none : Option Jvm.ClassFile.FieldType)) ∈ bwB := bw_in 32 (by rfl) (by rfl)
theorem hw_33 : (Jvm.Cond.methodLink "BlockWays" (1 : Nat) ({ cls := "java/lang/Object", name := "<init>", desc := "()V" } : Jvm.MethodName)) ∈ bwB := bw_in 33 (by rfl) (by rfl)
theorem hw_34 : (Jvm.Cond.instanceMethod ({ cls := "java/lang/Object", name := "<init>", desc := "()V" } : Jvm.MethodName)) ∈ bwB := bw_in 34 (by rfl) (by rfl)
theorem hw_35 : (Jvm.Cond.code ({ cls := "java/lang/Object", name := "<init>", desc := "()V" } : Jvm.MethodName) object_method_1_code (1 : Nat) (Option.none : Option Jvm.ClassFile.FieldType)) ∈ bwB := bw_in 35 (by rfl) (by rfl)
theorem hw_36 : (Jvm.Cond.classLink "BlockWays" (17 : Nat) "BlockWays$Spread") ∈ bwB := bw_in 36 (by rfl) (by rfl)
theorem hw_37 : (Jvm.Cond.instantiable "BlockWays$Spread" (3 : Nat)) ∈ bwB := bw_in 37 (by rfl) (by rfl)
theorem hw_38 : (Jvm.Cond.methodLink "BlockWays" (19 : Nat) ({ cls := "BlockWays$Spread", name := "<init>", desc := "()V" } : Jvm.MethodName)) ∈ bwB := bw_in 38 (by rfl) (by rfl)
theorem hw_39 : (Jvm.Cond.instanceMethod ({ cls := "BlockWays$Spread", name := "<init>", desc := "()V" } : Jvm.MethodName)) ∈ bwB := bw_in 39 (by rfl) (by rfl)
theorem hw_40 : (Jvm.Cond.code ({ cls := "BlockWays$Spread", name := "<init>", desc := "()V" } : Jvm.MethodName) prog_3_method_1_code (1 : Nat) (Option.none : Option Jvm.ClassFile.FieldType)) ∈ bwB := bw_in 40 (by rfl) (by rfl)
theorem hw_41 : (Jvm.Cond.methodLink "BlockWays$Spread" (3 : Nat) ({ cls := "java/lang/Object", name := "<init>", desc := "()V" } : Jvm.MethodName)) ∈ bwB := bw_in 41 (by rfl) (by rfl)
theorem hw_42 : (Jvm.Cond.fieldLink "BlockWays$Spread" (9 : Nat) "BlockWays$Spread" "steps" "[J") ∈ bwB := bw_in 42 (by rfl) (by rfl)
theorem hw_43 : (Jvm.Cond.fieldLink "BlockWays$Spread" (15 : Nat) "BlockWays$Spread" "gated" "[J") ∈ bwB := bw_in 43 (by rfl) (by rfl)
theorem hw_44 : (Jvm.Cond.fieldLink "BlockWays$Spread" (18 : Nat) "BlockWays$Spread" "covered" "J") ∈ bwB := bw_in 44 (by rfl) (by rfl)
theorem hw_45 : (Jvm.Cond.laysFinal "BlockWays$Spread" "BlockWays$Spread" "steps" "[J") ∈ bwB := bw_in 45 (by rfl) (by rfl)
theorem hw_47 : (Jvm.Cond.laysFinal "BlockWays$Spread" "BlockWays$Spread" "gated" "[J") ∈ bwB := bw_in 47 (by rfl) (by rfl)
theorem hw_49 : (Jvm.Cond.lays "BlockWays$Spread" "BlockWays$Spread" "covered" "J") ∈ bwB := bw_in 49 (by rfl) (by rfl)
theorem hw_52 : (Jvm.Cond.arrayClass Jvm.ClassFile.FieldType.int) ∈ bwB := bw_in 52 (by rfl) (by rfl)
theorem hw_53 : (Jvm.Cond.arrayClass Jvm.ClassFile.FieldType.long) ∈ bwB := bw_in 53 (by rfl) (by rfl)
theorem hw_54 : (Jvm.Cond.classLink "BlockWays" (27 : Nat) "BlockWays$Rounds") ∈ bwB := bw_in 54 (by rfl) (by rfl)
theorem hw_55 : (Jvm.Cond.instantiable "BlockWays$Rounds" (1 : Nat)) ∈ bwB := bw_in 55 (by rfl) (by rfl)
theorem hw_56 : (Jvm.Cond.methodLink "BlockWays" (29 : Nat) ({ cls := "BlockWays$Rounds", name := "<init>", desc := "()V" } : Jvm.MethodName)) ∈ bwB := bw_in 56 (by rfl) (by rfl)
theorem hw_57 : (Jvm.Cond.instanceMethod ({ cls := "BlockWays$Rounds", name := "<init>", desc := "()V" } : Jvm.MethodName)) ∈ bwB := bw_in 57 (by rfl) (by rfl)
theorem hw_58 : (Jvm.Cond.code ({ cls := "BlockWays$Rounds", name := "<init>", desc := "()V" } : Jvm.MethodName) prog_2_method_1_code (1 : Nat) (Option.none : Option Jvm.ClassFile.FieldType)) ∈ bwB := bw_in 58 (by rfl) (by rfl)
theorem hw_59 : (Jvm.Cond.methodLink "BlockWays$Rounds" (3 : Nat) ({ cls := "java/lang/Object", name := "<init>", desc := "()V" } : Jvm.MethodName)) ∈ bwB := bw_in 59 (by rfl) (by rfl)
theorem hw_60 : (Jvm.Cond.fieldLink "BlockWays$Rounds" (9 : Nat) "BlockWays$Rounds" "blocks" "[J") ∈ bwB := bw_in 60 (by rfl) (by rfl)
theorem hw_61 : (Jvm.Cond.laysFinal "BlockWays$Rounds" "BlockWays$Rounds" "blocks" "[J") ∈ bwB := bw_in 61 (by rfl) (by rfl)
theorem hw_64 : (Jvm.Cond.fieldLink "BlockWays" (7 : Nat) "BlockWays" "told" "J") ∈ bwB := bw_in 64 (by rfl) (by rfl)
theorem hw_65 : (Jvm.Cond.fieldLink "BlockWays" (13 : Nat) "BlockWays" "targetCounts" "[I") ∈ bwB := bw_in 65 (by rfl) (by rfl)
theorem hw_66 : (Jvm.Cond.fieldLink "BlockWays" (20 : Nat) "BlockWays" "onward" "LBlockWays$Spread;") ∈ bwB := bw_in 66 (by rfl) (by rfl)
theorem hw_67 : (Jvm.Cond.fieldLink "BlockWays" (24 : Nat) "BlockWays" "backward" "LBlockWays$Spread;") ∈ bwB := bw_in 67 (by rfl) (by rfl)
theorem hw_68 : (Jvm.Cond.fieldLink "BlockWays" (30 : Nat) "BlockWays" "rounds" "LBlockWays$Rounds;") ∈ bwB := bw_in 68 (by rfl) (by rfl)
theorem hw_69 : (Jvm.Cond.fieldLink "BlockWays" (34 : Nat) "BlockWays" "onwardStale" "Z") ∈ bwB := bw_in 69 (by rfl) (by rfl)
theorem hw_70 : (Jvm.Cond.fieldLink "BlockWays" (38 : Nat) "BlockWays" "backwardStale" "Z") ∈ bwB := bw_in 70 (by rfl) (by rfl)
theorem hw_71 : (Jvm.Cond.lays "BlockWays" "BlockWays" "told" "J") ∈ bwB := bw_in 71 (by rfl) (by rfl)
theorem hw_73 : (Jvm.Cond.laysFinal "BlockWays" "BlockWays" "targetCounts" "[I") ∈ bwB := bw_in 73 (by rfl) (by rfl)
theorem hw_75 : (Jvm.Cond.laysFinal "BlockWays" "BlockWays" "onward" "LBlockWays$Spread;") ∈ bwB := bw_in 75 (by rfl) (by rfl)
theorem hw_77 : (Jvm.Cond.laysFinal "BlockWays" "BlockWays" "backward" "LBlockWays$Spread;") ∈ bwB := bw_in 77 (by rfl) (by rfl)
theorem hw_79 : (Jvm.Cond.laysFinal "BlockWays" "BlockWays" "rounds" "LBlockWays$Rounds;") ∈ bwB := bw_in 79 (by rfl) (by rfl)
theorem hw_81 : (Jvm.Cond.lays "BlockWays" "BlockWays" "onwardStale" "Z") ∈ bwB := bw_in 81 (by rfl) (by rfl)
theorem hw_83 : (Jvm.Cond.lays "BlockWays" "BlockWays" "backwardStale" "Z") ∈ bwB := bw_in 83 (by rfl) (by rfl)
theorem hw_86 : (Jvm.Cond.methodLink "BlockWaysLaw" (19 : Nat) ({ cls := "BlockWays", name := "block", desc := "(I)Z" } : Jvm.MethodName)) ∈ bwB := bw_in 86 (by rfl) (by rfl)
theorem hw_87 : (Jvm.Cond.instanceMethod ({ cls := "BlockWays", name := "block", desc := "(I)Z" } : Jvm.MethodName)) ∈ bwB := bw_in 87 (by rfl) (by rfl)
theorem hw_88 : (Jvm.Cond.selects "BlockWays" ({ cls := "BlockWays", name := "block", desc := "(I)Z" } : Jvm.MethodName) ({ cls := "BlockWays", name := "block", desc := "(I)Z" } : Jvm.MethodName)) ∈ bwB := bw_in 88 (by rfl) (by rfl)
theorem hw_89 : (Jvm.Cond.code ({ cls := "BlockWays", name := "block", desc := "(I)Z" } : Jvm.MethodName) prog_1_method_2_code (2 : Nat) (Option.some Jvm.ClassFile.FieldType.boolean)) ∈ bwB := bw_in 89 (by rfl) (by rfl)
theorem hw_90 : (Jvm.Cond.methodLink "BlockWays" (41 : Nat) ({ cls := "BlockWays", name := "isBlock", desc := "(I)Z" } : Jvm.MethodName)) ∈ bwB := bw_in 90 (by rfl) (by rfl)
theorem hw_91 : (Jvm.Cond.static ({ cls := "BlockWays", name := "isBlock", desc := "(I)Z" } : Jvm.MethodName)) ∈ bwB := bw_in 91 (by rfl) (by rfl)
theorem hw_92 : (Jvm.Cond.code ({ cls := "BlockWays", name := "isBlock", desc := "(I)Z" } : Jvm.MethodName) prog_1_method_12_code (1 : Nat) (Option.some Jvm.ClassFile.FieldType.boolean)) ∈ bwB := bw_in 92 (by rfl) (by rfl)
theorem hw_93 : (Jvm.Cond.methodLink "BlockWays" (45 : Nat) ({ cls := "BlockWays", name := "has", desc := "(JI)Z" } : Jvm.MethodName)) ∈ bwB := bw_in 93 (by rfl) (by rfl)
theorem hw_94 : (Jvm.Cond.static ({ cls := "BlockWays", name := "has", desc := "(JI)Z" } : Jvm.MethodName)) ∈ bwB := bw_in 94 (by rfl) (by rfl)
theorem hw_95 : (Jvm.Cond.code ({ cls := "BlockWays", name := "has", desc := "(JI)Z" } : Jvm.MethodName) prog_1_method_15_code (3 : Nat) (Option.some Jvm.ClassFile.FieldType.boolean)) ∈ bwB := bw_in 95 (by rfl) (by rfl)
theorem hw_96 : (Jvm.Cond.methodLink "BlockWays" (49 : Nat) ({ cls := "BlockWays", name := "bit", desc := "(I)J" } : Jvm.MethodName)) ∈ bwB := bw_in 96 (by rfl) (by rfl)
theorem hw_97 : (Jvm.Cond.static ({ cls := "BlockWays", name := "bit", desc := "(I)J" } : Jvm.MethodName)) ∈ bwB := bw_in 97 (by rfl) (by rfl)
theorem hw_98 : (Jvm.Cond.code ({ cls := "BlockWays", name := "bit", desc := "(I)J" } : Jvm.MethodName) prog_1_method_14_code (1 : Nat) (Option.some Jvm.ClassFile.FieldType.long)) ∈ bwB := bw_in 98 (by rfl) (by rfl)
theorem hw_99 : (Jvm.Cond.methodLink "BlockWays" (53 : Nat) ({ cls := "BlockWays", name := "forgetAnswers", desc := "()V" } : Jvm.MethodName)) ∈ bwB := bw_in 99 (by rfl) (by rfl)
theorem hw_101 : (Jvm.Cond.instanceMethod ({ cls := "BlockWays", name := "forgetAnswers", desc := "()V" } : Jvm.MethodName)) ∈ bwB := bw_in 101 (by rfl) (by rfl)
theorem hw_102 : (Jvm.Cond.code ({ cls := "BlockWays", name := "forgetAnswers", desc := "()V" } : Jvm.MethodName) prog_1_method_17_code (1 : Nat) (Option.none : Option Jvm.ClassFile.FieldType)) ∈ bwB := bw_in 102 (by rfl) (by rfl)
theorem hw_103 : (Jvm.Cond.methodLink "BlockWaysLaw" (24 : Nat) ({ cls := "BlockWays", name := "target", desc := "(II)Z" } : Jvm.MethodName)) ∈ bwB := bw_in 103 (by rfl) (by rfl)
theorem hw_104 : (Jvm.Cond.instanceMethod ({ cls := "BlockWays", name := "target", desc := "(II)Z" } : Jvm.MethodName)) ∈ bwB := bw_in 104 (by rfl) (by rfl)
theorem hw_105 : (Jvm.Cond.selects "BlockWays" ({ cls := "BlockWays", name := "target", desc := "(II)Z" } : Jvm.MethodName) ({ cls := "BlockWays", name := "target", desc := "(II)Z" } : Jvm.MethodName)) ∈ bwB := bw_in 105 (by rfl) (by rfl)
theorem hw_106 : (Jvm.Cond.code ({ cls := "BlockWays", name := "target", desc := "(II)Z" } : Jvm.MethodName) prog_1_method_3_code (3 : Nat) (Option.some Jvm.ClassFile.FieldType.boolean)) ∈ bwB := bw_in 106 (by rfl) (by rfl)
theorem hw_107 : (Jvm.Cond.methodLink "BlockWays" (56 : Nat) ({ cls := "BlockWays", name := "isTold", desc := "(I)Z" } : Jvm.MethodName)) ∈ bwB := bw_in 107 (by rfl) (by rfl)
theorem hw_109 : (Jvm.Cond.instanceMethod ({ cls := "BlockWays", name := "isTold", desc := "(I)Z" } : Jvm.MethodName)) ∈ bwB := bw_in 109 (by rfl) (by rfl)
theorem hw_110 : (Jvm.Cond.code ({ cls := "BlockWays", name := "isTold", desc := "(I)Z" } : Jvm.MethodName) prog_1_method_13_code (2 : Nat) (Option.some Jvm.ClassFile.FieldType.boolean)) ∈ bwB := bw_in 110 (by rfl) (by rfl)
theorem hw_111 : (Jvm.Cond.methodLink "BlockWays" (59 : Nat) ({ cls := "BlockWays$Spread", name := "addStep", desc := "(II)V" } : Jvm.MethodName)) ∈ bwB := bw_in 111 (by rfl) (by rfl)
theorem hw_112 : (Jvm.Cond.instanceMethod ({ cls := "BlockWays$Spread", name := "addStep", desc := "(II)V" } : Jvm.MethodName)) ∈ bwB := bw_in 112 (by rfl) (by rfl)
theorem hw_113 : (Jvm.Cond.selects "BlockWays$Spread" ({ cls := "BlockWays$Spread", name := "addStep", desc := "(II)V" } : Jvm.MethodName) ({ cls := "BlockWays$Spread", name := "addStep", desc := "(II)V" } : Jvm.MethodName)) ∈ bwB := bw_in 113 (by rfl) (by rfl)
theorem hw_114 : (Jvm.Cond.code ({ cls := "BlockWays$Spread", name := "addStep", desc := "(II)V" } : Jvm.MethodName) prog_3_method_2_code (3 : Nat) (Option.none : Option Jvm.ClassFile.FieldType)) ∈ bwB := bw_in 114 (by rfl) (by rfl)
theorem hw_116 : (Jvm.Cond.methodLink "BlockWaysLaw" (29 : Nat) ({ cls := "BlockWays", name := "drop", desc := "(I)Z" } : Jvm.MethodName)) ∈ bwB := bw_in 116 (by rfl) (by rfl)
theorem hw_117 : (Jvm.Cond.instanceMethod ({ cls := "BlockWays", name := "drop", desc := "(I)Z" } : Jvm.MethodName)) ∈ bwB := bw_in 117 (by rfl) (by rfl)
theorem hw_118 : (Jvm.Cond.selects "BlockWays" ({ cls := "BlockWays", name := "drop", desc := "(I)Z" } : Jvm.MethodName) ({ cls := "BlockWays", name := "drop", desc := "(I)Z" } : Jvm.MethodName)) ∈ bwB := bw_in 118 (by rfl) (by rfl)
theorem hw_119 : (Jvm.Cond.code ({ cls := "BlockWays", name := "drop", desc := "(I)Z" } : Jvm.MethodName) prog_1_method_4_code (2 : Nat) (Option.some Jvm.ClassFile.FieldType.boolean)) ∈ bwB := bw_in 119 (by rfl) (by rfl)
theorem hw_120 : (Jvm.Cond.constantLong "BlockWays" (63 : Nat) (-1 : Int64)) ∈ bwB := bw_in 120 (by rfl) (by rfl)
theorem hw_121 : (Jvm.Cond.methodLink "BlockWays" (65 : Nat) ({ cls := "BlockWays$Spread", name := "removeStepsFrom", desc := "(I)V" } : Jvm.MethodName)) ∈ bwB := bw_in 121 (by rfl) (by rfl)
theorem hw_122 : (Jvm.Cond.instanceMethod ({ cls := "BlockWays$Spread", name := "removeStepsFrom", desc := "(I)V" } : Jvm.MethodName)) ∈ bwB := bw_in 122 (by rfl) (by rfl)
theorem hw_123 : (Jvm.Cond.selects "BlockWays$Spread" ({ cls := "BlockWays$Spread", name := "removeStepsFrom", desc := "(I)V" } : Jvm.MethodName) ({ cls := "BlockWays$Spread", name := "removeStepsFrom", desc := "(I)V" } : Jvm.MethodName)) ∈ bwB := bw_in 123 (by rfl) (by rfl)
theorem hw_124 : (Jvm.Cond.code ({ cls := "BlockWays$Spread", name := "removeStepsFrom", desc := "(I)V" } : Jvm.MethodName) prog_3_method_3_code (2 : Nat) (Option.none : Option Jvm.ClassFile.FieldType)) ∈ bwB := bw_in 124 (by rfl) (by rfl)
theorem hw_125 : (Jvm.Cond.methodLink "BlockWays" (69 : Nat) ({ cls := "BlockWays$Spread", name := "removeStepsTo", desc := "(I)V" } : Jvm.MethodName)) ∈ bwB := bw_in 125 (by rfl) (by rfl)
theorem hw_126 : (Jvm.Cond.instanceMethod ({ cls := "BlockWays$Spread", name := "removeStepsTo", desc := "(I)V" } : Jvm.MethodName)) ∈ bwB := bw_in 126 (by rfl) (by rfl)
theorem hw_127 : (Jvm.Cond.selects "BlockWays$Spread" ({ cls := "BlockWays$Spread", name := "removeStepsTo", desc := "(I)V" } : Jvm.MethodName) ({ cls := "BlockWays$Spread", name := "removeStepsTo", desc := "(I)V" } : Jvm.MethodName)) ∈ bwB := bw_in 127 (by rfl) (by rfl)
theorem hw_128 : (Jvm.Cond.code ({ cls := "BlockWays$Spread", name := "removeStepsTo", desc := "(I)V" } : Jvm.MethodName) prog_3_method_4_code (3 : Nat) (Option.none : Option Jvm.ClassFile.FieldType)) ∈ bwB := bw_in 128 (by rfl) (by rfl)
theorem hw_129 : (Jvm.Cond.constantLong "BlockWays$Spread" (26 : Nat) (-1 : Int64)) ∈ bwB := bw_in 129 (by rfl) (by rfl)
theorem hw_130 : (Jvm.Cond.methodLink "BlockWaysLaw" (33 : Nat) ({ cls := "BlockWays", name := "count", desc := "(I)I" } : Jvm.MethodName)) ∈ bwB := bw_in 130 (by rfl) (by rfl)
theorem hw_131 : (Jvm.Cond.instanceMethod ({ cls := "BlockWays", name := "count", desc := "(I)I" } : Jvm.MethodName)) ∈ bwB := bw_in 131 (by rfl) (by rfl)
theorem hw_132 : (Jvm.Cond.selects "BlockWays" ({ cls := "BlockWays", name := "count", desc := "(I)I" } : Jvm.MethodName) ({ cls := "BlockWays", name := "count", desc := "(I)I" } : Jvm.MethodName)) ∈ bwB := bw_in 132 (by rfl) (by rfl)
theorem hw_133 : (Jvm.Cond.code ({ cls := "BlockWays", name := "count", desc := "(I)I" } : Jvm.MethodName) prog_1_method_5_code (2 : Nat) (Option.some Jvm.ClassFile.FieldType.int)) ∈ bwB := bw_in 133 (by rfl) (by rfl)
theorem hw_134 : (Jvm.Cond.methodLink "BlockWays" (72 : Nat) ({ cls := "java/lang/Long", name := "bitCount", desc := "(J)I" } : Jvm.MethodName)) ∈ bwB := bw_in 134 (by rfl) (by rfl)
theorem hw_135 : (Jvm.Cond.static ({ cls := "java/lang/Long", name := "bitCount", desc := "(J)I" } : Jvm.MethodName)) ∈ bwB := bw_in 135 (by rfl) (by rfl)
theorem hw_136 : (Jvm.Cond.code ({ cls := "java/lang/Long", name := "bitCount", desc := "(J)I" } : Jvm.MethodName) prog_7_method_50_code (2 : Nat) (Option.some Jvm.ClassFile.FieldType.int)) ∈ bwB := bw_in 136 (by rfl) (by rfl)
theorem hw_137 : (Jvm.Cond.constantLong "java/lang/Long" (314 : Nat) (6148914691236517205 : Int64)) ∈ bwB := bw_in 137 (by rfl) (by rfl)
theorem hw_138 : (Jvm.Cond.constantLong "java/lang/Long" (316 : Nat) (3689348814741910323 : Int64)) ∈ bwB := bw_in 138 (by rfl) (by rfl)
theorem hw_139 : (Jvm.Cond.constantLong "java/lang/Long" (318 : Nat) (1085102592571150095 : Int64)) ∈ bwB := bw_in 139 (by rfl) (by rfl)
theorem hw_140 : (Jvm.Cond.methodLink "BlockWays" (78 : Nat) ({ cls := "BlockWays", name := "freshOnward", desc := "()LBlockWays$Spread;" } : Jvm.MethodName)) ∈ bwB := bw_in 140 (by rfl) (by rfl)
theorem hw_142 : (Jvm.Cond.instanceMethod ({ cls := "BlockWays", name := "freshOnward", desc := "()LBlockWays$Spread;" } : Jvm.MethodName)) ∈ bwB := bw_in 142 (by rfl) (by rfl)
theorem hw_143 : (Jvm.Cond.code ({ cls := "BlockWays", name := "freshOnward", desc := "()LBlockWays$Spread;" } : Jvm.MethodName) prog_1_method_18_code (1 : Nat) (Option.some (Jvm.ClassFile.FieldType.object "BlockWays$Spread"))) ∈ bwB := bw_in 143 (by rfl) (by rfl)
theorem hw_144 : (Jvm.Cond.methodLink "BlockWays" (136 : Nat) ({ cls := "BlockWays", name := "renewOnward", desc := "()V" } : Jvm.MethodName)) ∈ bwB := bw_in 144 (by rfl) (by rfl)
theorem hw_146 : (Jvm.Cond.instanceMethod ({ cls := "BlockWays", name := "renewOnward", desc := "()V" } : Jvm.MethodName)) ∈ bwB := bw_in 146 (by rfl) (by rfl)
theorem hw_147 : (Jvm.Cond.code ({ cls := "BlockWays", name := "renewOnward", desc := "()V" } : Jvm.MethodName) prog_1_method_20_code (1 : Nat) (Option.none : Option Jvm.ClassFile.FieldType)) ∈ bwB := bw_in 147 (by rfl) (by rfl)
theorem hw_148 : (Jvm.Cond.methodLink "BlockWays" (139 : Nat) ({ cls := "BlockWays$Spread", name := "renew", desc := "(JJ)V" } : Jvm.MethodName)) ∈ bwB := bw_in 148 (by rfl) (by rfl)
theorem hw_149 : (Jvm.Cond.instanceMethod ({ cls := "BlockWays$Spread", name := "renew", desc := "(JJ)V" } : Jvm.MethodName)) ∈ bwB := bw_in 149 (by rfl) (by rfl)
theorem hw_150 : (Jvm.Cond.selects "BlockWays$Spread" ({ cls := "BlockWays$Spread", name := "renew", desc := "(JJ)V" } : Jvm.MethodName) ({ cls := "BlockWays$Spread", name := "renew", desc := "(JJ)V" } : Jvm.MethodName)) ∈ bwB := bw_in 150 (by rfl) (by rfl)
theorem hw_151 : (Jvm.Cond.code ({ cls := "BlockWays$Spread", name := "renew", desc := "(JJ)V" } : Jvm.MethodName) prog_3_method_5_code (6 : Nat) (Option.none : Option Jvm.ClassFile.FieldType)) ∈ bwB := bw_in 151 (by rfl) (by rfl)
theorem hw_152 : (Jvm.Cond.methodLink "BlockWays$Spread" (28 : Nat) ({ cls := "BlockWays$Spread", name := "flood", desc := "(JJ)J" } : Jvm.MethodName)) ∈ bwB := bw_in 152 (by rfl) (by rfl)
theorem hw_153 : (Jvm.Cond.instanceMethod ({ cls := "BlockWays$Spread", name := "flood", desc := "(JJ)J" } : Jvm.MethodName)) ∈ bwB := bw_in 153 (by rfl) (by rfl)
theorem hw_154 : (Jvm.Cond.selects "BlockWays$Spread" ({ cls := "BlockWays$Spread", name := "flood", desc := "(JJ)J" } : Jvm.MethodName) ({ cls := "BlockWays$Spread", name := "flood", desc := "(JJ)J" } : Jvm.MethodName)) ∈ bwB := bw_in 154 (by rfl) (by rfl)
theorem hw_155 : (Jvm.Cond.code ({ cls := "BlockWays$Spread", name := "flood", desc := "(JJ)J" } : Jvm.MethodName) prog_3_method_6_code (13 : Nat) (Option.some Jvm.ClassFile.FieldType.long)) ∈ bwB := bw_in 155 (by rfl) (by rfl)
theorem hw_157 : (Jvm.Cond.static ({ cls := "BlockWays", name := "lowest", desc := "(J)I" } : Jvm.MethodName)) ∈ bwB := bw_in 157 (by rfl) (by rfl)
theorem hw_158 : (Jvm.Cond.code ({ cls := "BlockWays", name := "lowest", desc := "(J)I" } : Jvm.MethodName) prog_1_method_16_code (2 : Nat) (Option.some Jvm.ClassFile.FieldType.int)) ∈ bwB := bw_in 158 (by rfl) (by rfl)
theorem hw_160 : (Jvm.Cond.methodLink "BlockWays" (143 : Nat) ({ cls := "BlockWays$Rounds", name := "renew", desc := "(LBlockWays$Spread;LBlockWays$Spread;)V" } : Jvm.MethodName)) ∈ bwB := bw_in 160 (by rfl) (by rfl)
theorem hw_161 : (Jvm.Cond.instanceMethod ({ cls := "BlockWays$Rounds", name := "renew", desc := "(LBlockWays$Spread;LBlockWays$Spread;)V" } : Jvm.MethodName)) ∈ bwB := bw_in 161 (by rfl) (by rfl)
theorem hw_162 : (Jvm.Cond.selects "BlockWays$Rounds" ({ cls := "BlockWays$Rounds", name := "renew", desc := "(LBlockWays$Spread;LBlockWays$Spread;)V" } : Jvm.MethodName) ({ cls := "BlockWays$Rounds", name := "renew", desc := "(LBlockWays$Spread;LBlockWays$Spread;)V" } : Jvm.MethodName)) ∈ bwB := bw_in 162 (by rfl) (by rfl)
theorem hw_163 : (Jvm.Cond.code ({ cls := "BlockWays$Rounds", name := "renew", desc := "(LBlockWays$Spread;LBlockWays$Spread;)V" } : Jvm.MethodName) prog_2_method_2_code (8 : Nat) (Option.none : Option Jvm.ClassFile.FieldType)) ∈ bwB := bw_in 163 (by rfl) (by rfl)
theorem hw_164 : (Jvm.Cond.methodLink "BlockWays$Rounds" (15 : Nat) ({ cls := "BlockWays$Spread", name := "stepsOf", desc := "(I)J" } : Jvm.MethodName)) ∈ bwB := bw_in 164 (by rfl) (by rfl)
theorem hw_165 : (Jvm.Cond.instanceMethod ({ cls := "BlockWays$Spread", name := "stepsOf", desc := "(I)J" } : Jvm.MethodName)) ∈ bwB := bw_in 165 (by rfl) (by rfl)
theorem hw_166 : (Jvm.Cond.selects "BlockWays$Spread" ({ cls := "BlockWays$Spread", name := "stepsOf", desc := "(I)J" } : Jvm.MethodName) ({ cls := "BlockWays$Spread", name := "stepsOf", desc := "(I)J" } : Jvm.MethodName)) ∈ bwB := bw_in 166 (by rfl) (by rfl)
theorem hw_167 : (Jvm.Cond.code ({ cls := "BlockWays$Spread", name := "stepsOf", desc := "(I)J" } : Jvm.MethodName) prog_3_method_8_code (2 : Nat) (Option.some Jvm.ClassFile.FieldType.long)) ∈ bwB := bw_in 167 (by rfl) (by rfl)
theorem hw_168 : (Jvm.Cond.methodLink "BlockWays$Rounds" (21 : Nat) ({ cls := "BlockWays$Spread", name := "gated", desc := "(I)J" } : Jvm.MethodName)) ∈ bwB := bw_in 168 (by rfl) (by rfl)
theorem hw_169 : (Jvm.Cond.instanceMethod ({ cls := "BlockWays$Spread", name := "gated", desc := "(I)J" } : Jvm.MethodName)) ∈ bwB := bw_in 169 (by rfl) (by rfl)
theorem hw_170 : (Jvm.Cond.selects "BlockWays$Spread" ({ cls := "BlockWays$Spread", name := "gated", desc := "(I)J" } : Jvm.MethodName) ({ cls := "BlockWays$Spread", name := "gated", desc := "(I)J" } : Jvm.MethodName)) ∈ bwB := bw_in 170 (by rfl) (by rfl)
theorem hw_171 : (Jvm.Cond.code ({ cls := "BlockWays$Spread", name := "gated", desc := "(I)J" } : Jvm.MethodName) prog_3_method_9_code (2 : Nat) (Option.some Jvm.ClassFile.FieldType.long)) ∈ bwB := bw_in 171 (by rfl) (by rfl)
theorem hw_172 : (Jvm.Cond.methodLink "BlockWays$Rounds" (24 : Nat) ({ cls := "BlockWays$Spread", name := "covered", desc := "()J" } : Jvm.MethodName)) ∈ bwB := bw_in 172 (by rfl) (by rfl)
theorem hw_173 : (Jvm.Cond.instanceMethod ({ cls := "BlockWays$Spread", name := "covered", desc := "()J" } : Jvm.MethodName)) ∈ bwB := bw_in 173 (by rfl) (by rfl)
theorem hw_174 : (Jvm.Cond.selects "BlockWays$Spread" ({ cls := "BlockWays$Spread", name := "covered", desc := "()J" } : Jvm.MethodName) ({ cls := "BlockWays$Spread", name := "covered", desc := "()J" } : Jvm.MethodName)) ∈ bwB := bw_in 174 (by rfl) (by rfl)
theorem hw_175 : (Jvm.Cond.code ({ cls := "BlockWays$Spread", name := "covered", desc := "()J" } : Jvm.MethodName) prog_3_method_7_code (1 : Nat) (Option.some Jvm.ClassFile.FieldType.long)) ∈ bwB := bw_in 175 (by rfl) (by rfl)
theorem hw_177 : (Jvm.Cond.constantLong "BlockWays$Rounds" (31 : Nat) (-1 : Int64)) ∈ bwB := bw_in 177 (by rfl) (by rfl)
theorem hw_178 : (Jvm.Cond.methodLink "BlockWays$Rounds" (33 : Nat) ({ cls := "BlockWays$Spread", name := "flood", desc := "(JJ)J" } : Jvm.MethodName)) ∈ bwB := bw_in 178 (by rfl) (by rfl)
theorem hw_179 : (Jvm.Cond.methodLink "BlockWays" (82 : Nat) ({ cls := "BlockWays$Spread", name := "covered", desc := "()J" } : Jvm.MethodName)) ∈ bwB := bw_in 179 (by rfl) (by rfl)
theorem hw_180 : (Jvm.Cond.methodLink "BlockWays" (86 : Nat) ({ cls := "BlockWays", name := "freshBackward", desc := "()LBlockWays$Spread;" } : Jvm.MethodName)) ∈ bwB := bw_in 180 (by rfl) (by rfl)
theorem hw_182 : (Jvm.Cond.instanceMethod ({ cls := "BlockWays", name := "freshBackward", desc := "()LBlockWays$Spread;" } : Jvm.MethodName)) ∈ bwB := bw_in 182 (by rfl) (by rfl)
theorem hw_183 : (Jvm.Cond.code ({ cls := "BlockWays", name := "freshBackward", desc := "()LBlockWays$Spread;" } : Jvm.MethodName) prog_1_method_21_code (1 : Nat) (Option.some (Jvm.ClassFile.FieldType.object "BlockWays$Spread"))) ∈ bwB := bw_in 183 (by rfl) (by rfl)
theorem hw_184 : (Jvm.Cond.methodLink "BlockWays" (146 : Nat) ({ cls := "BlockWays", name := "ends", desc := "()J" } : Jvm.MethodName)) ∈ bwB := bw_in 184 (by rfl) (by rfl)
theorem hw_186 : (Jvm.Cond.instanceMethod ({ cls := "BlockWays", name := "ends", desc := "()J" } : Jvm.MethodName)) ∈ bwB := bw_in 186 (by rfl) (by rfl)
theorem hw_187 : (Jvm.Cond.code ({ cls := "BlockWays", name := "ends", desc := "()J" } : Jvm.MethodName) prog_1_method_22_code (4 : Nat) (Option.some Jvm.ClassFile.FieldType.long)) ∈ bwB := bw_in 187 (by rfl) (by rfl)
theorem hw_188 : (Jvm.Cond.methodLink "BlockWays" (89 : Nat) ({ cls := "BlockWays", name := "freshRounds", desc := "()LBlockWays$Rounds;" } : Jvm.MethodName)) ∈ bwB := bw_in 188 (by rfl) (by rfl)
theorem hw_190 : (Jvm.Cond.instanceMethod ({ cls := "BlockWays", name := "freshRounds", desc := "()LBlockWays$Rounds;" } : Jvm.MethodName)) ∈ bwB := bw_in 190 (by rfl) (by rfl)
theorem hw_191 : (Jvm.Cond.code ({ cls := "BlockWays", name := "freshRounds", desc := "()LBlockWays$Rounds;" } : Jvm.MethodName) prog_1_method_19_code (1 : Nat) (Option.some (Jvm.ClassFile.FieldType.object "BlockWays$Rounds"))) ∈ bwB := bw_in 191 (by rfl) (by rfl)
theorem hw_192 : (Jvm.Cond.methodLink "BlockWays" (93 : Nat) ({ cls := "BlockWays$Rounds", name := "number", desc := "()I" } : Jvm.MethodName)) ∈ bwB := bw_in 192 (by rfl) (by rfl)
theorem hw_193 : (Jvm.Cond.instanceMethod ({ cls := "BlockWays$Rounds", name := "number", desc := "()I" } : Jvm.MethodName)) ∈ bwB := bw_in 193 (by rfl) (by rfl)
theorem hw_194 : (Jvm.Cond.selects "BlockWays$Rounds" ({ cls := "BlockWays$Rounds", name := "number", desc := "()I" } : Jvm.MethodName) ({ cls := "BlockWays$Rounds", name := "number", desc := "()I" } : Jvm.MethodName)) ∈ bwB := bw_in 194 (by rfl) (by rfl)
theorem hw_195 : (Jvm.Cond.code ({ cls := "BlockWays$Rounds", name := "number", desc := "()I" } : Jvm.MethodName) prog_2_method_4_code (3 : Nat) (Option.some Jvm.ClassFile.FieldType.int)) ∈ bwB := bw_in 195 (by rfl) (by rfl)
theorem hw_196 : (Jvm.Cond.methodLink "BlockWays" (97 : Nat) ({ cls := "BlockWays$Rounds", name := "deepest", desc := "()I" } : Jvm.MethodName)) ∈ bwB := bw_in 196 (by rfl) (by rfl)
theorem hw_197 : (Jvm.Cond.instanceMethod ({ cls := "BlockWays$Rounds", name := "deepest", desc := "()I" } : Jvm.MethodName)) ∈ bwB := bw_in 197 (by rfl) (by rfl)
theorem hw_198 : (Jvm.Cond.selects "BlockWays$Rounds" ({ cls := "BlockWays$Rounds", name := "deepest", desc := "()I" } : Jvm.MethodName) ({ cls := "BlockWays$Rounds", name := "deepest", desc := "()I" } : Jvm.MethodName)) ∈ bwB := bw_in 198 (by rfl) (by rfl)
theorem hw_199 : (Jvm.Cond.code ({ cls := "BlockWays$Rounds", name := "deepest", desc := "()I" } : Jvm.MethodName) prog_2_method_6_code (3 : Nat) (Option.some Jvm.ClassFile.FieldType.int)) ∈ bwB := bw_in 199 (by rfl) (by rfl)
theorem hw_200 : (Jvm.Cond.methodLink "BlockWays$Rounds" (41 : Nat) ({ cls := "BlockWays$Rounds", name := "numberAround", desc := "(I)I" } : Jvm.MethodName)) ∈ bwB := bw_in 200 (by rfl) (by rfl)
theorem hw_201 : (Jvm.Cond.instanceMethod ({ cls := "BlockWays$Rounds", name := "numberAround", desc := "(I)I" } : Jvm.MethodName)) ∈ bwB := bw_in 201 (by rfl) (by rfl)
theorem hw_202 : (Jvm.Cond.selects "BlockWays$Rounds" ({ cls := "BlockWays$Rounds", name := "numberAround", desc := "(I)I" } : Jvm.MethodName) ({ cls := "BlockWays$Rounds", name := "numberAround", desc := "(I)I" } : Jvm.MethodName)) ∈ bwB := bw_in 202 (by rfl) (by rfl)
theorem hw_203 : (Jvm.Cond.code ({ cls := "BlockWays$Rounds", name := "numberAround", desc := "(I)I" } : Jvm.MethodName) prog_2_method_5_code (4 : Nat) (Option.some Jvm.ClassFile.FieldType.int)) ∈ bwB := bw_in 203 (by rfl) (by rfl)
theorem hw_205 : (Jvm.Cond.methodLink "BlockWays$Rounds" (45 : Nat) ({ cls := "java/lang/Math", name := "max", desc := "(II)I" } : Jvm.MethodName)) ∈ bwB := bw_in 205 (by rfl) (by rfl)
theorem hw_206 : (Jvm.Cond.static ({ cls := "java/lang/Math", name := "max", desc := "(II)I" } : Jvm.MethodName)) ∈ bwB := bw_in 206 (by rfl) (by rfl)
theorem hw_207 : (Jvm.Cond.code ({ cls := "java/lang/Math", name := "max", desc := "(II)I" } : Jvm.MethodName) prog_8_method_65_code (2 : Nat) (Option.some Jvm.ClassFile.FieldType.int)) ∈ bwB := bw_in 207 (by rfl) (by rfl)
theorem hw_208 : (Jvm.Cond.methodLink "BlockWays" (100 : Nat) ({ cls := "BlockWays", name := "isPlain", desc := "()Z" } : Jvm.MethodName)) ∈ bwB := bw_in 208 (by rfl) (by rfl)
theorem hw_210 : (Jvm.Cond.instanceMethod ({ cls := "BlockWays", name := "isPlain", desc := "()Z" } : Jvm.MethodName)) ∈ bwB := bw_in 210 (by rfl) (by rfl)
theorem hw_211 : (Jvm.Cond.code ({ cls := "BlockWays", name := "isPlain", desc := "()Z" } : Jvm.MethodName) prog_1_method_23_code (8 : Nat) (Option.some Jvm.ClassFile.FieldType.boolean)) ∈ bwB := bw_in 211 (by rfl) (by rfl)
theorem hw_212 : (Jvm.Cond.methodLink "BlockWays" (149 : Nat) ({ cls := "BlockWays$Spread", name := "stepsOf", desc := "(I)J" } : Jvm.MethodName)) ∈ bwB := bw_in 212 (by rfl) (by rfl)
theorem hw_213 : (Jvm.Cond.methodLink "BlockWays" (117 : Nat) ({ cls := "BlockWays$Spread", name := "gated", desc := "(I)J" } : Jvm.MethodName)) ∈ bwB := bw_in 213 (by rfl) (by rfl)
theorem hw_214 : (Jvm.Cond.methodLink "BlockWaysLaw" (37 : Nat) ({ cls := "BlockWays", name := "lid", desc := "(I)I" } : Jvm.MethodName)) ∈ bwB := bw_in 214 (by rfl) (by rfl)
theorem hw_215 : (Jvm.Cond.instanceMethod ({ cls := "BlockWays", name := "lid", desc := "(I)I" } : Jvm.MethodName)) ∈ bwB := bw_in 215 (by rfl) (by rfl)
theorem hw_216 : (Jvm.Cond.selects "BlockWays" ({ cls := "BlockWays", name := "lid", desc := "(I)I" } : Jvm.MethodName) ({ cls := "BlockWays", name := "lid", desc := "(I)I" } : Jvm.MethodName)) ∈ bwB := bw_in 216 (by rfl) (by rfl)
theorem hw_217 : (Jvm.Cond.code ({ cls := "BlockWays", name := "lid", desc := "(I)I" } : Jvm.MethodName) prog_1_method_6_code (2 : Nat) (Option.some Jvm.ClassFile.FieldType.int)) ∈ bwB := bw_in 217 (by rfl) (by rfl)
theorem hw_218 : (Jvm.Cond.methodLink "BlockWays" (104 : Nat) ({ cls := "BlockWays$Spread", name := "nearestGate", desc := "(I)I" } : Jvm.MethodName)) ∈ bwB := bw_in 218 (by rfl) (by rfl)
theorem hw_219 : (Jvm.Cond.instanceMethod ({ cls := "BlockWays$Spread", name := "nearestGate", desc := "(I)I" } : Jvm.MethodName)) ∈ bwB := bw_in 219 (by rfl) (by rfl)
theorem hw_220 : (Jvm.Cond.selects "BlockWays$Spread" ({ cls := "BlockWays$Spread", name := "nearestGate", desc := "(I)I" } : Jvm.MethodName) ({ cls := "BlockWays$Spread", name := "nearestGate", desc := "(I)I" } : Jvm.MethodName)) ∈ bwB := bw_in 220 (by rfl) (by rfl)
theorem hw_221 : (Jvm.Cond.code ({ cls := "BlockWays$Spread", name := "nearestGate", desc := "(I)I" } : Jvm.MethodName) prog_3_method_11_code (7 : Nat) (Option.some Jvm.ClassFile.FieldType.int)) ∈ bwB := bw_in 221 (by rfl) (by rfl)
theorem hw_222 : (Jvm.Cond.methodLink "BlockWays$Spread" (40 : Nat) ({ cls := "BlockWays$Spread", name := "gates", desc := "(I)J" } : Jvm.MethodName)) ∈ bwB := bw_in 222 (by rfl) (by rfl)
theorem hw_223 : (Jvm.Cond.instanceMethod ({ cls := "BlockWays$Spread", name := "gates", desc := "(I)J" } : Jvm.MethodName)) ∈ bwB := bw_in 223 (by rfl) (by rfl)
theorem hw_224 : (Jvm.Cond.selects "BlockWays$Spread" ({ cls := "BlockWays$Spread", name := "gates", desc := "(I)J" } : Jvm.MethodName) ({ cls := "BlockWays$Spread", name := "gates", desc := "(I)J" } : Jvm.MethodName)) ∈ bwB := bw_in 224 (by rfl) (by rfl)
theorem hw_225 : (Jvm.Cond.code ({ cls := "BlockWays$Spread", name := "gates", desc := "(I)J" } : Jvm.MethodName) prog_3_method_10_code (5 : Nat) (Option.some Jvm.ClassFile.FieldType.long)) ∈ bwB := bw_in 225 (by rfl) (by rfl)
theorem hw_226 : (Jvm.Cond.methodLink "BlockWaysLaw" (41 : Nat) ({ cls := "BlockWays", name := "meeting", desc := "(I)I" } : Jvm.MethodName)) ∈ bwB := bw_in 226 (by rfl) (by rfl)
theorem hw_227 : (Jvm.Cond.instanceMethod ({ cls := "BlockWays", name := "meeting", desc := "(I)I" } : Jvm.MethodName)) ∈ bwB := bw_in 227 (by rfl) (by rfl)
theorem hw_228 : (Jvm.Cond.selects "BlockWays" ({ cls := "BlockWays", name := "meeting", desc := "(I)I" } : Jvm.MethodName) ({ cls := "BlockWays", name := "meeting", desc := "(I)I" } : Jvm.MethodName)) ∈ bwB := bw_in 228 (by rfl) (by rfl)
theorem hw_229 : (Jvm.Cond.code ({ cls := "BlockWays", name := "meeting", desc := "(I)I" } : Jvm.MethodName) prog_1_method_7_code (2 : Nat) (Option.some Jvm.ClassFile.FieldType.int)) ∈ bwB := bw_in 229 (by rfl) (by rfl)
theorem hw_230 : (Jvm.Cond.methodLink "BlockWaysLaw" (45 : Nat) ({ cls := "BlockWays", name := "set", desc := "(II)J" } : Jvm.MethodName)) ∈ bwB := bw_in 230 (by rfl) (by rfl)
theorem hw_231 : (Jvm.Cond.instanceMethod ({ cls := "BlockWays", name := "set", desc := "(II)J" } : Jvm.MethodName)) ∈ bwB := bw_in 231 (by rfl) (by rfl)
theorem hw_232 : (Jvm.Cond.selects "BlockWays" ({ cls := "BlockWays", name := "set", desc := "(II)J" } : Jvm.MethodName) ({ cls := "BlockWays", name := "set", desc := "(II)J" } : Jvm.MethodName)) ∈ bwB := bw_in 232 (by rfl) (by rfl)
theorem hw_233 : (Jvm.Cond.code ({ cls := "BlockWays", name := "set", desc := "(II)J" } : Jvm.MethodName) prog_1_method_8_code (3 : Nat) (Option.some Jvm.ClassFile.FieldType.long)) ∈ bwB := bw_in 233 (by rfl) (by rfl)
theorem hw_234 : (Jvm.Cond.methodLink "BlockWays" (108 : Nat) ({ cls := "BlockWays$Spread", name := "gates", desc := "(I)J" } : Jvm.MethodName)) ∈ bwB := bw_in 234 (by rfl) (by rfl)
theorem hw_235 : (Jvm.Cond.methodLink "BlockWays" (111 : Nat) ({ cls := "BlockWays$Rounds", name := "blocksOf", desc := "(I)J" } : Jvm.MethodName)) ∈ bwB := bw_in 235 (by rfl) (by rfl)
theorem hw_236 : (Jvm.Cond.instanceMethod ({ cls := "BlockWays$Rounds", name := "blocksOf", desc := "(I)J" } : Jvm.MethodName)) ∈ bwB := bw_in 236 (by rfl) (by rfl)
theorem hw_237 : (Jvm.Cond.selects "BlockWays$Rounds" ({ cls := "BlockWays$Rounds", name := "blocksOf", desc := "(I)J" } : Jvm.MethodName) ({ cls := "BlockWays$Rounds", name := "blocksOf", desc := "(I)J" } : Jvm.MethodName)) ∈ bwB := bw_in 237 (by rfl) (by rfl)
theorem hw_238 : (Jvm.Cond.code ({ cls := "BlockWays$Rounds", name := "blocksOf", desc := "(I)J" } : Jvm.MethodName) prog_2_method_3_code (2 : Nat) (Option.some Jvm.ClassFile.FieldType.long)) ∈ bwB := bw_in 238 (by rfl) (by rfl)
theorem hw_239 : (Jvm.Cond.methodLink "BlockWays" (114 : Nat) ({ cls := "BlockWays$Spread", name := "rim", desc := "(I)J" } : Jvm.MethodName)) ∈ bwB := bw_in 239 (by rfl) (by rfl)
theorem hw_240 : (Jvm.Cond.instanceMethod ({ cls := "BlockWays$Spread", name := "rim", desc := "(I)J" } : Jvm.MethodName)) ∈ bwB := bw_in 240 (by rfl) (by rfl)
theorem hw_241 : (Jvm.Cond.selects "BlockWays$Spread" ({ cls := "BlockWays$Spread", name := "rim", desc := "(I)J" } : Jvm.MethodName) ({ cls := "BlockWays$Spread", name := "rim", desc := "(I)J" } : Jvm.MethodName)) ∈ bwB := bw_in 241 (by rfl) (by rfl)
theorem hw_242 : (Jvm.Cond.code ({ cls := "BlockWays$Spread", name := "rim", desc := "(I)J" } : Jvm.MethodName) prog_3_method_12_code (5 : Nat) (Option.some Jvm.ClassFile.FieldType.long)) ∈ bwB := bw_in 242 (by rfl) (by rfl)
theorem hw_243 : (Jvm.Cond.methodLink "BlockWaysLaw" (50 : Nat) ({ cls := "BlockWays", name := "depth", desc := "(I)I" } : Jvm.MethodName)) ∈ bwB := bw_in 243 (by rfl) (by rfl)
theorem hw_244 : (Jvm.Cond.instanceMethod ({ cls := "BlockWays", name := "depth", desc := "(I)I" } : Jvm.MethodName)) ∈ bwB := bw_in 244 (by rfl) (by rfl)
theorem hw_245 : (Jvm.Cond.selects "BlockWays" ({ cls := "BlockWays", name := "depth", desc := "(I)I" } : Jvm.MethodName) ({ cls := "BlockWays", name := "depth", desc := "(I)I" } : Jvm.MethodName)) ∈ bwB := bw_in 245 (by rfl) (by rfl)
theorem hw_246 : (Jvm.Cond.code ({ cls := "BlockWays", name := "depth", desc := "(I)I" } : Jvm.MethodName) prog_1_method_9_code (2 : Nat) (Option.some Jvm.ClassFile.FieldType.int)) ∈ bwB := bw_in 246 (by rfl) (by rfl)
theorem hw_247 : (Jvm.Cond.methodLink "BlockWays" (120 : Nat) ({ cls := "BlockWays$Rounds", name := "numberAround", desc := "(I)I" } : Jvm.MethodName)) ∈ bwB := bw_in 247 (by rfl) (by rfl)
theorem hw_248 : (Jvm.Cond.methodLink "BlockWaysLaw" (66 : Nat) ({ cls := "BlockWays", name := "joins", desc := "(J)J" } : Jvm.MethodName)) ∈ bwB := bw_in 248 (by rfl) (by rfl)
theorem hw_249 : (Jvm.Cond.instanceMethod ({ cls := "BlockWays", name := "joins", desc := "(J)J" } : Jvm.MethodName)) ∈ bwB := bw_in 249 (by rfl) (by rfl)
theorem hw_250 : (Jvm.Cond.selects "BlockWays" ({ cls := "BlockWays", name := "joins", desc := "(J)J" } : Jvm.MethodName) ({ cls := "BlockWays", name := "joins", desc := "(J)J" } : Jvm.MethodName)) ∈ bwB := bw_in 250 (by rfl) (by rfl)
theorem hw_251 : (Jvm.Cond.code ({ cls := "BlockWays", name := "joins", desc := "(J)J" } : Jvm.MethodName) prog_1_method_11_code (14 : Nat) (Option.some Jvm.ClassFile.FieldType.long)) ∈ bwB := bw_in 251 (by rfl) (by rfl)
theorem hw_252 : (Jvm.Cond.methodLink "BlockWays" (133 : Nat) ({ cls := "BlockWays", name := "lowest", desc := "(J)I" } : Jvm.MethodName)) ∈ bwB := bw_in 252 (by rfl) (by rfl)
theorem hw_253 : (Jvm.Cond.methodLink "BlockWaysLaw" (54 : Nat) ({ cls := "BlockWaysLaw", name := "inner", desc := "(LBlockWays;I[J)I" } : Jvm.MethodName)) ∈ bwB := bw_in 253 (by rfl) (by rfl)
theorem hw_254 : (Jvm.Cond.static ({ cls := "BlockWaysLaw", name := "inner", desc := "(LBlockWays;I[J)I" } : Jvm.MethodName)) ∈ bwB := bw_in 254 (by rfl) (by rfl)
theorem hw_256 : (Jvm.Cond.classLink "BlockWaysLaw" (13 : Nat) "java/util/NoSuchElementException") ∈ bwB := bw_in 256 (by rfl) (by rfl)
theorem hw_257 : (Jvm.Cond.methodLink "BlockWaysLaw" (7 : Nat) ({ cls := "BlockWays", name := "inner", desc := "(I)I" } : Jvm.MethodName)) ∈ bwB := bw_in 257 (by rfl) (by rfl)
theorem hw_258 : (Jvm.Cond.instanceMethod ({ cls := "BlockWays", name := "inner", desc := "(I)I" } : Jvm.MethodName)) ∈ bwB := bw_in 258 (by rfl) (by rfl)
theorem hw_259 : (Jvm.Cond.selects "BlockWays" ({ cls := "BlockWays", name := "inner", desc := "(I)I" } : Jvm.MethodName) ({ cls := "BlockWays", name := "inner", desc := "(I)I" } : Jvm.MethodName)) ∈ bwB := bw_in 259 (by rfl) (by rfl)
theorem hw_260 : (Jvm.Cond.code ({ cls := "BlockWays", name := "inner", desc := "(I)I" } : Jvm.MethodName) prog_1_method_10_code (3 : Nat) (Option.some Jvm.ClassFile.FieldType.int)) ∈ bwB := bw_in 260 (by rfl) (by rfl)
theorem hw_261 : (Jvm.Cond.methodLink "BlockWays" (123 : Nat) ({ cls := "BlockWays$Rounds", name := "smallestAround", desc := "(I)I" } : Jvm.MethodName)) ∈ bwB := bw_in 261 (by rfl) (by rfl)
theorem hw_262 : (Jvm.Cond.instanceMethod ({ cls := "BlockWays$Rounds", name := "smallestAround", desc := "(I)I" } : Jvm.MethodName)) ∈ bwB := bw_in 262 (by rfl) (by rfl)
theorem hw_263 : (Jvm.Cond.selects "BlockWays$Rounds" ({ cls := "BlockWays$Rounds", name := "smallestAround", desc := "(I)I" } : Jvm.MethodName) ({ cls := "BlockWays$Rounds", name := "smallestAround", desc := "(I)I" } : Jvm.MethodName)) ∈ bwB := bw_in 263 (by rfl) (by rfl)
theorem hw_264 : (Jvm.Cond.code ({ cls := "BlockWays$Rounds", name := "smallestAround", desc := "(I)I" } : Jvm.MethodName) prog_2_method_7_code (6 : Nat) (Option.some Jvm.ClassFile.FieldType.int)) ∈ bwB := bw_in 264 (by rfl) (by rfl)
theorem hw_265 : (Jvm.Cond.methodLink "BlockWays$Rounds" (51 : Nat) ({ cls := "java/lang/Long", name := "bitCount", desc := "(J)I" } : Jvm.MethodName)) ∈ bwB := bw_in 265 (by rfl) (by rfl)
theorem hw_266 : (Jvm.Cond.classLink "BlockWays" (126 : Nat) "java/util/NoSuchElementException") ∈ bwB := bw_in 266 (by rfl) (by rfl)
theorem hw_267 : (Jvm.Cond.instantiable "java/util/NoSuchElementException" (6 : Nat)) ∈ bwB := bw_in 267 (by rfl) (by rfl)
theorem hw_275 : (Jvm.Cond.selects "java/util/NoSuchElementException" ({ cls := "java/lang/Throwable", name := "fillInStackTrace", desc := "(I)Ljava/lang/Throwable;" } : Jvm.MethodName) ({ cls := "java/lang/Throwable", name := "fillInStackTrace", desc := "(I)Ljava/lang/Throwable;" } : Jvm.MethodName)) ∈ bwB := bw_in 275 (by rfl) (by rfl)
theorem hw_276 : (Jvm.Cond.selects "java/util/NoSuchElementException" ({ cls := "java/lang/Throwable", name := "fillInStackTrace", desc := "()Ljava/lang/Throwable;" } : Jvm.MethodName) ({ cls := "java/lang/Throwable", name := "fillInStackTrace", desc := "()Ljava/lang/Throwable;" } : Jvm.MethodName)) ∈ bwB := bw_in 276 (by rfl) (by rfl)
theorem hw_277 : (Jvm.Cond.lays "java/util/NoSuchElementException" "java/lang/Throwable" "cause" "Ljava/lang/Throwable;") ∈ bwB := bw_in 277 (by rfl) (by rfl)
theorem hw_278 : (Jvm.Cond.lays "java/lang/Throwable" "java/lang/Throwable" "cause" "Ljava/lang/Throwable;") ∈ bwB := bw_in 278 (by rfl) (by rfl)
theorem hw_279 : (Jvm.Cond.lays "java/util/NoSuchElementException" "java/lang/Throwable" "stackTrace" "[Ljava/lang/StackTraceElement;") ∈ bwB := bw_in 279 (by rfl) (by rfl)
theorem hw_280 : (Jvm.Cond.lays "java/lang/Throwable" "java/lang/Throwable" "stackTrace" "[Ljava/lang/StackTraceElement;") ∈ bwB := bw_in 280 (by rfl) (by rfl)
theorem hw_281 : (Jvm.Cond.lays "java/util/NoSuchElementException" "java/lang/Throwable" "suppressedExceptions" "Ljava/util/List;") ∈ bwB := bw_in 281 (by rfl) (by rfl)
theorem hw_282 : (Jvm.Cond.lays "java/lang/Throwable" "java/lang/Throwable" "suppressedExceptions" "Ljava/util/List;") ∈ bwB := bw_in 282 (by rfl) (by rfl)
theorem hw_283 : (Jvm.Cond.lays "java/util/NoSuchElementException" "java/lang/Throwable" "detailMessage" "Ljava/lang/String;") ∈ bwB := bw_in 283 (by rfl) (by rfl)
theorem hw_284 : (Jvm.Cond.lays "java/lang/Throwable" "java/lang/Throwable" "detailMessage" "Ljava/lang/String;") ∈ bwB := bw_in 284 (by rfl) (by rfl)
theorem hw_285 : (Jvm.Cond.lays "java/util/NoSuchElementException" "java/lang/Throwable" "backtrace" "Ljava/lang/Object;") ∈ bwB := bw_in 285 (by rfl) (by rfl)
theorem hw_286 : (Jvm.Cond.lays "java/lang/Throwable" "java/lang/Throwable" "backtrace" "Ljava/lang/Object;") ∈ bwB := bw_in 286 (by rfl) (by rfl)
theorem hw_287 : (Jvm.Cond.fieldLink "java/lang/Throwable" (198 : Nat) "java/lang/Throwable" "backtrace" "Ljava/lang/Object;") ∈ bwB := bw_in 287 (by rfl) (by rfl)
theorem hw_289 : (Jvm.Cond.instanceMethod ({ cls := "java/lang/Throwable", name := "<init>", desc := "()V" } : Jvm.MethodName)) ∈ bwB := bw_in 289 (by rfl) (by rfl)
theorem hw_290 : (Jvm.Cond.code ({ cls := "java/lang/Throwable", name := "<init>", desc := "()V" } : Jvm.MethodName) prog_11_method_1_code (1 : Nat) (Option.none : Option Jvm.ClassFile.FieldType)) ∈ bwB := bw_in 290 (by rfl) (by rfl)
theorem hw_291 : (Jvm.Cond.methodLink "java/lang/Throwable" (1 : Nat) ({ cls := "java/lang/Object", name := "<init>", desc := "()V" } : Jvm.MethodName)) ∈ bwB := bw_in 291 (by rfl) (by rfl)
theorem hw_292 : (Jvm.Cond.fieldLink "java/lang/Throwable" (13 : Nat) "java/lang/Throwable" "UNASSIGNED_STACK" "[Ljava/lang/StackTraceElement;") ∈ bwB := bw_in 292 (by rfl) (by rfl)
theorem hw_294 : (Jvm.Cond.fieldLink "java/lang/Throwable" (20 : Nat) "java/lang/Throwable" "SUPPRESSED_SENTINEL" "Ljava/util/List;") ∈ bwB := bw_in 294 (by rfl) (by rfl)
theorem hw_296 : (Jvm.Cond.methodLink "java/lang/Throwable" (27 : Nat) ({ cls := "java/lang/Throwable", name := "fillInStackTrace", desc := "()Ljava/lang/Throwable;" } : Jvm.MethodName)) ∈ bwB := bw_in 296 (by rfl) (by rfl)
theorem hw_297 : (Jvm.Cond.instanceMethod ({ cls := "java/lang/Throwable", name := "fillInStackTrace", desc := "()Ljava/lang/Throwable;" } : Jvm.MethodName)) ∈ bwB := bw_in 297 (by rfl) (by rfl)
theorem hw_300 : (Jvm.Cond.methodLink "java/lang/Throwable" (202 : Nat) ({ cls := "java/lang/Throwable", name := "fillInStackTrace", desc := "(I)Ljava/lang/Throwable;" } : Jvm.MethodName)) ∈ bwB := bw_in 300 (by rfl) (by rfl)
theorem hw_302 : (Jvm.Cond.instanceMethod ({ cls := "java/lang/Throwable", name := "fillInStackTrace", desc := "(I)Ljava/lang/Throwable;" } : Jvm.MethodName)) ∈ bwB := bw_in 302 (by rfl) (by rfl)
theorem hw_303 : (Jvm.Cond.instantiable "java/lang/Throwable" (6 : Nat)) ∈ bwB := bw_in 303 (by rfl) (by rfl)
theorem hw_306 : (Jvm.Cond.methodLink "BlockWays" (130 : Nat) ({ cls := "java/util/NoSuchElementException", name := "<init>", desc := "(Ljava/lang/String;)V" } : Jvm.MethodName)) ∈ bwB := bw_in 306 (by rfl) (by rfl)
theorem hw_307 : (Jvm.Cond.instanceMethod ({ cls := "java/util/NoSuchElementException", name := "<init>", desc := "(Ljava/lang/String;)V" } : Jvm.MethodName)) ∈ bwB := bw_in 307 (by rfl) (by rfl)
theorem hw_308 : (Jvm.Cond.code ({ cls := "java/util/NoSuchElementException", name := "<init>", desc := "(Ljava/lang/String;)V" } : Jvm.MethodName) prog_12_method_4_code (2 : Nat) (Option.none : Option Jvm.ClassFile.FieldType)) ∈ bwB := bw_in 308 (by rfl) (by rfl)
theorem hw_309 : (Jvm.Cond.methodLink "java/util/NoSuchElementException" (13 : Nat) ({ cls := "java/lang/RuntimeException", name := "<init>", desc := "(Ljava/lang/String;)V" } : Jvm.MethodName)) ∈ bwB := bw_in 309 (by rfl) (by rfl)
theorem hw_310 : (Jvm.Cond.instanceMethod ({ cls := "java/lang/RuntimeException", name := "<init>", desc := "(Ljava/lang/String;)V" } : Jvm.MethodName)) ∈ bwB := bw_in 310 (by rfl) (by rfl)
theorem hw_311 : (Jvm.Cond.code ({ cls := "java/lang/RuntimeException", name := "<init>", desc := "(Ljava/lang/String;)V" } : Jvm.MethodName) prog_9_method_2_code (2 : Nat) (Option.none : Option Jvm.ClassFile.FieldType)) ∈ bwB := bw_in 311 (by rfl) (by rfl)
theorem hw_312 : (Jvm.Cond.methodLink "java/lang/RuntimeException" (7 : Nat) ({ cls := "java/lang/Exception", name := "<init>", desc := "(Ljava/lang/String;)V" } : Jvm.MethodName)) ∈ bwB := bw_in 312 (by rfl) (by rfl)
theorem hw_313 : (Jvm.Cond.instanceMethod ({ cls := "java/lang/Exception", name := "<init>", desc := "(Ljava/lang/String;)V" } : Jvm.MethodName)) ∈ bwB := bw_in 313 (by rfl) (by rfl)
theorem hw_314 : (Jvm.Cond.code ({ cls := "java/lang/Exception", name := "<init>", desc := "(Ljava/lang/String;)V" } : Jvm.MethodName) prog_6_method_2_code (2 : Nat) (Option.none : Option Jvm.ClassFile.FieldType)) ∈ bwB := bw_in 314 (by rfl) (by rfl)
theorem hw_315 : (Jvm.Cond.methodLink "java/lang/Exception" (7 : Nat) ({ cls := "java/lang/Throwable", name := "<init>", desc := "(Ljava/lang/String;)V" } : Jvm.MethodName)) ∈ bwB := bw_in 315 (by rfl) (by rfl)
theorem hw_316 : (Jvm.Cond.instanceMethod ({ cls := "java/lang/Throwable", name := "<init>", desc := "(Ljava/lang/String;)V" } : Jvm.MethodName)) ∈ bwB := bw_in 316 (by rfl) (by rfl)
theorem hw_317 : (Jvm.Cond.code ({ cls := "java/lang/Throwable", name := "<init>", desc := "(Ljava/lang/String;)V" } : Jvm.MethodName) prog_11_method_2_code (2 : Nat) (Option.none : Option Jvm.ClassFile.FieldType)) ∈ bwB := bw_in 317 (by rfl) (by rfl)
theorem hw_318 : (Jvm.Cond.fieldLink "java/lang/Throwable" (198 : Nat) "java/lang/Throwable" "backtrace" "Ljava/lang/Object;") ∈ bwB := bw_in 318 (by rfl) (by rfl)
theorem hw_319 : (Jvm.Cond.fieldLink "java/lang/Throwable" (31 : Nat) "java/lang/Throwable" "detailMessage" "Ljava/lang/String;") ∈ bwB := bw_in 319 (by rfl) (by rfl)
theorem hw_320 : (Jvm.Cond.fieldLink "java/lang/Throwable" (7 : Nat) "java/lang/Throwable" "cause" "Ljava/lang/Throwable;") ∈ bwB := bw_in 320 (by rfl) (by rfl)
theorem hw_321 : (Jvm.Cond.fieldLink "java/lang/Throwable" (17 : Nat) "java/lang/Throwable" "stackTrace" "[Ljava/lang/StackTraceElement;") ∈ bwB := bw_in 321 (by rfl) (by rfl)
theorem hw_322 : (Jvm.Cond.fieldLink "java/lang/Throwable" (24 : Nat) "java/lang/Throwable" "suppressedExceptions" "Ljava/util/List;") ∈ bwB := bw_in 322 (by rfl) (by rfl)
theorem hw_327 : (Jvm.Cond.lays "java/util/NoSuchElementException" "java/lang/Throwable" "depth" "I") ∈ bwB := bw_in 327 (by rfl) (by rfl)
theorem hw_331 : (Jvm.Cond.arrayClass Jvm.ClassFile.FieldType.byte) ∈ bwB := bw_in 331 (by rfl) (by rfl)
theorem hw_332 : (Jvm.Cond.classLink "BlockWaysLaw" (16 : Nat) "BlockWaysModel") ∈ bwB := bw_in 332 (by rfl) (by rfl)
theorem hw_333 : (Jvm.Cond.instantiable "BlockWaysModel" (15 : Nat)) ∈ bwB := bw_in 333 (by rfl) (by rfl)
theorem hw_334 : (Jvm.Cond.methodLink "BlockWaysLaw" (18 : Nat) ({ cls := "BlockWaysModel", name := "<init>", desc := "()V" } : Jvm.MethodName)) ∈ bwB := bw_in 334 (by rfl) (by rfl)
theorem hw_335 : (Jvm.Cond.instanceMethod ({ cls := "BlockWaysModel", name := "<init>", desc := "()V" } : Jvm.MethodName)) ∈ bwB := bw_in 335 (by rfl) (by rfl)
theorem hw_336 : (Jvm.Cond.code ({ cls := "BlockWaysModel", name := "<init>", desc := "()V" } : Jvm.MethodName) prog_5_method_1_code (1 : Nat) (Option.none : Option Jvm.ClassFile.FieldType)) ∈ bwB := bw_in 336 (by rfl) (by rfl)
theorem hw_337 : (Jvm.Cond.methodLink "BlockWaysModel" (1 : Nat) ({ cls := "java/lang/Object", name := "<init>", desc := "()V" } : Jvm.MethodName)) ∈ bwB := bw_in 337 (by rfl) (by rfl)
theorem hw_338 : (Jvm.Cond.fieldLink "BlockWaysModel" (32 : Nat) "BlockWaysModel" "thrown" "I") ∈ bwB := bw_in 338 (by rfl) (by rfl)
theorem hw_339 : (Jvm.Cond.fieldLink "BlockWaysModel" (44 : Nat) "BlockWaysModel" "there" "J") ∈ bwB := bw_in 339 (by rfl) (by rfl)
theorem hw_340 : (Jvm.Cond.fieldLink "BlockWaysModel" (7 : Nat) "BlockWaysModel" "many" "[I") ∈ bwB := bw_in 340 (by rfl) (by rfl)
theorem hw_341 : (Jvm.Cond.fieldLink "BlockWaysModel" (13 : Nat) "BlockWaysModel" "targets" "[I") ∈ bwB := bw_in 341 (by rfl) (by rfl)
theorem hw_342 : (Jvm.Cond.fieldLink "BlockWaysModel" (52 : Nat) "BlockWaysModel" "known" "Z") ∈ bwB := bw_in 342 (by rfl) (by rfl)
theorem hw_343 : (Jvm.Cond.fieldLink "BlockWaysModel" (16 : Nat) "BlockWaysModel" "steps" "[J") ∈ bwB := bw_in 343 (by rfl) (by rfl)
theorem hw_344 : (Jvm.Cond.fieldLink "BlockWaysModel" (64 : Nat) "BlockWaysModel" "reached" "J") ∈ bwB := bw_in 344 (by rfl) (by rfl)
theorem hw_345 : (Jvm.Cond.fieldLink "BlockWaysModel" (71 : Nat) "BlockWaysModel" "good" "J") ∈ bwB := bw_in 345 (by rfl) (by rfl)
theorem hw_346 : (Jvm.Cond.fieldLink "BlockWaysModel" (58 : Nat) "BlockWaysModel" "ends" "J") ∈ bwB := bw_in 346 (by rfl) (by rfl)
theorem hw_347 : (Jvm.Cond.fieldLink "BlockWaysModel" (20 : Nat) "BlockWaysModel" "over" "[J") ∈ bwB := bw_in 347 (by rfl) (by rfl)
theorem hw_348 : (Jvm.Cond.fieldLink "BlockWaysModel" (23 : Nat) "BlockWaysModel" "behind" "[J") ∈ bwB := bw_in 348 (by rfl) (by rfl)
theorem hw_349 : (Jvm.Cond.fieldLink "BlockWaysModel" (80 : Nat) "BlockWaysModel" "heads" "J") ∈ bwB := bw_in 349 (by rfl) (by rfl)
theorem hw_350 : (Jvm.Cond.fieldLink "BlockWaysModel" (26 : Nat) "BlockWaysModel" "rounds" "[J") ∈ bwB := bw_in 350 (by rfl) (by rfl)
theorem hw_351 : (Jvm.Cond.fieldLink "BlockWaysModel" (29 : Nat) "BlockWaysModel" "edges" "[J") ∈ bwB := bw_in 351 (by rfl) (by rfl)
theorem hw_352 : (Jvm.Cond.fieldLink "BlockWaysModel" (83 : Nat) "BlockWaysModel" "plain" "Z") ∈ bwB := bw_in 352 (by rfl) (by rfl)
theorem hw_353 : (Jvm.Cond.lays "BlockWaysModel" "BlockWaysModel" "thrown" "I") ∈ bwB := bw_in 353 (by rfl) (by rfl)
theorem hw_355 : (Jvm.Cond.lays "BlockWaysModel" "BlockWaysModel" "there" "J") ∈ bwB := bw_in 355 (by rfl) (by rfl)
theorem hw_357 : (Jvm.Cond.laysFinal "BlockWaysModel" "BlockWaysModel" "many" "[I") ∈ bwB := bw_in 357 (by rfl) (by rfl)
theorem hw_359 : (Jvm.Cond.laysFinal "BlockWaysModel" "BlockWaysModel" "targets" "[I") ∈ bwB := bw_in 359 (by rfl) (by rfl)
theorem hw_361 : (Jvm.Cond.lays "BlockWaysModel" "BlockWaysModel" "known" "Z") ∈ bwB := bw_in 361 (by rfl) (by rfl)
theorem hw_363 : (Jvm.Cond.laysFinal "BlockWaysModel" "BlockWaysModel" "steps" "[J") ∈ bwB := bw_in 363 (by rfl) (by rfl)
theorem hw_365 : (Jvm.Cond.lays "BlockWaysModel" "BlockWaysModel" "reached" "J") ∈ bwB := bw_in 365 (by rfl) (by rfl)
theorem hw_367 : (Jvm.Cond.lays "BlockWaysModel" "BlockWaysModel" "good" "J") ∈ bwB := bw_in 367 (by rfl) (by rfl)
theorem hw_369 : (Jvm.Cond.lays "BlockWaysModel" "BlockWaysModel" "ends" "J") ∈ bwB := bw_in 369 (by rfl) (by rfl)
theorem hw_371 : (Jvm.Cond.laysFinal "BlockWaysModel" "BlockWaysModel" "over" "[J") ∈ bwB := bw_in 371 (by rfl) (by rfl)
theorem hw_373 : (Jvm.Cond.laysFinal "BlockWaysModel" "BlockWaysModel" "behind" "[J") ∈ bwB := bw_in 373 (by rfl) (by rfl)
theorem hw_375 : (Jvm.Cond.lays "BlockWaysModel" "BlockWaysModel" "heads" "J") ∈ bwB := bw_in 375 (by rfl) (by rfl)
theorem hw_377 : (Jvm.Cond.laysFinal "BlockWaysModel" "BlockWaysModel" "rounds" "[J") ∈ bwB := bw_in 377 (by rfl) (by rfl)
theorem hw_379 : (Jvm.Cond.laysFinal "BlockWaysModel" "BlockWaysModel" "edges" "[J") ∈ bwB := bw_in 379 (by rfl) (by rfl)
theorem hw_381 : (Jvm.Cond.lays "BlockWaysModel" "BlockWaysModel" "plain" "Z") ∈ bwB := bw_in 381 (by rfl) (by rfl)
theorem hw_384 : (Jvm.Cond.methodLink "BlockWaysLaw" (60 : Nat) ({ cls := "BlockWaysModel", name := "thrown", desc := "()I" } : Jvm.MethodName)) ∈ bwB := bw_in 384 (by rfl) (by rfl)
theorem hw_385 : (Jvm.Cond.instanceMethod ({ cls := "BlockWaysModel", name := "thrown", desc := "()I" } : Jvm.MethodName)) ∈ bwB := bw_in 385 (by rfl) (by rfl)
theorem hw_386 : (Jvm.Cond.selects "BlockWaysModel" ({ cls := "BlockWaysModel", name := "thrown", desc := "()I" } : Jvm.MethodName) ({ cls := "BlockWaysModel", name := "thrown", desc := "()I" } : Jvm.MethodName)) ∈ bwB := bw_in 386 (by rfl) (by rfl)
theorem hw_387 : (Jvm.Cond.code ({ cls := "BlockWaysModel", name := "thrown", desc := "()I" } : Jvm.MethodName) prog_5_method_2_code (1 : Nat) (Option.some Jvm.ClassFile.FieldType.int)) ∈ bwB := bw_in 387 (by rfl) (by rfl)
theorem hw_388 : (Jvm.Cond.methodLink "BlockWaysLaw" (23 : Nat) ({ cls := "BlockWaysModel", name := "block", desc := "(I)Z" } : Jvm.MethodName)) ∈ bwB := bw_in 388 (by rfl) (by rfl)
theorem hw_389 : (Jvm.Cond.instanceMethod ({ cls := "BlockWaysModel", name := "block", desc := "(I)Z" } : Jvm.MethodName)) ∈ bwB := bw_in 389 (by rfl) (by rfl)
theorem hw_390 : (Jvm.Cond.selects "BlockWaysModel" ({ cls := "BlockWaysModel", name := "block", desc := "(I)Z" } : Jvm.MethodName) ({ cls := "BlockWaysModel", name := "block", desc := "(I)Z" } : Jvm.MethodName)) ∈ bwB := bw_in 390 (by rfl) (by rfl)
theorem hw_391 : (Jvm.Cond.code ({ cls := "BlockWaysModel", name := "block", desc := "(I)Z" } : Jvm.MethodName) prog_5_method_7_code (2 : Nat) (Option.some Jvm.ClassFile.FieldType.boolean)) ∈ bwB := bw_in 391 (by rfl) (by rfl)
theorem hw_392 : (Jvm.Cond.methodLink "BlockWaysModel" (40 : Nat) ({ cls := "BlockWaysModel", name := "isBlock", desc := "(I)Z" } : Jvm.MethodName)) ∈ bwB := bw_in 392 (by rfl) (by rfl)
theorem hw_393 : (Jvm.Cond.static ({ cls := "BlockWaysModel", name := "isBlock", desc := "(I)Z" } : Jvm.MethodName)) ∈ bwB := bw_in 393 (by rfl) (by rfl)
theorem hw_394 : (Jvm.Cond.code ({ cls := "BlockWaysModel", name := "isBlock", desc := "(I)Z" } : Jvm.MethodName) prog_5_method_3_code (1 : Nat) (Option.some Jvm.ClassFile.FieldType.boolean)) ∈ bwB := bw_in 394 (by rfl) (by rfl)
theorem hw_395 : (Jvm.Cond.methodLink "BlockWaysModel" (36 : Nat) ({ cls := "BlockWaysModel", name := "is", desc := "(JI)Z" } : Jvm.MethodName)) ∈ bwB := bw_in 395 (by rfl) (by rfl)
theorem hw_396 : (Jvm.Cond.static ({ cls := "BlockWaysModel", name := "is", desc := "(JI)Z" } : Jvm.MethodName)) ∈ bwB := bw_in 396 (by rfl) (by rfl)
theorem hw_397 : (Jvm.Cond.code ({ cls := "BlockWaysModel", name := "is", desc := "(JI)Z" } : Jvm.MethodName) prog_5_method_4_code (3 : Nat) (Option.some Jvm.ClassFile.FieldType.boolean)) ∈ bwB := bw_in 397 (by rfl) (by rfl)
theorem hw_398 : (Jvm.Cond.methodLink "BlockWaysModel" (48 : Nat) ({ cls := "BlockWaysModel", name := "bit", desc := "(I)J" } : Jvm.MethodName)) ∈ bwB := bw_in 398 (by rfl) (by rfl)
theorem hw_399 : (Jvm.Cond.static ({ cls := "BlockWaysModel", name := "bit", desc := "(I)J" } : Jvm.MethodName)) ∈ bwB := bw_in 399 (by rfl) (by rfl)
theorem hw_400 : (Jvm.Cond.code ({ cls := "BlockWaysModel", name := "bit", desc := "(I)J" } : Jvm.MethodName) prog_5_method_5_code (1 : Nat) (Option.some Jvm.ClassFile.FieldType.long)) ∈ bwB := bw_in 400 (by rfl) (by rfl)
theorem hw_401 : (Jvm.Cond.methodLink "BlockWaysLaw" (28 : Nat) ({ cls := "BlockWaysModel", name := "target", desc := "(II)Z" } : Jvm.MethodName)) ∈ bwB := bw_in 401 (by rfl) (by rfl)
theorem hw_402 : (Jvm.Cond.instanceMethod ({ cls := "BlockWaysModel", name := "target", desc := "(II)Z" } : Jvm.MethodName)) ∈ bwB := bw_in 402 (by rfl) (by rfl)
theorem hw_403 : (Jvm.Cond.selects "BlockWaysModel" ({ cls := "BlockWaysModel", name := "target", desc := "(II)Z" } : Jvm.MethodName) ({ cls := "BlockWaysModel", name := "target", desc := "(II)Z" } : Jvm.MethodName)) ∈ bwB := bw_in 403 (by rfl) (by rfl)
theorem hw_404 : (Jvm.Cond.code ({ cls := "BlockWaysModel", name := "target", desc := "(II)Z" } : Jvm.MethodName) prog_5_method_8_code (3 : Nat) (Option.some Jvm.ClassFile.FieldType.boolean)) ∈ bwB := bw_in 404 (by rfl) (by rfl)
theorem hw_405 : (Jvm.Cond.methodLink "BlockWaysLaw" (32 : Nat) ({ cls := "BlockWaysModel", name := "drop", desc := "(I)Z" } : Jvm.MethodName)) ∈ bwB := bw_in 405 (by rfl) (by rfl)
theorem hw_406 : (Jvm.Cond.instanceMethod ({ cls := "BlockWaysModel", name := "drop", desc := "(I)Z" } : Jvm.MethodName)) ∈ bwB := bw_in 406 (by rfl) (by rfl)
theorem hw_407 : (Jvm.Cond.selects "BlockWaysModel" ({ cls := "BlockWaysModel", name := "drop", desc := "(I)Z" } : Jvm.MethodName) ({ cls := "BlockWaysModel", name := "drop", desc := "(I)Z" } : Jvm.MethodName)) ∈ bwB := bw_in 407 (by rfl) (by rfl)
theorem hw_408 : (Jvm.Cond.code ({ cls := "BlockWaysModel", name := "drop", desc := "(I)Z" } : Jvm.MethodName) prog_5_method_9_code (2 : Nat) (Option.some Jvm.ClassFile.FieldType.boolean)) ∈ bwB := bw_in 408 (by rfl) (by rfl)
theorem hw_409 : (Jvm.Cond.constantLong "BlockWaysModel" (56 : Nat) (-1 : Int64)) ∈ bwB := bw_in 409 (by rfl) (by rfl)
theorem hw_410 : (Jvm.Cond.methodLink "BlockWaysLaw" (36 : Nat) ({ cls := "BlockWaysModel", name := "count", desc := "(I)I" } : Jvm.MethodName)) ∈ bwB := bw_in 410 (by rfl) (by rfl)
theorem hw_411 : (Jvm.Cond.instanceMethod ({ cls := "BlockWaysModel", name := "count", desc := "(I)I" } : Jvm.MethodName)) ∈ bwB := bw_in 411 (by rfl) (by rfl)
theorem hw_412 : (Jvm.Cond.selects "BlockWaysModel" ({ cls := "BlockWaysModel", name := "count", desc := "(I)I" } : Jvm.MethodName) ({ cls := "BlockWaysModel", name := "count", desc := "(I)I" } : Jvm.MethodName)) ∈ bwB := bw_in 412 (by rfl) (by rfl)
theorem hw_413 : (Jvm.Cond.code ({ cls := "BlockWaysModel", name := "count", desc := "(I)I" } : Jvm.MethodName) prog_5_method_16_code (4 : Nat) (Option.some Jvm.ClassFile.FieldType.int)) ∈ bwB := bw_in 413 (by rfl) (by rfl)
theorem hw_414 : (Jvm.Cond.methodLink "BlockWaysModel" (86 : Nat) ({ cls := "BlockWaysModel", name := "look", desc := "()V" } : Jvm.MethodName)) ∈ bwB := bw_in 414 (by rfl) (by rfl)
theorem hw_416 : (Jvm.Cond.instanceMethod ({ cls := "BlockWaysModel", name := "look", desc := "()V" } : Jvm.MethodName)) ∈ bwB := bw_in 416 (by rfl) (by rfl)
theorem hw_417 : (Jvm.Cond.code ({ cls := "BlockWaysModel", name := "look", desc := "()V" } : Jvm.MethodName) prog_5_method_12_code (7 : Nat) (Option.none : Option Jvm.ClassFile.FieldType)) ∈ bwB := bw_in 417 (by rfl) (by rfl)
theorem hw_418 : (Jvm.Cond.methodLink "BlockWaysModel" (61 : Nat) ({ cls := "BlockWaysModel", name := "comeTo", desc := "(I)J" } : Jvm.MethodName)) ∈ bwB := bw_in 418 (by rfl) (by rfl)
theorem hw_420 : (Jvm.Cond.instanceMethod ({ cls := "BlockWaysModel", name := "comeTo", desc := "(I)J" } : Jvm.MethodName)) ∈ bwB := bw_in 420 (by rfl) (by rfl)
theorem hw_421 : (Jvm.Cond.code ({ cls := "BlockWaysModel", name := "comeTo", desc := "(I)J" } : Jvm.MethodName) prog_5_method_10_code (8 : Nat) (Option.some Jvm.ClassFile.FieldType.long)) ∈ bwB := bw_in 421 (by rfl) (by rfl)
theorem hw_422 : (Jvm.Cond.methodLink "BlockWaysModel" (67 : Nat) ({ cls := "BlockWaysModel", name := "leadTo", desc := "(JI)J" } : Jvm.MethodName)) ∈ bwB := bw_in 422 (by rfl) (by rfl)
theorem hw_424 : (Jvm.Cond.instanceMethod ({ cls := "BlockWaysModel", name := "leadTo", desc := "(JI)J" } : Jvm.MethodName)) ∈ bwB := bw_in 424 (by rfl) (by rfl)
theorem hw_425 : (Jvm.Cond.code ({ cls := "BlockWaysModel", name := "leadTo", desc := "(JI)J" } : Jvm.MethodName) prog_5_method_11_code (12 : Nat) (Option.some Jvm.ClassFile.FieldType.long)) ∈ bwB := bw_in 425 (by rfl) (by rfl)
theorem hw_426 : (Jvm.Cond.methodLink "BlockWaysModel" (74 : Nat) ({ cls := "BlockWaysModel", name := "lookAtRounds", desc := "()V" } : Jvm.MethodName)) ∈ bwB := bw_in 426 (by rfl) (by rfl)
theorem hw_428 : (Jvm.Cond.instanceMethod ({ cls := "BlockWaysModel", name := "lookAtRounds", desc := "()V" } : Jvm.MethodName)) ∈ bwB := bw_in 428 (by rfl) (by rfl)
theorem hw_429 : (Jvm.Cond.code ({ cls := "BlockWaysModel", name := "lookAtRounds", desc := "()V" } : Jvm.MethodName) prog_5_method_13_code (5 : Nat) (Option.none : Option Jvm.ClassFile.FieldType)) ∈ bwB := bw_in 429 (by rfl) (by rfl)
theorem hw_430 : (Jvm.Cond.methodLink "BlockWaysModel" (77 : Nat) ({ cls := "BlockWaysModel", name := "lookAtEdges", desc := "()V" } : Jvm.MethodName)) ∈ bwB := bw_in 430 (by rfl) (by rfl)
theorem hw_432 : (Jvm.Cond.instanceMethod ({ cls := "BlockWaysModel", name := "lookAtEdges", desc := "()V" } : Jvm.MethodName)) ∈ bwB := bw_in 432 (by rfl) (by rfl)
theorem hw_433 : (Jvm.Cond.code ({ cls := "BlockWaysModel", name := "lookAtEdges", desc := "()V" } : Jvm.MethodName) prog_5_method_14_code (4 : Nat) (Option.none : Option Jvm.ClassFile.FieldType)) ∈ bwB := bw_in 433 (by rfl) (by rfl)
theorem hw_434 : (Jvm.Cond.methodLink "BlockWaysModel" (89 : Nat) ({ cls := "BlockWaysModel", name := "sizeOf", desc := "(J)I" } : Jvm.MethodName)) ∈ bwB := bw_in 434 (by rfl) (by rfl)
theorem hw_435 : (Jvm.Cond.static ({ cls := "BlockWaysModel", name := "sizeOf", desc := "(J)I" } : Jvm.MethodName)) ∈ bwB := bw_in 435 (by rfl) (by rfl)
theorem hw_436 : (Jvm.Cond.code ({ cls := "BlockWaysModel", name := "sizeOf", desc := "(J)I" } : Jvm.MethodName) prog_5_method_6_code (4 : Nat) (Option.some Jvm.ClassFile.FieldType.int)) ∈ bwB := bw_in 436 (by rfl) (by rfl)
theorem hw_437 : (Jvm.Cond.methodLink "BlockWaysModel" (93 : Nat) ({ cls := "BlockWaysModel", name := "in", desc := "(I)I" } : Jvm.MethodName)) ∈ bwB := bw_in 437 (by rfl) (by rfl)
theorem hw_439 : (Jvm.Cond.instanceMethod ({ cls := "BlockWaysModel", name := "in", desc := "(I)I" } : Jvm.MethodName)) ∈ bwB := bw_in 439 (by rfl) (by rfl)
theorem hw_440 : (Jvm.Cond.code ({ cls := "BlockWaysModel", name := "in", desc := "(I)I" } : Jvm.MethodName) prog_5_method_17_code (4 : Nat) (Option.some Jvm.ClassFile.FieldType.int)) ∈ bwB := bw_in 440 (by rfl) (by rfl)
theorem hw_441 : (Jvm.Cond.methodLink "BlockWaysLaw" (40 : Nat) ({ cls := "BlockWaysModel", name := "lid", desc := "(I)I" } : Jvm.MethodName)) ∈ bwB := bw_in 441 (by rfl) (by rfl)
theorem hw_442 : (Jvm.Cond.instanceMethod ({ cls := "BlockWaysModel", name := "lid", desc := "(I)I" } : Jvm.MethodName)) ∈ bwB := bw_in 442 (by rfl) (by rfl)
theorem hw_443 : (Jvm.Cond.selects "BlockWaysModel" ({ cls := "BlockWaysModel", name := "lid", desc := "(I)I" } : Jvm.MethodName) ({ cls := "BlockWaysModel", name := "lid", desc := "(I)I" } : Jvm.MethodName)) ∈ bwB := bw_in 443 (by rfl) (by rfl)
theorem hw_444 : (Jvm.Cond.code ({ cls := "BlockWaysModel", name := "lid", desc := "(I)I" } : Jvm.MethodName) prog_5_method_18_code (2 : Nat) (Option.some Jvm.ClassFile.FieldType.int)) ∈ bwB := bw_in 444 (by rfl) (by rfl)
theorem hw_445 : (Jvm.Cond.methodLink "BlockWaysModel" (97 : Nat) ({ cls := "BlockWaysModel", name := "nearest", desc := "([JI)I" } : Jvm.MethodName)) ∈ bwB := bw_in 445 (by rfl) (by rfl)
theorem hw_446 : (Jvm.Cond.static ({ cls := "BlockWaysModel", name := "nearest", desc := "([JI)I" } : Jvm.MethodName)) ∈ bwB := bw_in 446 (by rfl) (by rfl)
theorem hw_447 : (Jvm.Cond.code ({ cls := "BlockWaysModel", name := "nearest", desc := "([JI)I" } : Jvm.MethodName) prog_5_method_15_code (5 : Nat) (Option.some Jvm.ClassFile.FieldType.int)) ∈ bwB := bw_in 447 (by rfl) (by rfl)
theorem hw_448 : (Jvm.Cond.methodLink "BlockWaysLaw" (44 : Nat) ({ cls := "BlockWaysModel", name := "meeting", desc := "(I)I" } : Jvm.MethodName)) ∈ bwB := bw_in 448 (by rfl) (by rfl)
theorem hw_449 : (Jvm.Cond.instanceMethod ({ cls := "BlockWaysModel", name := "meeting", desc := "(I)I" } : Jvm.MethodName)) ∈ bwB := bw_in 449 (by rfl) (by rfl)
theorem hw_450 : (Jvm.Cond.selects "BlockWaysModel" ({ cls := "BlockWaysModel", name := "meeting", desc := "(I)I" } : Jvm.MethodName) ({ cls := "BlockWaysModel", name := "meeting", desc := "(I)I" } : Jvm.MethodName)) ∈ bwB := bw_in 450 (by rfl) (by rfl)
theorem hw_451 : (Jvm.Cond.code ({ cls := "BlockWaysModel", name := "meeting", desc := "(I)I" } : Jvm.MethodName) prog_5_method_19_code (2 : Nat) (Option.some Jvm.ClassFile.FieldType.int)) ∈ bwB := bw_in 451 (by rfl) (by rfl)
theorem hw_452 : (Jvm.Cond.methodLink "BlockWaysLaw" (49 : Nat) ({ cls := "BlockWaysModel", name := "set", desc := "(II)J" } : Jvm.MethodName)) ∈ bwB := bw_in 452 (by rfl) (by rfl)
theorem hw_453 : (Jvm.Cond.instanceMethod ({ cls := "BlockWaysModel", name := "set", desc := "(II)J" } : Jvm.MethodName)) ∈ bwB := bw_in 453 (by rfl) (by rfl)
theorem hw_454 : (Jvm.Cond.selects "BlockWaysModel" ({ cls := "BlockWaysModel", name := "set", desc := "(II)J" } : Jvm.MethodName) ({ cls := "BlockWaysModel", name := "set", desc := "(II)J" } : Jvm.MethodName)) ∈ bwB := bw_in 454 (by rfl) (by rfl)
theorem hw_455 : (Jvm.Cond.code ({ cls := "BlockWaysModel", name := "set", desc := "(II)J" } : Jvm.MethodName) prog_5_method_22_code (3 : Nat) (Option.some Jvm.ClassFile.FieldType.long)) ∈ bwB := bw_in 455 (by rfl) (by rfl)
theorem hw_456 : (Jvm.Cond.methodLink "BlockWaysModel" (101 : Nat) ({ cls := "BlockWaysModel", name := "hangsOn", desc := "(I)J" } : Jvm.MethodName)) ∈ bwB := bw_in 456 (by rfl) (by rfl)
theorem hw_458 : (Jvm.Cond.instanceMethod ({ cls := "BlockWaysModel", name := "hangsOn", desc := "(I)J" } : Jvm.MethodName)) ∈ bwB := bw_in 458 (by rfl) (by rfl)
theorem hw_459 : (Jvm.Cond.code ({ cls := "BlockWaysModel", name := "hangsOn", desc := "(I)J" } : Jvm.MethodName) prog_5_method_21_code (6 : Nat) (Option.some Jvm.ClassFile.FieldType.long)) ∈ bwB := bw_in 459 (by rfl) (by rfl)
theorem hw_460 : (Jvm.Cond.methodLink "BlockWaysModel" (104 : Nat) ({ cls := "BlockWaysModel", name := "under", desc := "(I)J" } : Jvm.MethodName)) ∈ bwB := bw_in 460 (by rfl) (by rfl)
theorem hw_462 : (Jvm.Cond.instanceMethod ({ cls := "BlockWaysModel", name := "under", desc := "(I)J" } : Jvm.MethodName)) ∈ bwB := bw_in 462 (by rfl) (by rfl)
theorem hw_463 : (Jvm.Cond.code ({ cls := "BlockWaysModel", name := "under", desc := "(I)J" } : Jvm.MethodName) prog_5_method_20_code (5 : Nat) (Option.some Jvm.ClassFile.FieldType.long)) ∈ bwB := bw_in 463 (by rfl) (by rfl)
theorem hw_464 : (Jvm.Cond.methodLink "BlockWaysLaw" (53 : Nat) ({ cls := "BlockWaysModel", name := "depth", desc := "(I)I" } : Jvm.MethodName)) ∈ bwB := bw_in 464 (by rfl) (by rfl)
theorem hw_465 : (Jvm.Cond.instanceMethod ({ cls := "BlockWaysModel", name := "depth", desc := "(I)I" } : Jvm.MethodName)) ∈ bwB := bw_in 465 (by rfl) (by rfl)
theorem hw_466 : (Jvm.Cond.selects "BlockWaysModel" ({ cls := "BlockWaysModel", name := "depth", desc := "(I)I" } : Jvm.MethodName) ({ cls := "BlockWaysModel", name := "depth", desc := "(I)I" } : Jvm.MethodName)) ∈ bwB := bw_in 466 (by rfl) (by rfl)
theorem hw_467 : (Jvm.Cond.code ({ cls := "BlockWaysModel", name := "depth", desc := "(I)I" } : Jvm.MethodName) prog_5_method_23_code (2 : Nat) (Option.some Jvm.ClassFile.FieldType.int)) ∈ bwB := bw_in 467 (by rfl) (by rfl)
theorem hw_468 : (Jvm.Cond.methodLink "BlockWaysLaw" (59 : Nat) ({ cls := "BlockWaysModel", name := "inner", desc := "(I)I" } : Jvm.MethodName)) ∈ bwB := bw_in 468 (by rfl) (by rfl)
theorem hw_469 : (Jvm.Cond.instanceMethod ({ cls := "BlockWaysModel", name := "inner", desc := "(I)I" } : Jvm.MethodName)) ∈ bwB := bw_in 469 (by rfl) (by rfl)
theorem hw_470 : (Jvm.Cond.selects "BlockWaysModel" ({ cls := "BlockWaysModel", name := "inner", desc := "(I)I" } : Jvm.MethodName) ({ cls := "BlockWaysModel", name := "inner", desc := "(I)I" } : Jvm.MethodName)) ∈ bwB := bw_in 470 (by rfl) (by rfl)
theorem hw_471 : (Jvm.Cond.code ({ cls := "BlockWaysModel", name := "inner", desc := "(I)I" } : Jvm.MethodName) prog_5_method_24_code (4 : Nat) (Option.some Jvm.ClassFile.FieldType.int)) ∈ bwB := bw_in 471 (by rfl) (by rfl)
theorem hw_472 : (Jvm.Cond.methodLink "BlockWaysLaw" (70 : Nat) ({ cls := "BlockWaysModel", name := "joins", desc := "(J)J" } : Jvm.MethodName)) ∈ bwB := bw_in 472 (by rfl) (by rfl)
theorem hw_473 : (Jvm.Cond.instanceMethod ({ cls := "BlockWaysModel", name := "joins", desc := "(J)J" } : Jvm.MethodName)) ∈ bwB := bw_in 473 (by rfl) (by rfl)
theorem hw_474 : (Jvm.Cond.selects "BlockWaysModel" ({ cls := "BlockWaysModel", name := "joins", desc := "(J)J" } : Jvm.MethodName) ({ cls := "BlockWaysModel", name := "joins", desc := "(J)J" } : Jvm.MethodName)) ∈ bwB := bw_in 474 (by rfl) (by rfl)
theorem hw_475 : (Jvm.Cond.code ({ cls := "BlockWaysModel", name := "joins", desc := "(J)J" } : Jvm.MethodName) prog_5_method_25_code (9 : Nat) (Option.some Jvm.ClassFile.FieldType.long)) ∈ bwB := bw_in 475 (by rfl) (by rfl)
theorem hw_476 : (Jvm.Cond.constantLong "BlockWaysLaw" (64 : Nat) (4294967295 : Int64)) ∈ bwB := bw_in 476 (by rfl) (by rfl)
theorem hw_0 : Jvm.Cond.selects "BlockWays" ⟨"BlockWays", "forgetAnswers", "()V"⟩ ⟨"BlockWays", "forgetAnswers", "()V"⟩ ∈ bwB := bw_in 0 (by rfl) (by rfl)
theorem hw_1 : Jvm.Cond.selects "BlockWays" ⟨"BlockWays", "isTold", "(I)Z"⟩ ⟨"BlockWays", "isTold", "(I)Z"⟩ ∈ bwB := bw_in 1 (by rfl) (by rfl)
theorem hw_2 : Jvm.Cond.selects "BlockWays" ⟨"BlockWays", "freshOnward", "()LBlockWays$Spread;"⟩ ⟨"BlockWays", "freshOnward", "()LBlockWays$Spread;"⟩ ∈ bwB := bw_in 2 (by rfl) (by rfl)
theorem hw_3 : Jvm.Cond.selects "BlockWays" ⟨"BlockWays", "renewOnward", "()V"⟩ ⟨"BlockWays", "renewOnward", "()V"⟩ ∈ bwB := bw_in 3 (by rfl) (by rfl)
theorem hw_4 : Jvm.Cond.selects "BlockWays" ⟨"BlockWays", "freshBackward", "()LBlockWays$Spread;"⟩ ⟨"BlockWays", "freshBackward", "()LBlockWays$Spread;"⟩ ∈ bwB := bw_in 4 (by rfl) (by rfl)
theorem hw_5 : Jvm.Cond.selects "BlockWays" ⟨"BlockWays", "ends", "()J"⟩ ⟨"BlockWays", "ends", "()J"⟩ ∈ bwB := bw_in 5 (by rfl) (by rfl)
theorem hw_6 : Jvm.Cond.selects "BlockWays" ⟨"BlockWays", "freshRounds", "()LBlockWays$Rounds;"⟩ ⟨"BlockWays", "freshRounds", "()LBlockWays$Rounds;"⟩ ∈ bwB := bw_in 6 (by rfl) (by rfl)
theorem hw_7 : Jvm.Cond.selects "BlockWays" ⟨"BlockWays", "isPlain", "()Z"⟩ ⟨"BlockWays", "isPlain", "()Z"⟩ ∈ bwB := bw_in 7 (by rfl) (by rfl)
theorem hw_9 : Jvm.Cond.selects "BlockWaysModel" ⟨"BlockWaysModel", "look", "()V"⟩ ⟨"BlockWaysModel", "look", "()V"⟩ ∈ bwB := bw_in 9 (by rfl) (by rfl)
theorem hw_10 : Jvm.Cond.selects "BlockWaysModel" ⟨"BlockWaysModel", "comeTo", "(I)J"⟩ ⟨"BlockWaysModel", "comeTo", "(I)J"⟩ ∈ bwB := bw_in 10 (by rfl) (by rfl)
theorem hw_11 : Jvm.Cond.selects "BlockWaysModel" ⟨"BlockWaysModel", "leadTo", "(JI)J"⟩ ⟨"BlockWaysModel", "leadTo", "(JI)J"⟩ ∈ bwB := bw_in 11 (by rfl) (by rfl)
theorem hw_12 : Jvm.Cond.selects "BlockWaysModel" ⟨"BlockWaysModel", "lookAtRounds", "()V"⟩ ⟨"BlockWaysModel", "lookAtRounds", "()V"⟩ ∈ bwB := bw_in 12 (by rfl) (by rfl)
theorem hw_13 : Jvm.Cond.selects "BlockWaysModel" ⟨"BlockWaysModel", "lookAtEdges", "()V"⟩ ⟨"BlockWaysModel", "lookAtEdges", "()V"⟩ ∈ bwB := bw_in 13 (by rfl) (by rfl)
theorem hw_14 : Jvm.Cond.selects "BlockWaysModel" ⟨"BlockWaysModel", "in", "(I)I"⟩ ⟨"BlockWaysModel", "in", "(I)I"⟩ ∈ bwB := bw_in 14 (by rfl) (by rfl)
theorem hw_15 : Jvm.Cond.selects "BlockWaysModel" ⟨"BlockWaysModel", "hangsOn", "(I)J"⟩ ⟨"BlockWaysModel", "hangsOn", "(I)J"⟩ ∈ bwB := bw_in 15 (by rfl) (by rfl)
theorem hw_16 : Jvm.Cond.selects "BlockWaysModel" ⟨"BlockWaysModel", "under", "(I)J"⟩ ⟨"BlockWaysModel", "under", "(I)J"⟩ ∈ bwB := bw_in 16 (by rfl) (by rfl)
theorem inR : ∀ w ∈ u_ws RR TR 1, w ∈ bwB := by
  show ∀ w ∈ [u_lay RR TR 0], w ∈ bwB
  exact bw_gt_ hw_61 (bw_gn)
theorem inS : ∀ w ∈ u_ws RS TS 3, w ∈ bwB := by
  show ∀ w ∈ [u_lay RS TS 0, u_lay RS TS 1, u_lay RS TS 2], w ∈ bwB
  exact bw_gt_ hw_45 (bw_gt_ hw_47 (bw_gt_ hw_49 (bw_gn)))
theorem inB : ∀ w ∈ u_ws RB TB 7, w ∈ bwB := by
  show ∀ w ∈ [u_lay RB TB 0, u_lay RB TB 1, u_lay RB TB 2, u_lay RB TB 3, u_lay RB TB 4, u_lay RB TB 5, u_lay RB TB 6], w ∈ bwB
  exact bw_gt_ hw_71 (bw_gt_ hw_73 (bw_gt_ hw_75 (bw_gt_ hw_77 (bw_gt_ hw_79 (bw_gt_ hw_81 (bw_gt_ hw_83 (bw_gn)))))))
theorem inM : ∀ w ∈ u_ws RM TM 15, w ∈ bwB := by
  show ∀ w ∈ [u_lay RM TM 0, u_lay RM TM 1, u_lay RM TM 2, u_lay RM TM 3, u_lay RM TM 4, u_lay RM TM 5, u_lay RM TM 6, u_lay RM TM 7, u_lay RM TM 8, u_lay RM TM 9, u_lay RM TM 10, u_lay RM TM 11, u_lay RM TM 12, u_lay RM TM 13, u_lay RM TM 14], w ∈ bwB
  exact bw_gt_ hw_353 (bw_gt_ hw_355 (bw_gt_ hw_357 (bw_gt_ hw_359 (bw_gt_ hw_361 (bw_gt_ hw_363 (bw_gt_ hw_365 (bw_gt_ hw_367 (bw_gt_ hw_369 (bw_gt_ hw_371 (bw_gt_ hw_373 (bw_gt_ hw_375 (bw_gt_ hw_377 (bw_gt_ hw_379 (bw_gt_ hw_381 (bw_gn)))))))))))))))
