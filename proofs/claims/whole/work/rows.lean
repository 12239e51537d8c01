section
-- ===== PART A: goes FIRST, ahead of the names: the tables' words, and 'selects' of the private methods out of them =====
/-- a private method of a class that the tables say can be made, by its rows of tables_1 -/
def lw_okq (q : MethodName × Nat) : Prop := (q.1.cls ≠ "java/lang/invoke/MethodHandle" ∧ q.1.cls ≠ "java/lang/invoke/VarHandle") ∧ Cond.instantiable q.1.cls q.2 ∈ tables_1 ∧ Cond.privateMethod q.1 ∈ tables_1 ∧ Cond.instanceMethod q.1 ∈ tables_1
theorem lw_p0 : lw_okq (⟨"BrassWays", "isPlace", "(I)Z"⟩, 8) := ⟨⟨by decide +kernel, by decide +kernel⟩, List.mem_of_getElem? (i := 9) (by decide +kernel), List.mem_of_getElem? (i := 181) (by decide +kernel), List.mem_of_getElem? (i := 182) (by decide +kernel)⟩
theorem lw_p1 : lw_okq (⟨"BrassWays$Planner", "weigh", "(LBrassWays$Setup;II)V"⟩, 6) := ⟨⟨by decide +kernel, by decide +kernel⟩, List.mem_of_getElem? (i := 48) (by decide +kernel), List.mem_of_getElem? (i := 212) (by decide +kernel), List.mem_of_getElem? (i := 213) (by decide +kernel)⟩
theorem lw_p2 : lw_okq (⟨"BrassWays$Planner", "firstMarks", "()I"⟩, 6) := ⟨⟨by decide +kernel, by decide +kernel⟩, List.mem_of_getElem? (i := 48) (by decide +kernel), List.mem_of_getElem? (i := 241) (by decide +kernel), List.mem_of_getElem? (i := 242) (by decide +kernel)⟩
theorem lw_p3 : lw_okq (⟨"BrassWays$Planner", "nextMarks", "(LBrassWays$Setup;II)I"⟩, 6) := ⟨⟨by decide +kernel, by decide +kernel⟩, List.mem_of_getElem? (i := 48) (by decide +kernel), List.mem_of_getElem? (i := 249) (by decide +kernel), List.mem_of_getElem? (i := 250) (by decide +kernel)⟩
theorem lw_p4 : lw_okq (⟨"BrassWays", "leastMotion", "(II)I"⟩, 8) := ⟨⟨by decide +kernel, by decide +kernel⟩, List.mem_of_getElem? (i := 9) (by decide +kernel), List.mem_of_getElem? (i := 278) (by decide +kernel), List.mem_of_getElem? (i := 279) (by decide +kernel)⟩
theorem lw_p5 : lw_okq (⟨"BrassWays", "missOfPart", "(II)I"⟩, 8) := ⟨⟨by decide +kernel, by decide +kernel⟩, List.mem_of_getElem? (i := 9) (by decide +kernel), List.mem_of_getElem? (i := 291) (by decide +kernel), List.mem_of_getElem? (i := 292) (by decide +kernel)⟩
theorem lw_p6 : lw_okq (⟨"BrassWays", "nearestMiss", "(I)I"⟩, 8) := ⟨⟨by decide +kernel, by decide +kernel⟩, List.mem_of_getElem? (i := 9) (by decide +kernel), List.mem_of_getElem? (i := 296) (by decide +kernel), List.mem_of_getElem? (i := 297) (by decide +kernel)⟩
theorem lw_p7 : lw_okq (⟨"BrassWaysModel", "isSetting", "(I)Z"⟩, 7) := ⟨⟨by decide +kernel, by decide +kernel⟩, List.mem_of_getElem? (i := 320) (by decide +kernel), List.mem_of_getElem? (i := 368) (by decide +kernel), List.mem_of_getElem? (i := 369) (by decide +kernel)⟩
theorem lw_p8 : lw_okq (⟨"BrassWaysModel", "lowersBy", "(I)I"⟩, 7) := ⟨⟨by decide +kernel, by decide +kernel⟩, List.mem_of_getElem? (i := 320) (by decide +kernel), List.mem_of_getElem? (i := 372) (by decide +kernel), List.mem_of_getElem? (i := 373) (by decide +kernel)⟩
theorem lw_p9 : lw_okq (⟨"BrassWaysModel", "isWay", "(I)Z"⟩, 7) := ⟨⟨by decide +kernel, by decide +kernel⟩, List.mem_of_getElem? (i := 320) (by decide +kernel), List.mem_of_getElem? (i := 383) (by decide +kernel), List.mem_of_getElem? (i := 384) (by decide +kernel)⟩
theorem lw_p10 : lw_okq (⟨"BrassWaysModel", "offOf", "(II)I"⟩, 7) := ⟨⟨by decide +kernel, by decide +kernel⟩, List.mem_of_getElem? (i := 320) (by decide +kernel), List.mem_of_getElem? (i := 390) (by decide +kernel), List.mem_of_getElem? (i := 391) (by decide +kernel)⟩
theorem lw_p11 : lw_okq (⟨"BrassWaysModel", "waysOf", "(I)I"⟩, 7) := ⟨⟨by decide +kernel, by decide +kernel⟩, List.mem_of_getElem? (i := 320) (by decide +kernel), List.mem_of_getElem? (i := 401) (by decide +kernel), List.mem_of_getElem? (i := 402) (by decide +kernel)⟩
theorem lw_p12 : lw_okq (⟨"BrassWaysModel", "sounds", "(II)Z"⟩, 7) := ⟨⟨by decide +kernel, by decide +kernel⟩, List.mem_of_getElem? (i := 320) (by decide +kernel), List.mem_of_getElem? (i := 405) (by decide +kernel), List.mem_of_getElem? (i := 406) (by decide +kernel)⟩
theorem lw_p13 : lw_okq (⟨"BrassWaysModel", "isPlace", "(I)Z"⟩, 7) := ⟨⟨by decide +kernel, by decide +kernel⟩, List.mem_of_getElem? (i := 320) (by decide +kernel), List.mem_of_getElem? (i := 428) (by decide +kernel), List.mem_of_getElem? (i := 429) (by decide +kernel)⟩
theorem lw_p14 : lw_okq (⟨"BrassWaysModel", "effortOf", "(II)I"⟩, 7) := ⟨⟨by decide +kernel, by decide +kernel⟩, List.mem_of_getElem? (i := 320) (by decide +kernel), List.mem_of_getElem? (i := 440) (by decide +kernel), List.mem_of_getElem? (i := 441) (by decide +kernel)⟩
theorem lw_p15 : lw_okq (⟨"BrassWaysModel", "layAllRests", "()V"⟩, 7) := ⟨⟨by decide +kernel, by decide +kernel⟩, List.mem_of_getElem? (i := 320) (by decide +kernel), List.mem_of_getElem? (i := 448) (by decide +kernel), List.mem_of_getElem? (i := 449) (by decide +kernel)⟩
def lw_privs_1 : List (MethodName × Nat) := [(⟨"BrassWays", "isPlace", "(I)Z"⟩, 8), (⟨"BrassWays$Planner", "weigh", "(LBrassWays$Setup;II)V"⟩, 6), (⟨"BrassWays$Planner", "firstMarks", "()I"⟩, 6), (⟨"BrassWays$Planner", "nextMarks", "(LBrassWays$Setup;II)I"⟩, 6), (⟨"BrassWays", "leastMotion", "(II)I"⟩, 8), (⟨"BrassWays", "missOfPart", "(II)I"⟩, 8), (⟨"BrassWays", "nearestMiss", "(I)I"⟩, 8), (⟨"BrassWaysModel", "isSetting", "(I)Z"⟩, 7), (⟨"BrassWaysModel", "lowersBy", "(I)I"⟩, 7), (⟨"BrassWaysModel", "isWay", "(I)Z"⟩, 7), (⟨"BrassWaysModel", "offOf", "(II)I"⟩, 7), (⟨"BrassWaysModel", "waysOf", "(I)I"⟩, 7), (⟨"BrassWaysModel", "sounds", "(II)Z"⟩, 7), (⟨"BrassWaysModel", "isPlace", "(I)Z"⟩, 7), (⟨"BrassWaysModel", "effortOf", "(II)I"⟩, 7), (⟨"BrassWaysModel", "layAllRests", "()V"⟩, 7)]
theorem lw_r1 : ∀ q ∈ lw_privs_1, lw_okq q := List.forall_mem_cons.mpr ⟨lw_p0, List.forall_mem_cons.mpr ⟨lw_p1, List.forall_mem_cons.mpr ⟨lw_p2, List.forall_mem_cons.mpr ⟨lw_p3, List.forall_mem_cons.mpr ⟨lw_p4, List.forall_mem_cons.mpr ⟨lw_p5, List.forall_mem_cons.mpr ⟨lw_p6, List.forall_mem_cons.mpr ⟨lw_p7, List.forall_mem_cons.mpr ⟨lw_p8, List.forall_mem_cons.mpr ⟨lw_p9, List.forall_mem_cons.mpr ⟨lw_p10, List.forall_mem_cons.mpr ⟨lw_p11, List.forall_mem_cons.mpr ⟨lw_p12, List.forall_mem_cons.mpr ⟨lw_p13, List.forall_mem_cons.mpr ⟨lw_p14, List.forall_mem_cons.mpr ⟨lw_p15, fun _ h => absurd h List.not_mem_nil⟩⟩⟩⟩⟩⟩⟩⟩⟩⟩⟩⟩⟩⟩⟩⟩
theorem lw_p16 : lw_okq (⟨"BrassWaysModel", "isAt", "(II)Z"⟩, 7) := ⟨⟨by decide +kernel, by decide +kernel⟩, List.mem_of_getElem? (i := 320) (by decide +kernel), List.mem_of_getElem? (i := 455) (by decide +kernel), List.mem_of_getElem? (i := 456) (by decide +kernel)⟩
theorem lw_p17 : lw_okq (⟨"BrassWaysModel", "layRest", "(II)V"⟩, 7) := ⟨⟨by decide +kernel, by decide +kernel⟩, List.mem_of_getElem? (i := 320) (by decide +kernel), List.mem_of_getElem? (i := 459) (by decide +kernel), List.mem_of_getElem? (i := 460) (by decide +kernel)⟩
theorem lw_p18 : lw_okq (⟨"BrassWaysModel", "faultOf", "(II)I"⟩, 7) := ⟨⟨by decide +kernel, by decide +kernel⟩, List.mem_of_getElem? (i := 320) (by decide +kernel), List.mem_of_getElem? (i := 463) (by decide +kernel), List.mem_of_getElem? (i := 464) (by decide +kernel)⟩
theorem lw_p19 : lw_okq (⟨"BrassWaysModel", "leastOfAll", "()I"⟩, 7) := ⟨⟨by decide +kernel, by decide +kernel⟩, List.mem_of_getElem? (i := 320) (by decide +kernel), List.mem_of_getElem? (i := 467) (by decide +kernel), List.mem_of_getElem? (i := 468) (by decide +kernel)⟩
theorem lw_p20 : lw_okq (⟨"BrassWaysModel", "nextWay", "(III)I"⟩, 7) := ⟨⟨by decide +kernel, by decide +kernel⟩, List.mem_of_getElem? (i := 320) (by decide +kernel), List.mem_of_getElem? (i := 471) (by decide +kernel), List.mem_of_getElem? (i := 472) (by decide +kernel)⟩
theorem lw_p21 : lw_okq (⟨"BrassWaysModel", "layAhead", "()V"⟩, 7) := ⟨⟨by decide +kernel, by decide +kernel⟩, List.mem_of_getElem? (i := 320) (by decide +kernel), List.mem_of_getElem? (i := 480) (by decide +kernel), List.mem_of_getElem? (i := 481) (by decide +kernel)⟩
theorem lw_p22 : lw_okq (⟨"BrassWaysModel", "leastAhead", "(II)I"⟩, 7) := ⟨⟨by decide +kernel, by decide +kernel⟩, List.mem_of_getElem? (i := 320) (by decide +kernel), List.mem_of_getElem? (i := 484) (by decide +kernel), List.mem_of_getElem? (i := 485) (by decide +kernel)⟩
theorem lw_p23 : lw_okq (⟨"BrassWaysModel", "leastAt", "(II)I"⟩, 7) := ⟨⟨by decide +kernel, by decide +kernel⟩, List.mem_of_getElem? (i := 320) (by decide +kernel), List.mem_of_getElem? (i := 489) (by decide +kernel), List.mem_of_getElem? (i := 490) (by decide +kernel)⟩
theorem lw_p24 : lw_okq (⟨"BrassWaysModel", "trillOf", "(II)I"⟩, 7) := ⟨⟨by decide +kernel, by decide +kernel⟩, List.mem_of_getElem? (i := 320) (by decide +kernel), List.mem_of_getElem? (i := 501) (by decide +kernel), List.mem_of_getElem? (i := 502) (by decide +kernel)⟩
theorem lw_p25 : lw_okq (⟨"BrassWaysModel", "offOfPart", "()I"⟩, 7) := ⟨⟨by decide +kernel, by decide +kernel⟩, List.mem_of_getElem? (i := 320) (by decide +kernel), List.mem_of_getElem? (i := 513) (by decide +kernel), List.mem_of_getElem? (i := 514) (by decide +kernel)⟩
def lw_privs_2 : List (MethodName × Nat) := [(⟨"BrassWaysModel", "isAt", "(II)Z"⟩, 7), (⟨"BrassWaysModel", "layRest", "(II)V"⟩, 7), (⟨"BrassWaysModel", "faultOf", "(II)I"⟩, 7), (⟨"BrassWaysModel", "leastOfAll", "()I"⟩, 7), (⟨"BrassWaysModel", "nextWay", "(III)I"⟩, 7), (⟨"BrassWaysModel", "layAhead", "()V"⟩, 7), (⟨"BrassWaysModel", "leastAhead", "(II)I"⟩, 7), (⟨"BrassWaysModel", "leastAt", "(II)I"⟩, 7), (⟨"BrassWaysModel", "trillOf", "(II)I"⟩, 7), (⟨"BrassWaysModel", "offOfPart", "()I"⟩, 7)]
theorem lw_r2 : ∀ q ∈ lw_privs_2, lw_okq q := List.forall_mem_cons.mpr ⟨lw_p16, List.forall_mem_cons.mpr ⟨lw_p17, List.forall_mem_cons.mpr ⟨lw_p18, List.forall_mem_cons.mpr ⟨lw_p19, List.forall_mem_cons.mpr ⟨lw_p20, List.forall_mem_cons.mpr ⟨lw_p21, List.forall_mem_cons.mpr ⟨lw_p22, List.forall_mem_cons.mpr ⟨lw_p23, List.forall_mem_cons.mpr ⟨lw_p24, List.forall_mem_cons.mpr ⟨lw_p25, fun _ h => absurd h List.not_mem_nil⟩⟩⟩⟩⟩⟩⟩⟩⟩⟩
def lw_privs : List (MethodName × Nat) := lw_privs_1 ++ (lw_privs_2)
def lw_tbl : List Cond := k2_sels lw_privs ++ tables_1
theorem lw_privs_ok : ∀ q ∈ lw_privs, lw_okq q := by
  show ∀ q ∈ lw_privs_1 ++ (lw_privs_2), lw_okq q
  exact List.forall_mem_append.mpr ⟨lw_r1, lw_r2⟩
end
section
/-! ===== BEGIN words of one list among another's, by their places ===== -/
theorem goodIn_r {big : List Cond} (ws : List Cond) (ps : List Nat) (hp : ws = ps.filterMap (fun i => big[i]?)) (h : ws.all goodWord = true) : GoodIn big ws := by
  intro w hw
  have h1 := List.all_eq_true.mp h w hw
  rw [hp] at hw
  obtain ⟨i, -, hi⟩ := List.mem_filterMap.mp hw
  have hm : w ∈ big := by first | exact List.mem_of_getElem? hi | exact List.getElem?_mem hi
  exact ⟨hm, good_of_word h1⟩
theorem goodIn_app {big a b : List Cond} (ha : GoodIn big a) (hb : GoodIn big b) : GoodIn big (a ++ b) := fun w h => (List.mem_append.mp h).elim (ha w) (hb w)
theorem goodIn_ca {big a b : List Cond} {c : Cond} (ha : GoodIn big (c :: a)) (hb : GoodIn big b) : GoodIn big (c :: (a ++ b)) := fun w h => (List.mem_cons.mp h).elim (fun e => ha w (List.mem_cons.mpr (Or.inl e))) (fun h => (List.mem_append.mp h).elim (fun h => ha w (List.mem_cons.mpr (Or.inr h))) (hb w))
theorem goodIn_sub {big ws : List Cond} (hm : ∀ w ∈ ws, w ∈ big) (h : ws.all goodWord = true) : GoodIn big ws := fun w hw => ⟨hm w hw, good_of_word (List.all_eq_true.mp h w hw)⟩
/-! ===== END ===== -/

/-! ===== BEGIN printed: names, fields, word lists, decode rows ===== -/
def RX0 : String := "BrassWays$Planner"
def TX0 : u_T := fun k => match k with
  | 0 => ("BrassWays$Planner", "size", "I", false)
  | 1 => ("BrassWays$Planner", "found", "[I", true)
  | 2 => ("BrassWays$Planner", "wayIn", "[I", true)
  | 3 => ("BrassWays$Planner", "behind", "[I", true)
  | 4 => ("BrassWays$Planner", "onward", "[I", true)
  | _ => ("BrassWays$Planner", "ties", "[J", true)
def tyX0 : Nat → FieldType := fun k => match k with
  | 0 => .int
  | 1 => .array .int
  | 2 => .array .int
  | 3 => .array .int
  | 4 => .array .int
  | _ => .array .long
abbrev wsX00 : List Cond := u_ws RX0 TX0 6
theorem nmX0 : ∀ a, a < 6 → ∀ b, b < 6 → a ≠ b → (TX0 a).2.1 ≠ (TX0 b).2.1 := by decide +kernel
theorem tyX0_ok : ∀ k, k < 6 → parseFieldDescriptor (TX0 k).2.2.1 = some (tyX0 k) := by decide +kernel
abbrev cX0_init : ByteArray := prog_2_method_1_code
def yX0_init : MethodName := ⟨RX0, "<init>", "()V"⟩
abbrev cX0_workOut : ByteArray := prog_2_method_2_code
def yX0_workOut : MethodName := ⟨RX0, "workOut", "(LBrassWays$Setup;)V"⟩
abbrev cX0_weigh : ByteArray := prog_2_method_3_code
def yX0_weigh : MethodName := ⟨RX0, "weigh", "(LBrassWays$Setup;II)V"⟩
abbrev cX0_hasPlan : ByteArray := prog_2_method_4_code
def yX0_hasPlan : MethodName := ⟨RX0, "hasPlan", "()Z"⟩
abbrev cX0_countAll : ByteArray := prog_2_method_5_code
def yX0_countAll : MethodName := ⟨RX0, "countAll", "()J"⟩
abbrev cX0_leastCost : ByteArray := prog_2_method_6_code
def yX0_leastCost : MethodName := ⟨RX0, "leastCost", "()I"⟩
abbrev cX0_countLeast : ByteArray := prog_2_method_7_code
def yX0_countLeast : MethodName := ⟨RX0, "countLeast", "()J"⟩
abbrev cX0_countWaysAt : ByteArray := prog_2_method_8_code
def yX0_countWaysAt : MethodName := ⟨RX0, "countWaysAt", "(LBrassWays$Setup;I)I"⟩
abbrev cX0_leastWayAt : ByteArray := prog_2_method_9_code
def yX0_leastWayAt : MethodName := ⟨RX0, "leastWayAt", "(LBrassWays$Setup;I)I"⟩
abbrev cX0_lowestMark : ByteArray := prog_2_method_10_code
def yX0_lowestMark : MethodName := ⟨RX0, "lowestMark", "(I)I"⟩
abbrev cX0_firstMarks : ByteArray := prog_2_method_11_code
def yX0_firstMarks : MethodName := ⟨RX0, "firstMarks", "()I"⟩
abbrev cX0_nextMarks : ByteArray := prog_2_method_12_code
def yX0_nextMarks : MethodName := ⟨RX0, "nextMarks", "(LBrassWays$Setup;II)I"⟩
def RX1 : String := "BrassWays$Setup"
def TX1 : u_T := fun k => match k with
  | 0 => ("BrassWays$Setup", "kind", "I", false)
  | 1 => ("BrassWays$Setup", "lengths", "[I", true)
  | 2 => ("BrassWays$Setup", "rules", "[I", true)
  | 3 => ("BrassWays$Setup", "notes", "[I", true)
  | _ => ("BrassWays$Setup", "size", "I", false)
def tyX1 : Nat → FieldType := fun k => match k with
  | 0 => .int
  | 1 => .array .int
  | 2 => .array .int
  | 3 => .array .int
  | _ => .int
abbrev wsX10 : List Cond := u_ws RX1 TX1 5
theorem nmX1 : ∀ a, a < 5 → ∀ b, b < 5 → a ≠ b → (TX1 a).2.1 ≠ (TX1 b).2.1 := by decide +kernel
theorem tyX1_ok : ∀ k, k < 5 → parseFieldDescriptor (TX1 k).2.2.1 = some (tyX1 k) := by decide +kernel
abbrev cX1_init : ByteArray := prog_3_method_1_code
def yX1_init : MethodName := ⟨RX1, "<init>", "()V"⟩
abbrev cX1_takeFrom : ByteArray := prog_3_method_2_code
def yX1_takeFrom : MethodName := ⟨RX1, "takeFrom", "(LBrassWays$Setup;)V"⟩
abbrev cX1_hasSetting : ByteArray := prog_3_method_3_code
def yX1_hasSetting : MethodName := ⟨RX1, "hasSetting", "(I)Z"⟩
abbrev cX1_hasWay : ByteArray := prog_3_method_4_code
def yX1_hasWay : MethodName := ⟨RX1, "hasWay", "(I)Z"⟩
abbrev cX1_dropOf : ByteArray := prog_3_method_5_code
def yX1_dropOf : MethodName := ⟨RX1, "dropOf", "(I)I"⟩
abbrev cX1_offBy : ByteArray := prog_3_method_6_code
def yX1_offBy : MethodName := ⟨RX1, "offBy", "(II)I"⟩
abbrev cX1_gatherWays : ByteArray := prog_3_method_7_code
def yX1_gatherWays : MethodName := ⟨RX1, "gatherWays", "(I[II)I"⟩
abbrev cX1_motion : ByteArray := prog_3_method_8_code
def yX1_motion : MethodName := ⟨RX1, "motion", "(II)I"⟩
abbrev cX1_fault : ByteArray := prog_3_method_9_code
def yX1_fault : MethodName := ⟨RX1, "fault", "(II)I"⟩
def RX2 : String := "BrassWays"
def TX2 : u_T := fun k => match k with
  | 0 => ("BrassWays", "now", "LBrassWays$Setup;", true)
  | 1 => ("BrassWays", "images", "[LBrassWays$Setup;", true)
  | 2 => ("BrassWays", "imagesKept", "I", false)
  | 3 => ("BrassWays", "planner", "LBrassWays$Planner;", true)
  | 4 => ("BrassWays", "waysOfOne", "[I", true)
  | 5 => ("BrassWays", "waysOfOther", "[I", true)
  | 6 => ("BrassWays", "trialLengths", "[I", true)
  | _ => ("BrassWays", "trialDrops", "[I", true)
def tyX2 : Nat → FieldType := fun k => match k with
  | 0 => .object "BrassWays$Setup"
  | 1 => .array (.object "BrassWays$Setup")
  | 2 => .int
  | 3 => .object "BrassWays$Planner"
  | 4 => .array .int
  | 5 => .array .int
  | 6 => .array .int
  | _ => .array .int
abbrev wsX20 : List Cond := u_ws RX2 TX2 8
theorem nmX2 : ∀ a, a < 8 → ∀ b, b < 8 → a ≠ b → (TX2 a).2.1 ≠ (TX2 b).2.1 := by decide +kernel
theorem tyX2_ok : ∀ k, k < 8 → parseFieldDescriptor (TX2 k).2.2.1 = some (tyX2 k) := by decide +kernel
abbrev cX2_init : ByteArray := prog_1_method_1_code
def yX2_init : MethodName := ⟨RX2, "<init>", "()V"⟩
abbrev cX2_horn : ByteArray := prog_1_method_2_code
def yX2_horn : MethodName := ⟨RX2, "horn", "(I)I"⟩
abbrev cX2_valve : ByteArray := prog_1_method_3_code
def yX2_valve : MethodName := ⟨RX2, "valve", "(II)I"⟩
abbrev cX2_rule : ByteArray := prog_1_method_4_code
def yX2_rule : MethodName := ⟨RX2, "rule", "(II)I"⟩
abbrev cX2_lowers : ByteArray := prog_1_method_5_code
def yX2_lowers : MethodName := ⟨RX2, "lowers", "(I)I"⟩
abbrev cX2_off : ByteArray := prog_1_method_6_code
def yX2_off : MethodName := ⟨RX2, "off", "(II)I"⟩
abbrev cX2_ways : ByteArray := prog_1_method_7_code
def yX2_ways : MethodName := ⟨RX2, "ways", "(II)I"⟩
abbrev cX2_truest : ByteArray := prog_1_method_8_code
def yX2_truest : MethodName := ⟨RX2, "truest", "(I)I"⟩
abbrev cX2_range : ByteArray := prog_1_method_9_code
def yX2_range : MethodName := ⟨RX2, "range", "(I)I"⟩
abbrev cX2_note : ByteArray := prog_1_method_10_code
def yX2_note : MethodName := ⟨RX2, "note", "(I)I"⟩
abbrev cX2_set : ByteArray := prog_1_method_11_code
def yX2_set : MethodName := ⟨RX2, "set", "(II)I"⟩
abbrev cX2_clear : ByteArray := prog_1_method_12_code
def yX2_clear : MethodName := ⟨RX2, "clear", "()I"⟩
abbrev cX2_effort : ByteArray := prog_1_method_13_code
def yX2_effort : MethodName := ⟨RX2, "effort", "(II)I"⟩
abbrev cX2_least : ByteArray := prog_1_method_14_code
def yX2_least : MethodName := ⟨RX2, "least", "(I)I"⟩
abbrev cX2_plans : ByteArray := prog_1_method_15_code
def yX2_plans : MethodName := ⟨RX2, "plans", "(I)J"⟩
abbrev cX2_dumb : ByteArray := prog_1_method_16_code
def yX2_dumb : MethodName := ⟨RX2, "dumb", "()I"⟩
abbrev cX2_trill : ByteArray := prog_1_method_17_code
def yX2_trill : MethodName := ⟨RX2, "trill", "(II)I"⟩
abbrev cX2_awkward : ByteArray := prog_1_method_18_code
def yX2_awkward : MethodName := ⟨RX2, "awkward", "(II)I"⟩
abbrev cX2_tune : ByteArray := prog_1_method_19_code
def yX2_tune : MethodName := ⟨RX2, "tune", "(II)I"⟩
abbrev cX2_image : ByteArray := prog_1_method_20_code
def yX2_image : MethodName := ⟨RX2, "image", "(I)I"⟩
abbrev cX2_restore : ByteArray := prog_1_method_21_code
def yX2_restore : MethodName := ⟨RX2, "restore", "(I)I"⟩
abbrev cX2_count : ByteArray := prog_1_method_22_code
def yX2_count : MethodName := ⟨RX2, "count", "(I)I"⟩
abbrev cX2_isValve : ByteArray := prog_1_method_23_code
def yX2_isValve : MethodName := ⟨RX2, "isValve", "(I)Z"⟩
abbrev cX2_isNote : ByteArray := prog_1_method_24_code
def yX2_isNote : MethodName := ⟨RX2, "isNote", "(I)Z"⟩
abbrev cX2_isPlace : ByteArray := prog_1_method_25_code
def yX2_isPlace : MethodName := ⟨RX2, "isPlace", "(I)Z"⟩
abbrev cX2_leastMotion : ByteArray := prog_1_method_26_code
def yX2_leastMotion : MethodName := ⟨RX2, "leastMotion", "(II)I"⟩
abbrev cX2_missOfPart : ByteArray := prog_1_method_27_code
def yX2_missOfPart : MethodName := ⟨RX2, "missOfPart", "(II)I"⟩
abbrev cX2_nearestMiss : ByteArray := prog_1_method_28_code
def yX2_nearestMiss : MethodName := ⟨RX2, "nearestMiss", "(I)I"⟩
abbrev cX2_valveDrop : ByteArray := prog_1_method_29_code
def yX2_valveDrop : MethodName := ⟨RX2, "valveDrop", "(I[II)I"⟩
def RX3 : String := "BrassWaysModel"
def TX3 : u_T := fun k => match k with
  | 0 => ("BrassWaysModel", "state", "[I", true)
  | 1 => ("BrassWaysModel", "images", "[I", true)
  | 2 => ("BrassWaysModel", "isKept", "[Z", true)
  | 3 => ("BrassWaysModel", "rest", "[I", true)
  | 4 => ("BrassWaysModel", "ways", "[J", true)
  | 5 => ("BrassWaysModel", "leastWays", "[J", true)
  | _ => ("BrassWaysModel", "ahead", "[I", true)
def tyX3 : Nat → FieldType := fun k => match k with
  | 0 => .array .int
  | 1 => .array .int
  | 2 => .array .boolean
  | 3 => .array .int
  | 4 => .array .long
  | 5 => .array .long
  | _ => .array .int
abbrev wsX30 : List Cond := u_ws RX3 TX3 7
theorem nmX3 : ∀ a, a < 7 → ∀ b, b < 7 → a ≠ b → (TX3 a).2.1 ≠ (TX3 b).2.1 := by decide +kernel
theorem tyX3_ok : ∀ k, k < 7 → parseFieldDescriptor (TX3 k).2.2.1 = some (tyX3 k) := by decide +kernel
abbrev cX3_init : ByteArray := prog_5_method_1_code
def yX3_init : MethodName := ⟨RX3, "<init>", "()V"⟩
abbrev cX3_in : ByteArray := prog_5_method_2_code
def yX3_in : MethodName := ⟨RX3, "in", "(III)Z"⟩
abbrev cX3_size : ByteArray := prog_5_method_3_code
def yX3_size : MethodName := ⟨RX3, "size", "(I)I"⟩
abbrev cX3_isSetting : ByteArray := prog_5_method_4_code
def yX3_isSetting : MethodName := ⟨RX3, "isSetting", "(I)Z"⟩
abbrev cX3_isWay : ByteArray := prog_5_method_5_code
def yX3_isWay : MethodName := ⟨RX3, "isWay", "(I)Z"⟩
abbrev cX3_isNote : ByteArray := prog_5_method_6_code
def yX3_isNote : MethodName := ⟨RX3, "isNote", "(I)Z"⟩
abbrev cX3_isPlace : ByteArray := prog_5_method_7_code
def yX3_isPlace : MethodName := ⟨RX3, "isPlace", "(I)Z"⟩
abbrev cX3_bits : ByteArray := prog_5_method_8_code
def yX3_bits : MethodName := ⟨RX3, "bits", "(I)I"⟩
abbrev cX3_lowersBy : ByteArray := prog_5_method_9_code
def yX3_lowersBy : MethodName := ⟨RX3, "lowersBy", "(I)I"⟩
abbrev cX3_highOf : ByteArray := prog_5_method_10_code
def yX3_highOf : MethodName := ⟨RX3, "highOf", "(I)I"⟩
abbrev cX3_offOf : ByteArray := prog_5_method_11_code
def yX3_offOf : MethodName := ⟨RX3, "offOf", "(II)I"⟩
abbrev cX3_sounds : ByteArray := prog_5_method_12_code
def yX3_sounds : MethodName := ⟨RX3, "sounds", "(II)Z"⟩
abbrev cX3_horn : ByteArray := prog_5_method_13_code
def yX3_horn : MethodName := ⟨RX3, "horn", "(I)I"⟩
abbrev cX3_valve : ByteArray := prog_5_method_14_code
def yX3_valve : MethodName := ⟨RX3, "valve", "(II)I"⟩
abbrev cX3_rule : ByteArray := prog_5_method_15_code
def yX3_rule : MethodName := ⟨RX3, "rule", "(II)I"⟩
abbrev cX3_lowers : ByteArray := prog_5_method_16_code
def yX3_lowers : MethodName := ⟨RX3, "lowers", "(I)I"⟩
abbrev cX3_off : ByteArray := prog_5_method_17_code
def yX3_off : MethodName := ⟨RX3, "off", "(II)I"⟩
abbrev cX3_waysOf : ByteArray := prog_5_method_18_code
def yX3_waysOf : MethodName := ⟨RX3, "waysOf", "(I)I"⟩
abbrev cX3_ways : ByteArray := prog_5_method_19_code
def yX3_ways : MethodName := ⟨RX3, "ways", "(II)I"⟩
abbrev cX3_truest : ByteArray := prog_5_method_20_code
def yX3_truest : MethodName := ⟨RX3, "truest", "(I)I"⟩
abbrev cX3_range : ByteArray := prog_5_method_21_code
def yX3_range : MethodName := ⟨RX3, "range", "(I)I"⟩
abbrev cX3_note : ByteArray := prog_5_method_22_code
def yX3_note : MethodName := ⟨RX3, "note", "(I)I"⟩
abbrev cX3_set : ByteArray := prog_5_method_23_code
def yX3_set : MethodName := ⟨RX3, "set", "(II)I"⟩
abbrev cX3_clear : ByteArray := prog_5_method_24_code
def yX3_clear : MethodName := ⟨RX3, "clear", "()I"⟩
abbrev cX3_effortOf : ByteArray := prog_5_method_25_code
def yX3_effortOf : MethodName := ⟨RX3, "effortOf", "(II)I"⟩
abbrev cX3_effort : ByteArray := prog_5_method_26_code
def yX3_effort : MethodName := ⟨RX3, "effort", "(II)I"⟩
abbrev cX3_faultOf : ByteArray := prog_5_method_27_code
def yX3_faultOf : MethodName := ⟨RX3, "faultOf", "(II)I"⟩
abbrev cX3_at : ByteArray := prog_5_method_28_code
def yX3_at : MethodName := ⟨RX3, "at", "(II)I"⟩
abbrev cX3_isAt : ByteArray := prog_5_method_29_code
def yX3_isAt : MethodName := ⟨RX3, "isAt", "(II)Z"⟩
abbrev cX3_layRest : ByteArray := prog_5_method_30_code
def yX3_layRest : MethodName := ⟨RX3, "layRest", "(II)V"⟩
abbrev cX3_layAllRests : ByteArray := prog_5_method_31_code
def yX3_layAllRests : MethodName := ⟨RX3, "layAllRests", "()V"⟩
abbrev cX3_leastOfAll : ByteArray := prog_5_method_32_code
def yX3_leastOfAll : MethodName := ⟨RX3, "leastOfAll", "()I"⟩
abbrev cX3_nextWay : ByteArray := prog_5_method_33_code
def yX3_nextWay : MethodName := ⟨RX3, "nextWay", "(III)I"⟩
abbrev cX3_least : ByteArray := prog_5_method_34_code
def yX3_least : MethodName := ⟨RX3, "least", "(I)I"⟩
abbrev cX3_layAhead : ByteArray := prog_5_method_35_code
def yX3_layAhead : MethodName := ⟨RX3, "layAhead", "()V"⟩
abbrev cX3_leastAhead : ByteArray := prog_5_method_36_code
def yX3_leastAhead : MethodName := ⟨RX3, "leastAhead", "(II)I"⟩
abbrev cX3_leastAt : ByteArray := prog_5_method_37_code
def yX3_leastAt : MethodName := ⟨RX3, "leastAt", "(II)I"⟩
abbrev cX3_plans : ByteArray := prog_5_method_38_code
def yX3_plans : MethodName := ⟨RX3, "plans", "(I)J"⟩
abbrev cX3_dumb : ByteArray := prog_5_method_39_code
def yX3_dumb : MethodName := ⟨RX3, "dumb", "()I"⟩
abbrev cX3_trillOf : ByteArray := prog_5_method_40_code
def yX3_trillOf : MethodName := ⟨RX3, "trillOf", "(II)I"⟩
abbrev cX3_trill : ByteArray := prog_5_method_41_code
def yX3_trill : MethodName := ⟨RX3, "trill", "(II)I"⟩
abbrev cX3_awkward : ByteArray := prog_5_method_42_code
def yX3_awkward : MethodName := ⟨RX3, "awkward", "(II)I"⟩
abbrev cX3_offOfPart : ByteArray := prog_5_method_43_code
def yX3_offOfPart : MethodName := ⟨RX3, "offOfPart", "()I"⟩
abbrev cX3_tune : ByteArray := prog_5_method_44_code
def yX3_tune : MethodName := ⟨RX3, "tune", "(II)I"⟩
abbrev cX3_image : ByteArray := prog_5_method_45_code
def yX3_image : MethodName := ⟨RX3, "image", "(I)I"⟩
abbrev cX3_restore : ByteArray := prog_5_method_46_code
def yX3_restore : MethodName := ⟨RX3, "restore", "(I)I"⟩
abbrev cX3_count : ByteArray := prog_5_method_47_code
def yX3_count : MethodName := ⟨RX3, "count", "(I)I"⟩
def RJ6 : String := "java/lang/Integer"
def TJ6 : u_T := fun k => match k with
  | _ => ("", "", "", false)
def tyJ6 : Nat → FieldType := fun k => match k with
  | _ => .int
abbrev wsJ60 : List Cond := u_ws RJ6 TJ6 0
theorem nmJ6 : ∀ a, a < 0 → ∀ b, b < 0 → a ≠ b → (TJ6 a).2.1 ≠ (TJ6 b).2.1 := by decide +kernel
theorem tyJ6_ok : ∀ k, k < 0 → parseFieldDescriptor (TJ6 k).2.2.1 = some (tyJ6 k) := by decide +kernel
abbrev cJ6_bitCount_0f7a4 : ByteArray := prog_6_method_49_code
def yJ6_bitCount_0f7a4 : MethodName := ⟨RJ6, "bitCount", "(I)I"⟩
def RJ9 : String := "java/lang/Math"
def TJ9 : u_T := fun k => match k with
  | _ => ("", "", "", false)
def tyJ9 : Nat → FieldType := fun k => match k with
  | _ => .int
abbrev wsJ90 : List Cond := u_ws RJ9 TJ9 0
theorem nmJ9 : ∀ a, a < 0 → ∀ b, b < 0 → a ≠ b → (TJ9 a).2.1 ≠ (TJ9 b).2.1 := by decide +kernel
theorem tyJ9_ok : ∀ k, k < 0 → parseFieldDescriptor (TJ9 k).2.2.1 = some (tyJ9 k) := by decide +kernel
abbrev cJ9_abs_0f7a4 : ByteArray := prog_7_method_59_code
def yJ9_abs_0f7a4 : MethodName := ⟨RJ9, "abs", "(I)I"⟩
abbrev cJ9_min_7cf53 : ByteArray := prog_7_method_69_code
def yJ9_min_7cf53 : MethodName := ⟨RJ9, "min", "(II)I"⟩
def RJ10 : String := "java/lang/System"
def TJ10 : u_T := fun k => match k with
  | _ => ("", "", "", false)
def tyJ10 : Nat → FieldType := fun k => match k with
  | _ => .int
abbrev wsJ100 : List Cond := u_ws RJ10 TJ10 0
theorem nmJ10 : ∀ a, a < 0 → ∀ b, b < 0 → a ≠ b → (TJ10 a).2.1 ≠ (TJ10 b).2.1 := by decide +kernel
theorem tyJ10_ok : ∀ k, k < 0 → parseFieldDescriptor (TJ10 k).2.2.1 = some (tyJ10 k) := by decide +kernel
def RL : String := "BrassWaysLaw"
abbrev cL_law : ByteArray := code
def yL_law : MethodName := ⟨RL, "law", "([I)Z"⟩
def wsX0_init : List Cond := .code yX0_init cX0_init 1 none :: ([.methodLink RX0 3 objectInit, .instanceMethod objectInit, .code objectInit ⟨#[0xb1]⟩ 1 none, .fieldLink RX0 9 "BrassWays$Planner" "size" "I", .arrayClass .int, .fieldLink RX0 15 "BrassWays$Planner" "found" "[I", .fieldLink RX0 19 "BrassWays$Planner" "wayIn" "[I", .fieldLink RX0 22 "BrassWays$Planner" "behind" "[I", .fieldLink RX0 25 "BrassWays$Planner" "onward" "[I", .arrayClass .long, .fieldLink RX0 28 "BrassWays$Planner" "ties" "[J"] ++ wsX00)
def wsX1_hasSetting : List Cond := .code yX1_hasSetting cX1_hasSetting 2 (some .boolean) :: ([.fieldLink RX1 9 "BrassWays$Setup" "kind" "I"] ++ wsX10)
def wsX1_hasWay : List Cond := .code yX1_hasWay cX1_hasWay 2 (some .boolean) :: ([.methodLink RX1 34 yX1_hasSetting, .instanceMethod yX1_hasSetting, .selects RX1 yX1_hasSetting yX1_hasSetting, .initialized RX1, .code yX1_hasSetting cX1_hasSetting 2 (some .boolean), .fieldLink RX1 9 "BrassWays$Setup" "kind" "I"] ++ wsX10)
def wsX2_valveDrop : List Cond := .code yX2_valveDrop cX2_valveDrop 6 (some .int) :: ([])
def wsX1_dropOf : List Cond := .code yX1_dropOf cX1_dropOf 2 (some .int) :: ([.fieldLink RX1 9 "BrassWays$Setup" "kind" "I", .fieldLink RX1 15 "BrassWays$Setup" "lengths" "[I", .fieldLink RX1 19 "BrassWays$Setup" "rules" "[I", .static yX2_valveDrop, .initialized RX2, .code yX2_valveDrop cX2_valveDrop 6 (some .int)] ++ wsX10)
def wsX1_offBy : List Cond := .code yX1_offBy cX1_offBy 3 (some .int) :: ([.methodLink RX1 45 yX1_dropOf, .instanceMethod yX1_dropOf, .selects RX1 yX1_dropOf yX1_dropOf, .initialized RX1, .code yX1_dropOf cX1_dropOf 2 (some .int), .fieldLink RX1 9 "BrassWays$Setup" "kind" "I", .fieldLink RX1 15 "BrassWays$Setup" "lengths" "[I", .fieldLink RX1 19 "BrassWays$Setup" "rules" "[I", .static yX2_valveDrop, .initialized RX2, .code yX2_valveDrop cX2_valveDrop 6 (some .int)] ++ wsX10)
def wsX1_gatherWays_r1 : List Cond := [Cond.methodLink RX1 56 Lib.Math.abs.name, Cond.static Lib.Math.abs.name, Cond.initialized "java/lang/Math", Cond.code Lib.Math.abs.name Lib.Math.abs.code 1 (some .int), Cond.fieldLink RX1 19 "BrassWays$Setup" "rules" "[I", Cond.methodLink RX1 49 yX1_hasWay, Cond.instanceMethod yX1_hasWay, Cond.selects RX1 yX1_hasWay yX1_hasWay, Cond.initialized RX1, Cond.code yX1_hasWay cX1_hasWay 2 (some .boolean), Cond.methodLink RX1 34 yX1_hasSetting, Cond.instanceMethod yX1_hasSetting, Cond.selects RX1 yX1_hasSetting yX1_hasSetting, Cond.code yX1_hasSetting cX1_hasSetting 2 (some .boolean), Cond.fieldLink RX1 9 "BrassWays$Setup" "kind" "I", Cond.methodLink RX1 52 yX1_offBy, Cond.instanceMethod yX1_offBy, Cond.selects RX1 yX1_offBy yX1_offBy, Cond.code yX1_offBy cX1_offBy 3 (some .int), Cond.methodLink RX1 45 yX1_dropOf, Cond.instanceMethod yX1_dropOf, Cond.selects RX1 yX1_dropOf yX1_dropOf, Cond.code yX1_dropOf cX1_dropOf 2 (some .int), Cond.fieldLink RX1 15 "BrassWays$Setup" "lengths" "[I"]
def wsX1_gatherWays_r2 : List Cond := [Cond.static yX2_valveDrop, Cond.initialized RX2, Cond.code yX2_valveDrop cX2_valveDrop 6 (some .int)]
def wsX1_gatherWays : List Cond := .code yX1_gatherWays cX1_gatherWays 6 (some .int) :: ((wsX1_gatherWays_r1 ++ wsX1_gatherWays_r2) ++ wsX10)
def wsJ6_bitCount_0f7a4 : List Cond := .code yJ6_bitCount_0f7a4 cJ6_bitCount_0f7a4 1 (some .int) :: ([.constant RJ6 265 (1431655765), .constant RJ6 266 (858993459), .constant RJ6 267 (252645135)])
def wsX1_motion : List Cond := .code yX1_motion cX1_motion 7 (some .int) :: ([.fieldLink RX1 9 "BrassWays$Setup" "kind" "I", .methodLink RX1 56 Lib.Math.abs.name, .static Lib.Math.abs.name, .initialized "java/lang/Math", .code Lib.Math.abs.name Lib.Math.abs.code 1 (some .int), .fieldLink RX1 19 "BrassWays$Setup" "rules" "[I", .methodLink RX1 61 yJ6_bitCount_0f7a4, .static yJ6_bitCount_0f7a4, .initialized RJ6, .code yJ6_bitCount_0f7a4 cJ6_bitCount_0f7a4 1 (some .int), .constant RJ6 265 (1431655765), .constant RJ6 266 (858993459), .constant RJ6 267 (252645135)] ++ wsX10)
def wsX1_fault : List Cond := .code yX1_fault cX1_fault 3 (some .int) :: ([.fieldLink RX1 19 "BrassWays$Setup" "rules" "[I", .methodLink RX1 56 Lib.Math.abs.name, .static Lib.Math.abs.name, .initialized "java/lang/Math", .code Lib.Math.abs.name Lib.Math.abs.code 1 (some .int), .methodLink RX1 52 yX1_offBy, .instanceMethod yX1_offBy, .selects RX1 yX1_offBy yX1_offBy, .initialized RX1, .code yX1_offBy cX1_offBy 3 (some .int), .methodLink RX1 45 yX1_dropOf, .instanceMethod yX1_dropOf, .selects RX1 yX1_dropOf yX1_dropOf, .code yX1_dropOf cX1_dropOf 2 (some .int), .fieldLink RX1 9 "BrassWays$Setup" "kind" "I", .fieldLink RX1 15 "BrassWays$Setup" "lengths" "[I", .static yX2_valveDrop, .initialized RX2, .code yX2_valveDrop cX2_valveDrop 6 (some .int)] ++ wsX10)
def wsX0_weigh_r1 : List Cond := [Cond.fieldLink RX0 9 "BrassWays$Planner" "size" "I", Cond.constant RX0 46 (1000000), Cond.fieldLink RX0 15 "BrassWays$Planner" "found" "[I", Cond.fieldLink RX0 19 "BrassWays$Planner" "wayIn" "[I", Cond.fieldLink RX0 25 "BrassWays$Planner" "onward" "[I", Cond.fieldLink RX0 28 "BrassWays$Planner" "ties" "[J", Cond.fieldLink RX0 22 "BrassWays$Planner" "behind" "[I", Cond.fieldLink RX0 35 "BrassWays$Setup" "notes" "[I", Cond.methodLink RX0 47 yX1_motion, Cond.instanceMethod yX1_motion, Cond.selects RX1 yX1_motion yX1_motion, Cond.initialized RX1, Cond.code yX1_motion cX1_motion 7 (some .int), Cond.fieldLink RX1 9 "BrassWays$Setup" "kind" "I", Cond.methodLink RX1 56 Lib.Math.abs.name, Cond.static Lib.Math.abs.name, Cond.initialized "java/lang/Math", Cond.code Lib.Math.abs.name Lib.Math.abs.code 1 (some .int), Cond.fieldLink RX1 19 "BrassWays$Setup" "rules" "[I", Cond.methodLink RX1 61 yJ6_bitCount_0f7a4, Cond.static yJ6_bitCount_0f7a4, Cond.initialized RJ6, Cond.code yJ6_bitCount_0f7a4 cJ6_bitCount_0f7a4 1 (some .int), Cond.constant RJ6 265 (1431655765)]
def wsX0_weigh_r2 : List Cond := [Cond.constant RJ6 266 (858993459), Cond.constant RJ6 267 (252645135), Cond.methodLink RX0 51 yX1_fault, Cond.instanceMethod yX1_fault, Cond.selects RX1 yX1_fault yX1_fault, Cond.code yX1_fault cX1_fault 3 (some .int), Cond.methodLink RX1 52 yX1_offBy, Cond.instanceMethod yX1_offBy, Cond.selects RX1 yX1_offBy yX1_offBy, Cond.code yX1_offBy cX1_offBy 3 (some .int), Cond.methodLink RX1 45 yX1_dropOf, Cond.instanceMethod yX1_dropOf, Cond.selects RX1 yX1_dropOf yX1_dropOf, Cond.code yX1_dropOf cX1_dropOf 2 (some .int), Cond.fieldLink RX1 15 "BrassWays$Setup" "lengths" "[I", Cond.static yX2_valveDrop, Cond.initialized RX2, Cond.code yX2_valveDrop cX2_valveDrop 6 (some .int)]
def wsX0_weigh : List Cond := .code yX0_weigh cX0_weigh 10 none :: ((wsX0_weigh_r1 ++ wsX0_weigh_r2) ++ wsX00 ++ wsX10)
def wsX0_workOut_r1 : List Cond := [Cond.fieldLink RX0 32 "BrassWays$Setup" "size" "I", Cond.fieldLink RX0 9 "BrassWays$Planner" "size" "I", Cond.fieldLink RX0 15 "BrassWays$Planner" "found" "[I", Cond.fieldLink RX0 35 "BrassWays$Setup" "notes" "[I", Cond.fieldLink RX0 19 "BrassWays$Planner" "wayIn" "[I", Cond.methodLink RX0 38 yX1_gatherWays, Cond.instanceMethod yX1_gatherWays, Cond.selects RX1 yX1_gatherWays yX1_gatherWays, Cond.initialized RX1, Cond.code yX1_gatherWays cX1_gatherWays 6 (some .int), Cond.methodLink RX1 56 Lib.Math.abs.name, Cond.static Lib.Math.abs.name, Cond.initialized "java/lang/Math", Cond.code Lib.Math.abs.name Lib.Math.abs.code 1 (some .int), Cond.fieldLink RX1 19 "BrassWays$Setup" "rules" "[I", Cond.methodLink RX1 49 yX1_hasWay, Cond.instanceMethod yX1_hasWay, Cond.selects RX1 yX1_hasWay yX1_hasWay, Cond.code yX1_hasWay cX1_hasWay 2 (some .boolean), Cond.methodLink RX1 34 yX1_hasSetting, Cond.instanceMethod yX1_hasSetting, Cond.selects RX1 yX1_hasSetting yX1_hasSetting, Cond.code yX1_hasSetting cX1_hasSetting 2 (some .boolean), Cond.fieldLink RX1 9 "BrassWays$Setup" "kind" "I"]
def wsX0_workOut_r2 : List Cond := [Cond.methodLink RX1 52 yX1_offBy, Cond.instanceMethod yX1_offBy, Cond.selects RX1 yX1_offBy yX1_offBy, Cond.code yX1_offBy cX1_offBy 3 (some .int), Cond.methodLink RX1 45 yX1_dropOf, Cond.instanceMethod yX1_dropOf, Cond.selects RX1 yX1_dropOf yX1_dropOf, Cond.code yX1_dropOf cX1_dropOf 2 (some .int), Cond.fieldLink RX1 15 "BrassWays$Setup" "lengths" "[I", Cond.static yX2_valveDrop, Cond.initialized RX2, Cond.code yX2_valveDrop cX2_valveDrop 6 (some .int), Cond.methodLink RX0 42 yX0_weigh, Cond.instanceMethod yX0_weigh, Cond.selects RX0 yX0_weigh yX0_weigh, Cond.initialized RX0, Cond.code yX0_weigh cX0_weigh 10 none, Cond.constant RX0 46 (1000000), Cond.fieldLink RX0 25 "BrassWays$Planner" "onward" "[I", Cond.fieldLink RX0 28 "BrassWays$Planner" "ties" "[J", Cond.fieldLink RX0 22 "BrassWays$Planner" "behind" "[I", Cond.methodLink RX0 47 yX1_motion, Cond.instanceMethod yX1_motion, Cond.selects RX1 yX1_motion yX1_motion]
def wsX0_workOut_r3 : List Cond := [Cond.code yX1_motion cX1_motion 7 (some .int), Cond.methodLink RX1 61 yJ6_bitCount_0f7a4, Cond.static yJ6_bitCount_0f7a4, Cond.initialized RJ6, Cond.code yJ6_bitCount_0f7a4 cJ6_bitCount_0f7a4 1 (some .int), Cond.constant RJ6 265 (1431655765), Cond.constant RJ6 266 (858993459), Cond.constant RJ6 267 (252645135), Cond.methodLink RX0 51 yX1_fault, Cond.instanceMethod yX1_fault, Cond.selects RX1 yX1_fault yX1_fault, Cond.code yX1_fault cX1_fault 3 (some .int)]
def wsX0_workOut : List Cond := .code yX0_workOut cX0_workOut 4 none :: ((wsX0_workOut_r1 ++ (wsX0_workOut_r2 ++ wsX0_workOut_r3)) ++ wsX10 ++ wsX00)
def wsX0_countAll : List Cond := .code yX0_countAll cX0_countAll 4 (some .long) :: ([.fieldLink RX0 9 "BrassWays$Planner" "size" "I", .fieldLink RX0 15 "BrassWays$Planner" "found" "[I"] ++ wsX00)
def wsX0_hasPlan : List Cond := .code yX0_hasPlan cX0_hasPlan 1 (some .boolean) :: ([.methodLink RX0 54 yX0_countAll, .instanceMethod yX0_countAll, .selects RX0 yX0_countAll yX0_countAll, .initialized RX0, .code yX0_countAll cX0_countAll 4 (some .long), .fieldLink RX0 9 "BrassWays$Planner" "size" "I", .fieldLink RX0 15 "BrassWays$Planner" "found" "[I"] ++ wsX00)
def wsX0_leastCost : List Cond := .code yX0_leastCost cX0_leastCost 3 (some .int) :: ([.fieldLink RX0 9 "BrassWays$Planner" "size" "I", .constant RX0 46 (1000000), .fieldLink RX0 15 "BrassWays$Planner" "found" "[I", .fieldLink RX0 25 "BrassWays$Planner" "onward" "[I", .methodLink RX0 58 Lib.Math.min.name, .static Lib.Math.min.name, .initialized "java/lang/Math", .code Lib.Math.min.name Lib.Math.min.code 2 (some .int)] ++ wsX00)
def wsX0_countLeast : List Cond := .code yX0_countLeast cX0_countLeast 5 (some .long) :: ([.fieldLink RX0 9 "BrassWays$Planner" "size" "I", .fieldLink RX0 15 "BrassWays$Planner" "found" "[I", .fieldLink RX0 25 "BrassWays$Planner" "onward" "[I", .fieldLink RX0 28 "BrassWays$Planner" "ties" "[J", .methodLink RX0 63 yX0_hasPlan, .instanceMethod yX0_hasPlan, .selects RX0 yX0_hasPlan yX0_hasPlan, .initialized RX0, .code yX0_hasPlan cX0_hasPlan 1 (some .boolean), .methodLink RX0 54 yX0_countAll, .instanceMethod yX0_countAll, .selects RX0 yX0_countAll yX0_countAll, .code yX0_countAll cX0_countAll 4 (some .long), .methodLink RX0 67 yX0_leastCost, .instanceMethod yX0_leastCost, .selects RX0 yX0_leastCost yX0_leastCost, .code yX0_leastCost cX0_leastCost 3 (some .int), .constant RX0 46 (1000000), .methodLink RX0 58 Lib.Math.min.name, .static Lib.Math.min.name, .initialized "java/lang/Math", .code Lib.Math.min.name Lib.Math.min.code 2 (some .int)] ++ wsX00)
def wsX0_firstMarks : List Cond := .code yX0_firstMarks cX0_firstMarks 4 (some .int) :: ([.fieldLink RX0 15 "BrassWays$Planner" "found" "[I", .fieldLink RX0 25 "BrassWays$Planner" "onward" "[I", .methodLink RX0 67 yX0_leastCost, .instanceMethod yX0_leastCost, .selects RX0 yX0_leastCost yX0_leastCost, .initialized RX0, .code yX0_leastCost cX0_leastCost 3 (some .int), .fieldLink RX0 9 "BrassWays$Planner" "size" "I", .constant RX0 46 (1000000), .methodLink RX0 58 Lib.Math.min.name, .static Lib.Math.min.name, .initialized "java/lang/Math", .code Lib.Math.min.name Lib.Math.min.code 2 (some .int)] ++ wsX00)
def wsX0_nextMarks : List Cond := .code yX0_nextMarks cX0_nextMarks 10 (some .int) :: ([.fieldLink RX0 9 "BrassWays$Planner" "size" "I", .fieldLink RX0 15 "BrassWays$Planner" "found" "[I", .fieldLink RX0 19 "BrassWays$Planner" "wayIn" "[I", .fieldLink RX0 25 "BrassWays$Planner" "onward" "[I", .fieldLink RX0 22 "BrassWays$Planner" "behind" "[I", .methodLink RX0 47 yX1_motion, .instanceMethod yX1_motion, .selects RX1 yX1_motion yX1_motion, .initialized RX1, .code yX1_motion cX1_motion 7 (some .int), .fieldLink RX1 9 "BrassWays$Setup" "kind" "I", .methodLink RX1 56 Lib.Math.abs.name, .static Lib.Math.abs.name, .initialized "java/lang/Math", .code Lib.Math.abs.name Lib.Math.abs.code 1 (some .int), .fieldLink RX1 19 "BrassWays$Setup" "rules" "[I", .methodLink RX1 61 yJ6_bitCount_0f7a4, .static yJ6_bitCount_0f7a4, .initialized RJ6, .code yJ6_bitCount_0f7a4 cJ6_bitCount_0f7a4 1 (some .int), .constant RJ6 265 (1431655765), .constant RJ6 266 (858993459), .constant RJ6 267 (252645135)] ++ wsX00 ++ wsX10)
def wsX0_countWaysAt_r1 : List Cond := [Cond.methodLink RX0 71 yX0_firstMarks, Cond.instanceMethod yX0_firstMarks, Cond.selects RX0 yX0_firstMarks yX0_firstMarks, Cond.initialized RX0, Cond.code yX0_firstMarks cX0_firstMarks 4 (some .int), Cond.fieldLink RX0 15 "BrassWays$Planner" "found" "[I", Cond.fieldLink RX0 25 "BrassWays$Planner" "onward" "[I", Cond.methodLink RX0 67 yX0_leastCost, Cond.instanceMethod yX0_leastCost, Cond.selects RX0 yX0_leastCost yX0_leastCost, Cond.code yX0_leastCost cX0_leastCost 3 (some .int), Cond.fieldLink RX0 9 "BrassWays$Planner" "size" "I", Cond.constant RX0 46 (1000000), Cond.methodLink RX0 58 Lib.Math.min.name, Cond.static Lib.Math.min.name, Cond.initialized "java/lang/Math", Cond.code Lib.Math.min.name Lib.Math.min.code 2 (some .int), Cond.methodLink RX0 74 yX0_nextMarks, Cond.instanceMethod yX0_nextMarks, Cond.selects RX0 yX0_nextMarks yX0_nextMarks, Cond.code yX0_nextMarks cX0_nextMarks 10 (some .int), Cond.fieldLink RX0 19 "BrassWays$Planner" "wayIn" "[I", Cond.fieldLink RX0 22 "BrassWays$Planner" "behind" "[I", Cond.methodLink RX0 47 yX1_motion]
def wsX0_countWaysAt_r2 : List Cond := [Cond.instanceMethod yX1_motion, Cond.selects RX1 yX1_motion yX1_motion, Cond.initialized RX1, Cond.code yX1_motion cX1_motion 7 (some .int), Cond.fieldLink RX1 9 "BrassWays$Setup" "kind" "I", Cond.methodLink RX1 56 Lib.Math.abs.name, Cond.static Lib.Math.abs.name, Cond.code Lib.Math.abs.name Lib.Math.abs.code 1 (some .int), Cond.fieldLink RX1 19 "BrassWays$Setup" "rules" "[I", Cond.methodLink RX1 61 yJ6_bitCount_0f7a4, Cond.static yJ6_bitCount_0f7a4, Cond.initialized RJ6, Cond.code yJ6_bitCount_0f7a4 cJ6_bitCount_0f7a4 1 (some .int), Cond.constant RJ6 265 (1431655765), Cond.constant RJ6 266 (858993459), Cond.constant RJ6 267 (252645135), Cond.methodLink RX0 78 yJ6_bitCount_0f7a4]
def wsX0_countWaysAt : List Cond := .code yX0_countWaysAt cX0_countWaysAt 5 (some .int) :: ((wsX0_countWaysAt_r1 ++ wsX0_countWaysAt_r2) ++ wsX00 ++ wsX10)
def wsX0_lowestMark : List Cond := .code yX0_lowestMark cX0_lowestMark 1 (some .int) :: ([])
def wsX0_leastWayAt_r1 : List Cond := [Cond.fieldLink RX0 9 "BrassWays$Planner" "size" "I", Cond.fieldLink RX0 19 "BrassWays$Planner" "wayIn" "[I", Cond.methodLink RX0 71 yX0_firstMarks, Cond.instanceMethod yX0_firstMarks, Cond.selects RX0 yX0_firstMarks yX0_firstMarks, Cond.initialized RX0, Cond.code yX0_firstMarks cX0_firstMarks 4 (some .int), Cond.fieldLink RX0 15 "BrassWays$Planner" "found" "[I", Cond.fieldLink RX0 25 "BrassWays$Planner" "onward" "[I", Cond.methodLink RX0 67 yX0_leastCost, Cond.instanceMethod yX0_leastCost, Cond.selects RX0 yX0_leastCost yX0_leastCost, Cond.code yX0_leastCost cX0_leastCost 3 (some .int), Cond.constant RX0 46 (1000000), Cond.methodLink RX0 58 Lib.Math.min.name, Cond.static Lib.Math.min.name, Cond.initialized "java/lang/Math", Cond.code Lib.Math.min.name Lib.Math.min.code 2 (some .int), Cond.methodLink RX0 84 yX0_lowestMark, Cond.static yX0_lowestMark, Cond.code yX0_lowestMark cX0_lowestMark 1 (some .int), Cond.methodLink RX0 74 yX0_nextMarks, Cond.instanceMethod yX0_nextMarks, Cond.selects RX0 yX0_nextMarks yX0_nextMarks]
def wsX0_leastWayAt_r2 : List Cond := [Cond.code yX0_nextMarks cX0_nextMarks 10 (some .int), Cond.fieldLink RX0 22 "BrassWays$Planner" "behind" "[I", Cond.methodLink RX0 47 yX1_motion, Cond.instanceMethod yX1_motion, Cond.selects RX1 yX1_motion yX1_motion, Cond.initialized RX1, Cond.code yX1_motion cX1_motion 7 (some .int), Cond.fieldLink RX1 9 "BrassWays$Setup" "kind" "I", Cond.methodLink RX1 56 Lib.Math.abs.name, Cond.static Lib.Math.abs.name, Cond.code Lib.Math.abs.name Lib.Math.abs.code 1 (some .int), Cond.fieldLink RX1 19 "BrassWays$Setup" "rules" "[I", Cond.methodLink RX1 61 yJ6_bitCount_0f7a4, Cond.static yJ6_bitCount_0f7a4, Cond.initialized RJ6, Cond.code yJ6_bitCount_0f7a4 cJ6_bitCount_0f7a4 1 (some .int), Cond.constant RJ6 265 (1431655765), Cond.constant RJ6 266 (858993459), Cond.constant RJ6 267 (252645135), Cond.methodLink RX0 78 yJ6_bitCount_0f7a4]
def wsX0_leastWayAt : List Cond := .code yX0_leastWayAt cX0_leastWayAt 5 (some .int) :: ((wsX0_leastWayAt_r1 ++ wsX0_leastWayAt_r2) ++ wsX00 ++ wsX10)
def wsX1_init : List Cond := .code yX1_init cX1_init 1 none :: ([.methodLink RX1 3 objectInit, .instanceMethod objectInit, .code objectInit ⟨#[0xb1]⟩ 1 none, .fieldLink RX1 9 "BrassWays$Setup" "kind" "I", .arrayClass .int, .fieldLink RX1 15 "BrassWays$Setup" "lengths" "[I", .fieldLink RX1 19 "BrassWays$Setup" "rules" "[I", .fieldLink RX1 22 "BrassWays$Setup" "notes" "[I", .fieldLink RX1 25 "BrassWays$Setup" "size" "I"] ++ wsX10)
def wsX1_takeFrom : List Cond := .code yX1_takeFrom cX1_takeFrom 2 none :: ([.fieldLink RX1 9 "BrassWays$Setup" "kind" "I", .fieldLink RX1 25 "BrassWays$Setup" "size" "I", .fieldLink RX1 15 "BrassWays$Setup" "lengths" "[I", .methodLink RX1 28 arraycopyName, .native arraycopyName, .static arraycopyName, .initialized "java/lang/System", .fieldLink RX1 19 "BrassWays$Setup" "rules" "[I", .fieldLink RX1 22 "BrassWays$Setup" "notes" "[I"] ++ wsX10)
def wsX2_init_r1 : List Cond := [Cond.methodLink RX2 3 objectInit, Cond.instanceMethod objectInit, Cond.code objectInit ⟨#[0xb1]⟩ 1 none, Cond.classLink RX2 9 RX1, Cond.instantiable RX1 5, Cond.initialized RX1, Cond.fieldLink RX2 12 "BrassWays" "now" "LBrassWays$Setup;", Cond.fieldLink RX2 16 "BrassWays" "images" "[LBrassWays$Setup;", Cond.fieldLink RX2 20 "BrassWays" "imagesKept" "I", Cond.classLink RX2 24 RX0, Cond.instantiable RX0 6, Cond.initialized RX0, Cond.fieldLink RX2 27 "BrassWays" "planner" "LBrassWays$Planner;", Cond.arrayClass .int, Cond.fieldLink RX2 31 "BrassWays" "waysOfOne" "[I", Cond.fieldLink RX2 35 "BrassWays" "waysOfOther" "[I", Cond.fieldLink RX2 38 "BrassWays" "trialLengths" "[I", Cond.fieldLink RX2 41 "BrassWays" "trialDrops" "[I", Cond.instanceMethod yX1_init, Cond.code yX1_init cX1_init 1 none, Cond.methodLink RX1 3 objectInit, Cond.fieldLink RX1 9 "BrassWays$Setup" "kind" "I", Cond.fieldLink RX1 15 "BrassWays$Setup" "lengths" "[I", Cond.fieldLink RX1 19 "BrassWays$Setup" "rules" "[I"]
def wsX2_init_r2 : List Cond := [Cond.fieldLink RX1 22 "BrassWays$Setup" "notes" "[I", Cond.fieldLink RX1 25 "BrassWays$Setup" "size" "I", Cond.instanceMethod yX0_init, Cond.code yX0_init cX0_init 1 none, Cond.methodLink RX0 3 objectInit, Cond.fieldLink RX0 9 "BrassWays$Planner" "size" "I", Cond.fieldLink RX0 15 "BrassWays$Planner" "found" "[I", Cond.fieldLink RX0 19 "BrassWays$Planner" "wayIn" "[I", Cond.fieldLink RX0 22 "BrassWays$Planner" "behind" "[I", Cond.fieldLink RX0 25 "BrassWays$Planner" "onward" "[I", Cond.arrayClass .long, Cond.fieldLink RX0 28 "BrassWays$Planner" "ties" "[J"]
def wsX2_init : List Cond := .code yX2_init cX2_init 1 none :: ((wsX2_init_r1 ++ wsX2_init_r2) ++ wsX10 ++ wsX20 ++ wsX00)
def wsX2_horn : List Cond := .code yX2_horn cX2_horn 3 (some .int) :: ([.fieldLink RX2 12 "BrassWays" "now" "LBrassWays$Setup;", .fieldLink RX2 44 "BrassWays$Setup" "kind" "I"] ++ wsX20 ++ wsX10)
def wsX2_isValve : List Cond := .code yX2_isValve cX2_isValve 1 (some .boolean) :: ([])
def wsX2_valve : List Cond := .code yX2_valve cX2_valve 4 (some .int) :: ([.fieldLink RX2 12 "BrassWays" "now" "LBrassWays$Setup;", .fieldLink RX2 51 "BrassWays$Setup" "lengths" "[I", .methodLink RX2 47 yX2_isValve, .static yX2_isValve, .initialized RX2, .code yX2_isValve cX2_isValve 1 (some .boolean)] ++ wsX20 ++ wsX10)
def wsX2_rule : List Cond := .code yX2_rule cX2_rule 4 (some .int) :: ([.fieldLink RX2 54 "BrassWays" "RULE_TOP" "[I", .fieldLink RX2 12 "BrassWays" "now" "LBrassWays$Setup;", .fieldLink RX2 57 "BrassWays$Setup" "rules" "[I"] ++ wsX20 ++ wsX10)
def wsX2_lowers : List Cond := .code yX2_lowers cX2_lowers 2 (some .int) :: ([.fieldLink RX2 12 "BrassWays" "now" "LBrassWays$Setup;", .methodLink RX2 60 yX1_hasSetting, .instanceMethod yX1_hasSetting, .selects RX1 yX1_hasSetting yX1_hasSetting, .initialized RX1, .code yX1_hasSetting cX1_hasSetting 2 (some .boolean), .fieldLink RX1 9 "BrassWays$Setup" "kind" "I", .methodLink RX2 63 yX1_dropOf, .instanceMethod yX1_dropOf, .selects RX1 yX1_dropOf yX1_dropOf, .code yX1_dropOf cX1_dropOf 2 (some .int), .fieldLink RX1 15 "BrassWays$Setup" "lengths" "[I", .fieldLink RX1 19 "BrassWays$Setup" "rules" "[I", .static yX2_valveDrop, .initialized RX2, .code yX2_valveDrop cX2_valveDrop 6 (some .int)] ++ wsX20 ++ wsX10)
def wsX2_isNote : List Cond := .code yX2_isNote cX2_isNote 1 (some .boolean) :: ([])
def wsX2_off_r1 : List Cond := [Cond.fieldLink RX2 12 "BrassWays" "now" "LBrassWays$Setup;", Cond.methodLink RX2 67 yX1_hasWay, Cond.instanceMethod yX1_hasWay, Cond.selects RX1 yX1_hasWay yX1_hasWay, Cond.initialized RX1, Cond.code yX1_hasWay cX1_hasWay 2 (some .boolean), Cond.methodLink RX1 34 yX1_hasSetting, Cond.instanceMethod yX1_hasSetting, Cond.selects RX1 yX1_hasSetting yX1_hasSetting, Cond.code yX1_hasSetting cX1_hasSetting 2 (some .boolean), Cond.fieldLink RX1 9 "BrassWays$Setup" "kind" "I", Cond.methodLink RX2 70 yX2_isNote, Cond.static yX2_isNote, Cond.initialized RX2, Cond.code yX2_isNote cX2_isNote 1 (some .boolean), Cond.methodLink RX2 73 yX1_offBy, Cond.instanceMethod yX1_offBy, Cond.selects RX1 yX1_offBy yX1_offBy, Cond.code yX1_offBy cX1_offBy 3 (some .int), Cond.methodLink RX1 45 yX1_dropOf, Cond.instanceMethod yX1_dropOf, Cond.selects RX1 yX1_dropOf yX1_dropOf, Cond.code yX1_dropOf cX1_dropOf 2 (some .int), Cond.fieldLink RX1 15 "BrassWays$Setup" "lengths" "[I"]
def wsX2_off_r2 : List Cond := [Cond.fieldLink RX1 19 "BrassWays$Setup" "rules" "[I", Cond.static yX2_valveDrop, Cond.code yX2_valveDrop cX2_valveDrop 6 (some .int)]
def wsX2_off : List Cond := .code yX2_off cX2_off 3 (some .int) :: ((wsX2_off_r1 ++ wsX2_off_r2) ++ wsX20 ++ wsX10)
def wsX2_ways_r1 : List Cond := [Cond.fieldLink RX2 12 "BrassWays" "now" "LBrassWays$Setup;", Cond.fieldLink RX2 31 "BrassWays" "waysOfOne" "[I", Cond.methodLink RX2 70 yX2_isNote, Cond.static yX2_isNote, Cond.initialized RX2, Cond.code yX2_isNote cX2_isNote 1 (some .boolean), Cond.methodLink RX2 77 yX1_gatherWays, Cond.instanceMethod yX1_gatherWays, Cond.selects RX1 yX1_gatherWays yX1_gatherWays, Cond.initialized RX1, Cond.code yX1_gatherWays cX1_gatherWays 6 (some .int), Cond.methodLink RX1 56 Lib.Math.abs.name, Cond.static Lib.Math.abs.name, Cond.initialized "java/lang/Math", Cond.code Lib.Math.abs.name Lib.Math.abs.code 1 (some .int), Cond.fieldLink RX1 19 "BrassWays$Setup" "rules" "[I", Cond.methodLink RX1 49 yX1_hasWay, Cond.instanceMethod yX1_hasWay, Cond.selects RX1 yX1_hasWay yX1_hasWay, Cond.code yX1_hasWay cX1_hasWay 2 (some .boolean), Cond.methodLink RX1 34 yX1_hasSetting, Cond.instanceMethod yX1_hasSetting, Cond.selects RX1 yX1_hasSetting yX1_hasSetting, Cond.code yX1_hasSetting cX1_hasSetting 2 (some .boolean)]
def wsX2_ways_r2 : List Cond := [Cond.fieldLink RX1 9 "BrassWays$Setup" "kind" "I", Cond.methodLink RX1 52 yX1_offBy, Cond.instanceMethod yX1_offBy, Cond.selects RX1 yX1_offBy yX1_offBy, Cond.code yX1_offBy cX1_offBy 3 (some .int), Cond.methodLink RX1 45 yX1_dropOf, Cond.instanceMethod yX1_dropOf, Cond.selects RX1 yX1_dropOf yX1_dropOf, Cond.code yX1_dropOf cX1_dropOf 2 (some .int), Cond.fieldLink RX1 15 "BrassWays$Setup" "lengths" "[I", Cond.static yX2_valveDrop, Cond.code yX2_valveDrop cX2_valveDrop 6 (some .int)]
def wsX2_ways : List Cond := .code yX2_ways cX2_ways 4 (some .int) :: ((wsX2_ways_r1 ++ wsX2_ways_r2) ++ wsX20 ++ wsX10)
def wsX2_truest_r1 : List Cond := [Cond.fieldLink RX2 12 "BrassWays" "now" "LBrassWays$Setup;", Cond.fieldLink RX2 31 "BrassWays" "waysOfOne" "[I", Cond.constant RX2 81 (1000000), Cond.methodLink RX2 82 Lib.Math.abs.name, Cond.static Lib.Math.abs.name, Cond.initialized "java/lang/Math", Cond.code Lib.Math.abs.name Lib.Math.abs.code 1 (some .int), Cond.methodLink RX2 70 yX2_isNote, Cond.static yX2_isNote, Cond.initialized RX2, Cond.code yX2_isNote cX2_isNote 1 (some .boolean), Cond.methodLink RX2 77 yX1_gatherWays, Cond.instanceMethod yX1_gatherWays, Cond.selects RX1 yX1_gatherWays yX1_gatherWays, Cond.initialized RX1, Cond.code yX1_gatherWays cX1_gatherWays 6 (some .int), Cond.methodLink RX1 56 Lib.Math.abs.name, Cond.fieldLink RX1 19 "BrassWays$Setup" "rules" "[I", Cond.methodLink RX1 49 yX1_hasWay, Cond.instanceMethod yX1_hasWay, Cond.selects RX1 yX1_hasWay yX1_hasWay, Cond.code yX1_hasWay cX1_hasWay 2 (some .boolean), Cond.methodLink RX1 34 yX1_hasSetting, Cond.instanceMethod yX1_hasSetting]
def wsX2_truest_r2 : List Cond := [Cond.selects RX1 yX1_hasSetting yX1_hasSetting, Cond.code yX1_hasSetting cX1_hasSetting 2 (some .boolean), Cond.fieldLink RX1 9 "BrassWays$Setup" "kind" "I", Cond.methodLink RX1 52 yX1_offBy, Cond.instanceMethod yX1_offBy, Cond.selects RX1 yX1_offBy yX1_offBy, Cond.code yX1_offBy cX1_offBy 3 (some .int), Cond.methodLink RX1 45 yX1_dropOf, Cond.instanceMethod yX1_dropOf, Cond.selects RX1 yX1_dropOf yX1_dropOf, Cond.code yX1_dropOf cX1_dropOf 2 (some .int), Cond.fieldLink RX1 15 "BrassWays$Setup" "lengths" "[I", Cond.static yX2_valveDrop, Cond.code yX2_valveDrop cX2_valveDrop 6 (some .int), Cond.methodLink RX2 73 yX1_offBy]
def wsX2_truest : List Cond := .code yX2_truest cX2_truest 7 (some .int) :: ((wsX2_truest_r1 ++ wsX2_truest_r2) ++ wsX20 ++ wsX10)
def wsX2_range_r1 : List Cond := [Cond.fieldLink RX2 12 "BrassWays" "now" "LBrassWays$Setup;", Cond.fieldLink RX2 31 "BrassWays" "waysOfOne" "[I", Cond.methodLink RX2 77 yX1_gatherWays, Cond.instanceMethod yX1_gatherWays, Cond.selects RX1 yX1_gatherWays yX1_gatherWays, Cond.initialized RX1, Cond.code yX1_gatherWays cX1_gatherWays 6 (some .int), Cond.methodLink RX1 56 Lib.Math.abs.name, Cond.static Lib.Math.abs.name, Cond.initialized "java/lang/Math", Cond.code Lib.Math.abs.name Lib.Math.abs.code 1 (some .int), Cond.fieldLink RX1 19 "BrassWays$Setup" "rules" "[I", Cond.methodLink RX1 49 yX1_hasWay, Cond.instanceMethod yX1_hasWay, Cond.selects RX1 yX1_hasWay yX1_hasWay, Cond.code yX1_hasWay cX1_hasWay 2 (some .boolean), Cond.methodLink RX1 34 yX1_hasSetting, Cond.instanceMethod yX1_hasSetting, Cond.selects RX1 yX1_hasSetting yX1_hasSetting, Cond.code yX1_hasSetting cX1_hasSetting 2 (some .boolean), Cond.fieldLink RX1 9 "BrassWays$Setup" "kind" "I", Cond.methodLink RX1 52 yX1_offBy, Cond.instanceMethod yX1_offBy, Cond.selects RX1 yX1_offBy yX1_offBy]
def wsX2_range_r2 : List Cond := [Cond.code yX1_offBy cX1_offBy 3 (some .int), Cond.methodLink RX1 45 yX1_dropOf, Cond.instanceMethod yX1_dropOf, Cond.selects RX1 yX1_dropOf yX1_dropOf, Cond.code yX1_dropOf cX1_dropOf 2 (some .int), Cond.fieldLink RX1 15 "BrassWays$Setup" "lengths" "[I", Cond.static yX2_valveDrop, Cond.initialized RX2, Cond.code yX2_valveDrop cX2_valveDrop 6 (some .int)]
def wsX2_range : List Cond := .code yX2_range cX2_range 5 (some .int) :: ((wsX2_range_r1 ++ wsX2_range_r2) ++ wsX20 ++ wsX10)
def wsX2_note : List Cond := .code yX2_note cX2_note 3 (some .int) :: ([.fieldLink RX2 12 "BrassWays" "now" "LBrassWays$Setup;", .fieldLink RX2 87 "BrassWays$Setup" "size" "I", .fieldLink RX2 90 "BrassWays$Setup" "notes" "[I", .methodLink RX2 70 yX2_isNote, .static yX2_isNote, .initialized RX2, .code yX2_isNote cX2_isNote 1 (some .boolean)] ++ wsX20 ++ wsX10)
def wsX2_isPlace : List Cond := .code yX2_isPlace cX2_isPlace 2 (some .boolean) :: ([.fieldLink RX2 12 "BrassWays" "now" "LBrassWays$Setup;", .fieldLink RX2 87 "BrassWays$Setup" "size" "I"] ++ wsX20 ++ wsX10)
def wsX2_set : List Cond := .code yX2_set cX2_set 4 (some .int) :: ([.fieldLink RX2 12 "BrassWays" "now" "LBrassWays$Setup;", .fieldLink RX2 90 "BrassWays$Setup" "notes" "[I", .methodLink RX2 93 yX2_isPlace, .instanceMethod yX2_isPlace, .selects RX2 yX2_isPlace yX2_isPlace, .initialized RX2, .code yX2_isPlace cX2_isPlace 2 (some .boolean), .fieldLink RX2 87 "BrassWays$Setup" "size" "I", .methodLink RX2 70 yX2_isNote, .static yX2_isNote, .code yX2_isNote cX2_isNote 1 (some .boolean)] ++ wsX20 ++ wsX10)
def wsX2_clear : List Cond := .code yX2_clear cX2_clear 2 (some .int) :: ([.fieldLink RX2 12 "BrassWays" "now" "LBrassWays$Setup;", .fieldLink RX2 87 "BrassWays$Setup" "size" "I"] ++ wsX20 ++ wsX10)
def wsX2_effort_r1 : List Cond := [Cond.fieldLink RX2 12 "BrassWays" "now" "LBrassWays$Setup;", Cond.methodLink RX2 67 yX1_hasWay, Cond.instanceMethod yX1_hasWay, Cond.selects RX1 yX1_hasWay yX1_hasWay, Cond.initialized RX1, Cond.code yX1_hasWay cX1_hasWay 2 (some .boolean), Cond.methodLink RX1 34 yX1_hasSetting, Cond.instanceMethod yX1_hasSetting, Cond.selects RX1 yX1_hasSetting yX1_hasSetting, Cond.code yX1_hasSetting cX1_hasSetting 2 (some .boolean), Cond.fieldLink RX1 9 "BrassWays$Setup" "kind" "I", Cond.methodLink RX2 96 yX1_motion, Cond.instanceMethod yX1_motion, Cond.selects RX1 yX1_motion yX1_motion, Cond.code yX1_motion cX1_motion 7 (some .int), Cond.methodLink RX1 56 Lib.Math.abs.name, Cond.static Lib.Math.abs.name, Cond.initialized "java/lang/Math", Cond.code Lib.Math.abs.name Lib.Math.abs.code 1 (some .int), Cond.fieldLink RX1 19 "BrassWays$Setup" "rules" "[I", Cond.methodLink RX1 61 yJ6_bitCount_0f7a4, Cond.static yJ6_bitCount_0f7a4, Cond.initialized RJ6, Cond.code yJ6_bitCount_0f7a4 cJ6_bitCount_0f7a4 1 (some .int)]
def wsX2_effort_r2 : List Cond := [Cond.constant RJ6 265 (1431655765), Cond.constant RJ6 266 (858993459), Cond.constant RJ6 267 (252645135)]
def wsX2_effort : List Cond := .code yX2_effort cX2_effort 3 (some .int) :: ((wsX2_effort_r1 ++ wsX2_effort_r2) ++ wsX20 ++ wsX10)
def wsX2_least_r1 : List Cond := [Cond.fieldLink RX2 12 "BrassWays" "now" "LBrassWays$Setup;", Cond.fieldLink RX2 87 "BrassWays$Setup" "size" "I", Cond.fieldLink RX2 27 "BrassWays" "planner" "LBrassWays$Planner;", Cond.methodLink RX2 99 yX0_workOut, Cond.instanceMethod yX0_workOut, Cond.selects RX0 yX0_workOut yX0_workOut, Cond.initialized RX0, Cond.code yX0_workOut cX0_workOut 4 none, Cond.fieldLink RX0 32 "BrassWays$Setup" "size" "I", Cond.fieldLink RX0 9 "BrassWays$Planner" "size" "I", Cond.fieldLink RX0 15 "BrassWays$Planner" "found" "[I", Cond.fieldLink RX0 35 "BrassWays$Setup" "notes" "[I", Cond.fieldLink RX0 19 "BrassWays$Planner" "wayIn" "[I", Cond.methodLink RX0 38 yX1_gatherWays, Cond.instanceMethod yX1_gatherWays, Cond.selects RX1 yX1_gatherWays yX1_gatherWays, Cond.initialized RX1, Cond.code yX1_gatherWays cX1_gatherWays 6 (some .int), Cond.methodLink RX1 56 Lib.Math.abs.name, Cond.static Lib.Math.abs.name, Cond.initialized "java/lang/Math", Cond.code Lib.Math.abs.name Lib.Math.abs.code 1 (some .int), Cond.fieldLink RX1 19 "BrassWays$Setup" "rules" "[I", Cond.methodLink RX1 49 yX1_hasWay]
def wsX2_least_r2 : List Cond := [Cond.instanceMethod yX1_hasWay, Cond.selects RX1 yX1_hasWay yX1_hasWay, Cond.code yX1_hasWay cX1_hasWay 2 (some .boolean), Cond.methodLink RX1 34 yX1_hasSetting, Cond.instanceMethod yX1_hasSetting, Cond.selects RX1 yX1_hasSetting yX1_hasSetting, Cond.code yX1_hasSetting cX1_hasSetting 2 (some .boolean), Cond.fieldLink RX1 9 "BrassWays$Setup" "kind" "I", Cond.methodLink RX1 52 yX1_offBy, Cond.instanceMethod yX1_offBy, Cond.selects RX1 yX1_offBy yX1_offBy, Cond.code yX1_offBy cX1_offBy 3 (some .int), Cond.methodLink RX1 45 yX1_dropOf, Cond.instanceMethod yX1_dropOf, Cond.selects RX1 yX1_dropOf yX1_dropOf, Cond.code yX1_dropOf cX1_dropOf 2 (some .int), Cond.fieldLink RX1 15 "BrassWays$Setup" "lengths" "[I", Cond.static yX2_valveDrop, Cond.initialized RX2, Cond.code yX2_valveDrop cX2_valveDrop 6 (some .int), Cond.methodLink RX0 42 yX0_weigh, Cond.instanceMethod yX0_weigh, Cond.selects RX0 yX0_weigh yX0_weigh, Cond.code yX0_weigh cX0_weigh 10 none]
def wsX2_least_r3 : List Cond := [Cond.constant RX0 46 (1000000), Cond.fieldLink RX0 25 "BrassWays$Planner" "onward" "[I", Cond.fieldLink RX0 28 "BrassWays$Planner" "ties" "[J", Cond.fieldLink RX0 22 "BrassWays$Planner" "behind" "[I", Cond.methodLink RX0 47 yX1_motion, Cond.instanceMethod yX1_motion, Cond.selects RX1 yX1_motion yX1_motion, Cond.code yX1_motion cX1_motion 7 (some .int), Cond.methodLink RX1 61 yJ6_bitCount_0f7a4, Cond.static yJ6_bitCount_0f7a4, Cond.initialized RJ6, Cond.code yJ6_bitCount_0f7a4 cJ6_bitCount_0f7a4 1 (some .int), Cond.constant RJ6 265 (1431655765), Cond.constant RJ6 266 (858993459), Cond.constant RJ6 267 (252645135), Cond.methodLink RX0 51 yX1_fault, Cond.instanceMethod yX1_fault, Cond.selects RX1 yX1_fault yX1_fault, Cond.code yX1_fault cX1_fault 3 (some .int), Cond.methodLink RX2 103 yX0_hasPlan, Cond.instanceMethod yX0_hasPlan, Cond.selects RX0 yX0_hasPlan yX0_hasPlan, Cond.code yX0_hasPlan cX0_hasPlan 1 (some .boolean), Cond.methodLink RX0 54 yX0_countAll]
def wsX2_least_r4 : List Cond := [Cond.instanceMethod yX0_countAll, Cond.selects RX0 yX0_countAll yX0_countAll, Cond.code yX0_countAll cX0_countAll 4 (some .long), Cond.methodLink RX2 107 yX0_leastCost, Cond.instanceMethod yX0_leastCost, Cond.selects RX0 yX0_leastCost yX0_leastCost, Cond.code yX0_leastCost cX0_leastCost 3 (some .int), Cond.methodLink RX0 58 Lib.Math.min.name, Cond.static Lib.Math.min.name, Cond.code Lib.Math.min.name Lib.Math.min.code 2 (some .int), Cond.methodLink RX2 111 yX0_leastWayAt, Cond.instanceMethod yX0_leastWayAt, Cond.selects RX0 yX0_leastWayAt yX0_leastWayAt, Cond.code yX0_leastWayAt cX0_leastWayAt 5 (some .int), Cond.methodLink RX0 71 yX0_firstMarks, Cond.instanceMethod yX0_firstMarks, Cond.selects RX0 yX0_firstMarks yX0_firstMarks, Cond.code yX0_firstMarks cX0_firstMarks 4 (some .int), Cond.methodLink RX0 67 yX0_leastCost, Cond.methodLink RX0 84 yX0_lowestMark, Cond.static yX0_lowestMark, Cond.code yX0_lowestMark cX0_lowestMark 1 (some .int), Cond.methodLink RX0 74 yX0_nextMarks, Cond.instanceMethod yX0_nextMarks]
def wsX2_least_r5 : List Cond := [Cond.selects RX0 yX0_nextMarks yX0_nextMarks, Cond.code yX0_nextMarks cX0_nextMarks 10 (some .int), Cond.methodLink RX0 78 yJ6_bitCount_0f7a4]
def wsX2_least : List Cond := .code yX2_least cX2_least 2 (some .int) :: ((wsX2_least_r1 ++ (wsX2_least_r2 ++ (wsX2_least_r3 ++ (wsX2_least_r4 ++ wsX2_least_r5)))) ++ wsX20 ++ wsX10 ++ wsX00)
def wsX2_plans_r1 : List Cond := [Cond.constantLong RX2 115 (-2), Cond.fieldLink RX2 27 "BrassWays" "planner" "LBrassWays$Planner;", Cond.fieldLink RX2 12 "BrassWays" "now" "LBrassWays$Setup;", Cond.constantLong RX2 127 (-6), Cond.methodLink RX2 99 yX0_workOut, Cond.instanceMethod yX0_workOut, Cond.selects RX0 yX0_workOut yX0_workOut, Cond.initialized RX0, Cond.code yX0_workOut cX0_workOut 4 none, Cond.fieldLink RX0 32 "BrassWays$Setup" "size" "I", Cond.fieldLink RX0 9 "BrassWays$Planner" "size" "I", Cond.fieldLink RX0 15 "BrassWays$Planner" "found" "[I", Cond.fieldLink RX0 35 "BrassWays$Setup" "notes" "[I", Cond.fieldLink RX0 19 "BrassWays$Planner" "wayIn" "[I", Cond.methodLink RX0 38 yX1_gatherWays, Cond.instanceMethod yX1_gatherWays, Cond.selects RX1 yX1_gatherWays yX1_gatherWays, Cond.initialized RX1, Cond.code yX1_gatherWays cX1_gatherWays 6 (some .int), Cond.methodLink RX1 56 Lib.Math.abs.name, Cond.static Lib.Math.abs.name, Cond.initialized "java/lang/Math", Cond.code Lib.Math.abs.name Lib.Math.abs.code 1 (some .int), Cond.fieldLink RX1 19 "BrassWays$Setup" "rules" "[I"]
def wsX2_plans_r2 : List Cond := [Cond.methodLink RX1 49 yX1_hasWay, Cond.instanceMethod yX1_hasWay, Cond.selects RX1 yX1_hasWay yX1_hasWay, Cond.code yX1_hasWay cX1_hasWay 2 (some .boolean), Cond.methodLink RX1 34 yX1_hasSetting, Cond.instanceMethod yX1_hasSetting, Cond.selects RX1 yX1_hasSetting yX1_hasSetting, Cond.code yX1_hasSetting cX1_hasSetting 2 (some .boolean), Cond.fieldLink RX1 9 "BrassWays$Setup" "kind" "I", Cond.methodLink RX1 52 yX1_offBy, Cond.instanceMethod yX1_offBy, Cond.selects RX1 yX1_offBy yX1_offBy, Cond.code yX1_offBy cX1_offBy 3 (some .int), Cond.methodLink RX1 45 yX1_dropOf, Cond.instanceMethod yX1_dropOf, Cond.selects RX1 yX1_dropOf yX1_dropOf, Cond.code yX1_dropOf cX1_dropOf 2 (some .int), Cond.fieldLink RX1 15 "BrassWays$Setup" "lengths" "[I", Cond.static yX2_valveDrop, Cond.initialized RX2, Cond.code yX2_valveDrop cX2_valveDrop 6 (some .int), Cond.methodLink RX0 42 yX0_weigh, Cond.instanceMethod yX0_weigh, Cond.selects RX0 yX0_weigh yX0_weigh]
def wsX2_plans_r3 : List Cond := [Cond.code yX0_weigh cX0_weigh 10 none, Cond.constant RX0 46 (1000000), Cond.fieldLink RX0 25 "BrassWays$Planner" "onward" "[I", Cond.fieldLink RX0 28 "BrassWays$Planner" "ties" "[J", Cond.fieldLink RX0 22 "BrassWays$Planner" "behind" "[I", Cond.methodLink RX0 47 yX1_motion, Cond.instanceMethod yX1_motion, Cond.selects RX1 yX1_motion yX1_motion, Cond.code yX1_motion cX1_motion 7 (some .int), Cond.methodLink RX1 61 yJ6_bitCount_0f7a4, Cond.static yJ6_bitCount_0f7a4, Cond.initialized RJ6, Cond.code yJ6_bitCount_0f7a4 cJ6_bitCount_0f7a4 1 (some .int), Cond.constant RJ6 265 (1431655765), Cond.constant RJ6 266 (858993459), Cond.constant RJ6 267 (252645135), Cond.methodLink RX0 51 yX1_fault, Cond.instanceMethod yX1_fault, Cond.selects RX1 yX1_fault yX1_fault, Cond.code yX1_fault cX1_fault 3 (some .int), Cond.methodLink RX2 117 yX0_countAll, Cond.instanceMethod yX0_countAll, Cond.selects RX0 yX0_countAll yX0_countAll, Cond.code yX0_countAll cX0_countAll 4 (some .long)]
def wsX2_plans_r4 : List Cond := [Cond.methodLink RX2 121 yX0_countLeast, Cond.instanceMethod yX0_countLeast, Cond.selects RX0 yX0_countLeast yX0_countLeast, Cond.code yX0_countLeast cX0_countLeast 5 (some .long), Cond.methodLink RX0 63 yX0_hasPlan, Cond.instanceMethod yX0_hasPlan, Cond.selects RX0 yX0_hasPlan yX0_hasPlan, Cond.code yX0_hasPlan cX0_hasPlan 1 (some .boolean), Cond.methodLink RX0 54 yX0_countAll, Cond.methodLink RX0 67 yX0_leastCost, Cond.instanceMethod yX0_leastCost, Cond.selects RX0 yX0_leastCost yX0_leastCost, Cond.code yX0_leastCost cX0_leastCost 3 (some .int), Cond.methodLink RX0 58 Lib.Math.min.name, Cond.static Lib.Math.min.name, Cond.code Lib.Math.min.name Lib.Math.min.code 2 (some .int), Cond.methodLink RX2 93 yX2_isPlace, Cond.instanceMethod yX2_isPlace, Cond.selects RX2 yX2_isPlace yX2_isPlace, Cond.code yX2_isPlace cX2_isPlace 2 (some .boolean), Cond.fieldLink RX2 87 "BrassWays$Setup" "size" "I", Cond.methodLink RX2 103 yX0_hasPlan, Cond.methodLink RX2 124 yX0_countWaysAt, Cond.instanceMethod yX0_countWaysAt]
def wsX2_plans_r5 : List Cond := [Cond.selects RX0 yX0_countWaysAt yX0_countWaysAt, Cond.code yX0_countWaysAt cX0_countWaysAt 5 (some .int), Cond.methodLink RX0 71 yX0_firstMarks, Cond.instanceMethod yX0_firstMarks, Cond.selects RX0 yX0_firstMarks yX0_firstMarks, Cond.code yX0_firstMarks cX0_firstMarks 4 (some .int), Cond.methodLink RX0 74 yX0_nextMarks, Cond.instanceMethod yX0_nextMarks, Cond.selects RX0 yX0_nextMarks yX0_nextMarks, Cond.code yX0_nextMarks cX0_nextMarks 10 (some .int), Cond.methodLink RX0 78 yJ6_bitCount_0f7a4]
def wsX2_plans : List Cond := .code yX2_plans cX2_plans 3 (some .long) :: ((wsX2_plans_r1 ++ (wsX2_plans_r2 ++ (wsX2_plans_r3 ++ (wsX2_plans_r4 ++ wsX2_plans_r5)))) ++ wsX20 ++ wsX10 ++ wsX00)
def wsX2_dumb_r1 : List Cond := [Cond.fieldLink RX2 12 "BrassWays" "now" "LBrassWays$Setup;", Cond.fieldLink RX2 87 "BrassWays$Setup" "size" "I", Cond.fieldLink RX2 90 "BrassWays$Setup" "notes" "[I", Cond.fieldLink RX2 31 "BrassWays" "waysOfOne" "[I", Cond.methodLink RX2 77 yX1_gatherWays, Cond.instanceMethod yX1_gatherWays, Cond.selects RX1 yX1_gatherWays yX1_gatherWays, Cond.initialized RX1, Cond.code yX1_gatherWays cX1_gatherWays 6 (some .int), Cond.methodLink RX1 56 Lib.Math.abs.name, Cond.static Lib.Math.abs.name, Cond.initialized "java/lang/Math", Cond.code Lib.Math.abs.name Lib.Math.abs.code 1 (some .int), Cond.fieldLink RX1 19 "BrassWays$Setup" "rules" "[I", Cond.methodLink RX1 49 yX1_hasWay, Cond.instanceMethod yX1_hasWay, Cond.selects RX1 yX1_hasWay yX1_hasWay, Cond.code yX1_hasWay cX1_hasWay 2 (some .boolean), Cond.methodLink RX1 34 yX1_hasSetting, Cond.instanceMethod yX1_hasSetting, Cond.selects RX1 yX1_hasSetting yX1_hasSetting, Cond.code yX1_hasSetting cX1_hasSetting 2 (some .boolean), Cond.fieldLink RX1 9 "BrassWays$Setup" "kind" "I", Cond.methodLink RX1 52 yX1_offBy]
def wsX2_dumb_r2 : List Cond := [Cond.instanceMethod yX1_offBy, Cond.selects RX1 yX1_offBy yX1_offBy, Cond.code yX1_offBy cX1_offBy 3 (some .int), Cond.methodLink RX1 45 yX1_dropOf, Cond.instanceMethod yX1_dropOf, Cond.selects RX1 yX1_dropOf yX1_dropOf, Cond.code yX1_dropOf cX1_dropOf 2 (some .int), Cond.fieldLink RX1 15 "BrassWays$Setup" "lengths" "[I", Cond.static yX2_valveDrop, Cond.initialized RX2, Cond.code yX2_valveDrop cX2_valveDrop 6 (some .int)]
def wsX2_dumb : List Cond := .code yX2_dumb cX2_dumb 2 (some .int) :: ((wsX2_dumb_r1 ++ wsX2_dumb_r2) ++ wsX20 ++ wsX10)
def wsX2_leastMotion_r1 : List Cond := [Cond.fieldLink RX2 12 "BrassWays" "now" "LBrassWays$Setup;", Cond.fieldLink RX2 31 "BrassWays" "waysOfOne" "[I", Cond.fieldLink RX2 35 "BrassWays" "waysOfOther" "[I", Cond.constant RX2 81 (1000000), Cond.methodLink RX2 138 Lib.Math.min.name, Cond.static Lib.Math.min.name, Cond.initialized "java/lang/Math", Cond.code Lib.Math.min.name Lib.Math.min.code 2 (some .int), Cond.methodLink RX2 77 yX1_gatherWays, Cond.instanceMethod yX1_gatherWays, Cond.selects RX1 yX1_gatherWays yX1_gatherWays, Cond.initialized RX1, Cond.code yX1_gatherWays cX1_gatherWays 6 (some .int), Cond.methodLink RX1 56 Lib.Math.abs.name, Cond.static Lib.Math.abs.name, Cond.code Lib.Math.abs.name Lib.Math.abs.code 1 (some .int), Cond.fieldLink RX1 19 "BrassWays$Setup" "rules" "[I", Cond.methodLink RX1 49 yX1_hasWay, Cond.instanceMethod yX1_hasWay, Cond.selects RX1 yX1_hasWay yX1_hasWay, Cond.code yX1_hasWay cX1_hasWay 2 (some .boolean), Cond.methodLink RX1 34 yX1_hasSetting, Cond.instanceMethod yX1_hasSetting, Cond.selects RX1 yX1_hasSetting yX1_hasSetting]
def wsX2_leastMotion_r2 : List Cond := [Cond.code yX1_hasSetting cX1_hasSetting 2 (some .boolean), Cond.fieldLink RX1 9 "BrassWays$Setup" "kind" "I", Cond.methodLink RX1 52 yX1_offBy, Cond.instanceMethod yX1_offBy, Cond.selects RX1 yX1_offBy yX1_offBy, Cond.code yX1_offBy cX1_offBy 3 (some .int), Cond.methodLink RX1 45 yX1_dropOf, Cond.instanceMethod yX1_dropOf, Cond.selects RX1 yX1_dropOf yX1_dropOf, Cond.code yX1_dropOf cX1_dropOf 2 (some .int), Cond.fieldLink RX1 15 "BrassWays$Setup" "lengths" "[I", Cond.static yX2_valveDrop, Cond.initialized RX2, Cond.code yX2_valveDrop cX2_valveDrop 6 (some .int), Cond.methodLink RX2 96 yX1_motion, Cond.instanceMethod yX1_motion, Cond.selects RX1 yX1_motion yX1_motion, Cond.code yX1_motion cX1_motion 7 (some .int), Cond.methodLink RX1 61 yJ6_bitCount_0f7a4, Cond.static yJ6_bitCount_0f7a4, Cond.initialized RJ6, Cond.code yJ6_bitCount_0f7a4 cJ6_bitCount_0f7a4 1 (some .int), Cond.constant RJ6 265 (1431655765), Cond.constant RJ6 266 (858993459)]
def wsX2_leastMotion_r3 : List Cond := [Cond.constant RJ6 267 (252645135)]
def wsX2_leastMotion : List Cond := .code yX2_leastMotion cX2_leastMotion 8 (some .int) :: ((wsX2_leastMotion_r1 ++ (wsX2_leastMotion_r2 ++ wsX2_leastMotion_r3)) ++ wsX20 ++ wsX10)
def wsX2_trill_r1 : List Cond := [Cond.methodLink RX2 70 yX2_isNote, Cond.static yX2_isNote, Cond.initialized RX2, Cond.code yX2_isNote cX2_isNote 1 (some .boolean), Cond.methodLink RX2 129 yX2_leastMotion, Cond.instanceMethod yX2_leastMotion, Cond.selects RX2 yX2_leastMotion yX2_leastMotion, Cond.code yX2_leastMotion cX2_leastMotion 8 (some .int), Cond.fieldLink RX2 12 "BrassWays" "now" "LBrassWays$Setup;", Cond.fieldLink RX2 31 "BrassWays" "waysOfOne" "[I", Cond.fieldLink RX2 35 "BrassWays" "waysOfOther" "[I", Cond.constant RX2 81 (1000000), Cond.methodLink RX2 138 Lib.Math.min.name, Cond.static Lib.Math.min.name, Cond.initialized "java/lang/Math", Cond.code Lib.Math.min.name Lib.Math.min.code 2 (some .int), Cond.methodLink RX2 77 yX1_gatherWays, Cond.instanceMethod yX1_gatherWays, Cond.selects RX1 yX1_gatherWays yX1_gatherWays, Cond.initialized RX1, Cond.code yX1_gatherWays cX1_gatherWays 6 (some .int), Cond.methodLink RX1 56 Lib.Math.abs.name, Cond.static Lib.Math.abs.name, Cond.code Lib.Math.abs.name Lib.Math.abs.code 1 (some .int)]
def wsX2_trill_r2 : List Cond := [Cond.fieldLink RX1 19 "BrassWays$Setup" "rules" "[I", Cond.methodLink RX1 49 yX1_hasWay, Cond.instanceMethod yX1_hasWay, Cond.selects RX1 yX1_hasWay yX1_hasWay, Cond.code yX1_hasWay cX1_hasWay 2 (some .boolean), Cond.methodLink RX1 34 yX1_hasSetting, Cond.instanceMethod yX1_hasSetting, Cond.selects RX1 yX1_hasSetting yX1_hasSetting, Cond.code yX1_hasSetting cX1_hasSetting 2 (some .boolean), Cond.fieldLink RX1 9 "BrassWays$Setup" "kind" "I", Cond.methodLink RX1 52 yX1_offBy, Cond.instanceMethod yX1_offBy, Cond.selects RX1 yX1_offBy yX1_offBy, Cond.code yX1_offBy cX1_offBy 3 (some .int), Cond.methodLink RX1 45 yX1_dropOf, Cond.instanceMethod yX1_dropOf, Cond.selects RX1 yX1_dropOf yX1_dropOf, Cond.code yX1_dropOf cX1_dropOf 2 (some .int), Cond.fieldLink RX1 15 "BrassWays$Setup" "lengths" "[I", Cond.static yX2_valveDrop, Cond.code yX2_valveDrop cX2_valveDrop 6 (some .int), Cond.methodLink RX2 96 yX1_motion, Cond.instanceMethod yX1_motion, Cond.selects RX1 yX1_motion yX1_motion]
def wsX2_trill_r3 : List Cond := [Cond.code yX1_motion cX1_motion 7 (some .int), Cond.methodLink RX1 61 yJ6_bitCount_0f7a4, Cond.static yJ6_bitCount_0f7a4, Cond.initialized RJ6, Cond.code yJ6_bitCount_0f7a4 cJ6_bitCount_0f7a4 1 (some .int), Cond.constant RJ6 265 (1431655765), Cond.constant RJ6 266 (858993459), Cond.constant RJ6 267 (252645135)]
def wsX2_trill : List Cond := .code yX2_trill cX2_trill 3 (some .int) :: ((wsX2_trill_r1 ++ (wsX2_trill_r2 ++ wsX2_trill_r3)) ++ wsX20 ++ wsX10)
def wsX2_awkward_r1 : List Cond := [Cond.methodLink RX2 129 yX2_leastMotion, Cond.instanceMethod yX2_leastMotion, Cond.selects RX2 yX2_leastMotion yX2_leastMotion, Cond.initialized RX2, Cond.code yX2_leastMotion cX2_leastMotion 8 (some .int), Cond.fieldLink RX2 12 "BrassWays" "now" "LBrassWays$Setup;", Cond.fieldLink RX2 31 "BrassWays" "waysOfOne" "[I", Cond.fieldLink RX2 35 "BrassWays" "waysOfOther" "[I", Cond.constant RX2 81 (1000000), Cond.methodLink RX2 138 Lib.Math.min.name, Cond.static Lib.Math.min.name, Cond.initialized "java/lang/Math", Cond.code Lib.Math.min.name Lib.Math.min.code 2 (some .int), Cond.methodLink RX2 77 yX1_gatherWays, Cond.instanceMethod yX1_gatherWays, Cond.selects RX1 yX1_gatherWays yX1_gatherWays, Cond.initialized RX1, Cond.code yX1_gatherWays cX1_gatherWays 6 (some .int), Cond.methodLink RX1 56 Lib.Math.abs.name, Cond.static Lib.Math.abs.name, Cond.code Lib.Math.abs.name Lib.Math.abs.code 1 (some .int), Cond.fieldLink RX1 19 "BrassWays$Setup" "rules" "[I", Cond.methodLink RX1 49 yX1_hasWay, Cond.instanceMethod yX1_hasWay]
def wsX2_awkward_r2 : List Cond := [Cond.selects RX1 yX1_hasWay yX1_hasWay, Cond.code yX1_hasWay cX1_hasWay 2 (some .boolean), Cond.methodLink RX1 34 yX1_hasSetting, Cond.instanceMethod yX1_hasSetting, Cond.selects RX1 yX1_hasSetting yX1_hasSetting, Cond.code yX1_hasSetting cX1_hasSetting 2 (some .boolean), Cond.fieldLink RX1 9 "BrassWays$Setup" "kind" "I", Cond.methodLink RX1 52 yX1_offBy, Cond.instanceMethod yX1_offBy, Cond.selects RX1 yX1_offBy yX1_offBy, Cond.code yX1_offBy cX1_offBy 3 (some .int), Cond.methodLink RX1 45 yX1_dropOf, Cond.instanceMethod yX1_dropOf, Cond.selects RX1 yX1_dropOf yX1_dropOf, Cond.code yX1_dropOf cX1_dropOf 2 (some .int), Cond.fieldLink RX1 15 "BrassWays$Setup" "lengths" "[I", Cond.static yX2_valveDrop, Cond.code yX2_valveDrop cX2_valveDrop 6 (some .int), Cond.methodLink RX2 96 yX1_motion, Cond.instanceMethod yX1_motion, Cond.selects RX1 yX1_motion yX1_motion, Cond.code yX1_motion cX1_motion 7 (some .int), Cond.methodLink RX1 61 yJ6_bitCount_0f7a4, Cond.static yJ6_bitCount_0f7a4]
def wsX2_awkward_r3 : List Cond := [Cond.initialized RJ6, Cond.code yJ6_bitCount_0f7a4 cJ6_bitCount_0f7a4 1 (some .int), Cond.constant RJ6 265 (1431655765), Cond.constant RJ6 266 (858993459), Cond.constant RJ6 267 (252645135)]
def wsX2_awkward : List Cond := .code yX2_awkward cX2_awkward 5 (some .int) :: ((wsX2_awkward_r1 ++ (wsX2_awkward_r2 ++ wsX2_awkward_r3)) ++ wsX20 ++ wsX10)
def wsX2_nearestMiss : List Cond := .code yX2_nearestMiss cX2_nearestMiss 6 (some .int) :: ([.constant RX2 81 (1000000), .fieldLink RX2 41 "BrassWays" "trialDrops" "[I", .fieldLink RX2 147 "BrassWays" "HIGH" "[I", .methodLink RX2 82 Lib.Math.abs.name, .static Lib.Math.abs.name, .initialized "java/lang/Math", .code Lib.Math.abs.name Lib.Math.abs.code 1 (some .int), .methodLink RX2 138 Lib.Math.min.name, .static Lib.Math.min.name, .code Lib.Math.min.name Lib.Math.min.code 2 (some .int)] ++ wsX20)
def wsX2_missOfPart : List Cond := .code yX2_missOfPart cX2_missOfPart 5 (some .int) :: ([.fieldLink RX2 38 "BrassWays" "trialLengths" "[I", .fieldLink RX2 12 "BrassWays" "now" "LBrassWays$Setup;", .fieldLink RX2 51 "BrassWays$Setup" "lengths" "[I", .fieldLink RX2 41 "BrassWays" "trialDrops" "[I", .fieldLink RX2 57 "BrassWays$Setup" "rules" "[I", .fieldLink RX2 87 "BrassWays$Setup" "size" "I", .fieldLink RX2 90 "BrassWays$Setup" "notes" "[I", .methodLink RX2 141 yX2_valveDrop, .static yX2_valveDrop, .initialized RX2, .code yX2_valveDrop cX2_valveDrop 6 (some .int), .methodLink RX2 144 yX2_nearestMiss, .instanceMethod yX2_nearestMiss, .selects RX2 yX2_nearestMiss yX2_nearestMiss, .code yX2_nearestMiss cX2_nearestMiss 6 (some .int), .constant RX2 81 (1000000), .fieldLink RX2 147 "BrassWays" "HIGH" "[I", .methodLink RX2 82 Lib.Math.abs.name, .static Lib.Math.abs.name, .initialized "java/lang/Math", .code Lib.Math.abs.name Lib.Math.abs.code 1 (some .int), .methodLink RX2 138 Lib.Math.min.name, .static Lib.Math.min.name, .code Lib.Math.min.name Lib.Math.min.code 2 (some .int)] ++ wsX20 ++ wsX10)
def wsX2_tune_r1 : List Cond := [Cond.fieldLink RX2 12 "BrassWays" "now" "LBrassWays$Setup;", Cond.fieldLink RX2 44 "BrassWays$Setup" "kind" "I", Cond.methodLink RX2 47 yX2_isValve, Cond.static yX2_isValve, Cond.initialized RX2, Cond.code yX2_isValve cX2_isValve 1 (some .boolean), Cond.methodLink RX2 132 yX2_missOfPart, Cond.instanceMethod yX2_missOfPart, Cond.selects RX2 yX2_missOfPart yX2_missOfPart, Cond.code yX2_missOfPart cX2_missOfPart 5 (some .int), Cond.fieldLink RX2 38 "BrassWays" "trialLengths" "[I", Cond.fieldLink RX2 51 "BrassWays$Setup" "lengths" "[I", Cond.fieldLink RX2 41 "BrassWays" "trialDrops" "[I", Cond.fieldLink RX2 57 "BrassWays$Setup" "rules" "[I", Cond.fieldLink RX2 87 "BrassWays$Setup" "size" "I", Cond.fieldLink RX2 90 "BrassWays$Setup" "notes" "[I", Cond.methodLink RX2 141 yX2_valveDrop, Cond.static yX2_valveDrop, Cond.code yX2_valveDrop cX2_valveDrop 6 (some .int), Cond.methodLink RX2 144 yX2_nearestMiss, Cond.instanceMethod yX2_nearestMiss, Cond.selects RX2 yX2_nearestMiss yX2_nearestMiss, Cond.code yX2_nearestMiss cX2_nearestMiss 6 (some .int), Cond.constant RX2 81 (1000000)]
def wsX2_tune_r2 : List Cond := [Cond.fieldLink RX2 147 "BrassWays" "HIGH" "[I", Cond.methodLink RX2 82 Lib.Math.abs.name, Cond.static Lib.Math.abs.name, Cond.initialized "java/lang/Math", Cond.code Lib.Math.abs.name Lib.Math.abs.code 1 (some .int), Cond.methodLink RX2 138 Lib.Math.min.name, Cond.static Lib.Math.min.name, Cond.code Lib.Math.min.name Lib.Math.min.code 2 (some .int)]
def wsX2_tune : List Cond := .code yX2_tune cX2_tune 7 (some .int) :: ((wsX2_tune_r1 ++ wsX2_tune_r2) ++ wsX20 ++ wsX10)
def wsX2_image : List Cond := .code yX2_image cX2_image 2 (some .int) :: ([.fieldLink RX2 16 "BrassWays" "images" "[LBrassWays$Setup;", .fieldLink RX2 12 "BrassWays" "now" "LBrassWays$Setup;", .fieldLink RX2 20 "BrassWays" "imagesKept" "I", .methodLink RX2 135 yX1_takeFrom, .instanceMethod yX1_takeFrom, .selects RX1 yX1_takeFrom yX1_takeFrom, .initialized RX1, .code yX1_takeFrom cX1_takeFrom 2 none, .fieldLink RX1 9 "BrassWays$Setup" "kind" "I", .fieldLink RX1 25 "BrassWays$Setup" "size" "I", .fieldLink RX1 15 "BrassWays$Setup" "lengths" "[I", .methodLink RX1 28 arraycopyName, .native arraycopyName, .static arraycopyName, .initialized "java/lang/System", .fieldLink RX1 19 "BrassWays$Setup" "rules" "[I", .fieldLink RX1 22 "BrassWays$Setup" "notes" "[I"] ++ wsX20 ++ wsX10)
def wsX2_restore : List Cond := .code yX2_restore cX2_restore 2 (some .int) :: ([.fieldLink RX2 20 "BrassWays" "imagesKept" "I", .fieldLink RX2 12 "BrassWays" "now" "LBrassWays$Setup;", .fieldLink RX2 16 "BrassWays" "images" "[LBrassWays$Setup;", .methodLink RX2 135 yX1_takeFrom, .instanceMethod yX1_takeFrom, .selects RX1 yX1_takeFrom yX1_takeFrom, .initialized RX1, .code yX1_takeFrom cX1_takeFrom 2 none, .fieldLink RX1 9 "BrassWays$Setup" "kind" "I", .fieldLink RX1 25 "BrassWays$Setup" "size" "I", .fieldLink RX1 15 "BrassWays$Setup" "lengths" "[I", .methodLink RX1 28 arraycopyName, .native arraycopyName, .static arraycopyName, .initialized "java/lang/System", .fieldLink RX1 19 "BrassWays$Setup" "rules" "[I", .fieldLink RX1 22 "BrassWays$Setup" "notes" "[I"] ++ wsX20 ++ wsX10)
def wsX2_count : List Cond := .code yX2_count cX2_count 2 (some .int) :: ([.fieldLink RX2 12 "BrassWays" "now" "LBrassWays$Setup;", .fieldLink RX2 44 "BrassWays$Setup" "kind" "I", .fieldLink RX2 87 "BrassWays$Setup" "size" "I", .fieldLink RX2 20 "BrassWays" "imagesKept" "I", .fieldLink RX2 57 "BrassWays$Setup" "rules" "[I", .fieldLink RX2 51 "BrassWays$Setup" "lengths" "[I", .fieldLink RX2 90 "BrassWays$Setup" "notes" "[I", .methodLink RX2 93 yX2_isPlace, .instanceMethod yX2_isPlace, .selects RX2 yX2_isPlace yX2_isPlace, .initialized RX2, .code yX2_isPlace cX2_isPlace 2 (some .boolean)] ++ wsX20 ++ wsX10)
def wsX3_init : List Cond := .code yX3_init cX3_init 1 none :: ([.methodLink RX3 1 objectInit, .instanceMethod objectInit, .code objectInit ⟨#[0xb1]⟩ 1 none, .arrayClass .int, .fieldLink RX3 7 "BrassWaysModel" "state" "[I", .fieldLink RX3 13 "BrassWaysModel" "images" "[I", .arrayClass .boolean, .fieldLink RX3 16 "BrassWaysModel" "isKept" "[Z", .fieldLink RX3 20 "BrassWaysModel" "rest" "[I", .arrayClass .long, .fieldLink RX3 23 "BrassWaysModel" "ways" "[J", .fieldLink RX3 27 "BrassWaysModel" "leastWays" "[J", .fieldLink RX3 30 "BrassWaysModel" "ahead" "[I"] ++ wsX30)
def wsX3_in : List Cond := .code yX3_in cX3_in 3 (some .boolean) :: ([])
def wsX3_size : List Cond := .code yX3_size cX3_size 1 (some .int) :: ([])
def wsX3_isSetting : List Cond := .code yX3_isSetting cX3_isSetting 2 (some .boolean) :: ([.fieldLink RX3 7 "BrassWaysModel" "state" "[I", .methodLink RX3 33 yX3_in, .static yX3_in, .initialized RX3, .code yX3_in cX3_in 3 (some .boolean)] ++ wsX30)
def wsX3_isWay : List Cond := .code yX3_isWay cX3_isWay 2 (some .boolean) :: ([.methodLink RX3 33 yX3_in, .static yX3_in, .initialized RX3, .code yX3_in cX3_in 3 (some .boolean), .methodLink RX3 37 yX3_isSetting, .instanceMethod yX3_isSetting, .selects RX3 yX3_isSetting yX3_isSetting, .code yX3_isSetting cX3_isSetting 2 (some .boolean), .fieldLink RX3 7 "BrassWaysModel" "state" "[I"] ++ wsX30)
def wsX3_isNote : List Cond := .code yX3_isNote cX3_isNote 1 (some .boolean) :: ([.methodLink RX3 33 yX3_in, .static yX3_in, .initialized RX3, .code yX3_in cX3_in 3 (some .boolean)])
def wsX3_isPlace : List Cond := .code yX3_isPlace cX3_isPlace 2 (some .boolean) :: ([.fieldLink RX3 7 "BrassWaysModel" "state" "[I", .methodLink RX3 33 yX3_in, .static yX3_in, .initialized RX3, .code yX3_in cX3_in 3 (some .boolean)] ++ wsX30)
def wsX3_bits : List Cond := .code yX3_bits cX3_bits 1 (some .int) :: ([])
def wsX3_lowersBy : List Cond := .code yX3_lowersBy cX3_lowersBy 4 (some .int) :: ([.fieldLink RX3 7 "BrassWaysModel" "state" "[I", .methodLink RX3 41 yX3_bits, .static yX3_bits, .initialized RX3, .code yX3_bits cX3_bits 1 (some .int)] ++ wsX30)
def wsX3_highOf : List Cond := .code yX3_highOf cX3_highOf 1 (some .int) :: ([])
def wsX3_offOf : List Cond := .code yX3_offOf cX3_offOf 3 (some .int) :: ([.methodLink RX3 45 yX3_highOf, .static yX3_highOf, .initialized RX3, .code yX3_highOf cX3_highOf 1 (some .int), .methodLink RX3 48 yX3_lowersBy, .instanceMethod yX3_lowersBy, .selects RX3 yX3_lowersBy yX3_lowersBy, .code yX3_lowersBy cX3_lowersBy 4 (some .int), .fieldLink RX3 7 "BrassWaysModel" "state" "[I", .methodLink RX3 41 yX3_bits, .static yX3_bits, .code yX3_bits cX3_bits 1 (some .int)] ++ wsX30)
def wsX3_sounds_r1 : List Cond := [Cond.fieldLink RX3 7 "BrassWaysModel" "state" "[I", Cond.methodLink RX3 51 yX3_isWay, Cond.instanceMethod yX3_isWay, Cond.selects RX3 yX3_isWay yX3_isWay, Cond.initialized RX3, Cond.code yX3_isWay cX3_isWay 2 (some .boolean), Cond.methodLink RX3 33 yX3_in, Cond.static yX3_in, Cond.code yX3_in cX3_in 3 (some .boolean), Cond.methodLink RX3 37 yX3_isSetting, Cond.instanceMethod yX3_isSetting, Cond.selects RX3 yX3_isSetting yX3_isSetting, Cond.code yX3_isSetting cX3_isSetting 2 (some .boolean), Cond.methodLink RX3 54 yX3_offOf, Cond.instanceMethod yX3_offOf, Cond.selects RX3 yX3_offOf yX3_offOf, Cond.code yX3_offOf cX3_offOf 3 (some .int), Cond.methodLink RX3 45 yX3_highOf, Cond.static yX3_highOf, Cond.code yX3_highOf cX3_highOf 1 (some .int), Cond.methodLink RX3 48 yX3_lowersBy, Cond.instanceMethod yX3_lowersBy, Cond.selects RX3 yX3_lowersBy yX3_lowersBy, Cond.code yX3_lowersBy cX3_lowersBy 4 (some .int)]
def wsX3_sounds_r2 : List Cond := [Cond.methodLink RX3 41 yX3_bits, Cond.static yX3_bits, Cond.code yX3_bits cX3_bits 1 (some .int), Cond.methodLink RX3 58 yX3_size, Cond.static yX3_size, Cond.code yX3_size cX3_size 1 (some .int)]
def wsX3_sounds : List Cond := .code yX3_sounds cX3_sounds 3 (some .boolean) :: ((wsX3_sounds_r1 ++ wsX3_sounds_r2) ++ wsX30)
def wsX3_horn : List Cond := .code yX3_horn cX3_horn 3 (some .int) :: ([.fieldLink RX3 7 "BrassWaysModel" "state" "[I", .methodLink RX3 33 yX3_in, .static yX3_in, .initialized RX3, .code yX3_in cX3_in 3 (some .boolean)] ++ wsX30)
def wsX3_valve : List Cond := .code yX3_valve cX3_valve 4 (some .int) :: ([.fieldLink RX3 7 "BrassWaysModel" "state" "[I", .methodLink RX3 33 yX3_in, .static yX3_in, .initialized RX3, .code yX3_in cX3_in 3 (some .boolean)] ++ wsX30)
def wsX3_rule : List Cond := .code yX3_rule cX3_rule 4 (some .int) :: ([.fieldLink RX3 7 "BrassWaysModel" "state" "[I", .methodLink RX3 33 yX3_in, .static yX3_in, .initialized RX3, .code yX3_in cX3_in 3 (some .boolean)] ++ wsX30)
def wsX3_lowers : List Cond := .code yX3_lowers cX3_lowers 2 (some .int) :: ([.methodLink RX3 37 yX3_isSetting, .instanceMethod yX3_isSetting, .selects RX3 yX3_isSetting yX3_isSetting, .initialized RX3, .code yX3_isSetting cX3_isSetting 2 (some .boolean), .fieldLink RX3 7 "BrassWaysModel" "state" "[I", .methodLink RX3 33 yX3_in, .static yX3_in, .code yX3_in cX3_in 3 (some .boolean), .methodLink RX3 48 yX3_lowersBy, .instanceMethod yX3_lowersBy, .selects RX3 yX3_lowersBy yX3_lowersBy, .code yX3_lowersBy cX3_lowersBy 4 (some .int), .methodLink RX3 41 yX3_bits, .static yX3_bits, .code yX3_bits cX3_bits 1 (some .int)] ++ wsX30)
def wsX3_off_r1 : List Cond := [Cond.methodLink RX3 51 yX3_isWay, Cond.instanceMethod yX3_isWay, Cond.selects RX3 yX3_isWay yX3_isWay, Cond.initialized RX3, Cond.code yX3_isWay cX3_isWay 2 (some .boolean), Cond.methodLink RX3 33 yX3_in, Cond.static yX3_in, Cond.code yX3_in cX3_in 3 (some .boolean), Cond.methodLink RX3 37 yX3_isSetting, Cond.instanceMethod yX3_isSetting, Cond.selects RX3 yX3_isSetting yX3_isSetting, Cond.code yX3_isSetting cX3_isSetting 2 (some .boolean), Cond.fieldLink RX3 7 "BrassWaysModel" "state" "[I", Cond.methodLink RX3 61 yX3_isNote, Cond.static yX3_isNote, Cond.code yX3_isNote cX3_isNote 1 (some .boolean), Cond.methodLink RX3 54 yX3_offOf, Cond.instanceMethod yX3_offOf, Cond.selects RX3 yX3_offOf yX3_offOf, Cond.code yX3_offOf cX3_offOf 3 (some .int), Cond.methodLink RX3 45 yX3_highOf, Cond.static yX3_highOf, Cond.code yX3_highOf cX3_highOf 1 (some .int), Cond.methodLink RX3 48 yX3_lowersBy]
def wsX3_off_r2 : List Cond := [Cond.instanceMethod yX3_lowersBy, Cond.selects RX3 yX3_lowersBy yX3_lowersBy, Cond.code yX3_lowersBy cX3_lowersBy 4 (some .int), Cond.methodLink RX3 41 yX3_bits, Cond.static yX3_bits, Cond.code yX3_bits cX3_bits 1 (some .int)]
def wsX3_off : List Cond := .code yX3_off cX3_off 3 (some .int) :: ((wsX3_off_r1 ++ wsX3_off_r2) ++ wsX30)
def wsX3_waysOf_r1 : List Cond := [Cond.methodLink RX3 64 yX3_sounds, Cond.instanceMethod yX3_sounds, Cond.selects RX3 yX3_sounds yX3_sounds, Cond.initialized RX3, Cond.code yX3_sounds cX3_sounds 3 (some .boolean), Cond.fieldLink RX3 7 "BrassWaysModel" "state" "[I", Cond.methodLink RX3 51 yX3_isWay, Cond.instanceMethod yX3_isWay, Cond.selects RX3 yX3_isWay yX3_isWay, Cond.code yX3_isWay cX3_isWay 2 (some .boolean), Cond.methodLink RX3 33 yX3_in, Cond.static yX3_in, Cond.code yX3_in cX3_in 3 (some .boolean), Cond.methodLink RX3 37 yX3_isSetting, Cond.instanceMethod yX3_isSetting, Cond.selects RX3 yX3_isSetting yX3_isSetting, Cond.code yX3_isSetting cX3_isSetting 2 (some .boolean), Cond.methodLink RX3 54 yX3_offOf, Cond.instanceMethod yX3_offOf, Cond.selects RX3 yX3_offOf yX3_offOf, Cond.code yX3_offOf cX3_offOf 3 (some .int), Cond.methodLink RX3 45 yX3_highOf, Cond.static yX3_highOf, Cond.code yX3_highOf cX3_highOf 1 (some .int)]
def wsX3_waysOf_r2 : List Cond := [Cond.methodLink RX3 48 yX3_lowersBy, Cond.instanceMethod yX3_lowersBy, Cond.selects RX3 yX3_lowersBy yX3_lowersBy, Cond.code yX3_lowersBy cX3_lowersBy 4 (some .int), Cond.methodLink RX3 41 yX3_bits, Cond.static yX3_bits, Cond.code yX3_bits cX3_bits 1 (some .int), Cond.methodLink RX3 58 yX3_size, Cond.static yX3_size, Cond.code yX3_size cX3_size 1 (some .int)]
def wsX3_waysOf : List Cond := .code yX3_waysOf cX3_waysOf 4 (some .int) :: ((wsX3_waysOf_r1 ++ wsX3_waysOf_r2) ++ wsX30)
def wsX3_ways_r1 : List Cond := [Cond.methodLink RX3 61 yX3_isNote, Cond.static yX3_isNote, Cond.initialized RX3, Cond.code yX3_isNote cX3_isNote 1 (some .boolean), Cond.methodLink RX3 33 yX3_in, Cond.static yX3_in, Cond.code yX3_in cX3_in 3 (some .boolean), Cond.methodLink RX3 68 yX3_waysOf, Cond.instanceMethod yX3_waysOf, Cond.selects RX3 yX3_waysOf yX3_waysOf, Cond.code yX3_waysOf cX3_waysOf 4 (some .int), Cond.methodLink RX3 64 yX3_sounds, Cond.instanceMethod yX3_sounds, Cond.selects RX3 yX3_sounds yX3_sounds, Cond.code yX3_sounds cX3_sounds 3 (some .boolean), Cond.fieldLink RX3 7 "BrassWaysModel" "state" "[I", Cond.methodLink RX3 51 yX3_isWay, Cond.instanceMethod yX3_isWay, Cond.selects RX3 yX3_isWay yX3_isWay, Cond.code yX3_isWay cX3_isWay 2 (some .boolean), Cond.methodLink RX3 37 yX3_isSetting, Cond.instanceMethod yX3_isSetting, Cond.selects RX3 yX3_isSetting yX3_isSetting, Cond.code yX3_isSetting cX3_isSetting 2 (some .boolean)]
def wsX3_ways_r2 : List Cond := [Cond.methodLink RX3 54 yX3_offOf, Cond.instanceMethod yX3_offOf, Cond.selects RX3 yX3_offOf yX3_offOf, Cond.code yX3_offOf cX3_offOf 3 (some .int), Cond.methodLink RX3 45 yX3_highOf, Cond.static yX3_highOf, Cond.code yX3_highOf cX3_highOf 1 (some .int), Cond.methodLink RX3 48 yX3_lowersBy, Cond.instanceMethod yX3_lowersBy, Cond.selects RX3 yX3_lowersBy yX3_lowersBy, Cond.code yX3_lowersBy cX3_lowersBy 4 (some .int), Cond.methodLink RX3 41 yX3_bits, Cond.static yX3_bits, Cond.code yX3_bits cX3_bits 1 (some .int), Cond.methodLink RX3 58 yX3_size, Cond.static yX3_size, Cond.code yX3_size cX3_size 1 (some .int)]
def wsX3_ways : List Cond := .code yX3_ways cX3_ways 5 (some .int) :: ((wsX3_ways_r1 ++ wsX3_ways_r2) ++ wsX30)
def wsX3_truest_r1 : List Cond := [Cond.methodLink RX3 61 yX3_isNote, Cond.static yX3_isNote, Cond.initialized RX3, Cond.code yX3_isNote cX3_isNote 1 (some .boolean), Cond.methodLink RX3 33 yX3_in, Cond.static yX3_in, Cond.code yX3_in cX3_in 3 (some .boolean), Cond.methodLink RX3 64 yX3_sounds, Cond.instanceMethod yX3_sounds, Cond.selects RX3 yX3_sounds yX3_sounds, Cond.code yX3_sounds cX3_sounds 3 (some .boolean), Cond.fieldLink RX3 7 "BrassWaysModel" "state" "[I", Cond.methodLink RX3 51 yX3_isWay, Cond.instanceMethod yX3_isWay, Cond.selects RX3 yX3_isWay yX3_isWay, Cond.code yX3_isWay cX3_isWay 2 (some .boolean), Cond.methodLink RX3 37 yX3_isSetting, Cond.instanceMethod yX3_isSetting, Cond.selects RX3 yX3_isSetting yX3_isSetting, Cond.code yX3_isSetting cX3_isSetting 2 (some .boolean), Cond.methodLink RX3 54 yX3_offOf, Cond.instanceMethod yX3_offOf, Cond.selects RX3 yX3_offOf yX3_offOf, Cond.code yX3_offOf cX3_offOf 3 (some .int)]
def wsX3_truest_r2 : List Cond := [Cond.methodLink RX3 45 yX3_highOf, Cond.static yX3_highOf, Cond.code yX3_highOf cX3_highOf 1 (some .int), Cond.methodLink RX3 48 yX3_lowersBy, Cond.instanceMethod yX3_lowersBy, Cond.selects RX3 yX3_lowersBy yX3_lowersBy, Cond.code yX3_lowersBy cX3_lowersBy 4 (some .int), Cond.methodLink RX3 41 yX3_bits, Cond.static yX3_bits, Cond.code yX3_bits cX3_bits 1 (some .int), Cond.methodLink RX3 58 yX3_size, Cond.static yX3_size, Cond.code yX3_size cX3_size 1 (some .int)]
def wsX3_truest : List Cond := .code yX3_truest cX3_truest 4 (some .int) :: ((wsX3_truest_r1 ++ wsX3_truest_r2) ++ wsX30)
def wsX3_range_r1 : List Cond := [Cond.methodLink RX3 33 yX3_in, Cond.static yX3_in, Cond.initialized RX3, Cond.code yX3_in cX3_in 3 (some .boolean), Cond.methodLink RX3 68 yX3_waysOf, Cond.instanceMethod yX3_waysOf, Cond.selects RX3 yX3_waysOf yX3_waysOf, Cond.code yX3_waysOf cX3_waysOf 4 (some .int), Cond.methodLink RX3 64 yX3_sounds, Cond.instanceMethod yX3_sounds, Cond.selects RX3 yX3_sounds yX3_sounds, Cond.code yX3_sounds cX3_sounds 3 (some .boolean), Cond.fieldLink RX3 7 "BrassWaysModel" "state" "[I", Cond.methodLink RX3 51 yX3_isWay, Cond.instanceMethod yX3_isWay, Cond.selects RX3 yX3_isWay yX3_isWay, Cond.code yX3_isWay cX3_isWay 2 (some .boolean), Cond.methodLink RX3 37 yX3_isSetting, Cond.instanceMethod yX3_isSetting, Cond.selects RX3 yX3_isSetting yX3_isSetting, Cond.code yX3_isSetting cX3_isSetting 2 (some .boolean), Cond.methodLink RX3 54 yX3_offOf, Cond.instanceMethod yX3_offOf, Cond.selects RX3 yX3_offOf yX3_offOf]
def wsX3_range_r2 : List Cond := [Cond.code yX3_offOf cX3_offOf 3 (some .int), Cond.methodLink RX3 45 yX3_highOf, Cond.static yX3_highOf, Cond.code yX3_highOf cX3_highOf 1 (some .int), Cond.methodLink RX3 48 yX3_lowersBy, Cond.instanceMethod yX3_lowersBy, Cond.selects RX3 yX3_lowersBy yX3_lowersBy, Cond.code yX3_lowersBy cX3_lowersBy 4 (some .int), Cond.methodLink RX3 41 yX3_bits, Cond.static yX3_bits, Cond.code yX3_bits cX3_bits 1 (some .int), Cond.methodLink RX3 58 yX3_size, Cond.static yX3_size, Cond.code yX3_size cX3_size 1 (some .int)]
def wsX3_range : List Cond := .code yX3_range cX3_range 5 (some .int) :: ((wsX3_range_r1 ++ wsX3_range_r2) ++ wsX30)
def wsX3_note : List Cond := .code yX3_note cX3_note 2 (some .int) :: ([.fieldLink RX3 7 "BrassWaysModel" "state" "[I", .methodLink RX3 61 yX3_isNote, .static yX3_isNote, .initialized RX3, .code yX3_isNote cX3_isNote 1 (some .boolean), .methodLink RX3 33 yX3_in, .static yX3_in, .code yX3_in cX3_in 3 (some .boolean)] ++ wsX30)
def wsX3_set : List Cond := .code yX3_set cX3_set 4 (some .int) :: ([.fieldLink RX3 7 "BrassWaysModel" "state" "[I", .methodLink RX3 71 yX3_isPlace, .instanceMethod yX3_isPlace, .selects RX3 yX3_isPlace yX3_isPlace, .initialized RX3, .code yX3_isPlace cX3_isPlace 2 (some .boolean), .methodLink RX3 33 yX3_in, .static yX3_in, .code yX3_in cX3_in 3 (some .boolean), .methodLink RX3 61 yX3_isNote, .static yX3_isNote, .code yX3_isNote cX3_isNote 1 (some .boolean)] ++ wsX30)
def wsX3_clear : List Cond := .code yX3_clear cX3_clear 2 (some .int) :: ([.fieldLink RX3 7 "BrassWaysModel" "state" "[I"] ++ wsX30)
def wsX3_effortOf : List Cond := .code yX3_effortOf cX3_effortOf 4 (some .int) :: ([.fieldLink RX3 7 "BrassWaysModel" "state" "[I", .methodLink RX3 41 yX3_bits, .static yX3_bits, .initialized RX3, .code yX3_bits cX3_bits 1 (some .int), .methodLink RX3 58 yX3_size, .static yX3_size, .code yX3_size cX3_size 1 (some .int)] ++ wsX30)
def wsX3_effort : List Cond := .code yX3_effort cX3_effort 3 (some .int) :: ([.methodLink RX3 51 yX3_isWay, .instanceMethod yX3_isWay, .selects RX3 yX3_isWay yX3_isWay, .initialized RX3, .code yX3_isWay cX3_isWay 2 (some .boolean), .methodLink RX3 33 yX3_in, .static yX3_in, .code yX3_in cX3_in 3 (some .boolean), .methodLink RX3 37 yX3_isSetting, .instanceMethod yX3_isSetting, .selects RX3 yX3_isSetting yX3_isSetting, .code yX3_isSetting cX3_isSetting 2 (some .boolean), .fieldLink RX3 7 "BrassWaysModel" "state" "[I", .methodLink RX3 74 yX3_effortOf, .instanceMethod yX3_effortOf, .selects RX3 yX3_effortOf yX3_effortOf, .code yX3_effortOf cX3_effortOf 4 (some .int), .methodLink RX3 41 yX3_bits, .static yX3_bits, .code yX3_bits cX3_bits 1 (some .int), .methodLink RX3 58 yX3_size, .static yX3_size, .code yX3_size cX3_size 1 (some .int)] ++ wsX30)
def wsX3_faultOf : List Cond := .code yX3_faultOf cX3_faultOf 3 (some .int) :: ([.fieldLink RX3 7 "BrassWaysModel" "state" "[I", .methodLink RX3 54 yX3_offOf, .instanceMethod yX3_offOf, .selects RX3 yX3_offOf yX3_offOf, .initialized RX3, .code yX3_offOf cX3_offOf 3 (some .int), .methodLink RX3 45 yX3_highOf, .static yX3_highOf, .code yX3_highOf cX3_highOf 1 (some .int), .methodLink RX3 48 yX3_lowersBy, .instanceMethod yX3_lowersBy, .selects RX3 yX3_lowersBy yX3_lowersBy, .code yX3_lowersBy cX3_lowersBy 4 (some .int), .methodLink RX3 41 yX3_bits, .static yX3_bits, .code yX3_bits cX3_bits 1 (some .int), .methodLink RX3 58 yX3_size, .static yX3_size, .code yX3_size cX3_size 1 (some .int)] ++ wsX30)
def wsX3_at : List Cond := .code yX3_at cX3_at 2 (some .int) :: ([])
def wsX3_isAt_r1 : List Cond := [Cond.fieldLink RX3 7 "BrassWaysModel" "state" "[I", Cond.methodLink RX3 64 yX3_sounds, Cond.instanceMethod yX3_sounds, Cond.selects RX3 yX3_sounds yX3_sounds, Cond.initialized RX3, Cond.code yX3_sounds cX3_sounds 3 (some .boolean), Cond.methodLink RX3 51 yX3_isWay, Cond.instanceMethod yX3_isWay, Cond.selects RX3 yX3_isWay yX3_isWay, Cond.code yX3_isWay cX3_isWay 2 (some .boolean), Cond.methodLink RX3 33 yX3_in, Cond.static yX3_in, Cond.code yX3_in cX3_in 3 (some .boolean), Cond.methodLink RX3 37 yX3_isSetting, Cond.instanceMethod yX3_isSetting, Cond.selects RX3 yX3_isSetting yX3_isSetting, Cond.code yX3_isSetting cX3_isSetting 2 (some .boolean), Cond.methodLink RX3 54 yX3_offOf, Cond.instanceMethod yX3_offOf, Cond.selects RX3 yX3_offOf yX3_offOf, Cond.code yX3_offOf cX3_offOf 3 (some .int), Cond.methodLink RX3 45 yX3_highOf, Cond.static yX3_highOf, Cond.code yX3_highOf cX3_highOf 1 (some .int)]
def wsX3_isAt_r2 : List Cond := [Cond.methodLink RX3 48 yX3_lowersBy, Cond.instanceMethod yX3_lowersBy, Cond.selects RX3 yX3_lowersBy yX3_lowersBy, Cond.code yX3_lowersBy cX3_lowersBy 4 (some .int), Cond.methodLink RX3 41 yX3_bits, Cond.static yX3_bits, Cond.code yX3_bits cX3_bits 1 (some .int), Cond.methodLink RX3 58 yX3_size, Cond.static yX3_size, Cond.code yX3_size cX3_size 1 (some .int)]
def wsX3_isAt : List Cond := .code yX3_isAt cX3_isAt 3 (some .boolean) :: ((wsX3_isAt_r1 ++ wsX3_isAt_r2) ++ wsX30)
def wsX3_layRest_r1 : List Cond := [Cond.fieldLink RX3 7 "BrassWaysModel" "state" "[I", Cond.fieldLink RX3 20 "BrassWaysModel" "rest" "[I", Cond.fieldLink RX3 23 "BrassWaysModel" "ways" "[J", Cond.fieldLink RX3 27 "BrassWaysModel" "leastWays" "[J", Cond.methodLink RX3 77 yX3_at, Cond.static yX3_at, Cond.initialized RX3, Cond.code yX3_at cX3_at 2 (some .int), Cond.methodLink RX3 80 yX3_faultOf, Cond.instanceMethod yX3_faultOf, Cond.selects RX3 yX3_faultOf yX3_faultOf, Cond.code yX3_faultOf cX3_faultOf 3 (some .int), Cond.methodLink RX3 54 yX3_offOf, Cond.instanceMethod yX3_offOf, Cond.selects RX3 yX3_offOf yX3_offOf, Cond.code yX3_offOf cX3_offOf 3 (some .int), Cond.methodLink RX3 45 yX3_highOf, Cond.static yX3_highOf, Cond.code yX3_highOf cX3_highOf 1 (some .int), Cond.methodLink RX3 48 yX3_lowersBy, Cond.instanceMethod yX3_lowersBy, Cond.selects RX3 yX3_lowersBy yX3_lowersBy, Cond.code yX3_lowersBy cX3_lowersBy 4 (some .int), Cond.methodLink RX3 41 yX3_bits]
def wsX3_layRest_r2 : List Cond := [Cond.static yX3_bits, Cond.code yX3_bits cX3_bits 1 (some .int), Cond.methodLink RX3 58 yX3_size, Cond.static yX3_size, Cond.code yX3_size cX3_size 1 (some .int), Cond.methodLink RX3 74 yX3_effortOf, Cond.instanceMethod yX3_effortOf, Cond.selects RX3 yX3_effortOf yX3_effortOf, Cond.code yX3_effortOf cX3_effortOf 4 (some .int)]
def wsX3_layRest : List Cond := .code yX3_layRest cX3_layRest 9 none :: ((wsX3_layRest_r1 ++ wsX3_layRest_r2) ++ wsX30)
def wsX3_layAllRests_r1 : List Cond := [Cond.fieldLink RX3 7 "BrassWaysModel" "state" "[I", Cond.fieldLink RX3 23 "BrassWaysModel" "ways" "[J", Cond.methodLink RX3 77 yX3_at, Cond.static yX3_at, Cond.initialized RX3, Cond.code yX3_at cX3_at 2 (some .int), Cond.methodLink RX3 83 yX3_isAt, Cond.instanceMethod yX3_isAt, Cond.selects RX3 yX3_isAt yX3_isAt, Cond.code yX3_isAt cX3_isAt 3 (some .boolean), Cond.methodLink RX3 64 yX3_sounds, Cond.instanceMethod yX3_sounds, Cond.selects RX3 yX3_sounds yX3_sounds, Cond.code yX3_sounds cX3_sounds 3 (some .boolean), Cond.methodLink RX3 51 yX3_isWay, Cond.instanceMethod yX3_isWay, Cond.selects RX3 yX3_isWay yX3_isWay, Cond.code yX3_isWay cX3_isWay 2 (some .boolean), Cond.methodLink RX3 33 yX3_in, Cond.static yX3_in, Cond.code yX3_in cX3_in 3 (some .boolean), Cond.methodLink RX3 37 yX3_isSetting, Cond.instanceMethod yX3_isSetting, Cond.selects RX3 yX3_isSetting yX3_isSetting]
def wsX3_layAllRests_r2 : List Cond := [Cond.code yX3_isSetting cX3_isSetting 2 (some .boolean), Cond.methodLink RX3 54 yX3_offOf, Cond.instanceMethod yX3_offOf, Cond.selects RX3 yX3_offOf yX3_offOf, Cond.code yX3_offOf cX3_offOf 3 (some .int), Cond.methodLink RX3 45 yX3_highOf, Cond.static yX3_highOf, Cond.code yX3_highOf cX3_highOf 1 (some .int), Cond.methodLink RX3 48 yX3_lowersBy, Cond.instanceMethod yX3_lowersBy, Cond.selects RX3 yX3_lowersBy yX3_lowersBy, Cond.code yX3_lowersBy cX3_lowersBy 4 (some .int), Cond.methodLink RX3 41 yX3_bits, Cond.static yX3_bits, Cond.code yX3_bits cX3_bits 1 (some .int), Cond.methodLink RX3 58 yX3_size, Cond.static yX3_size, Cond.code yX3_size cX3_size 1 (some .int), Cond.methodLink RX3 86 yX3_layRest, Cond.instanceMethod yX3_layRest, Cond.selects RX3 yX3_layRest yX3_layRest, Cond.code yX3_layRest cX3_layRest 9 none, Cond.fieldLink RX3 20 "BrassWaysModel" "rest" "[I", Cond.fieldLink RX3 27 "BrassWaysModel" "leastWays" "[J"]
def wsX3_layAllRests_r3 : List Cond := [Cond.methodLink RX3 80 yX3_faultOf, Cond.instanceMethod yX3_faultOf, Cond.selects RX3 yX3_faultOf yX3_faultOf, Cond.code yX3_faultOf cX3_faultOf 3 (some .int), Cond.methodLink RX3 74 yX3_effortOf, Cond.instanceMethod yX3_effortOf, Cond.selects RX3 yX3_effortOf yX3_effortOf, Cond.code yX3_effortOf cX3_effortOf 4 (some .int)]
def wsX3_layAllRests : List Cond := .code yX3_layAllRests cX3_layAllRests 3 none :: ((wsX3_layAllRests_r1 ++ (wsX3_layAllRests_r2 ++ wsX3_layAllRests_r3)) ++ wsX30)
def wsX3_leastOfAll : List Cond := .code yX3_leastOfAll cX3_leastOfAll 4 (some .int) :: ([.fieldLink RX3 7 "BrassWaysModel" "state" "[I", .fieldLink RX3 23 "BrassWaysModel" "ways" "[J", .fieldLink RX3 20 "BrassWaysModel" "rest" "[I"] ++ wsX30)
def wsX3_nextWay : List Cond := .code yX3_nextWay cX3_nextWay 6 (some .int) :: ([.fieldLink RX3 20 "BrassWaysModel" "rest" "[I", .fieldLink RX3 23 "BrassWaysModel" "ways" "[J", .methodLink RX3 74 yX3_effortOf, .instanceMethod yX3_effortOf, .selects RX3 yX3_effortOf yX3_effortOf, .initialized RX3, .code yX3_effortOf cX3_effortOf 4 (some .int), .fieldLink RX3 7 "BrassWaysModel" "state" "[I", .methodLink RX3 41 yX3_bits, .static yX3_bits, .code yX3_bits cX3_bits 1 (some .int), .methodLink RX3 58 yX3_size, .static yX3_size, .code yX3_size cX3_size 1 (some .int), .methodLink RX3 77 yX3_at, .static yX3_at, .code yX3_at cX3_at 2 (some .int)] ++ wsX30)
def wsX3_least_r1 : List Cond := [Cond.fieldLink RX3 7 "BrassWaysModel" "state" "[I", Cond.fieldLink RX3 20 "BrassWaysModel" "rest" "[I", Cond.methodLink RX3 90 yX3_layAllRests, Cond.instanceMethod yX3_layAllRests, Cond.selects RX3 yX3_layAllRests yX3_layAllRests, Cond.initialized RX3, Cond.code yX3_layAllRests cX3_layAllRests 3 none, Cond.fieldLink RX3 23 "BrassWaysModel" "ways" "[J", Cond.methodLink RX3 77 yX3_at, Cond.static yX3_at, Cond.code yX3_at cX3_at 2 (some .int), Cond.methodLink RX3 83 yX3_isAt, Cond.instanceMethod yX3_isAt, Cond.selects RX3 yX3_isAt yX3_isAt, Cond.code yX3_isAt cX3_isAt 3 (some .boolean), Cond.methodLink RX3 64 yX3_sounds, Cond.instanceMethod yX3_sounds, Cond.selects RX3 yX3_sounds yX3_sounds, Cond.code yX3_sounds cX3_sounds 3 (some .boolean), Cond.methodLink RX3 51 yX3_isWay, Cond.instanceMethod yX3_isWay, Cond.selects RX3 yX3_isWay yX3_isWay, Cond.code yX3_isWay cX3_isWay 2 (some .boolean), Cond.methodLink RX3 33 yX3_in]
def wsX3_least_r2 : List Cond := [Cond.static yX3_in, Cond.code yX3_in cX3_in 3 (some .boolean), Cond.methodLink RX3 37 yX3_isSetting, Cond.instanceMethod yX3_isSetting, Cond.selects RX3 yX3_isSetting yX3_isSetting, Cond.code yX3_isSetting cX3_isSetting 2 (some .boolean), Cond.methodLink RX3 54 yX3_offOf, Cond.instanceMethod yX3_offOf, Cond.selects RX3 yX3_offOf yX3_offOf, Cond.code yX3_offOf cX3_offOf 3 (some .int), Cond.methodLink RX3 45 yX3_highOf, Cond.static yX3_highOf, Cond.code yX3_highOf cX3_highOf 1 (some .int), Cond.methodLink RX3 48 yX3_lowersBy, Cond.instanceMethod yX3_lowersBy, Cond.selects RX3 yX3_lowersBy yX3_lowersBy, Cond.code yX3_lowersBy cX3_lowersBy 4 (some .int), Cond.methodLink RX3 41 yX3_bits, Cond.static yX3_bits, Cond.code yX3_bits cX3_bits 1 (some .int), Cond.methodLink RX3 58 yX3_size, Cond.static yX3_size, Cond.code yX3_size cX3_size 1 (some .int), Cond.methodLink RX3 86 yX3_layRest]
def wsX3_least_r3 : List Cond := [Cond.instanceMethod yX3_layRest, Cond.selects RX3 yX3_layRest yX3_layRest, Cond.code yX3_layRest cX3_layRest 9 none, Cond.fieldLink RX3 27 "BrassWaysModel" "leastWays" "[J", Cond.methodLink RX3 80 yX3_faultOf, Cond.instanceMethod yX3_faultOf, Cond.selects RX3 yX3_faultOf yX3_faultOf, Cond.code yX3_faultOf cX3_faultOf 3 (some .int), Cond.methodLink RX3 74 yX3_effortOf, Cond.instanceMethod yX3_effortOf, Cond.selects RX3 yX3_effortOf yX3_effortOf, Cond.code yX3_effortOf cX3_effortOf 4 (some .int), Cond.methodLink RX3 93 yX3_leastOfAll, Cond.instanceMethod yX3_leastOfAll, Cond.selects RX3 yX3_leastOfAll yX3_leastOfAll, Cond.code yX3_leastOfAll cX3_leastOfAll 4 (some .int), Cond.methodLink RX3 97 yX3_nextWay, Cond.instanceMethod yX3_nextWay, Cond.selects RX3 yX3_nextWay yX3_nextWay, Cond.code yX3_nextWay cX3_nextWay 6 (some .int)]
def wsX3_least : List Cond := .code yX3_least cX3_least 6 (some .int) :: ((wsX3_least_r1 ++ (wsX3_least_r2 ++ wsX3_least_r3)) ++ wsX30)
def wsX3_leastAhead_r1 : List Cond := [Cond.fieldLink RX3 30 "BrassWaysModel" "ahead" "[I", Cond.fieldLink RX3 7 "BrassWaysModel" "state" "[I", Cond.methodLink RX3 77 yX3_at, Cond.static yX3_at, Cond.initialized RX3, Cond.code yX3_at cX3_at 2 (some .int), Cond.methodLink RX3 80 yX3_faultOf, Cond.instanceMethod yX3_faultOf, Cond.selects RX3 yX3_faultOf yX3_faultOf, Cond.code yX3_faultOf cX3_faultOf 3 (some .int), Cond.methodLink RX3 54 yX3_offOf, Cond.instanceMethod yX3_offOf, Cond.selects RX3 yX3_offOf yX3_offOf, Cond.code yX3_offOf cX3_offOf 3 (some .int), Cond.methodLink RX3 45 yX3_highOf, Cond.static yX3_highOf, Cond.code yX3_highOf cX3_highOf 1 (some .int), Cond.methodLink RX3 48 yX3_lowersBy, Cond.instanceMethod yX3_lowersBy, Cond.selects RX3 yX3_lowersBy yX3_lowersBy, Cond.code yX3_lowersBy cX3_lowersBy 4 (some .int), Cond.methodLink RX3 41 yX3_bits, Cond.static yX3_bits, Cond.code yX3_bits cX3_bits 1 (some .int)]
def wsX3_leastAhead_r2 : List Cond := [Cond.methodLink RX3 58 yX3_size, Cond.static yX3_size, Cond.code yX3_size cX3_size 1 (some .int), Cond.methodLink RX3 74 yX3_effortOf, Cond.instanceMethod yX3_effortOf, Cond.selects RX3 yX3_effortOf yX3_effortOf, Cond.code yX3_effortOf cX3_effortOf 4 (some .int)]
def wsX3_leastAhead : List Cond := .code yX3_leastAhead cX3_leastAhead 7 (some .int) :: ((wsX3_leastAhead_r1 ++ wsX3_leastAhead_r2) ++ wsX30)
def wsX3_layAhead_r1 : List Cond := [Cond.fieldLink RX3 7 "BrassWaysModel" "state" "[I", Cond.fieldLink RX3 30 "BrassWaysModel" "ahead" "[I", Cond.methodLink RX3 77 yX3_at, Cond.static yX3_at, Cond.initialized RX3, Cond.code yX3_at cX3_at 2 (some .int), Cond.methodLink RX3 83 yX3_isAt, Cond.instanceMethod yX3_isAt, Cond.selects RX3 yX3_isAt yX3_isAt, Cond.code yX3_isAt cX3_isAt 3 (some .boolean), Cond.methodLink RX3 64 yX3_sounds, Cond.instanceMethod yX3_sounds, Cond.selects RX3 yX3_sounds yX3_sounds, Cond.code yX3_sounds cX3_sounds 3 (some .boolean), Cond.methodLink RX3 51 yX3_isWay, Cond.instanceMethod yX3_isWay, Cond.selects RX3 yX3_isWay yX3_isWay, Cond.code yX3_isWay cX3_isWay 2 (some .boolean), Cond.methodLink RX3 33 yX3_in, Cond.static yX3_in, Cond.code yX3_in cX3_in 3 (some .boolean), Cond.methodLink RX3 37 yX3_isSetting, Cond.instanceMethod yX3_isSetting, Cond.selects RX3 yX3_isSetting yX3_isSetting]
def wsX3_layAhead_r2 : List Cond := [Cond.code yX3_isSetting cX3_isSetting 2 (some .boolean), Cond.methodLink RX3 54 yX3_offOf, Cond.instanceMethod yX3_offOf, Cond.selects RX3 yX3_offOf yX3_offOf, Cond.code yX3_offOf cX3_offOf 3 (some .int), Cond.methodLink RX3 45 yX3_highOf, Cond.static yX3_highOf, Cond.code yX3_highOf cX3_highOf 1 (some .int), Cond.methodLink RX3 48 yX3_lowersBy, Cond.instanceMethod yX3_lowersBy, Cond.selects RX3 yX3_lowersBy yX3_lowersBy, Cond.code yX3_lowersBy cX3_lowersBy 4 (some .int), Cond.methodLink RX3 41 yX3_bits, Cond.static yX3_bits, Cond.code yX3_bits cX3_bits 1 (some .int), Cond.methodLink RX3 58 yX3_size, Cond.static yX3_size, Cond.code yX3_size cX3_size 1 (some .int), Cond.methodLink RX3 101 yX3_leastAhead, Cond.instanceMethod yX3_leastAhead, Cond.selects RX3 yX3_leastAhead yX3_leastAhead, Cond.code yX3_leastAhead cX3_leastAhead 7 (some .int), Cond.methodLink RX3 80 yX3_faultOf, Cond.instanceMethod yX3_faultOf]
def wsX3_layAhead_r3 : List Cond := [Cond.selects RX3 yX3_faultOf yX3_faultOf, Cond.code yX3_faultOf cX3_faultOf 3 (some .int), Cond.methodLink RX3 74 yX3_effortOf, Cond.instanceMethod yX3_effortOf, Cond.selects RX3 yX3_effortOf yX3_effortOf, Cond.code yX3_effortOf cX3_effortOf 4 (some .int)]
def wsX3_layAhead : List Cond := .code yX3_layAhead cX3_layAhead 3 none :: ((wsX3_layAhead_r1 ++ (wsX3_layAhead_r2 ++ wsX3_layAhead_r3)) ++ wsX30)
def wsX3_leastAt : List Cond := .code yX3_leastAt cX3_leastAt 6 (some .int) :: ([.fieldLink RX3 30 "BrassWaysModel" "ahead" "[I", .fieldLink RX3 23 "BrassWaysModel" "ways" "[J", .fieldLink RX3 20 "BrassWaysModel" "rest" "[I", .methodLink RX3 77 yX3_at, .static yX3_at, .initialized RX3, .code yX3_at cX3_at 2 (some .int)] ++ wsX30)
def wsX3_plans_r1 : List Cond := [Cond.constantLong RX3 104 (-2), Cond.constantLong RX3 109 (-6), Cond.fieldLink RX3 7 "BrassWaysModel" "state" "[I", Cond.fieldLink RX3 23 "BrassWaysModel" "ways" "[J", Cond.fieldLink RX3 20 "BrassWaysModel" "rest" "[I", Cond.fieldLink RX3 27 "BrassWaysModel" "leastWays" "[J", Cond.methodLink RX3 33 yX3_in, Cond.static yX3_in, Cond.initialized RX3, Cond.code yX3_in cX3_in 3 (some .boolean), Cond.methodLink RX3 90 yX3_layAllRests, Cond.instanceMethod yX3_layAllRests, Cond.selects RX3 yX3_layAllRests yX3_layAllRests, Cond.code yX3_layAllRests cX3_layAllRests 3 none, Cond.methodLink RX3 77 yX3_at, Cond.static yX3_at, Cond.code yX3_at cX3_at 2 (some .int), Cond.methodLink RX3 83 yX3_isAt, Cond.instanceMethod yX3_isAt, Cond.selects RX3 yX3_isAt yX3_isAt, Cond.code yX3_isAt cX3_isAt 3 (some .boolean), Cond.methodLink RX3 64 yX3_sounds, Cond.instanceMethod yX3_sounds, Cond.selects RX3 yX3_sounds yX3_sounds]
def wsX3_plans_r2 : List Cond := [Cond.code yX3_sounds cX3_sounds 3 (some .boolean), Cond.methodLink RX3 51 yX3_isWay, Cond.instanceMethod yX3_isWay, Cond.selects RX3 yX3_isWay yX3_isWay, Cond.code yX3_isWay cX3_isWay 2 (some .boolean), Cond.methodLink RX3 37 yX3_isSetting, Cond.instanceMethod yX3_isSetting, Cond.selects RX3 yX3_isSetting yX3_isSetting, Cond.code yX3_isSetting cX3_isSetting 2 (some .boolean), Cond.methodLink RX3 54 yX3_offOf, Cond.instanceMethod yX3_offOf, Cond.selects RX3 yX3_offOf yX3_offOf, Cond.code yX3_offOf cX3_offOf 3 (some .int), Cond.methodLink RX3 45 yX3_highOf, Cond.static yX3_highOf, Cond.code yX3_highOf cX3_highOf 1 (some .int), Cond.methodLink RX3 48 yX3_lowersBy, Cond.instanceMethod yX3_lowersBy, Cond.selects RX3 yX3_lowersBy yX3_lowersBy, Cond.code yX3_lowersBy cX3_lowersBy 4 (some .int), Cond.methodLink RX3 41 yX3_bits, Cond.static yX3_bits, Cond.code yX3_bits cX3_bits 1 (some .int), Cond.methodLink RX3 58 yX3_size]
def wsX3_plans_r3 : List Cond := [Cond.static yX3_size, Cond.code yX3_size cX3_size 1 (some .int), Cond.methodLink RX3 86 yX3_layRest, Cond.instanceMethod yX3_layRest, Cond.selects RX3 yX3_layRest yX3_layRest, Cond.code yX3_layRest cX3_layRest 9 none, Cond.methodLink RX3 80 yX3_faultOf, Cond.instanceMethod yX3_faultOf, Cond.selects RX3 yX3_faultOf yX3_faultOf, Cond.code yX3_faultOf cX3_faultOf 3 (some .int), Cond.methodLink RX3 74 yX3_effortOf, Cond.instanceMethod yX3_effortOf, Cond.selects RX3 yX3_effortOf yX3_effortOf, Cond.code yX3_effortOf cX3_effortOf 4 (some .int), Cond.methodLink RX3 93 yX3_leastOfAll, Cond.instanceMethod yX3_leastOfAll, Cond.selects RX3 yX3_leastOfAll yX3_leastOfAll, Cond.code yX3_leastOfAll cX3_leastOfAll 4 (some .int), Cond.methodLink RX3 106 yX3_layAhead, Cond.instanceMethod yX3_layAhead, Cond.selects RX3 yX3_layAhead yX3_layAhead, Cond.code yX3_layAhead cX3_layAhead 3 none, Cond.fieldLink RX3 30 "BrassWaysModel" "ahead" "[I", Cond.methodLink RX3 101 yX3_leastAhead]
def wsX3_plans_r4 : List Cond := [Cond.instanceMethod yX3_leastAhead, Cond.selects RX3 yX3_leastAhead yX3_leastAhead, Cond.code yX3_leastAhead cX3_leastAhead 7 (some .int), Cond.methodLink RX3 71 yX3_isPlace, Cond.instanceMethod yX3_isPlace, Cond.selects RX3 yX3_isPlace yX3_isPlace, Cond.code yX3_isPlace cX3_isPlace 2 (some .boolean), Cond.methodLink RX3 111 yX3_leastAt, Cond.instanceMethod yX3_leastAt, Cond.selects RX3 yX3_leastAt yX3_leastAt, Cond.code yX3_leastAt cX3_leastAt 6 (some .int)]
def wsX3_plans : List Cond := .code yX3_plans cX3_plans 6 (some .long) :: ((wsX3_plans_r1 ++ (wsX3_plans_r2 ++ (wsX3_plans_r3 ++ wsX3_plans_r4))) ++ wsX30)
def wsX3_dumb_r1 : List Cond := [Cond.fieldLink RX3 7 "BrassWaysModel" "state" "[I", Cond.methodLink RX3 68 yX3_waysOf, Cond.instanceMethod yX3_waysOf, Cond.selects RX3 yX3_waysOf yX3_waysOf, Cond.initialized RX3, Cond.code yX3_waysOf cX3_waysOf 4 (some .int), Cond.methodLink RX3 64 yX3_sounds, Cond.instanceMethod yX3_sounds, Cond.selects RX3 yX3_sounds yX3_sounds, Cond.code yX3_sounds cX3_sounds 3 (some .boolean), Cond.methodLink RX3 51 yX3_isWay, Cond.instanceMethod yX3_isWay, Cond.selects RX3 yX3_isWay yX3_isWay, Cond.code yX3_isWay cX3_isWay 2 (some .boolean), Cond.methodLink RX3 33 yX3_in, Cond.static yX3_in, Cond.code yX3_in cX3_in 3 (some .boolean), Cond.methodLink RX3 37 yX3_isSetting, Cond.instanceMethod yX3_isSetting, Cond.selects RX3 yX3_isSetting yX3_isSetting, Cond.code yX3_isSetting cX3_isSetting 2 (some .boolean), Cond.methodLink RX3 54 yX3_offOf, Cond.instanceMethod yX3_offOf, Cond.selects RX3 yX3_offOf yX3_offOf]
def wsX3_dumb_r2 : List Cond := [Cond.code yX3_offOf cX3_offOf 3 (some .int), Cond.methodLink RX3 45 yX3_highOf, Cond.static yX3_highOf, Cond.code yX3_highOf cX3_highOf 1 (some .int), Cond.methodLink RX3 48 yX3_lowersBy, Cond.instanceMethod yX3_lowersBy, Cond.selects RX3 yX3_lowersBy yX3_lowersBy, Cond.code yX3_lowersBy cX3_lowersBy 4 (some .int), Cond.methodLink RX3 41 yX3_bits, Cond.static yX3_bits, Cond.code yX3_bits cX3_bits 1 (some .int), Cond.methodLink RX3 58 yX3_size, Cond.static yX3_size, Cond.code yX3_size cX3_size 1 (some .int)]
def wsX3_dumb : List Cond := .code yX3_dumb cX3_dumb 2 (some .int) :: ((wsX3_dumb_r1 ++ wsX3_dumb_r2) ++ wsX30)
def wsX3_trillOf_r1 : List Cond := [Cond.methodLink RX3 64 yX3_sounds, Cond.instanceMethod yX3_sounds, Cond.selects RX3 yX3_sounds yX3_sounds, Cond.initialized RX3, Cond.code yX3_sounds cX3_sounds 3 (some .boolean), Cond.fieldLink RX3 7 "BrassWaysModel" "state" "[I", Cond.methodLink RX3 51 yX3_isWay, Cond.instanceMethod yX3_isWay, Cond.selects RX3 yX3_isWay yX3_isWay, Cond.code yX3_isWay cX3_isWay 2 (some .boolean), Cond.methodLink RX3 33 yX3_in, Cond.static yX3_in, Cond.code yX3_in cX3_in 3 (some .boolean), Cond.methodLink RX3 37 yX3_isSetting, Cond.instanceMethod yX3_isSetting, Cond.selects RX3 yX3_isSetting yX3_isSetting, Cond.code yX3_isSetting cX3_isSetting 2 (some .boolean), Cond.methodLink RX3 54 yX3_offOf, Cond.instanceMethod yX3_offOf, Cond.selects RX3 yX3_offOf yX3_offOf, Cond.code yX3_offOf cX3_offOf 3 (some .int), Cond.methodLink RX3 45 yX3_highOf, Cond.static yX3_highOf, Cond.code yX3_highOf cX3_highOf 1 (some .int)]
def wsX3_trillOf_r2 : List Cond := [Cond.methodLink RX3 48 yX3_lowersBy, Cond.instanceMethod yX3_lowersBy, Cond.selects RX3 yX3_lowersBy yX3_lowersBy, Cond.code yX3_lowersBy cX3_lowersBy 4 (some .int), Cond.methodLink RX3 41 yX3_bits, Cond.static yX3_bits, Cond.code yX3_bits cX3_bits 1 (some .int), Cond.methodLink RX3 58 yX3_size, Cond.static yX3_size, Cond.code yX3_size cX3_size 1 (some .int), Cond.methodLink RX3 74 yX3_effortOf, Cond.instanceMethod yX3_effortOf, Cond.selects RX3 yX3_effortOf yX3_effortOf, Cond.code yX3_effortOf cX3_effortOf 4 (some .int)]
def wsX3_trillOf : List Cond := .code yX3_trillOf cX3_trillOf 7 (some .int) :: ((wsX3_trillOf_r1 ++ wsX3_trillOf_r2) ++ wsX30)
def wsX3_trill_r1 : List Cond := [Cond.methodLink RX3 61 yX3_isNote, Cond.static yX3_isNote, Cond.initialized RX3, Cond.code yX3_isNote cX3_isNote 1 (some .boolean), Cond.methodLink RX3 33 yX3_in, Cond.static yX3_in, Cond.code yX3_in cX3_in 3 (some .boolean), Cond.methodLink RX3 114 yX3_trillOf, Cond.instanceMethod yX3_trillOf, Cond.selects RX3 yX3_trillOf yX3_trillOf, Cond.code yX3_trillOf cX3_trillOf 7 (some .int), Cond.methodLink RX3 64 yX3_sounds, Cond.instanceMethod yX3_sounds, Cond.selects RX3 yX3_sounds yX3_sounds, Cond.code yX3_sounds cX3_sounds 3 (some .boolean), Cond.fieldLink RX3 7 "BrassWaysModel" "state" "[I", Cond.methodLink RX3 51 yX3_isWay, Cond.instanceMethod yX3_isWay, Cond.selects RX3 yX3_isWay yX3_isWay, Cond.code yX3_isWay cX3_isWay 2 (some .boolean), Cond.methodLink RX3 37 yX3_isSetting, Cond.instanceMethod yX3_isSetting, Cond.selects RX3 yX3_isSetting yX3_isSetting, Cond.code yX3_isSetting cX3_isSetting 2 (some .boolean)]
def wsX3_trill_r2 : List Cond := [Cond.methodLink RX3 54 yX3_offOf, Cond.instanceMethod yX3_offOf, Cond.selects RX3 yX3_offOf yX3_offOf, Cond.code yX3_offOf cX3_offOf 3 (some .int), Cond.methodLink RX3 45 yX3_highOf, Cond.static yX3_highOf, Cond.code yX3_highOf cX3_highOf 1 (some .int), Cond.methodLink RX3 48 yX3_lowersBy, Cond.instanceMethod yX3_lowersBy, Cond.selects RX3 yX3_lowersBy yX3_lowersBy, Cond.code yX3_lowersBy cX3_lowersBy 4 (some .int), Cond.methodLink RX3 41 yX3_bits, Cond.static yX3_bits, Cond.code yX3_bits cX3_bits 1 (some .int), Cond.methodLink RX3 58 yX3_size, Cond.static yX3_size, Cond.code yX3_size cX3_size 1 (some .int), Cond.methodLink RX3 74 yX3_effortOf, Cond.instanceMethod yX3_effortOf, Cond.selects RX3 yX3_effortOf yX3_effortOf, Cond.code yX3_effortOf cX3_effortOf 4 (some .int)]
def wsX3_trill : List Cond := .code yX3_trill cX3_trill 3 (some .int) :: ((wsX3_trill_r1 ++ wsX3_trill_r2) ++ wsX30)
def wsX3_awkward_r1 : List Cond := [Cond.methodLink RX3 33 yX3_in, Cond.static yX3_in, Cond.initialized RX3, Cond.code yX3_in cX3_in 3 (some .boolean), Cond.methodLink RX3 114 yX3_trillOf, Cond.instanceMethod yX3_trillOf, Cond.selects RX3 yX3_trillOf yX3_trillOf, Cond.code yX3_trillOf cX3_trillOf 7 (some .int), Cond.methodLink RX3 64 yX3_sounds, Cond.instanceMethod yX3_sounds, Cond.selects RX3 yX3_sounds yX3_sounds, Cond.code yX3_sounds cX3_sounds 3 (some .boolean), Cond.fieldLink RX3 7 "BrassWaysModel" "state" "[I", Cond.methodLink RX3 51 yX3_isWay, Cond.instanceMethod yX3_isWay, Cond.selects RX3 yX3_isWay yX3_isWay, Cond.code yX3_isWay cX3_isWay 2 (some .boolean), Cond.methodLink RX3 37 yX3_isSetting, Cond.instanceMethod yX3_isSetting, Cond.selects RX3 yX3_isSetting yX3_isSetting, Cond.code yX3_isSetting cX3_isSetting 2 (some .boolean), Cond.methodLink RX3 54 yX3_offOf, Cond.instanceMethod yX3_offOf, Cond.selects RX3 yX3_offOf yX3_offOf]
def wsX3_awkward_r2 : List Cond := [Cond.code yX3_offOf cX3_offOf 3 (some .int), Cond.methodLink RX3 45 yX3_highOf, Cond.static yX3_highOf, Cond.code yX3_highOf cX3_highOf 1 (some .int), Cond.methodLink RX3 48 yX3_lowersBy, Cond.instanceMethod yX3_lowersBy, Cond.selects RX3 yX3_lowersBy yX3_lowersBy, Cond.code yX3_lowersBy cX3_lowersBy 4 (some .int), Cond.methodLink RX3 41 yX3_bits, Cond.static yX3_bits, Cond.code yX3_bits cX3_bits 1 (some .int), Cond.methodLink RX3 58 yX3_size, Cond.static yX3_size, Cond.code yX3_size cX3_size 1 (some .int), Cond.methodLink RX3 74 yX3_effortOf, Cond.instanceMethod yX3_effortOf, Cond.selects RX3 yX3_effortOf yX3_effortOf, Cond.code yX3_effortOf cX3_effortOf 4 (some .int)]
def wsX3_awkward : List Cond := .code yX3_awkward cX3_awkward 5 (some .int) :: ((wsX3_awkward_r1 ++ wsX3_awkward_r2) ++ wsX30)
def wsX3_offOfPart : List Cond := .code yX3_offOfPart cX3_offOfPart 6 (some .int) :: ([.fieldLink RX3 7 "BrassWaysModel" "state" "[I", .methodLink RX3 54 yX3_offOf, .instanceMethod yX3_offOf, .selects RX3 yX3_offOf yX3_offOf, .initialized RX3, .code yX3_offOf cX3_offOf 3 (some .int), .methodLink RX3 45 yX3_highOf, .static yX3_highOf, .code yX3_highOf cX3_highOf 1 (some .int), .methodLink RX3 48 yX3_lowersBy, .instanceMethod yX3_lowersBy, .selects RX3 yX3_lowersBy yX3_lowersBy, .code yX3_lowersBy cX3_lowersBy 4 (some .int), .methodLink RX3 41 yX3_bits, .static yX3_bits, .code yX3_bits cX3_bits 1 (some .int), .methodLink RX3 58 yX3_size, .static yX3_size, .code yX3_size cX3_size 1 (some .int)] ++ wsX30)
def wsX3_tune_r1 : List Cond := [Cond.fieldLink RX3 7 "BrassWaysModel" "state" "[I", Cond.methodLink RX3 33 yX3_in, Cond.static yX3_in, Cond.initialized RX3, Cond.code yX3_in cX3_in 3 (some .boolean), Cond.methodLink RX3 117 yX3_offOfPart, Cond.instanceMethod yX3_offOfPart, Cond.selects RX3 yX3_offOfPart yX3_offOfPart, Cond.code yX3_offOfPart cX3_offOfPart 6 (some .int), Cond.methodLink RX3 54 yX3_offOf, Cond.instanceMethod yX3_offOf, Cond.selects RX3 yX3_offOf yX3_offOf, Cond.code yX3_offOf cX3_offOf 3 (some .int), Cond.methodLink RX3 45 yX3_highOf, Cond.static yX3_highOf, Cond.code yX3_highOf cX3_highOf 1 (some .int), Cond.methodLink RX3 48 yX3_lowersBy, Cond.instanceMethod yX3_lowersBy, Cond.selects RX3 yX3_lowersBy yX3_lowersBy, Cond.code yX3_lowersBy cX3_lowersBy 4 (some .int), Cond.methodLink RX3 41 yX3_bits, Cond.static yX3_bits, Cond.code yX3_bits cX3_bits 1 (some .int), Cond.methodLink RX3 58 yX3_size]
def wsX3_tune_r2 : List Cond := [Cond.static yX3_size, Cond.code yX3_size cX3_size 1 (some .int)]
def wsX3_tune : List Cond := .code yX3_tune cX3_tune 8 (some .int) :: ((wsX3_tune_r1 ++ wsX3_tune_r2) ++ wsX30)
def wsX3_image : List Cond := .code yX3_image cX3_image 3 (some .int) :: ([.fieldLink RX3 13 "BrassWaysModel" "images" "[I", .fieldLink RX3 7 "BrassWaysModel" "state" "[I", .fieldLink RX3 16 "BrassWaysModel" "isKept" "[Z", .methodLink RX3 33 yX3_in, .static yX3_in, .initialized RX3, .code yX3_in cX3_in 3 (some .boolean)] ++ wsX30)
def wsX3_restore : List Cond := .code yX3_restore cX3_restore 3 (some .int) :: ([.fieldLink RX3 16 "BrassWaysModel" "isKept" "[Z", .fieldLink RX3 7 "BrassWaysModel" "state" "[I", .fieldLink RX3 13 "BrassWaysModel" "images" "[I", .methodLink RX3 33 yX3_in, .static yX3_in, .initialized RX3, .code yX3_in cX3_in 3 (some .boolean)] ++ wsX30)
def wsX3_count : List Cond := .code yX3_count cX3_count 2 (some .int) :: ([.fieldLink RX3 7 "BrassWaysModel" "state" "[I", .fieldLink RX3 16 "BrassWaysModel" "isKept" "[Z", .methodLink RX3 33 yX3_in, .static yX3_in, .initialized RX3, .code yX3_in cX3_in 3 (some .boolean), .methodLink RX3 71 yX3_isPlace, .instanceMethod yX3_isPlace, .selects RX3 yX3_isPlace yX3_isPlace, .code yX3_isPlace cX3_isPlace 2 (some .boolean)] ++ wsX30)
def wsJ9_abs_0f7a4 : List Cond := .code yJ9_abs_0f7a4 cJ9_abs_0f7a4 1 (some .int) :: ([])
def wsJ9_min_7cf53 : List Cond := .code yJ9_min_7cf53 cJ9_min_7cf53 2 (some .int) :: ([])
def wsL_law_r1 : List Cond := [Cond.classLink RL 7 RX2, Cond.instantiable RX2 8, Cond.initialized RX2, Cond.classLink RL 10 RX3, Cond.instantiable RX3 7, Cond.initialized RX3, Cond.methodLink RL 9 yX2_init, Cond.instanceMethod yX2_init, Cond.code yX2_init cX2_init 1 none, Cond.methodLink RX2 3 objectInit, Cond.instanceMethod objectInit, Cond.code objectInit ⟨#[0xb1]⟩ 1 none, Cond.classLink RX2 9 RX1, Cond.instantiable RX1 5, Cond.initialized RX1, Cond.fieldLink RX2 12 "BrassWays" "now" "LBrassWays$Setup;", Cond.fieldLink RX2 16 "BrassWays" "images" "[LBrassWays$Setup;", Cond.fieldLink RX2 20 "BrassWays" "imagesKept" "I", Cond.classLink RX2 24 RX0, Cond.instantiable RX0 6, Cond.initialized RX0, Cond.fieldLink RX2 27 "BrassWays" "planner" "LBrassWays$Planner;", Cond.arrayClass .int, Cond.fieldLink RX2 31 "BrassWays" "waysOfOne" "[I"]
def wsL_law_r2 : List Cond := [Cond.fieldLink RX2 35 "BrassWays" "waysOfOther" "[I", Cond.fieldLink RX2 38 "BrassWays" "trialLengths" "[I", Cond.fieldLink RX2 41 "BrassWays" "trialDrops" "[I", Cond.instanceMethod yX1_init, Cond.code yX1_init cX1_init 1 none, Cond.methodLink RX1 3 objectInit, Cond.fieldLink RX1 9 "BrassWays$Setup" "kind" "I", Cond.fieldLink RX1 15 "BrassWays$Setup" "lengths" "[I", Cond.fieldLink RX1 19 "BrassWays$Setup" "rules" "[I", Cond.fieldLink RX1 22 "BrassWays$Setup" "notes" "[I", Cond.fieldLink RX1 25 "BrassWays$Setup" "size" "I", Cond.instanceMethod yX0_init, Cond.code yX0_init cX0_init 1 none, Cond.methodLink RX0 3 objectInit, Cond.fieldLink RX0 9 "BrassWays$Planner" "size" "I", Cond.fieldLink RX0 15 "BrassWays$Planner" "found" "[I", Cond.fieldLink RX0 19 "BrassWays$Planner" "wayIn" "[I", Cond.fieldLink RX0 22 "BrassWays$Planner" "behind" "[I", Cond.fieldLink RX0 25 "BrassWays$Planner" "onward" "[I", Cond.arrayClass .long, Cond.fieldLink RX0 28 "BrassWays$Planner" "ties" "[J", Cond.methodLink RL 12 yX3_init, Cond.instanceMethod yX3_init, Cond.code yX3_init cX3_init 1 none]
def wsL_law_r3 : List Cond := [Cond.methodLink RX3 1 objectInit, Cond.fieldLink RX3 7 "BrassWaysModel" "state" "[I", Cond.fieldLink RX3 13 "BrassWaysModel" "images" "[I", Cond.arrayClass .boolean, Cond.fieldLink RX3 16 "BrassWaysModel" "isKept" "[Z", Cond.fieldLink RX3 20 "BrassWaysModel" "rest" "[I", Cond.fieldLink RX3 23 "BrassWaysModel" "ways" "[J", Cond.fieldLink RX3 27 "BrassWaysModel" "leastWays" "[J", Cond.fieldLink RX3 30 "BrassWaysModel" "ahead" "[I", Cond.methodLink RL 13 yX2_horn, Cond.instanceMethod yX2_horn, Cond.selects RX2 yX2_horn yX2_horn, Cond.code yX2_horn cX2_horn 3 (some .int), Cond.fieldLink RX2 44 "BrassWays$Setup" "kind" "I", Cond.methodLink RL 17 yX3_horn, Cond.instanceMethod yX3_horn, Cond.selects RX3 yX3_horn yX3_horn, Cond.code yX3_horn cX3_horn 3 (some .int), Cond.methodLink RX3 33 yX3_in, Cond.static yX3_in, Cond.code yX3_in cX3_in 3 (some .boolean), Cond.methodLink RL 18 yX2_valve, Cond.instanceMethod yX2_valve, Cond.selects RX2 yX2_valve yX2_valve]
def wsL_law_r4 : List Cond := [Cond.code yX2_valve cX2_valve 4 (some .int), Cond.fieldLink RX2 51 "BrassWays$Setup" "lengths" "[I", Cond.methodLink RX2 47 yX2_isValve, Cond.static yX2_isValve, Cond.code yX2_isValve cX2_isValve 1 (some .boolean), Cond.methodLink RL 22 yX3_valve, Cond.instanceMethod yX3_valve, Cond.selects RX3 yX3_valve yX3_valve, Cond.code yX3_valve cX3_valve 4 (some .int), Cond.methodLink RL 23 yX2_rule, Cond.instanceMethod yX2_rule, Cond.selects RX2 yX2_rule yX2_rule, Cond.code yX2_rule cX2_rule 4 (some .int), Cond.fieldLink RX2 54 "BrassWays" "RULE_TOP" "[I", Cond.fieldLink RX2 57 "BrassWays$Setup" "rules" "[I", Cond.methodLink RL 26 yX3_rule, Cond.instanceMethod yX3_rule, Cond.selects RX3 yX3_rule yX3_rule, Cond.code yX3_rule cX3_rule 4 (some .int), Cond.methodLink RL 27 yX2_lowers, Cond.instanceMethod yX2_lowers, Cond.selects RX2 yX2_lowers yX2_lowers, Cond.code yX2_lowers cX2_lowers 2 (some .int), Cond.methodLink RX2 60 yX1_hasSetting]
def wsL_law_r5 : List Cond := [Cond.instanceMethod yX1_hasSetting, Cond.selects RX1 yX1_hasSetting yX1_hasSetting, Cond.code yX1_hasSetting cX1_hasSetting 2 (some .boolean), Cond.methodLink RX2 63 yX1_dropOf, Cond.instanceMethod yX1_dropOf, Cond.selects RX1 yX1_dropOf yX1_dropOf, Cond.code yX1_dropOf cX1_dropOf 2 (some .int), Cond.static yX2_valveDrop, Cond.code yX2_valveDrop cX2_valveDrop 6 (some .int), Cond.methodLink RL 30 yX3_lowers, Cond.instanceMethod yX3_lowers, Cond.selects RX3 yX3_lowers yX3_lowers, Cond.code yX3_lowers cX3_lowers 2 (some .int), Cond.methodLink RX3 37 yX3_isSetting, Cond.instanceMethod yX3_isSetting, Cond.selects RX3 yX3_isSetting yX3_isSetting, Cond.code yX3_isSetting cX3_isSetting 2 (some .boolean), Cond.methodLink RX3 48 yX3_lowersBy, Cond.instanceMethod yX3_lowersBy, Cond.selects RX3 yX3_lowersBy yX3_lowersBy, Cond.code yX3_lowersBy cX3_lowersBy 4 (some .int), Cond.methodLink RX3 41 yX3_bits, Cond.static yX3_bits, Cond.code yX3_bits cX3_bits 1 (some .int)]
def wsL_law_r6 : List Cond := [Cond.methodLink RL 31 yX2_off, Cond.instanceMethod yX2_off, Cond.selects RX2 yX2_off yX2_off, Cond.code yX2_off cX2_off 3 (some .int), Cond.methodLink RX2 67 yX1_hasWay, Cond.instanceMethod yX1_hasWay, Cond.selects RX1 yX1_hasWay yX1_hasWay, Cond.code yX1_hasWay cX1_hasWay 2 (some .boolean), Cond.methodLink RX1 34 yX1_hasSetting, Cond.methodLink RX2 70 yX2_isNote, Cond.static yX2_isNote, Cond.code yX2_isNote cX2_isNote 1 (some .boolean), Cond.methodLink RX2 73 yX1_offBy, Cond.instanceMethod yX1_offBy, Cond.selects RX1 yX1_offBy yX1_offBy, Cond.code yX1_offBy cX1_offBy 3 (some .int), Cond.methodLink RX1 45 yX1_dropOf, Cond.methodLink RL 34 yX3_off, Cond.instanceMethod yX3_off, Cond.selects RX3 yX3_off yX3_off, Cond.code yX3_off cX3_off 3 (some .int), Cond.methodLink RX3 51 yX3_isWay, Cond.instanceMethod yX3_isWay, Cond.selects RX3 yX3_isWay yX3_isWay]
def wsL_law_r7 : List Cond := [Cond.code yX3_isWay cX3_isWay 2 (some .boolean), Cond.methodLink RX3 61 yX3_isNote, Cond.static yX3_isNote, Cond.code yX3_isNote cX3_isNote 1 (some .boolean), Cond.methodLink RX3 54 yX3_offOf, Cond.instanceMethod yX3_offOf, Cond.selects RX3 yX3_offOf yX3_offOf, Cond.code yX3_offOf cX3_offOf 3 (some .int), Cond.methodLink RX3 45 yX3_highOf, Cond.static yX3_highOf, Cond.code yX3_highOf cX3_highOf 1 (some .int), Cond.methodLink RL 35 yX2_ways, Cond.instanceMethod yX2_ways, Cond.selects RX2 yX2_ways yX2_ways, Cond.code yX2_ways cX2_ways 4 (some .int), Cond.methodLink RX2 77 yX1_gatherWays, Cond.instanceMethod yX1_gatherWays, Cond.selects RX1 yX1_gatherWays yX1_gatherWays, Cond.code yX1_gatherWays cX1_gatherWays 6 (some .int), Cond.methodLink RX1 56 Lib.Math.abs.name, Cond.static Lib.Math.abs.name, Cond.initialized "java/lang/Math", Cond.code Lib.Math.abs.name Lib.Math.abs.code 1 (some .int), Cond.methodLink RX1 49 yX1_hasWay]
def wsL_law_r8 : List Cond := [Cond.methodLink RX1 52 yX1_offBy, Cond.methodLink RL 38 yX3_ways, Cond.instanceMethod yX3_ways, Cond.selects RX3 yX3_ways yX3_ways, Cond.code yX3_ways cX3_ways 5 (some .int), Cond.methodLink RX3 68 yX3_waysOf, Cond.instanceMethod yX3_waysOf, Cond.selects RX3 yX3_waysOf yX3_waysOf, Cond.code yX3_waysOf cX3_waysOf 4 (some .int), Cond.methodLink RX3 64 yX3_sounds, Cond.instanceMethod yX3_sounds, Cond.selects RX3 yX3_sounds yX3_sounds, Cond.code yX3_sounds cX3_sounds 3 (some .boolean), Cond.methodLink RX3 58 yX3_size, Cond.static yX3_size, Cond.code yX3_size cX3_size 1 (some .int), Cond.methodLink RL 39 yX2_truest, Cond.instanceMethod yX2_truest, Cond.selects RX2 yX2_truest yX2_truest, Cond.code yX2_truest cX2_truest 7 (some .int), Cond.constant RX2 81 (1000000), Cond.methodLink RX2 82 Lib.Math.abs.name, Cond.methodLink RL 42 yX3_truest, Cond.instanceMethod yX3_truest]
def wsL_law_r9 : List Cond := [Cond.selects RX3 yX3_truest yX3_truest, Cond.code yX3_truest cX3_truest 4 (some .int), Cond.methodLink RL 43 yX2_range, Cond.instanceMethod yX2_range, Cond.selects RX2 yX2_range yX2_range, Cond.code yX2_range cX2_range 5 (some .int), Cond.methodLink RL 46 yX3_range, Cond.instanceMethod yX3_range, Cond.selects RX3 yX3_range yX3_range, Cond.code yX3_range cX3_range 5 (some .int), Cond.methodLink RL 47 yX2_note, Cond.instanceMethod yX2_note, Cond.selects RX2 yX2_note yX2_note, Cond.code yX2_note cX2_note 3 (some .int), Cond.fieldLink RX2 87 "BrassWays$Setup" "size" "I", Cond.fieldLink RX2 90 "BrassWays$Setup" "notes" "[I", Cond.methodLink RL 50 yX3_note, Cond.instanceMethod yX3_note, Cond.selects RX3 yX3_note yX3_note, Cond.code yX3_note cX3_note 2 (some .int), Cond.methodLink RL 51 yX2_set, Cond.instanceMethod yX2_set, Cond.selects RX2 yX2_set yX2_set, Cond.code yX2_set cX2_set 4 (some .int)]
def wsL_law_r10 : List Cond := [Cond.methodLink RX2 93 yX2_isPlace, Cond.instanceMethod yX2_isPlace, Cond.selects RX2 yX2_isPlace yX2_isPlace, Cond.code yX2_isPlace cX2_isPlace 2 (some .boolean), Cond.methodLink RL 54 yX3_set, Cond.instanceMethod yX3_set, Cond.selects RX3 yX3_set yX3_set, Cond.code yX3_set cX3_set 4 (some .int), Cond.methodLink RX3 71 yX3_isPlace, Cond.instanceMethod yX3_isPlace, Cond.selects RX3 yX3_isPlace yX3_isPlace, Cond.code yX3_isPlace cX3_isPlace 2 (some .boolean), Cond.methodLink RL 55 yX2_clear, Cond.instanceMethod yX2_clear, Cond.selects RX2 yX2_clear yX2_clear, Cond.code yX2_clear cX2_clear 2 (some .int), Cond.methodLink RL 59 yX3_clear, Cond.instanceMethod yX3_clear, Cond.selects RX3 yX3_clear yX3_clear, Cond.code yX3_clear cX3_clear 2 (some .int), Cond.methodLink RL 60 yX2_effort, Cond.instanceMethod yX2_effort, Cond.selects RX2 yX2_effort yX2_effort, Cond.code yX2_effort cX2_effort 3 (some .int)]
def wsL_law_r11 : List Cond := [Cond.methodLink RX2 96 yX1_motion, Cond.instanceMethod yX1_motion, Cond.selects RX1 yX1_motion yX1_motion, Cond.code yX1_motion cX1_motion 7 (some .int), Cond.methodLink RX1 61 yJ6_bitCount_0f7a4, Cond.static yJ6_bitCount_0f7a4, Cond.initialized RJ6, Cond.code yJ6_bitCount_0f7a4 cJ6_bitCount_0f7a4 1 (some .int), Cond.constant RJ6 265 (1431655765), Cond.constant RJ6 266 (858993459), Cond.constant RJ6 267 (252645135), Cond.methodLink RL 63 yX3_effort, Cond.instanceMethod yX3_effort, Cond.selects RX3 yX3_effort yX3_effort, Cond.code yX3_effort cX3_effort 3 (some .int), Cond.methodLink RX3 74 yX3_effortOf, Cond.instanceMethod yX3_effortOf, Cond.selects RX3 yX3_effortOf yX3_effortOf, Cond.code yX3_effortOf cX3_effortOf 4 (some .int), Cond.methodLink RL 64 yX2_least, Cond.instanceMethod yX2_least, Cond.selects RX2 yX2_least yX2_least, Cond.code yX2_least cX2_least 2 (some .int), Cond.methodLink RX2 99 yX0_workOut]
def wsL_law_r12 : List Cond := [Cond.instanceMethod yX0_workOut, Cond.selects RX0 yX0_workOut yX0_workOut, Cond.code yX0_workOut cX0_workOut 4 none, Cond.fieldLink RX0 32 "BrassWays$Setup" "size" "I", Cond.fieldLink RX0 35 "BrassWays$Setup" "notes" "[I", Cond.methodLink RX0 38 yX1_gatherWays, Cond.methodLink RX0 42 yX0_weigh, Cond.instanceMethod yX0_weigh, Cond.selects RX0 yX0_weigh yX0_weigh, Cond.code yX0_weigh cX0_weigh 10 none, Cond.constant RX0 46 (1000000), Cond.methodLink RX0 47 yX1_motion, Cond.methodLink RX0 51 yX1_fault, Cond.instanceMethod yX1_fault, Cond.selects RX1 yX1_fault yX1_fault, Cond.code yX1_fault cX1_fault 3 (some .int), Cond.methodLink RX2 103 yX0_hasPlan, Cond.instanceMethod yX0_hasPlan, Cond.selects RX0 yX0_hasPlan yX0_hasPlan, Cond.code yX0_hasPlan cX0_hasPlan 1 (some .boolean), Cond.methodLink RX0 54 yX0_countAll, Cond.instanceMethod yX0_countAll, Cond.selects RX0 yX0_countAll yX0_countAll, Cond.code yX0_countAll cX0_countAll 4 (some .long)]
def wsL_law_r13 : List Cond := [Cond.methodLink RX2 107 yX0_leastCost, Cond.instanceMethod yX0_leastCost, Cond.selects RX0 yX0_leastCost yX0_leastCost, Cond.code yX0_leastCost cX0_leastCost 3 (some .int), Cond.methodLink RX0 58 Lib.Math.min.name, Cond.static Lib.Math.min.name, Cond.code Lib.Math.min.name Lib.Math.min.code 2 (some .int), Cond.methodLink RX2 111 yX0_leastWayAt, Cond.instanceMethod yX0_leastWayAt, Cond.selects RX0 yX0_leastWayAt yX0_leastWayAt, Cond.code yX0_leastWayAt cX0_leastWayAt 5 (some .int), Cond.methodLink RX0 71 yX0_firstMarks, Cond.instanceMethod yX0_firstMarks, Cond.selects RX0 yX0_firstMarks yX0_firstMarks, Cond.code yX0_firstMarks cX0_firstMarks 4 (some .int), Cond.methodLink RX0 67 yX0_leastCost, Cond.methodLink RX0 84 yX0_lowestMark, Cond.static yX0_lowestMark, Cond.code yX0_lowestMark cX0_lowestMark 1 (some .int), Cond.methodLink RX0 74 yX0_nextMarks, Cond.instanceMethod yX0_nextMarks, Cond.selects RX0 yX0_nextMarks yX0_nextMarks, Cond.code yX0_nextMarks cX0_nextMarks 10 (some .int), Cond.methodLink RX0 78 yJ6_bitCount_0f7a4]
def wsL_law_r14 : List Cond := [Cond.methodLink RL 67 yX3_least, Cond.instanceMethod yX3_least, Cond.selects RX3 yX3_least yX3_least, Cond.code yX3_least cX3_least 6 (some .int), Cond.methodLink RX3 90 yX3_layAllRests, Cond.instanceMethod yX3_layAllRests, Cond.selects RX3 yX3_layAllRests yX3_layAllRests, Cond.code yX3_layAllRests cX3_layAllRests 3 none, Cond.methodLink RX3 77 yX3_at, Cond.static yX3_at, Cond.code yX3_at cX3_at 2 (some .int), Cond.methodLink RX3 83 yX3_isAt, Cond.instanceMethod yX3_isAt, Cond.selects RX3 yX3_isAt yX3_isAt, Cond.code yX3_isAt cX3_isAt 3 (some .boolean), Cond.methodLink RX3 86 yX3_layRest, Cond.instanceMethod yX3_layRest, Cond.selects RX3 yX3_layRest yX3_layRest, Cond.code yX3_layRest cX3_layRest 9 none, Cond.methodLink RX3 80 yX3_faultOf, Cond.instanceMethod yX3_faultOf, Cond.selects RX3 yX3_faultOf yX3_faultOf, Cond.code yX3_faultOf cX3_faultOf 3 (some .int), Cond.methodLink RX3 93 yX3_leastOfAll]
def wsL_law_r15 : List Cond := [Cond.instanceMethod yX3_leastOfAll, Cond.selects RX3 yX3_leastOfAll yX3_leastOfAll, Cond.code yX3_leastOfAll cX3_leastOfAll 4 (some .int), Cond.methodLink RX3 97 yX3_nextWay, Cond.instanceMethod yX3_nextWay, Cond.selects RX3 yX3_nextWay yX3_nextWay, Cond.code yX3_nextWay cX3_nextWay 6 (some .int), Cond.methodLink RL 68 yX2_plans, Cond.instanceMethod yX2_plans, Cond.selects RX2 yX2_plans yX2_plans, Cond.code yX2_plans cX2_plans 3 (some .long), Cond.constantLong RX2 115 (-2), Cond.constantLong RX2 127 (-6), Cond.methodLink RX2 117 yX0_countAll, Cond.methodLink RX2 121 yX0_countLeast, Cond.instanceMethod yX0_countLeast, Cond.selects RX0 yX0_countLeast yX0_countLeast, Cond.code yX0_countLeast cX0_countLeast 5 (some .long), Cond.methodLink RX0 63 yX0_hasPlan, Cond.methodLink RX2 124 yX0_countWaysAt, Cond.instanceMethod yX0_countWaysAt, Cond.selects RX0 yX0_countWaysAt yX0_countWaysAt, Cond.code yX0_countWaysAt cX0_countWaysAt 5 (some .int), Cond.methodLink RL 72 yX3_plans]
def wsL_law_r16 : List Cond := [Cond.instanceMethod yX3_plans, Cond.selects RX3 yX3_plans yX3_plans, Cond.code yX3_plans cX3_plans 6 (some .long), Cond.constantLong RX3 104 (-2), Cond.constantLong RX3 109 (-6), Cond.methodLink RX3 106 yX3_layAhead, Cond.instanceMethod yX3_layAhead, Cond.selects RX3 yX3_layAhead yX3_layAhead, Cond.code yX3_layAhead cX3_layAhead 3 none, Cond.methodLink RX3 101 yX3_leastAhead, Cond.instanceMethod yX3_leastAhead, Cond.selects RX3 yX3_leastAhead yX3_leastAhead, Cond.code yX3_leastAhead cX3_leastAhead 7 (some .int), Cond.methodLink RX3 111 yX3_leastAt, Cond.instanceMethod yX3_leastAt, Cond.selects RX3 yX3_leastAt yX3_leastAt, Cond.code yX3_leastAt cX3_leastAt 6 (some .int), Cond.methodLink RL 73 yX2_dumb, Cond.instanceMethod yX2_dumb, Cond.selects RX2 yX2_dumb yX2_dumb, Cond.code yX2_dumb cX2_dumb 2 (some .int), Cond.methodLink RL 76 yX3_dumb, Cond.instanceMethod yX3_dumb, Cond.selects RX3 yX3_dumb yX3_dumb]
def wsL_law_r17 : List Cond := [Cond.code yX3_dumb cX3_dumb 2 (some .int), Cond.methodLink RL 77 yX2_trill, Cond.instanceMethod yX2_trill, Cond.selects RX2 yX2_trill yX2_trill, Cond.code yX2_trill cX2_trill 3 (some .int), Cond.methodLink RX2 129 yX2_leastMotion, Cond.instanceMethod yX2_leastMotion, Cond.selects RX2 yX2_leastMotion yX2_leastMotion, Cond.code yX2_leastMotion cX2_leastMotion 8 (some .int), Cond.methodLink RX2 138 Lib.Math.min.name, Cond.methodLink RL 80 yX3_trill, Cond.instanceMethod yX3_trill, Cond.selects RX3 yX3_trill yX3_trill, Cond.code yX3_trill cX3_trill 3 (some .int), Cond.methodLink RX3 114 yX3_trillOf, Cond.instanceMethod yX3_trillOf, Cond.selects RX3 yX3_trillOf yX3_trillOf, Cond.code yX3_trillOf cX3_trillOf 7 (some .int), Cond.methodLink RL 81 yX2_awkward, Cond.instanceMethod yX2_awkward, Cond.selects RX2 yX2_awkward yX2_awkward, Cond.code yX2_awkward cX2_awkward 5 (some .int), Cond.methodLink RL 84 yX3_awkward, Cond.instanceMethod yX3_awkward]
def wsL_law_r18 : List Cond := [Cond.selects RX3 yX3_awkward yX3_awkward, Cond.code yX3_awkward cX3_awkward 5 (some .int), Cond.methodLink RL 85 yX2_tune, Cond.instanceMethod yX2_tune, Cond.selects RX2 yX2_tune yX2_tune, Cond.code yX2_tune cX2_tune 7 (some .int), Cond.methodLink RX2 132 yX2_missOfPart, Cond.instanceMethod yX2_missOfPart, Cond.selects RX2 yX2_missOfPart yX2_missOfPart, Cond.code yX2_missOfPart cX2_missOfPart 5 (some .int), Cond.methodLink RX2 141 yX2_valveDrop, Cond.methodLink RX2 144 yX2_nearestMiss, Cond.instanceMethod yX2_nearestMiss, Cond.selects RX2 yX2_nearestMiss yX2_nearestMiss, Cond.code yX2_nearestMiss cX2_nearestMiss 6 (some .int), Cond.fieldLink RX2 147 "BrassWays" "HIGH" "[I", Cond.methodLink RL 88 yX3_tune, Cond.instanceMethod yX3_tune, Cond.selects RX3 yX3_tune yX3_tune, Cond.code yX3_tune cX3_tune 8 (some .int), Cond.methodLink RX3 117 yX3_offOfPart, Cond.instanceMethod yX3_offOfPart, Cond.selects RX3 yX3_offOfPart yX3_offOfPart, Cond.code yX3_offOfPart cX3_offOfPart 6 (some .int)]
def wsL_law_r19 : List Cond := [Cond.methodLink RL 89 yX2_image, Cond.instanceMethod yX2_image, Cond.selects RX2 yX2_image yX2_image, Cond.code yX2_image cX2_image 2 (some .int), Cond.methodLink RX2 135 yX1_takeFrom, Cond.instanceMethod yX1_takeFrom, Cond.selects RX1 yX1_takeFrom yX1_takeFrom, Cond.code yX1_takeFrom cX1_takeFrom 2 none, Cond.methodLink RX1 28 arraycopyName, Cond.native arraycopyName, Cond.static arraycopyName, Cond.initialized "java/lang/System", Cond.methodLink RL 92 yX3_image, Cond.instanceMethod yX3_image, Cond.selects RX3 yX3_image yX3_image, Cond.code yX3_image cX3_image 3 (some .int), Cond.methodLink RL 93 yX2_restore, Cond.instanceMethod yX2_restore, Cond.selects RX2 yX2_restore yX2_restore, Cond.code yX2_restore cX2_restore 2 (some .int), Cond.methodLink RL 96 yX3_restore, Cond.instanceMethod yX3_restore, Cond.selects RX3 yX3_restore yX3_restore, Cond.code yX3_restore cX3_restore 3 (some .int)]
def wsL_law_r20 : List Cond := [Cond.methodLink RL 97 yX2_count, Cond.instanceMethod yX2_count, Cond.selects RX2 yX2_count yX2_count, Cond.code yX2_count cX2_count 2 (some .int), Cond.methodLink RL 100 yX3_count, Cond.instanceMethod yX3_count, Cond.selects RX3 yX3_count yX3_count, Cond.code yX3_count cX3_count 2 (some .int)]
def wsL_law : List Cond := (wsL_law_r1 ++ (wsL_law_r2 ++ (wsL_law_r3 ++ (wsL_law_r4 ++ (wsL_law_r5 ++ (wsL_law_r6 ++ (wsL_law_r7 ++ (wsL_law_r8 ++ (wsL_law_r9 ++ (wsL_law_r10 ++ (wsL_law_r11 ++ (wsL_law_r12 ++ (wsL_law_r13 ++ (wsL_law_r14 ++ (wsL_law_r15 ++ (wsL_law_r16 ++ (wsL_law_r17 ++ (wsL_law_r18 ++ (wsL_law_r19 ++ wsL_law_r20))))))))))))))))))) ++ wsX20 ++ wsX30 ++ wsX10 ++ wsX00 ++ ([] : List Cond)
abbrev vwCl : List vw_C := [(RX0, TX0, 6), (RX1, TX1, 5), (RX2, TX2, 8), (RX3, TX3, 7)]
end
section
theorem inJ6 : ∀ w ∈ wsJ60, w ∈ lw_tbl := by decide +kernel
theorem inJ9 : ∀ w ∈ wsJ90, w ∈ lw_tbl := by decide +kernel
theorem inJ10 : ∀ w ∈ wsJ100, w ∈ lw_tbl := by decide +kernel
theorem dX0_init_0 : decode cX0_init 0 = .ok (.aload_n 0, 1) := by decide +kernel
theorem dX0_init_1 : decode cX0_init 1 = .ok (.invokespecial 3, 3) := by decide +kernel
theorem dX0_init_4 : decode cX0_init 4 = .ok (.aload_n 0, 1) := by decide +kernel
theorem dX0_init_5 : decode cX0_init 5 = .ok (.iconst 0, 1) := by decide +kernel
theorem dX0_init_6 : decode cX0_init 6 = .ok (.putfield 9, 3) := by decide +kernel
theorem dX0_init_9 : decode cX0_init 9 = .ok (.aload_n 0, 1) := by decide +kernel
theorem dX0_init_10 : decode cX0_init 10 = .ok (.bipush 12, 2) := by decide +kernel
theorem dX0_init_12 : decode cX0_init 12 = .ok (.newarray .int, 2) := by decide +kernel
theorem dX0_init_14 : decode cX0_init 14 = .ok (.putfield 15, 3) := by decide +kernel
theorem dX0_init_17 : decode cX0_init 17 = .ok (.aload_n 0, 1) := by decide +kernel
theorem dX0_init_18 : decode cX0_init 18 = .ok (.bipush 96, 2) := by decide +kernel
theorem dX0_init_20 : decode cX0_init 20 = .ok (.newarray .int, 2) := by decide +kernel
theorem dX0_init_22 : decode cX0_init 22 = .ok (.putfield 19, 3) := by decide +kernel
theorem dX0_init_25 : decode cX0_init 25 = .ok (.aload_n 0, 1) := by decide +kernel
theorem dX0_init_26 : decode cX0_init 26 = .ok (.bipush 96, 2) := by decide +kernel
theorem dX0_init_28 : decode cX0_init 28 = .ok (.newarray .int, 2) := by decide +kernel
theorem dX0_init_30 : decode cX0_init 30 = .ok (.putfield 22, 3) := by decide +kernel
theorem dX0_init_33 : decode cX0_init 33 = .ok (.aload_n 0, 1) := by decide +kernel
theorem dX0_init_34 : decode cX0_init 34 = .ok (.bipush 96, 2) := by decide +kernel
theorem dX0_init_36 : decode cX0_init 36 = .ok (.newarray .int, 2) := by decide +kernel
theorem dX0_init_38 : decode cX0_init 38 = .ok (.putfield 25, 3) := by decide +kernel
theorem dX0_init_41 : decode cX0_init 41 = .ok (.aload_n 0, 1) := by decide +kernel
theorem dX0_init_42 : decode cX0_init 42 = .ok (.bipush 96, 2) := by decide +kernel
theorem dX0_init_44 : decode cX0_init 44 = .ok (.newarray .long, 2) := by decide +kernel
theorem dX0_init_46 : decode cX0_init 46 = .ok (.putfield 28, 3) := by decide +kernel
theorem dX0_init_49 : decode cX0_init 49 = .ok (.return_, 1) := by decide +kernel
set_option maxRecDepth 20000 in
theorem ggX0_workOut_X1_gatherWays : GoodIn wsX0_workOut wsX1_gatherWays := goodIn_r _ [10, 11, 12, 13, 14, 15, 16, 17, 18, 9, 19, 20, 21, 22, 23, 24, 25, 26, 27, 28, 29, 30, 31, 32, 33, 34, 35, 36, 61, 62, 63, 64, 65] (by decide +kernel) (by decide +kernel)
set_option maxRecDepth 20000 in
theorem gX0_workOut_X1_gatherWays : GoodIn wsX0_workOut (wsV RX0 38 RX1 yX1_gatherWays wsX1_gatherWays) := goodIn_app (goodIn_of _ (by decide +kernel)) ggX0_workOut_X1_gatherWays
set_option maxRecDepth 20000 in
theorem ggX0_workOut_X0_weigh : GoodIn wsX0_workOut wsX0_weigh := goodIn_r _ [41, 2, 42, 3, 5, 43, 44, 45, 4, 46, 47, 48, 9, 49, 24, 11, 12, 13, 14, 15, 50, 51, 52, 53, 54, 55, 56, 57, 58, 59, 60, 25, 26, 27, 28, 29, 30, 31, 32, 33, 34, 35, 36, 66, 67, 68, 69, 70, 71, 61, 62, 63, 64, 65] (by decide +kernel) (by decide +kernel)
set_option maxRecDepth 20000 in
theorem gX0_workOut_X0_weigh : GoodIn wsX0_workOut (wsV RX0 42 RX0 yX0_weigh wsX0_weigh) := goodIn_app (goodIn_of _ (by decide +kernel)) ggX0_workOut_X0_weigh
theorem dX0_workOut_0 : decode cX0_workOut 0 = .ok (.aload_n 0, 1) := by decide +kernel
theorem dX0_workOut_1 : decode cX0_workOut 1 = .ok (.aload_n 1, 1) := by decide +kernel
theorem dX0_workOut_2 : decode cX0_workOut 2 = .ok (.getfield 32, 3) := by decide +kernel
theorem dX0_workOut_5 : decode cX0_workOut 5 = .ok (.putfield 9, 3) := by decide +kernel
theorem dX0_workOut_8 : decode cX0_workOut 8 = .ok (.iconst 0, 1) := by decide +kernel
theorem dX0_workOut_9 : decode cX0_workOut 9 = .ok (.istore_n 2, 1) := by decide +kernel
theorem dX0_workOut_10 : decode cX0_workOut 10 = .ok (.iload_n 2, 1) := by decide +kernel
theorem dX0_workOut_11 : decode cX0_workOut 11 = .ok (.aload_n 0, 1) := by decide +kernel
theorem dX0_workOut_12 : decode cX0_workOut 12 = .ok (.getfield 9, 3) := by decide +kernel
theorem dX0_workOut_15 : decode cX0_workOut 15 = .ok (.if_icmp .ge 33, 3) := by decide +kernel
theorem dX0_workOut_18 : decode cX0_workOut 18 = .ok (.aload_n 0, 1) := by decide +kernel
theorem dX0_workOut_19 : decode cX0_workOut 19 = .ok (.getfield 15, 3) := by decide +kernel
theorem dX0_workOut_22 : decode cX0_workOut 22 = .ok (.iload_n 2, 1) := by decide +kernel
theorem dX0_workOut_23 : decode cX0_workOut 23 = .ok (.aload_n 1, 1) := by decide +kernel
theorem dX0_workOut_24 : decode cX0_workOut 24 = .ok (.aload_n 1, 1) := by decide +kernel
theorem dX0_workOut_25 : decode cX0_workOut 25 = .ok (.getfield 35, 3) := by decide +kernel
theorem dX0_workOut_28 : decode cX0_workOut 28 = .ok (.iload_n 2, 1) := by decide +kernel
theorem dX0_workOut_29 : decode cX0_workOut 29 = .ok (.iaload, 1) := by decide +kernel
theorem dX0_workOut_30 : decode cX0_workOut 30 = .ok (.aload_n 0, 1) := by decide +kernel
theorem dX0_workOut_31 : decode cX0_workOut 31 = .ok (.getfield 19, 3) := by decide +kernel
theorem dX0_workOut_34 : decode cX0_workOut 34 = .ok (.bipush 8, 2) := by decide +kernel
theorem dX0_workOut_36 : decode cX0_workOut 36 = .ok (.iload_n 2, 1) := by decide +kernel
theorem dX0_workOut_37 : decode cX0_workOut 37 = .ok (.imul, 1) := by decide +kernel
theorem dX0_workOut_38 : decode cX0_workOut 38 = .ok (.invokevirtual 38, 3) := by decide +kernel
theorem dX0_workOut_41 : decode cX0_workOut 41 = .ok (.iastore, 1) := by decide +kernel
theorem dX0_workOut_42 : decode cX0_workOut 42 = .ok (.iinc 2 1, 3) := by decide +kernel
theorem dX0_workOut_45 : decode cX0_workOut 45 = .ok (.goto (-35), 3) := by decide +kernel
theorem dX0_workOut_48 : decode cX0_workOut 48 = .ok (.aload_n 0, 1) := by decide +kernel
theorem dX0_workOut_49 : decode cX0_workOut 49 = .ok (.getfield 9, 3) := by decide +kernel
theorem dX0_workOut_52 : decode cX0_workOut 52 = .ok (.iconst 1, 1) := by decide +kernel
theorem dX0_workOut_53 : decode cX0_workOut 53 = .ok (.isub, 1) := by decide +kernel
theorem dX0_workOut_54 : decode cX0_workOut 54 = .ok (.istore_n 2, 1) := by decide +kernel
theorem dX0_workOut_55 : decode cX0_workOut 55 = .ok (.iload_n 2, 1) := by decide +kernel
theorem dX0_workOut_56 : decode cX0_workOut 56 = .ok (.ifCond .lt 39, 3) := by decide +kernel
theorem dX0_workOut_59 : decode cX0_workOut 59 = .ok (.iconst 0, 1) := by decide +kernel
theorem dX0_workOut_60 : decode cX0_workOut 60 = .ok (.istore_n 3, 1) := by decide +kernel
theorem dX0_workOut_61 : decode cX0_workOut 61 = .ok (.iload_n 3, 1) := by decide +kernel
theorem dX0_workOut_62 : decode cX0_workOut 62 = .ok (.aload_n 0, 1) := by decide +kernel
theorem dX0_workOut_63 : decode cX0_workOut 63 = .ok (.getfield 15, 3) := by decide +kernel
theorem dX0_workOut_66 : decode cX0_workOut 66 = .ok (.iload_n 2, 1) := by decide +kernel
theorem dX0_workOut_67 : decode cX0_workOut 67 = .ok (.iaload, 1) := by decide +kernel
theorem dX0_workOut_68 : decode cX0_workOut 68 = .ok (.if_icmp .ge 21, 3) := by decide +kernel
theorem dX0_workOut_71 : decode cX0_workOut 71 = .ok (.aload_n 0, 1) := by decide +kernel
theorem dX0_workOut_72 : decode cX0_workOut 72 = .ok (.aload_n 1, 1) := by decide +kernel
theorem dX0_workOut_73 : decode cX0_workOut 73 = .ok (.iload_n 2, 1) := by decide +kernel
theorem dX0_workOut_74 : decode cX0_workOut 74 = .ok (.bipush 8, 2) := by decide +kernel
theorem dX0_workOut_76 : decode cX0_workOut 76 = .ok (.iload_n 2, 1) := by decide +kernel
theorem dX0_workOut_77 : decode cX0_workOut 77 = .ok (.imul, 1) := by decide +kernel
theorem dX0_workOut_78 : decode cX0_workOut 78 = .ok (.iload_n 3, 1) := by decide +kernel
theorem dX0_workOut_79 : decode cX0_workOut 79 = .ok (.iadd, 1) := by decide +kernel
theorem dX0_workOut_80 : decode cX0_workOut 80 = .ok (.invokevirtual 42, 3) := by decide +kernel
theorem dX0_workOut_83 : decode cX0_workOut 83 = .ok (.iinc 3 1, 3) := by decide +kernel
theorem dX0_workOut_86 : decode cX0_workOut 86 = .ok (.goto (-25), 3) := by decide +kernel
theorem dX0_workOut_89 : decode cX0_workOut 89 = .ok (.iinc 2 (-1), 3) := by decide +kernel
theorem dX0_workOut_92 : decode cX0_workOut 92 = .ok (.goto (-37), 3) := by decide +kernel
theorem dX0_workOut_95 : decode cX0_workOut 95 = .ok (.return_, 1) := by decide +kernel
set_option maxRecDepth 20000 in
theorem ggX0_weigh_X1_motion : GoodIn wsX0_weigh wsX1_motion := goodIn_r _ [13, 14, 15, 16, 17, 18, 19, 20, 21, 22, 23, 24, 25, 26, 49, 50, 51, 52, 53] (by decide +kernel) (by decide +kernel)
set_option maxRecDepth 20000 in
theorem gX0_weigh_X1_motion : GoodIn wsX0_weigh (wsV RX0 47 RX1 yX1_motion wsX1_motion) := goodIn_app (goodIn_of _ (by decide +kernel)) ggX0_weigh_X1_motion
set_option maxRecDepth 20000 in
theorem ggX0_weigh_X1_fault : GoodIn wsX0_weigh wsX1_fault := goodIn_r _ [30, 19, 15, 16, 17, 18, 31, 32, 33, 12, 34, 35, 36, 37, 38, 14, 39, 40, 41, 42, 49, 50, 51, 52, 53] (by decide +kernel) (by decide +kernel)
set_option maxRecDepth 20000 in
theorem gX0_weigh_X1_fault : GoodIn wsX0_weigh (wsV RX0 51 RX1 yX1_fault wsX1_fault) := goodIn_app (goodIn_of _ (by decide +kernel)) ggX0_weigh_X1_fault
theorem dX0_weigh_0 : decode cX0_weigh 0 = .ok (.iconst 0, 1) := by decide +kernel
theorem dX0_weigh_1 : decode cX0_weigh 1 = .ok (.istore 4, 2) := by decide +kernel
theorem dX0_weigh_3 : decode cX0_weigh 3 = .ok (.lconst 1, 1) := by decide +kernel
theorem dX0_weigh_4 : decode cX0_weigh 4 = .ok (.lstore 5, 2) := by decide +kernel
theorem dX0_weigh_6 : decode cX0_weigh 6 = .ok (.iload_n 2, 1) := by decide +kernel
theorem dX0_weigh_7 : decode cX0_weigh 7 = .ok (.iconst 1, 1) := by decide +kernel
theorem dX0_weigh_8 : decode cX0_weigh 8 = .ok (.iadd, 1) := by decide +kernel
theorem dX0_weigh_9 : decode cX0_weigh 9 = .ok (.aload_n 0, 1) := by decide +kernel
theorem dX0_weigh_10 : decode cX0_weigh 10 = .ok (.getfield 9, 3) := by decide +kernel
theorem dX0_weigh_13 : decode cX0_weigh 13 = .ok (.if_icmp .ge 113, 3) := by decide +kernel
theorem dX0_weigh_16 : decode cX0_weigh 16 = .ok (.ldc 46, 2) := by decide +kernel
theorem dX0_weigh_18 : decode cX0_weigh 18 = .ok (.istore 4, 2) := by decide +kernel
theorem dX0_weigh_20 : decode cX0_weigh 20 = .ok (.lconst 0, 1) := by decide +kernel
theorem dX0_weigh_21 : decode cX0_weigh 21 = .ok (.lstore 5, 2) := by decide +kernel
theorem dX0_weigh_23 : decode cX0_weigh 23 = .ok (.bipush 8, 2) := by decide +kernel
theorem dX0_weigh_25 : decode cX0_weigh 25 = .ok (.iload_n 2, 1) := by decide +kernel
theorem dX0_weigh_26 : decode cX0_weigh 26 = .ok (.iconst 1, 1) := by decide +kernel
theorem dX0_weigh_27 : decode cX0_weigh 27 = .ok (.iadd, 1) := by decide +kernel
theorem dX0_weigh_28 : decode cX0_weigh 28 = .ok (.imul, 1) := by decide +kernel
theorem dX0_weigh_29 : decode cX0_weigh 29 = .ok (.istore 7, 2) := by decide +kernel
theorem dX0_weigh_31 : decode cX0_weigh 31 = .ok (.iload 7, 2) := by decide +kernel
theorem dX0_weigh_33 : decode cX0_weigh 33 = .ok (.istore 8, 2) := by decide +kernel
theorem dX0_weigh_35 : decode cX0_weigh 35 = .ok (.iload 8, 2) := by decide +kernel
theorem dX0_weigh_37 : decode cX0_weigh 37 = .ok (.iload 7, 2) := by decide +kernel
theorem dX0_weigh_39 : decode cX0_weigh 39 = .ok (.aload_n 0, 1) := by decide +kernel
theorem dX0_weigh_40 : decode cX0_weigh 40 = .ok (.getfield 15, 3) := by decide +kernel
theorem dX0_weigh_43 : decode cX0_weigh 43 = .ok (.iload_n 2, 1) := by decide +kernel
theorem dX0_weigh_44 : decode cX0_weigh 44 = .ok (.iconst 1, 1) := by decide +kernel
theorem dX0_weigh_45 : decode cX0_weigh 45 = .ok (.iadd, 1) := by decide +kernel
theorem dX0_weigh_46 : decode cX0_weigh 46 = .ok (.iaload, 1) := by decide +kernel
theorem dX0_weigh_47 : decode cX0_weigh 47 = .ok (.iadd, 1) := by decide +kernel
theorem dX0_weigh_48 : decode cX0_weigh 48 = .ok (.if_icmp .ge 78, 3) := by decide +kernel
theorem dX0_weigh_51 : decode cX0_weigh 51 = .ok (.aload_n 1, 1) := by decide +kernel
theorem dX0_weigh_52 : decode cX0_weigh 52 = .ok (.aload_n 0, 1) := by decide +kernel
theorem dX0_weigh_53 : decode cX0_weigh 53 = .ok (.getfield 19, 3) := by decide +kernel
theorem dX0_weigh_56 : decode cX0_weigh 56 = .ok (.iload_n 3, 1) := by decide +kernel
theorem dX0_weigh_57 : decode cX0_weigh 57 = .ok (.iaload, 1) := by decide +kernel
theorem dX0_weigh_58 : decode cX0_weigh 58 = .ok (.aload_n 0, 1) := by decide +kernel
theorem dX0_weigh_59 : decode cX0_weigh 59 = .ok (.getfield 19, 3) := by decide +kernel
theorem dX0_weigh_62 : decode cX0_weigh 62 = .ok (.iload 8, 2) := by decide +kernel
theorem dX0_weigh_64 : decode cX0_weigh 64 = .ok (.iaload, 1) := by decide +kernel
theorem dX0_weigh_65 : decode cX0_weigh 65 = .ok (.invokevirtual 47, 3) := by decide +kernel
theorem dX0_weigh_68 : decode cX0_weigh 68 = .ok (.aload_n 0, 1) := by decide +kernel
theorem dX0_weigh_69 : decode cX0_weigh 69 = .ok (.getfield 25, 3) := by decide +kernel
theorem dX0_weigh_72 : decode cX0_weigh 72 = .ok (.iload 8, 2) := by decide +kernel
theorem dX0_weigh_74 : decode cX0_weigh 74 = .ok (.iaload, 1) := by decide +kernel
theorem dX0_weigh_75 : decode cX0_weigh 75 = .ok (.iadd, 1) := by decide +kernel
theorem dX0_weigh_76 : decode cX0_weigh 76 = .ok (.istore 9, 2) := by decide +kernel
theorem dX0_weigh_78 : decode cX0_weigh 78 = .ok (.iload 9, 2) := by decide +kernel
theorem dX0_weigh_80 : decode cX0_weigh 80 = .ok (.iload 4, 2) := by decide +kernel
theorem dX0_weigh_82 : decode cX0_weigh 82 = .ok (.if_icmp .ge 19, 3) := by decide +kernel
theorem dX0_weigh_85 : decode cX0_weigh 85 = .ok (.iload 9, 2) := by decide +kernel
theorem dX0_weigh_87 : decode cX0_weigh 87 = .ok (.istore 4, 2) := by decide +kernel
theorem dX0_weigh_89 : decode cX0_weigh 89 = .ok (.aload_n 0, 1) := by decide +kernel
theorem dX0_weigh_90 : decode cX0_weigh 90 = .ok (.getfield 28, 3) := by decide +kernel
theorem dX0_weigh_93 : decode cX0_weigh 93 = .ok (.iload 8, 2) := by decide +kernel
theorem dX0_weigh_95 : decode cX0_weigh 95 = .ok (.laload, 1) := by decide +kernel
theorem dX0_weigh_96 : decode cX0_weigh 96 = .ok (.lstore 5, 2) := by decide +kernel
theorem dX0_weigh_98 : decode cX0_weigh 98 = .ok (.goto 22, 3) := by decide +kernel
theorem dX0_weigh_101 : decode cX0_weigh 101 = .ok (.iload 9, 2) := by decide +kernel
theorem dX0_weigh_103 : decode cX0_weigh 103 = .ok (.iload 4, 2) := by decide +kernel
theorem dX0_weigh_105 : decode cX0_weigh 105 = .ok (.if_icmp .ne 15, 3) := by decide +kernel
theorem dX0_weigh_108 : decode cX0_weigh 108 = .ok (.lload 5, 2) := by decide +kernel
theorem dX0_weigh_110 : decode cX0_weigh 110 = .ok (.aload_n 0, 1) := by decide +kernel
theorem dX0_weigh_111 : decode cX0_weigh 111 = .ok (.getfield 28, 3) := by decide +kernel
theorem dX0_weigh_114 : decode cX0_weigh 114 = .ok (.iload 8, 2) := by decide +kernel
theorem dX0_weigh_116 : decode cX0_weigh 116 = .ok (.laload, 1) := by decide +kernel
theorem dX0_weigh_117 : decode cX0_weigh 117 = .ok (.ladd, 1) := by decide +kernel
theorem dX0_weigh_118 : decode cX0_weigh 118 = .ok (.lstore 5, 2) := by decide +kernel
theorem dX0_weigh_120 : decode cX0_weigh 120 = .ok (.iinc 8 1, 3) := by decide +kernel
theorem dX0_weigh_123 : decode cX0_weigh 123 = .ok (.goto (-88), 3) := by decide +kernel
theorem dX0_weigh_126 : decode cX0_weigh 126 = .ok (.aload_n 0, 1) := by decide +kernel
theorem dX0_weigh_127 : decode cX0_weigh 127 = .ok (.getfield 22, 3) := by decide +kernel
theorem dX0_weigh_130 : decode cX0_weigh 130 = .ok (.iload_n 3, 1) := by decide +kernel
theorem dX0_weigh_131 : decode cX0_weigh 131 = .ok (.iload 4, 2) := by decide +kernel
theorem dX0_weigh_133 : decode cX0_weigh 133 = .ok (.iastore, 1) := by decide +kernel
theorem dX0_weigh_134 : decode cX0_weigh 134 = .ok (.aload_n 0, 1) := by decide +kernel
theorem dX0_weigh_135 : decode cX0_weigh 135 = .ok (.getfield 25, 3) := by decide +kernel
theorem dX0_weigh_138 : decode cX0_weigh 138 = .ok (.iload_n 3, 1) := by decide +kernel
theorem dX0_weigh_139 : decode cX0_weigh 139 = .ok (.iload 4, 2) := by decide +kernel
theorem dX0_weigh_141 : decode cX0_weigh 141 = .ok (.aload_n 1, 1) := by decide +kernel
theorem dX0_weigh_142 : decode cX0_weigh 142 = .ok (.aload_n 0, 1) := by decide +kernel
theorem dX0_weigh_143 : decode cX0_weigh 143 = .ok (.getfield 19, 3) := by decide +kernel
theorem dX0_weigh_146 : decode cX0_weigh 146 = .ok (.iload_n 3, 1) := by decide +kernel
theorem dX0_weigh_147 : decode cX0_weigh 147 = .ok (.iaload, 1) := by decide +kernel
theorem dX0_weigh_148 : decode cX0_weigh 148 = .ok (.aload_n 1, 1) := by decide +kernel
theorem dX0_weigh_149 : decode cX0_weigh 149 = .ok (.getfield 35, 3) := by decide +kernel
theorem dX0_weigh_152 : decode cX0_weigh 152 = .ok (.iload_n 2, 1) := by decide +kernel
theorem dX0_weigh_153 : decode cX0_weigh 153 = .ok (.iaload, 1) := by decide +kernel
theorem dX0_weigh_154 : decode cX0_weigh 154 = .ok (.invokevirtual 51, 3) := by decide +kernel
theorem dX0_weigh_157 : decode cX0_weigh 157 = .ok (.iadd, 1) := by decide +kernel
theorem dX0_weigh_158 : decode cX0_weigh 158 = .ok (.iastore, 1) := by decide +kernel
theorem dX0_weigh_159 : decode cX0_weigh 159 = .ok (.aload_n 0, 1) := by decide +kernel
theorem dX0_weigh_160 : decode cX0_weigh 160 = .ok (.getfield 28, 3) := by decide +kernel
theorem dX0_weigh_163 : decode cX0_weigh 163 = .ok (.iload_n 3, 1) := by decide +kernel
theorem dX0_weigh_164 : decode cX0_weigh 164 = .ok (.lload 5, 2) := by decide +kernel
theorem dX0_weigh_166 : decode cX0_weigh 166 = .ok (.lastore, 1) := by decide +kernel
theorem dX0_weigh_167 : decode cX0_weigh 167 = .ok (.return_, 1) := by decide +kernel
set_option maxRecDepth 20000 in
theorem ggX0_hasPlan_X0_countAll : GoodIn wsX0_hasPlan wsX0_countAll := goodIn_r _ [5, 6, 7, 8, 9, 10, 11, 12, 13] (by decide +kernel) (by decide +kernel)
set_option maxRecDepth 20000 in
theorem gX0_hasPlan_X0_countAll : GoodIn wsX0_hasPlan (wsV RX0 54 RX0 yX0_countAll wsX0_countAll) := goodIn_app (goodIn_of _ (by decide +kernel)) ggX0_hasPlan_X0_countAll
theorem dX0_hasPlan_0 : decode cX0_hasPlan 0 = .ok (.aload_n 0, 1) := by decide +kernel
theorem dX0_hasPlan_1 : decode cX0_hasPlan 1 = .ok (.invokevirtual 54, 3) := by decide +kernel
theorem dX0_hasPlan_4 : decode cX0_hasPlan 4 = .ok (.lconst 0, 1) := by decide +kernel
theorem dX0_hasPlan_5 : decode cX0_hasPlan 5 = .ok (.lcmp, 1) := by decide +kernel
theorem dX0_hasPlan_6 : decode cX0_hasPlan 6 = .ok (.ifCond .le 7, 3) := by decide +kernel
theorem dX0_hasPlan_9 : decode cX0_hasPlan 9 = .ok (.iconst 1, 1) := by decide +kernel
theorem dX0_hasPlan_10 : decode cX0_hasPlan 10 = .ok (.goto 4, 3) := by decide +kernel
theorem dX0_hasPlan_13 : decode cX0_hasPlan 13 = .ok (.iconst 0, 1) := by decide +kernel
theorem dX0_hasPlan_14 : decode cX0_hasPlan 14 = .ok (.ireturn, 1) := by decide +kernel
theorem dX0_countAll_0 : decode cX0_countAll 0 = .ok (.lconst 1, 1) := by decide +kernel
theorem dX0_countAll_1 : decode cX0_countAll 1 = .ok (.lstore_n 1, 1) := by decide +kernel
theorem dX0_countAll_2 : decode cX0_countAll 2 = .ok (.iconst 0, 1) := by decide +kernel
theorem dX0_countAll_3 : decode cX0_countAll 3 = .ok (.istore_n 3, 1) := by decide +kernel
theorem dX0_countAll_4 : decode cX0_countAll 4 = .ok (.iload_n 3, 1) := by decide +kernel
theorem dX0_countAll_5 : decode cX0_countAll 5 = .ok (.aload_n 0, 1) := by decide +kernel
theorem dX0_countAll_6 : decode cX0_countAll 6 = .ok (.getfield 9, 3) := by decide +kernel
theorem dX0_countAll_9 : decode cX0_countAll 9 = .ok (.if_icmp .ge 19, 3) := by decide +kernel
theorem dX0_countAll_12 : decode cX0_countAll 12 = .ok (.lload_n 1, 1) := by decide +kernel
theorem dX0_countAll_13 : decode cX0_countAll 13 = .ok (.aload_n 0, 1) := by decide +kernel
theorem dX0_countAll_14 : decode cX0_countAll 14 = .ok (.getfield 15, 3) := by decide +kernel
theorem dX0_countAll_17 : decode cX0_countAll 17 = .ok (.iload_n 3, 1) := by decide +kernel
theorem dX0_countAll_18 : decode cX0_countAll 18 = .ok (.iaload, 1) := by decide +kernel
theorem dX0_countAll_19 : decode cX0_countAll 19 = .ok (.i2l, 1) := by decide +kernel
theorem dX0_countAll_20 : decode cX0_countAll 20 = .ok (.lmul, 1) := by decide +kernel
theorem dX0_countAll_21 : decode cX0_countAll 21 = .ok (.lstore_n 1, 1) := by decide +kernel
theorem dX0_countAll_22 : decode cX0_countAll 22 = .ok (.iinc 3 1, 3) := by decide +kernel
theorem dX0_countAll_25 : decode cX0_countAll 25 = .ok (.goto (-21), 3) := by decide +kernel
theorem dX0_countAll_28 : decode cX0_countAll 28 = .ok (.lload_n 1, 1) := by decide +kernel
theorem dX0_countAll_29 : decode cX0_countAll 29 = .ok (.lreturn, 1) := by decide +kernel
theorem dX0_leastCost_0 : decode cX0_leastCost 0 = .ok (.aload_n 0, 1) := by decide +kernel
theorem dX0_leastCost_1 : decode cX0_leastCost 1 = .ok (.getfield 9, 3) := by decide +kernel
theorem dX0_leastCost_4 : decode cX0_leastCost 4 = .ok (.ifCond .ne 5, 3) := by decide +kernel
theorem dX0_leastCost_7 : decode cX0_leastCost 7 = .ok (.iconst 0, 1) := by decide +kernel
theorem dX0_leastCost_8 : decode cX0_leastCost 8 = .ok (.ireturn, 1) := by decide +kernel
theorem dX0_leastCost_9 : decode cX0_leastCost 9 = .ok (.ldc 46, 2) := by decide +kernel
theorem dX0_leastCost_11 : decode cX0_leastCost 11 = .ok (.istore_n 1, 1) := by decide +kernel
theorem dX0_leastCost_12 : decode cX0_leastCost 12 = .ok (.iconst 0, 1) := by decide +kernel
theorem dX0_leastCost_13 : decode cX0_leastCost 13 = .ok (.istore_n 2, 1) := by decide +kernel
theorem dX0_leastCost_14 : decode cX0_leastCost 14 = .ok (.iload_n 2, 1) := by decide +kernel
theorem dX0_leastCost_15 : decode cX0_leastCost 15 = .ok (.aload_n 0, 1) := by decide +kernel
theorem dX0_leastCost_16 : decode cX0_leastCost 16 = .ok (.getfield 15, 3) := by decide +kernel
theorem dX0_leastCost_19 : decode cX0_leastCost 19 = .ok (.iconst 0, 1) := by decide +kernel
theorem dX0_leastCost_20 : decode cX0_leastCost 20 = .ok (.iaload, 1) := by decide +kernel
theorem dX0_leastCost_21 : decode cX0_leastCost 21 = .ok (.if_icmp .ge 20, 3) := by decide +kernel
theorem dX0_leastCost_24 : decode cX0_leastCost 24 = .ok (.iload_n 1, 1) := by decide +kernel
theorem dX0_leastCost_25 : decode cX0_leastCost 25 = .ok (.aload_n 0, 1) := by decide +kernel
theorem dX0_leastCost_26 : decode cX0_leastCost 26 = .ok (.getfield 25, 3) := by decide +kernel
theorem dX0_leastCost_29 : decode cX0_leastCost 29 = .ok (.iload_n 2, 1) := by decide +kernel
theorem dX0_leastCost_30 : decode cX0_leastCost 30 = .ok (.iaload, 1) := by decide +kernel
theorem dX0_leastCost_31 : decode cX0_leastCost 31 = .ok (.invokestatic 58, 3) := by decide +kernel
theorem dX0_leastCost_34 : decode cX0_leastCost 34 = .ok (.istore_n 1, 1) := by decide +kernel
theorem dX0_leastCost_35 : decode cX0_leastCost 35 = .ok (.iinc 2 1, 3) := by decide +kernel
theorem dX0_leastCost_38 : decode cX0_leastCost 38 = .ok (.goto (-24), 3) := by decide +kernel
theorem dX0_leastCost_41 : decode cX0_leastCost 41 = .ok (.iload_n 1, 1) := by decide +kernel
theorem dX0_leastCost_42 : decode cX0_leastCost 42 = .ok (.ireturn, 1) := by decide +kernel
set_option maxRecDepth 20000 in
theorem ggX0_countLeast_X0_hasPlan : GoodIn wsX0_countLeast wsX0_hasPlan := goodIn_r _ [9, 10, 11, 12, 8, 13, 1, 2, 23, 24, 25, 26, 27, 28] (by decide +kernel) (by decide +kernel)
set_option maxRecDepth 20000 in
theorem gX0_countLeast_X0_hasPlan : GoodIn wsX0_countLeast (wsV RX0 63 RX0 yX0_hasPlan wsX0_hasPlan) := goodIn_app (goodIn_of _ (by decide +kernel)) ggX0_countLeast_X0_hasPlan
set_option maxRecDepth 20000 in
theorem ggX0_countLeast_X0_countAll : GoodIn wsX0_countLeast wsX0_countAll := goodIn_r _ [13, 1, 2, 23, 24, 25, 26, 27, 28] (by decide +kernel) (by decide +kernel)
set_option maxRecDepth 20000 in
theorem gX0_countLeast_X0_countAll : GoodIn wsX0_countLeast (wsV RX0 54 RX0 yX0_countAll wsX0_countAll) := goodIn_app (goodIn_of _ (by decide +kernel)) ggX0_countLeast_X0_countAll
set_option maxRecDepth 20000 in
theorem ggX0_countLeast_X0_leastCost : GoodIn wsX0_countLeast wsX0_leastCost := goodIn_r _ [17, 1, 18, 2, 3, 19, 20, 21, 22, 23, 24, 25, 26, 27, 28] (by decide +kernel) (by decide +kernel)
set_option maxRecDepth 20000 in
theorem gX0_countLeast_X0_leastCost : GoodIn wsX0_countLeast (wsV RX0 67 RX0 yX0_leastCost wsX0_leastCost) := goodIn_app (goodIn_of _ (by decide +kernel)) ggX0_countLeast_X0_leastCost
theorem dX0_countLeast_0 : decode cX0_countLeast 0 = .ok (.aload_n 0, 1) := by decide +kernel
theorem dX0_countLeast_1 : decode cX0_countLeast 1 = .ok (.getfield 9, 3) := by decide +kernel
theorem dX0_countLeast_4 : decode cX0_countLeast 4 = .ok (.ifCond .eq 10, 3) := by decide +kernel
theorem dX0_countLeast_7 : decode cX0_countLeast 7 = .ok (.aload_n 0, 1) := by decide +kernel
theorem dX0_countLeast_8 : decode cX0_countLeast 8 = .ok (.invokevirtual 63, 3) := by decide +kernel
theorem dX0_countLeast_11 : decode cX0_countLeast 11 = .ok (.ifCond .ne 8, 3) := by decide +kernel
theorem dX0_countLeast_14 : decode cX0_countLeast 14 = .ok (.aload_n 0, 1) := by decide +kernel
theorem dX0_countLeast_15 : decode cX0_countLeast 15 = .ok (.invokevirtual 54, 3) := by decide +kernel
theorem dX0_countLeast_18 : decode cX0_countLeast 18 = .ok (.lreturn, 1) := by decide +kernel
theorem dX0_countLeast_19 : decode cX0_countLeast 19 = .ok (.aload_n 0, 1) := by decide +kernel
theorem dX0_countLeast_20 : decode cX0_countLeast 20 = .ok (.invokevirtual 67, 3) := by decide +kernel
theorem dX0_countLeast_23 : decode cX0_countLeast 23 = .ok (.istore_n 1, 1) := by decide +kernel
theorem dX0_countLeast_24 : decode cX0_countLeast 24 = .ok (.lconst 0, 1) := by decide +kernel
theorem dX0_countLeast_25 : decode cX0_countLeast 25 = .ok (.lstore_n 2, 1) := by decide +kernel
theorem dX0_countLeast_26 : decode cX0_countLeast 26 = .ok (.iconst 0, 1) := by decide +kernel
theorem dX0_countLeast_27 : decode cX0_countLeast 27 = .ok (.istore 4, 2) := by decide +kernel
theorem dX0_countLeast_29 : decode cX0_countLeast 29 = .ok (.iload 4, 2) := by decide +kernel
theorem dX0_countLeast_31 : decode cX0_countLeast 31 = .ok (.aload_n 0, 1) := by decide +kernel
theorem dX0_countLeast_32 : decode cX0_countLeast 32 = .ok (.getfield 15, 3) := by decide +kernel
theorem dX0_countLeast_35 : decode cX0_countLeast 35 = .ok (.iconst 0, 1) := by decide +kernel
theorem dX0_countLeast_36 : decode cX0_countLeast 36 = .ok (.iaload, 1) := by decide +kernel
theorem dX0_countLeast_37 : decode cX0_countLeast 37 = .ok (.if_icmp .ge 30, 3) := by decide +kernel
theorem dX0_countLeast_40 : decode cX0_countLeast 40 = .ok (.aload_n 0, 1) := by decide +kernel
theorem dX0_countLeast_41 : decode cX0_countLeast 41 = .ok (.getfield 25, 3) := by decide +kernel
theorem dX0_countLeast_44 : decode cX0_countLeast 44 = .ok (.iload 4, 2) := by decide +kernel
theorem dX0_countLeast_46 : decode cX0_countLeast 46 = .ok (.iaload, 1) := by decide +kernel
theorem dX0_countLeast_47 : decode cX0_countLeast 47 = .ok (.iload_n 1, 1) := by decide +kernel
theorem dX0_countLeast_48 : decode cX0_countLeast 48 = .ok (.if_icmp .ne 13, 3) := by decide +kernel
theorem dX0_countLeast_51 : decode cX0_countLeast 51 = .ok (.lload_n 2, 1) := by decide +kernel
theorem dX0_countLeast_52 : decode cX0_countLeast 52 = .ok (.aload_n 0, 1) := by decide +kernel
theorem dX0_countLeast_53 : decode cX0_countLeast 53 = .ok (.getfield 28, 3) := by decide +kernel
theorem dX0_countLeast_56 : decode cX0_countLeast 56 = .ok (.iload 4, 2) := by decide +kernel
theorem dX0_countLeast_58 : decode cX0_countLeast 58 = .ok (.laload, 1) := by decide +kernel
theorem dX0_countLeast_59 : decode cX0_countLeast 59 = .ok (.ladd, 1) := by decide +kernel
theorem dX0_countLeast_60 : decode cX0_countLeast 60 = .ok (.lstore_n 2, 1) := by decide +kernel
theorem dX0_countLeast_61 : decode cX0_countLeast 61 = .ok (.iinc 4 1, 3) := by decide +kernel
theorem dX0_countLeast_64 : decode cX0_countLeast 64 = .ok (.goto (-35), 3) := by decide +kernel
theorem dX0_countLeast_67 : decode cX0_countLeast 67 = .ok (.lload_n 2, 1) := by decide +kernel
theorem dX0_countLeast_68 : decode cX0_countLeast 68 = .ok (.lreturn, 1) := by decide +kernel
set_option maxRecDepth 20000 in
theorem ggX0_countWaysAt_X0_firstMarks : GoodIn wsX0_countWaysAt wsX0_firstMarks := goodIn_r _ [5, 6, 7, 8, 9, 10, 4, 11, 12, 13, 14, 15, 16, 17, 42, 43, 44, 45, 46, 47] (by decide +kernel) (by decide +kernel)
set_option maxRecDepth 20000 in
theorem gX0_countWaysAt_X0_firstMarks : GoodIn wsX0_countWaysAt (wsV RX0 71 RX0 yX0_firstMarks wsX0_firstMarks) := goodIn_app (goodIn_of _ (by decide +kernel)) ggX0_countWaysAt_X0_firstMarks
set_option maxRecDepth 20000 in
theorem ggX0_countWaysAt_X0_nextMarks : GoodIn wsX0_countWaysAt wsX0_nextMarks := goodIn_r _ [21, 12, 6, 22, 7, 23, 24, 25, 26, 27, 28, 29, 30, 31, 16, 32, 33, 34, 35, 36, 37, 38, 39, 40, 42, 43, 44, 45, 46, 47, 48, 49, 50, 51, 52] (by decide +kernel) (by decide +kernel)
set_option maxRecDepth 20000 in
theorem gX0_countWaysAt_X0_nextMarks : GoodIn wsX0_countWaysAt (wsV RX0 74 RX0 yX0_nextMarks wsX0_nextMarks) := goodIn_app (goodIn_of _ (by decide +kernel)) ggX0_countWaysAt_X0_nextMarks
set_option maxRecDepth 20000 in
theorem ggX0_countWaysAt_J6_bitCount_0f7a4 : GoodIn wsX0_countWaysAt wsJ6_bitCount_0f7a4 := goodIn_r _ [37, 38, 39, 40] (by decide +kernel) (by decide +kernel)
set_option maxRecDepth 20000 in
theorem gX0_countWaysAt_J6_bitCount_0f7a4 : GoodIn wsX0_countWaysAt (va_wsS RX0 78 yJ6_bitCount_0f7a4 wsJ6_bitCount_0f7a4) := goodIn_app (goodIn_of _ (by decide +kernel)) ggX0_countWaysAt_J6_bitCount_0f7a4
theorem dX0_countWaysAt_0 : decode cX0_countWaysAt 0 = .ok (.aload_n 0, 1) := by decide +kernel
theorem dX0_countWaysAt_1 : decode cX0_countWaysAt 1 = .ok (.invokevirtual 71, 3) := by decide +kernel
theorem dX0_countWaysAt_4 : decode cX0_countWaysAt 4 = .ok (.istore_n 3, 1) := by decide +kernel
theorem dX0_countWaysAt_5 : decode cX0_countWaysAt 5 = .ok (.iconst 0, 1) := by decide +kernel
theorem dX0_countWaysAt_6 : decode cX0_countWaysAt 6 = .ok (.istore 4, 2) := by decide +kernel
theorem dX0_countWaysAt_8 : decode cX0_countWaysAt 8 = .ok (.iload 4, 2) := by decide +kernel
theorem dX0_countWaysAt_10 : decode cX0_countWaysAt 10 = .ok (.iload_n 2, 1) := by decide +kernel
theorem dX0_countWaysAt_11 : decode cX0_countWaysAt 11 = .ok (.if_icmp .ge 18, 3) := by decide +kernel
theorem dX0_countWaysAt_14 : decode cX0_countWaysAt 14 = .ok (.aload_n 0, 1) := by decide +kernel
theorem dX0_countWaysAt_15 : decode cX0_countWaysAt 15 = .ok (.aload_n 1, 1) := by decide +kernel
theorem dX0_countWaysAt_16 : decode cX0_countWaysAt 16 = .ok (.iload 4, 2) := by decide +kernel
theorem dX0_countWaysAt_18 : decode cX0_countWaysAt 18 = .ok (.iload_n 3, 1) := by decide +kernel
theorem dX0_countWaysAt_19 : decode cX0_countWaysAt 19 = .ok (.invokevirtual 74, 3) := by decide +kernel
theorem dX0_countWaysAt_22 : decode cX0_countWaysAt 22 = .ok (.istore_n 3, 1) := by decide +kernel
theorem dX0_countWaysAt_23 : decode cX0_countWaysAt 23 = .ok (.iinc 4 1, 3) := by decide +kernel
theorem dX0_countWaysAt_26 : decode cX0_countWaysAt 26 = .ok (.goto (-18), 3) := by decide +kernel
theorem dX0_countWaysAt_29 : decode cX0_countWaysAt 29 = .ok (.iload_n 3, 1) := by decide +kernel
theorem dX0_countWaysAt_30 : decode cX0_countWaysAt 30 = .ok (.invokestatic 78, 3) := by decide +kernel
theorem dX0_countWaysAt_33 : decode cX0_countWaysAt 33 = .ok (.ireturn, 1) := by decide +kernel
set_option maxRecDepth 20000 in
theorem ggX0_leastWayAt_X0_firstMarks : GoodIn wsX0_leastWayAt wsX0_firstMarks := goodIn_r _ [7, 8, 9, 10, 11, 12, 6, 13, 1, 14, 15, 16, 17, 18, 45, 46, 47, 48, 49, 50] (by decide +kernel) (by decide +kernel)
set_option maxRecDepth 20000 in
theorem gX0_leastWayAt_X0_firstMarks : GoodIn wsX0_leastWayAt (wsV RX0 71 RX0 yX0_firstMarks wsX0_firstMarks) := goodIn_app (goodIn_of _ (by decide +kernel)) ggX0_leastWayAt_X0_firstMarks
set_option maxRecDepth 20000 in
theorem ggX0_leastWayAt_X0_lowestMark : GoodIn wsX0_leastWayAt wsX0_lowestMark := goodIn_r _ [21] (by decide +kernel) (by decide +kernel)
set_option maxRecDepth 20000 in
theorem gX0_leastWayAt_X0_lowestMark : GoodIn wsX0_leastWayAt (va_wsS RX0 84 yX0_lowestMark wsX0_lowestMark) := goodIn_app (goodIn_of _ (by decide +kernel)) ggX0_leastWayAt_X0_lowestMark
set_option maxRecDepth 20000 in
theorem ggX0_leastWayAt_X0_nextMarks : GoodIn wsX0_leastWayAt wsX0_nextMarks := goodIn_r _ [25, 1, 8, 2, 9, 26, 27, 28, 29, 30, 31, 32, 33, 34, 17, 35, 36, 37, 38, 39, 40, 41, 42, 43, 45, 46, 47, 48, 49, 50, 51, 52, 53, 54, 55] (by decide +kernel) (by decide +kernel)
set_option maxRecDepth 20000 in
theorem gX0_leastWayAt_X0_nextMarks : GoodIn wsX0_leastWayAt (wsV RX0 74 RX0 yX0_nextMarks wsX0_nextMarks) := goodIn_app (goodIn_of _ (by decide +kernel)) ggX0_leastWayAt_X0_nextMarks
set_option maxRecDepth 20000 in
theorem ggX0_leastWayAt_J6_bitCount_0f7a4 : GoodIn wsX0_leastWayAt wsJ6_bitCount_0f7a4 := goodIn_r _ [40, 41, 42, 43] (by decide +kernel) (by decide +kernel)
set_option maxRecDepth 20000 in
theorem gX0_leastWayAt_J6_bitCount_0f7a4 : GoodIn wsX0_leastWayAt (va_wsS RX0 78 yJ6_bitCount_0f7a4 wsJ6_bitCount_0f7a4) := goodIn_app (goodIn_of _ (by decide +kernel)) ggX0_leastWayAt_J6_bitCount_0f7a4
theorem dX0_leastWayAt_0 : decode cX0_leastWayAt 0 = .ok (.aload_n 0, 1) := by decide +kernel
theorem dX0_leastWayAt_1 : decode cX0_leastWayAt 1 = .ok (.invokevirtual 71, 3) := by decide +kernel
theorem dX0_leastWayAt_4 : decode cX0_leastWayAt 4 = .ok (.invokestatic 84, 3) := by decide +kernel
theorem dX0_leastWayAt_7 : decode cX0_leastWayAt 7 = .ok (.istore_n 3, 1) := by decide +kernel
theorem dX0_leastWayAt_8 : decode cX0_leastWayAt 8 = .ok (.iconst 0, 1) := by decide +kernel
theorem dX0_leastWayAt_9 : decode cX0_leastWayAt 9 = .ok (.istore 4, 2) := by decide +kernel
theorem dX0_leastWayAt_11 : decode cX0_leastWayAt 11 = .ok (.iload 4, 2) := by decide +kernel
theorem dX0_leastWayAt_13 : decode cX0_leastWayAt 13 = .ok (.iload_n 2, 1) := by decide +kernel
theorem dX0_leastWayAt_14 : decode cX0_leastWayAt 14 = .ok (.if_icmp .ge 21, 3) := by decide +kernel
theorem dX0_leastWayAt_17 : decode cX0_leastWayAt 17 = .ok (.aload_n 0, 1) := by decide +kernel
theorem dX0_leastWayAt_18 : decode cX0_leastWayAt 18 = .ok (.aload_n 1, 1) := by decide +kernel
theorem dX0_leastWayAt_19 : decode cX0_leastWayAt 19 = .ok (.iload 4, 2) := by decide +kernel
theorem dX0_leastWayAt_21 : decode cX0_leastWayAt 21 = .ok (.iload_n 3, 1) := by decide +kernel
theorem dX0_leastWayAt_22 : decode cX0_leastWayAt 22 = .ok (.invokevirtual 74, 3) := by decide +kernel
theorem dX0_leastWayAt_25 : decode cX0_leastWayAt 25 = .ok (.invokestatic 84, 3) := by decide +kernel
theorem dX0_leastWayAt_28 : decode cX0_leastWayAt 28 = .ok (.istore_n 3, 1) := by decide +kernel
theorem dX0_leastWayAt_29 : decode cX0_leastWayAt 29 = .ok (.iinc 4 1, 3) := by decide +kernel
theorem dX0_leastWayAt_32 : decode cX0_leastWayAt 32 = .ok (.goto (-21), 3) := by decide +kernel
theorem dX0_leastWayAt_35 : decode cX0_leastWayAt 35 = .ok (.iload_n 3, 1) := by decide +kernel
theorem dX0_leastWayAt_36 : decode cX0_leastWayAt 36 = .ok (.iconst 1, 1) := by decide +kernel
theorem dX0_leastWayAt_37 : decode cX0_leastWayAt 37 = .ok (.isub, 1) := by decide +kernel
theorem dX0_leastWayAt_38 : decode cX0_leastWayAt 38 = .ok (.invokestatic 78, 3) := by decide +kernel
theorem dX0_leastWayAt_41 : decode cX0_leastWayAt 41 = .ok (.istore 4, 2) := by decide +kernel
theorem dX0_leastWayAt_43 : decode cX0_leastWayAt 43 = .ok (.iload_n 3, 1) := by decide +kernel
theorem dX0_leastWayAt_44 : decode cX0_leastWayAt 44 = .ok (.ifCond .eq 26, 3) := by decide +kernel
theorem dX0_leastWayAt_47 : decode cX0_leastWayAt 47 = .ok (.iload_n 2, 1) := by decide +kernel
theorem dX0_leastWayAt_48 : decode cX0_leastWayAt 48 = .ok (.aload_n 0, 1) := by decide +kernel
theorem dX0_leastWayAt_49 : decode cX0_leastWayAt 49 = .ok (.getfield 9, 3) := by decide +kernel
theorem dX0_leastWayAt_52 : decode cX0_leastWayAt 52 = .ok (.if_icmp .ge 18, 3) := by decide +kernel
theorem dX0_leastWayAt_55 : decode cX0_leastWayAt 55 = .ok (.aload_n 0, 1) := by decide +kernel
theorem dX0_leastWayAt_56 : decode cX0_leastWayAt 56 = .ok (.getfield 19, 3) := by decide +kernel
theorem dX0_leastWayAt_59 : decode cX0_leastWayAt 59 = .ok (.bipush 8, 2) := by decide +kernel
theorem dX0_leastWayAt_61 : decode cX0_leastWayAt 61 = .ok (.iload_n 2, 1) := by decide +kernel
theorem dX0_leastWayAt_62 : decode cX0_leastWayAt 62 = .ok (.imul, 1) := by decide +kernel
theorem dX0_leastWayAt_63 : decode cX0_leastWayAt 63 = .ok (.iload 4, 2) := by decide +kernel
theorem dX0_leastWayAt_65 : decode cX0_leastWayAt 65 = .ok (.iadd, 1) := by decide +kernel
theorem dX0_leastWayAt_66 : decode cX0_leastWayAt 66 = .ok (.iaload, 1) := by decide +kernel
theorem dX0_leastWayAt_67 : decode cX0_leastWayAt 67 = .ok (.goto 5, 3) := by decide +kernel
theorem dX0_leastWayAt_70 : decode cX0_leastWayAt 70 = .ok (.bipush (-6), 2) := by decide +kernel
theorem dX0_leastWayAt_72 : decode cX0_leastWayAt 72 = .ok (.ireturn, 1) := by decide +kernel
theorem dX0_lowestMark_0 : decode cX0_lowestMark 0 = .ok (.iload_n 0, 1) := by decide +kernel
theorem dX0_lowestMark_1 : decode cX0_lowestMark 1 = .ok (.iload_n 0, 1) := by decide +kernel
theorem dX0_lowestMark_2 : decode cX0_lowestMark 2 = .ok (.ineg, 1) := by decide +kernel
theorem dX0_lowestMark_3 : decode cX0_lowestMark 3 = .ok (.iand, 1) := by decide +kernel
theorem dX0_lowestMark_4 : decode cX0_lowestMark 4 = .ok (.ireturn, 1) := by decide +kernel
set_option maxRecDepth 20000 in
theorem ggX0_firstMarks_X0_leastCost : GoodIn wsX0_firstMarks wsX0_leastCost := goodIn_r _ [7, 8, 9, 1, 2, 10, 11, 12, 13, 14, 15, 16, 17, 18, 19] (by decide +kernel) (by decide +kernel)
set_option maxRecDepth 20000 in
theorem gX0_firstMarks_X0_leastCost : GoodIn wsX0_firstMarks (wsV RX0 67 RX0 yX0_leastCost wsX0_leastCost) := goodIn_app (goodIn_of _ (by decide +kernel)) ggX0_firstMarks_X0_leastCost
theorem dX0_firstMarks_0 : decode cX0_firstMarks 0 = .ok (.aload_n 0, 1) := by decide +kernel
theorem dX0_firstMarks_1 : decode cX0_firstMarks 1 = .ok (.invokevirtual 67, 3) := by decide +kernel
theorem dX0_firstMarks_4 : decode cX0_firstMarks 4 = .ok (.istore_n 1, 1) := by decide +kernel
theorem dX0_firstMarks_5 : decode cX0_firstMarks 5 = .ok (.iconst 0, 1) := by decide +kernel
theorem dX0_firstMarks_6 : decode cX0_firstMarks 6 = .ok (.istore_n 2, 1) := by decide +kernel
theorem dX0_firstMarks_7 : decode cX0_firstMarks 7 = .ok (.iconst 0, 1) := by decide +kernel
theorem dX0_firstMarks_8 : decode cX0_firstMarks 8 = .ok (.istore_n 3, 1) := by decide +kernel
theorem dX0_firstMarks_9 : decode cX0_firstMarks 9 = .ok (.iload_n 3, 1) := by decide +kernel
theorem dX0_firstMarks_10 : decode cX0_firstMarks 10 = .ok (.aload_n 0, 1) := by decide +kernel
theorem dX0_firstMarks_11 : decode cX0_firstMarks 11 = .ok (.getfield 15, 3) := by decide +kernel
theorem dX0_firstMarks_14 : decode cX0_firstMarks 14 = .ok (.iconst 0, 1) := by decide +kernel
theorem dX0_firstMarks_15 : decode cX0_firstMarks 15 = .ok (.iaload, 1) := by decide +kernel
theorem dX0_firstMarks_16 : decode cX0_firstMarks 16 = .ok (.if_icmp .ge 25, 3) := by decide +kernel
theorem dX0_firstMarks_19 : decode cX0_firstMarks 19 = .ok (.aload_n 0, 1) := by decide +kernel
theorem dX0_firstMarks_20 : decode cX0_firstMarks 20 = .ok (.getfield 25, 3) := by decide +kernel
theorem dX0_firstMarks_23 : decode cX0_firstMarks 23 = .ok (.iload_n 3, 1) := by decide +kernel
theorem dX0_firstMarks_24 : decode cX0_firstMarks 24 = .ok (.iaload, 1) := by decide +kernel
theorem dX0_firstMarks_25 : decode cX0_firstMarks 25 = .ok (.iload_n 1, 1) := by decide +kernel
theorem dX0_firstMarks_26 : decode cX0_firstMarks 26 = .ok (.if_icmp .ne 9, 3) := by decide +kernel
theorem dX0_firstMarks_29 : decode cX0_firstMarks 29 = .ok (.iload_n 2, 1) := by decide +kernel
theorem dX0_firstMarks_30 : decode cX0_firstMarks 30 = .ok (.iconst 1, 1) := by decide +kernel
theorem dX0_firstMarks_31 : decode cX0_firstMarks 31 = .ok (.iload_n 3, 1) := by decide +kernel
theorem dX0_firstMarks_32 : decode cX0_firstMarks 32 = .ok (.ishl, 1) := by decide +kernel
theorem dX0_firstMarks_33 : decode cX0_firstMarks 33 = .ok (.ior, 1) := by decide +kernel
theorem dX0_firstMarks_34 : decode cX0_firstMarks 34 = .ok (.istore_n 2, 1) := by decide +kernel
theorem dX0_firstMarks_35 : decode cX0_firstMarks 35 = .ok (.iinc 3 1, 3) := by decide +kernel
theorem dX0_firstMarks_38 : decode cX0_firstMarks 38 = .ok (.goto (-29), 3) := by decide +kernel
theorem dX0_firstMarks_41 : decode cX0_firstMarks 41 = .ok (.iload_n 2, 1) := by decide +kernel
theorem dX0_firstMarks_42 : decode cX0_firstMarks 42 = .ok (.ireturn, 1) := by decide +kernel
set_option maxRecDepth 20000 in
theorem ggX0_nextMarks_X1_motion : GoodIn wsX0_nextMarks wsX1_motion := goodIn_r _ [10, 11, 12, 13, 14, 15, 16, 17, 18, 19, 20, 21, 22, 23, 30, 31, 32, 33, 34] (by decide +kernel) (by decide +kernel)
set_option maxRecDepth 20000 in
theorem gX0_nextMarks_X1_motion : GoodIn wsX0_nextMarks (wsV RX0 47 RX1 yX1_motion wsX1_motion) := goodIn_app (goodIn_of _ (by decide +kernel)) ggX0_nextMarks_X1_motion
theorem dX0_nextMarks_0 : decode cX0_nextMarks 0 = .ok (.iconst 0, 1) := by decide +kernel
theorem dX0_nextMarks_1 : decode cX0_nextMarks 1 = .ok (.istore 4, 2) := by decide +kernel
theorem dX0_nextMarks_3 : decode cX0_nextMarks 3 = .ok (.iload_n 2, 1) := by decide +kernel
theorem dX0_nextMarks_4 : decode cX0_nextMarks 4 = .ok (.iconst 1, 1) := by decide +kernel
theorem dX0_nextMarks_5 : decode cX0_nextMarks 5 = .ok (.iadd, 1) := by decide +kernel
theorem dX0_nextMarks_6 : decode cX0_nextMarks 6 = .ok (.aload_n 0, 1) := by decide +kernel
theorem dX0_nextMarks_7 : decode cX0_nextMarks 7 = .ok (.getfield 9, 3) := by decide +kernel
theorem dX0_nextMarks_10 : decode cX0_nextMarks 10 = .ok (.if_icmp .lt 6, 3) := by decide +kernel
theorem dX0_nextMarks_13 : decode cX0_nextMarks 13 = .ok (.iload 4, 2) := by decide +kernel
theorem dX0_nextMarks_15 : decode cX0_nextMarks 15 = .ok (.ireturn, 1) := by decide +kernel
theorem dX0_nextMarks_16 : decode cX0_nextMarks 16 = .ok (.iconst 0, 1) := by decide +kernel
theorem dX0_nextMarks_17 : decode cX0_nextMarks 17 = .ok (.istore 5, 2) := by decide +kernel
theorem dX0_nextMarks_19 : decode cX0_nextMarks 19 = .ok (.iload 5, 2) := by decide +kernel
theorem dX0_nextMarks_21 : decode cX0_nextMarks 21 = .ok (.aload_n 0, 1) := by decide +kernel
theorem dX0_nextMarks_22 : decode cX0_nextMarks 22 = .ok (.getfield 15, 3) := by decide +kernel
theorem dX0_nextMarks_25 : decode cX0_nextMarks 25 = .ok (.iload_n 2, 1) := by decide +kernel
theorem dX0_nextMarks_26 : decode cX0_nextMarks 26 = .ok (.iaload, 1) := by decide +kernel
theorem dX0_nextMarks_27 : decode cX0_nextMarks 27 = .ok (.if_icmp .ge 110, 3) := by decide +kernel
theorem dX0_nextMarks_30 : decode cX0_nextMarks 30 = .ok (.iconst 0, 1) := by decide +kernel
theorem dX0_nextMarks_31 : decode cX0_nextMarks 31 = .ok (.istore 6, 2) := by decide +kernel
theorem dX0_nextMarks_33 : decode cX0_nextMarks 33 = .ok (.iload 6, 2) := by decide +kernel
theorem dX0_nextMarks_35 : decode cX0_nextMarks 35 = .ok (.aload_n 0, 1) := by decide +kernel
theorem dX0_nextMarks_36 : decode cX0_nextMarks 36 = .ok (.getfield 15, 3) := by decide +kernel
theorem dX0_nextMarks_39 : decode cX0_nextMarks 39 = .ok (.iload_n 2, 1) := by decide +kernel
theorem dX0_nextMarks_40 : decode cX0_nextMarks 40 = .ok (.iconst 1, 1) := by decide +kernel
theorem dX0_nextMarks_41 : decode cX0_nextMarks 41 = .ok (.iadd, 1) := by decide +kernel
theorem dX0_nextMarks_42 : decode cX0_nextMarks 42 = .ok (.iaload, 1) := by decide +kernel
theorem dX0_nextMarks_43 : decode cX0_nextMarks 43 = .ok (.if_icmp .ge 88, 3) := by decide +kernel
theorem dX0_nextMarks_46 : decode cX0_nextMarks 46 = .ok (.bipush 8, 2) := by decide +kernel
theorem dX0_nextMarks_48 : decode cX0_nextMarks 48 = .ok (.iload_n 2, 1) := by decide +kernel
theorem dX0_nextMarks_49 : decode cX0_nextMarks 49 = .ok (.imul, 1) := by decide +kernel
theorem dX0_nextMarks_50 : decode cX0_nextMarks 50 = .ok (.iload 5, 2) := by decide +kernel
theorem dX0_nextMarks_52 : decode cX0_nextMarks 52 = .ok (.iadd, 1) := by decide +kernel
theorem dX0_nextMarks_53 : decode cX0_nextMarks 53 = .ok (.istore 7, 2) := by decide +kernel
theorem dX0_nextMarks_55 : decode cX0_nextMarks 55 = .ok (.bipush 8, 2) := by decide +kernel
theorem dX0_nextMarks_57 : decode cX0_nextMarks 57 = .ok (.iload_n 2, 1) := by decide +kernel
theorem dX0_nextMarks_58 : decode cX0_nextMarks 58 = .ok (.iconst 1, 1) := by decide +kernel
theorem dX0_nextMarks_59 : decode cX0_nextMarks 59 = .ok (.iadd, 1) := by decide +kernel
theorem dX0_nextMarks_60 : decode cX0_nextMarks 60 = .ok (.imul, 1) := by decide +kernel
theorem dX0_nextMarks_61 : decode cX0_nextMarks 61 = .ok (.iload 6, 2) := by decide +kernel
theorem dX0_nextMarks_63 : decode cX0_nextMarks 63 = .ok (.iadd, 1) := by decide +kernel
theorem dX0_nextMarks_64 : decode cX0_nextMarks 64 = .ok (.istore 8, 2) := by decide +kernel
theorem dX0_nextMarks_66 : decode cX0_nextMarks 66 = .ok (.aload_n 1, 1) := by decide +kernel
theorem dX0_nextMarks_67 : decode cX0_nextMarks 67 = .ok (.aload_n 0, 1) := by decide +kernel
theorem dX0_nextMarks_68 : decode cX0_nextMarks 68 = .ok (.getfield 19, 3) := by decide +kernel
theorem dX0_nextMarks_71 : decode cX0_nextMarks 71 = .ok (.iload 7, 2) := by decide +kernel
theorem dX0_nextMarks_73 : decode cX0_nextMarks 73 = .ok (.iaload, 1) := by decide +kernel
theorem dX0_nextMarks_74 : decode cX0_nextMarks 74 = .ok (.aload_n 0, 1) := by decide +kernel
theorem dX0_nextMarks_75 : decode cX0_nextMarks 75 = .ok (.getfield 19, 3) := by decide +kernel
theorem dX0_nextMarks_78 : decode cX0_nextMarks 78 = .ok (.iload 8, 2) := by decide +kernel
theorem dX0_nextMarks_80 : decode cX0_nextMarks 80 = .ok (.iaload, 1) := by decide +kernel
theorem dX0_nextMarks_81 : decode cX0_nextMarks 81 = .ok (.invokevirtual 47, 3) := by decide +kernel
theorem dX0_nextMarks_84 : decode cX0_nextMarks 84 = .ok (.aload_n 0, 1) := by decide +kernel
theorem dX0_nextMarks_85 : decode cX0_nextMarks 85 = .ok (.getfield 25, 3) := by decide +kernel
theorem dX0_nextMarks_88 : decode cX0_nextMarks 88 = .ok (.iload 8, 2) := by decide +kernel
theorem dX0_nextMarks_90 : decode cX0_nextMarks 90 = .ok (.iaload, 1) := by decide +kernel
theorem dX0_nextMarks_91 : decode cX0_nextMarks 91 = .ok (.iadd, 1) := by decide +kernel
theorem dX0_nextMarks_92 : decode cX0_nextMarks 92 = .ok (.istore 9, 2) := by decide +kernel
theorem dX0_nextMarks_94 : decode cX0_nextMarks 94 = .ok (.iload_n 3, 1) := by decide +kernel
theorem dX0_nextMarks_95 : decode cX0_nextMarks 95 = .ok (.iload 5, 2) := by decide +kernel
theorem dX0_nextMarks_97 : decode cX0_nextMarks 97 = .ok (.ishr, 1) := by decide +kernel
theorem dX0_nextMarks_98 : decode cX0_nextMarks 98 = .ok (.iconst 1, 1) := by decide +kernel
theorem dX0_nextMarks_99 : decode cX0_nextMarks 99 = .ok (.iand, 1) := by decide +kernel
theorem dX0_nextMarks_100 : decode cX0_nextMarks 100 = .ok (.iconst 1, 1) := by decide +kernel
theorem dX0_nextMarks_101 : decode cX0_nextMarks 101 = .ok (.if_icmp .ne 24, 3) := by decide +kernel
theorem dX0_nextMarks_104 : decode cX0_nextMarks 104 = .ok (.iload 9, 2) := by decide +kernel
theorem dX0_nextMarks_106 : decode cX0_nextMarks 106 = .ok (.aload_n 0, 1) := by decide +kernel
theorem dX0_nextMarks_107 : decode cX0_nextMarks 107 = .ok (.getfield 22, 3) := by decide +kernel
theorem dX0_nextMarks_110 : decode cX0_nextMarks 110 = .ok (.iload 7, 2) := by decide +kernel
theorem dX0_nextMarks_112 : decode cX0_nextMarks 112 = .ok (.iaload, 1) := by decide +kernel
theorem dX0_nextMarks_113 : decode cX0_nextMarks 113 = .ok (.if_icmp .ne 12, 3) := by decide +kernel
theorem dX0_nextMarks_116 : decode cX0_nextMarks 116 = .ok (.iload 4, 2) := by decide +kernel
theorem dX0_nextMarks_118 : decode cX0_nextMarks 118 = .ok (.iconst 1, 1) := by decide +kernel
theorem dX0_nextMarks_119 : decode cX0_nextMarks 119 = .ok (.iload 6, 2) := by decide +kernel
theorem dX0_nextMarks_121 : decode cX0_nextMarks 121 = .ok (.ishl, 1) := by decide +kernel
theorem dX0_nextMarks_122 : decode cX0_nextMarks 122 = .ok (.ior, 1) := by decide +kernel
theorem dX0_nextMarks_123 : decode cX0_nextMarks 123 = .ok (.istore 4, 2) := by decide +kernel
theorem dX0_nextMarks_125 : decode cX0_nextMarks 125 = .ok (.iinc 6 1, 3) := by decide +kernel
theorem dX0_nextMarks_128 : decode cX0_nextMarks 128 = .ok (.goto (-95), 3) := by decide +kernel
theorem dX0_nextMarks_131 : decode cX0_nextMarks 131 = .ok (.iinc 5 1, 3) := by decide +kernel
theorem dX0_nextMarks_134 : decode cX0_nextMarks 134 = .ok (.goto (-115), 3) := by decide +kernel
theorem dX0_nextMarks_137 : decode cX0_nextMarks 137 = .ok (.iload 4, 2) := by decide +kernel
theorem dX0_nextMarks_139 : decode cX0_nextMarks 139 = .ok (.ireturn, 1) := by decide +kernel
theorem dX1_init_0 : decode cX1_init 0 = .ok (.aload_n 0, 1) := by decide +kernel
theorem dX1_init_1 : decode cX1_init 1 = .ok (.invokespecial 3, 3) := by decide +kernel
theorem dX1_init_4 : decode cX1_init 4 = .ok (.aload_n 0, 1) := by decide +kernel
theorem dX1_init_5 : decode cX1_init 5 = .ok (.iconst 0, 1) := by decide +kernel
theorem dX1_init_6 : decode cX1_init 6 = .ok (.putfield 9, 3) := by decide +kernel
theorem dX1_init_9 : decode cX1_init 9 = .ok (.aload_n 0, 1) := by decide +kernel
theorem dX1_init_10 : decode cX1_init 10 = .ok (.iconst 3, 1) := by decide +kernel
theorem dX1_init_11 : decode cX1_init 11 = .ok (.newarray .int, 2) := by decide +kernel
theorem dX1_init_13 : decode cX1_init 13 = .ok (.dup, 1) := by decide +kernel
theorem dX1_init_14 : decode cX1_init 14 = .ok (.iconst 0, 1) := by decide +kernel
theorem dX1_init_15 : decode cX1_init 15 = .ok (.sipush 200, 3) := by decide +kernel
theorem dX1_init_18 : decode cX1_init 18 = .ok (.iastore, 1) := by decide +kernel
theorem dX1_init_19 : decode cX1_init 19 = .ok (.dup, 1) := by decide +kernel
theorem dX1_init_20 : decode cX1_init 20 = .ok (.iconst 1, 1) := by decide +kernel
theorem dX1_init_21 : decode cX1_init 21 = .ok (.bipush 100, 2) := by decide +kernel
theorem dX1_init_23 : decode cX1_init 23 = .ok (.iastore, 1) := by decide +kernel
theorem dX1_init_24 : decode cX1_init 24 = .ok (.dup, 1) := by decide +kernel
theorem dX1_init_25 : decode cX1_init 25 = .ok (.iconst 2, 1) := by decide +kernel
theorem dX1_init_26 : decode cX1_init 26 = .ok (.sipush 300, 3) := by decide +kernel
theorem dX1_init_29 : decode cX1_init 29 = .ok (.iastore, 1) := by decide +kernel
theorem dX1_init_30 : decode cX1_init 30 = .ok (.putfield 15, 3) := by decide +kernel
theorem dX1_init_33 : decode cX1_init 33 = .ok (.aload_n 0, 1) := by decide +kernel
theorem dX1_init_34 : decode cX1_init 34 = .ok (.iconst 5, 1) := by decide +kernel
theorem dX1_init_35 : decode cX1_init 35 = .ok (.newarray .int, 2) := by decide +kernel
theorem dX1_init_37 : decode cX1_init 37 = .ok (.dup, 1) := by decide +kernel
theorem dX1_init_38 : decode cX1_init 38 = .ok (.iconst 0, 1) := by decide +kernel
theorem dX1_init_39 : decode cX1_init 39 = .ok (.bipush 10, 2) := by decide +kernel
theorem dX1_init_41 : decode cX1_init 41 = .ok (.iastore, 1) := by decide +kernel
theorem dX1_init_42 : decode cX1_init 42 = .ok (.dup, 1) := by decide +kernel
theorem dX1_init_43 : decode cX1_init 43 = .ok (.iconst 1, 1) := by decide +kernel
theorem dX1_init_44 : decode cX1_init 44 = .ok (.bipush 35, 2) := by decide +kernel
theorem dX1_init_46 : decode cX1_init 46 = .ok (.iastore, 1) := by decide +kernel
theorem dX1_init_47 : decode cX1_init 47 = .ok (.dup, 1) := by decide +kernel
theorem dX1_init_48 : decode cX1_init 48 = .ok (.iconst 2, 1) := by decide +kernel
theorem dX1_init_49 : decode cX1_init 49 = .ok (.iconst 2, 1) := by decide +kernel
theorem dX1_init_50 : decode cX1_init 50 = .ok (.iastore, 1) := by decide +kernel
theorem dX1_init_51 : decode cX1_init 51 = .ok (.dup, 1) := by decide +kernel
theorem dX1_init_52 : decode cX1_init 52 = .ok (.iconst 3, 1) := by decide +kernel
theorem dX1_init_53 : decode cX1_init 53 = .ok (.iconst 1, 1) := by decide +kernel
theorem dX1_init_54 : decode cX1_init 54 = .ok (.iastore, 1) := by decide +kernel
theorem dX1_init_55 : decode cX1_init 55 = .ok (.dup, 1) := by decide +kernel
theorem dX1_init_56 : decode cX1_init 56 = .ok (.iconst 4, 1) := by decide +kernel
theorem dX1_init_57 : decode cX1_init 57 = .ok (.iconst 1, 1) := by decide +kernel
theorem dX1_init_58 : decode cX1_init 58 = .ok (.iastore, 1) := by decide +kernel
theorem dX1_init_59 : decode cX1_init 59 = .ok (.putfield 19, 3) := by decide +kernel
theorem dX1_init_62 : decode cX1_init 62 = .ok (.aload_n 0, 1) := by decide +kernel
theorem dX1_init_63 : decode cX1_init 63 = .ok (.bipush 12, 2) := by decide +kernel
theorem dX1_init_65 : decode cX1_init 65 = .ok (.newarray .int, 2) := by decide +kernel
theorem dX1_init_67 : decode cX1_init 67 = .ok (.putfield 22, 3) := by decide +kernel
theorem dX1_init_70 : decode cX1_init 70 = .ok (.aload_n 0, 1) := by decide +kernel
theorem dX1_init_71 : decode cX1_init 71 = .ok (.iconst 0, 1) := by decide +kernel
theorem dX1_init_72 : decode cX1_init 72 = .ok (.putfield 25, 3) := by decide +kernel
theorem dX1_init_75 : decode cX1_init 75 = .ok (.return_, 1) := by decide +kernel
theorem dX1_takeFrom_0 : decode cX1_takeFrom 0 = .ok (.aload_n 0, 1) := by decide +kernel
theorem dX1_takeFrom_1 : decode cX1_takeFrom 1 = .ok (.aload_n 1, 1) := by decide +kernel
theorem dX1_takeFrom_2 : decode cX1_takeFrom 2 = .ok (.getfield 9, 3) := by decide +kernel
theorem dX1_takeFrom_5 : decode cX1_takeFrom 5 = .ok (.putfield 9, 3) := by decide +kernel
theorem dX1_takeFrom_8 : decode cX1_takeFrom 8 = .ok (.aload_n 0, 1) := by decide +kernel
theorem dX1_takeFrom_9 : decode cX1_takeFrom 9 = .ok (.aload_n 1, 1) := by decide +kernel
theorem dX1_takeFrom_10 : decode cX1_takeFrom 10 = .ok (.getfield 25, 3) := by decide +kernel
theorem dX1_takeFrom_13 : decode cX1_takeFrom 13 = .ok (.putfield 25, 3) := by decide +kernel
theorem dX1_takeFrom_16 : decode cX1_takeFrom 16 = .ok (.aload_n 1, 1) := by decide +kernel
theorem dX1_takeFrom_17 : decode cX1_takeFrom 17 = .ok (.getfield 15, 3) := by decide +kernel
theorem dX1_takeFrom_20 : decode cX1_takeFrom 20 = .ok (.iconst 0, 1) := by decide +kernel
theorem dX1_takeFrom_21 : decode cX1_takeFrom 21 = .ok (.aload_n 0, 1) := by decide +kernel
theorem dX1_takeFrom_22 : decode cX1_takeFrom 22 = .ok (.getfield 15, 3) := by decide +kernel
theorem dX1_takeFrom_25 : decode cX1_takeFrom 25 = .ok (.iconst 0, 1) := by decide +kernel
theorem dX1_takeFrom_26 : decode cX1_takeFrom 26 = .ok (.iconst 3, 1) := by decide +kernel
theorem dX1_takeFrom_27 : decode cX1_takeFrom 27 = .ok (.invokestatic 28, 3) := by decide +kernel
theorem dX1_takeFrom_30 : decode cX1_takeFrom 30 = .ok (.aload_n 1, 1) := by decide +kernel
theorem dX1_takeFrom_31 : decode cX1_takeFrom 31 = .ok (.getfield 19, 3) := by decide +kernel
theorem dX1_takeFrom_34 : decode cX1_takeFrom 34 = .ok (.iconst 0, 1) := by decide +kernel
theorem dX1_takeFrom_35 : decode cX1_takeFrom 35 = .ok (.aload_n 0, 1) := by decide +kernel
theorem dX1_takeFrom_36 : decode cX1_takeFrom 36 = .ok (.getfield 19, 3) := by decide +kernel
theorem dX1_takeFrom_39 : decode cX1_takeFrom 39 = .ok (.iconst 0, 1) := by decide +kernel
theorem dX1_takeFrom_40 : decode cX1_takeFrom 40 = .ok (.iconst 5, 1) := by decide +kernel
theorem dX1_takeFrom_41 : decode cX1_takeFrom 41 = .ok (.invokestatic 28, 3) := by decide +kernel
theorem dX1_takeFrom_44 : decode cX1_takeFrom 44 = .ok (.aload_n 1, 1) := by decide +kernel
theorem dX1_takeFrom_45 : decode cX1_takeFrom 45 = .ok (.getfield 22, 3) := by decide +kernel
theorem dX1_takeFrom_48 : decode cX1_takeFrom 48 = .ok (.iconst 0, 1) := by decide +kernel
theorem dX1_takeFrom_49 : decode cX1_takeFrom 49 = .ok (.aload_n 0, 1) := by decide +kernel
theorem dX1_takeFrom_50 : decode cX1_takeFrom 50 = .ok (.getfield 22, 3) := by decide +kernel
theorem dX1_takeFrom_53 : decode cX1_takeFrom 53 = .ok (.iconst 0, 1) := by decide +kernel
theorem dX1_takeFrom_54 : decode cX1_takeFrom 54 = .ok (.bipush 12, 2) := by decide +kernel
theorem dX1_takeFrom_56 : decode cX1_takeFrom 56 = .ok (.invokestatic 28, 3) := by decide +kernel
theorem dX1_takeFrom_59 : decode cX1_takeFrom 59 = .ok (.return_, 1) := by decide +kernel
theorem dX1_hasSetting_0 : decode cX1_hasSetting 0 = .ok (.iload_n 1, 1) := by decide +kernel
theorem dX1_hasSetting_1 : decode cX1_hasSetting 1 = .ok (.ifCond .lt 26, 3) := by decide +kernel
theorem dX1_hasSetting_4 : decode cX1_hasSetting 4 = .ok (.iload_n 1, 1) := by decide +kernel
theorem dX1_hasSetting_5 : decode cX1_hasSetting 5 = .ok (.aload_n 0, 1) := by decide +kernel
theorem dX1_hasSetting_6 : decode cX1_hasSetting 6 = .ok (.getfield 9, 3) := by decide +kernel
theorem dX1_hasSetting_9 : decode cX1_hasSetting 9 = .ok (.iconst 1, 1) := by decide +kernel
theorem dX1_hasSetting_10 : decode cX1_hasSetting 10 = .ok (.if_icmp .ne 8, 3) := by decide +kernel
theorem dX1_hasSetting_13 : decode cX1_hasSetting 13 = .ok (.bipush 7, 2) := by decide +kernel
theorem dX1_hasSetting_15 : decode cX1_hasSetting 15 = .ok (.goto 5, 3) := by decide +kernel
theorem dX1_hasSetting_18 : decode cX1_hasSetting 18 = .ok (.bipush 8, 2) := by decide +kernel
theorem dX1_hasSetting_20 : decode cX1_hasSetting 20 = .ok (.if_icmp .ge 7, 3) := by decide +kernel
theorem dX1_hasSetting_23 : decode cX1_hasSetting 23 = .ok (.iconst 1, 1) := by decide +kernel
theorem dX1_hasSetting_24 : decode cX1_hasSetting 24 = .ok (.goto 4, 3) := by decide +kernel
theorem dX1_hasSetting_27 : decode cX1_hasSetting 27 = .ok (.iconst 0, 1) := by decide +kernel
theorem dX1_hasSetting_28 : decode cX1_hasSetting 28 = .ok (.ireturn, 1) := by decide +kernel
set_option maxRecDepth 20000 in
theorem ggX1_hasWay_X1_hasSetting : GoodIn wsX1_hasWay wsX1_hasSetting := goodIn_r _ [5, 6, 7, 8, 9, 10, 11] (by decide +kernel) (by decide +kernel)
set_option maxRecDepth 20000 in
theorem gX1_hasWay_X1_hasSetting : GoodIn wsX1_hasWay (wsV RX1 34 RX1 yX1_hasSetting wsX1_hasSetting) := goodIn_app (goodIn_of _ (by decide +kernel)) ggX1_hasWay_X1_hasSetting
theorem dX1_hasWay_0 : decode cX1_hasWay 0 = .ok (.iload_n 1, 1) := by decide +kernel
theorem dX1_hasWay_1 : decode cX1_hasWay 1 = .ok (.ifCond .lt 24, 3) := by decide +kernel
theorem dX1_hasWay_4 : decode cX1_hasWay 4 = .ok (.iload_n 1, 1) := by decide +kernel
theorem dX1_hasWay_5 : decode cX1_hasWay 5 = .ok (.bipush 64, 2) := by decide +kernel
theorem dX1_hasWay_7 : decode cX1_hasWay 7 = .ok (.if_icmp .ge 18, 3) := by decide +kernel
theorem dX1_hasWay_10 : decode cX1_hasWay 10 = .ok (.aload_n 0, 1) := by decide +kernel
theorem dX1_hasWay_11 : decode cX1_hasWay 11 = .ok (.iload_n 1, 1) := by decide +kernel
theorem dX1_hasWay_12 : decode cX1_hasWay 12 = .ok (.bipush 8, 2) := by decide +kernel
theorem dX1_hasWay_14 : decode cX1_hasWay 14 = .ok (.irem, 1) := by decide +kernel
theorem dX1_hasWay_15 : decode cX1_hasWay 15 = .ok (.invokevirtual 34, 3) := by decide +kernel
theorem dX1_hasWay_18 : decode cX1_hasWay 18 = .ok (.ifCond .eq 7, 3) := by decide +kernel
theorem dX1_hasWay_21 : decode cX1_hasWay 21 = .ok (.iconst 1, 1) := by decide +kernel
theorem dX1_hasWay_22 : decode cX1_hasWay 22 = .ok (.goto 4, 3) := by decide +kernel
theorem dX1_hasWay_25 : decode cX1_hasWay 25 = .ok (.iconst 0, 1) := by decide +kernel
theorem dX1_hasWay_26 : decode cX1_hasWay 26 = .ok (.ireturn, 1) := by decide +kernel
set_option maxRecDepth 20000 in
theorem ggX1_dropOf_X2_valveDrop : GoodIn wsX1_dropOf wsX2_valveDrop := goodIn_r _ [6] (by decide +kernel) (by decide +kernel)
set_option maxRecDepth 20000 in
theorem gX1_dropOf_X2_valveDrop_n38 : GoodIn wsX1_dropOf (wsX2_valveDrop) := ggX1_dropOf_X2_valveDrop
theorem dX1_dropOf_0 : decode cX1_dropOf 0 = .ok (.aload_n 0, 1) := by decide +kernel
theorem dX1_dropOf_1 : decode cX1_dropOf 1 = .ok (.getfield 9, 3) := by decide +kernel
theorem dX1_dropOf_4 : decode cX1_dropOf 4 = .ok (.iconst 1, 1) := by decide +kernel
theorem dX1_dropOf_5 : decode cX1_dropOf 5 = .ok (.if_icmp .ne 10, 3) := by decide +kernel
theorem dX1_dropOf_8 : decode cX1_dropOf 8 = .ok (.bipush 100, 2) := by decide +kernel
theorem dX1_dropOf_10 : decode cX1_dropOf 10 = .ok (.iload_n 1, 1) := by decide +kernel
theorem dX1_dropOf_11 : decode cX1_dropOf 11 = .ok (.imul, 1) := by decide +kernel
theorem dX1_dropOf_12 : decode cX1_dropOf 12 = .ok (.goto 17, 3) := by decide +kernel
theorem dX1_dropOf_15 : decode cX1_dropOf 15 = .ok (.iload_n 1, 1) := by decide +kernel
theorem dX1_dropOf_16 : decode cX1_dropOf 16 = .ok (.aload_n 0, 1) := by decide +kernel
theorem dX1_dropOf_17 : decode cX1_dropOf 17 = .ok (.getfield 15, 3) := by decide +kernel
theorem dX1_dropOf_20 : decode cX1_dropOf 20 = .ok (.aload_n 0, 1) := by decide +kernel
theorem dX1_dropOf_21 : decode cX1_dropOf 21 = .ok (.getfield 19, 3) := by decide +kernel
theorem dX1_dropOf_24 : decode cX1_dropOf 24 = .ok (.iconst 0, 1) := by decide +kernel
theorem dX1_dropOf_25 : decode cX1_dropOf 25 = .ok (.iaload, 1) := by decide +kernel
theorem dX1_dropOf_26 : decode cX1_dropOf 26 = .ok (.invokestatic 38, 3) := by decide +kernel
theorem dX1_dropOf_29 : decode cX1_dropOf 29 = .ok (.ireturn, 1) := by decide +kernel
set_option maxRecDepth 20000 in
theorem ggX1_offBy_X1_dropOf : GoodIn wsX1_offBy wsX1_dropOf := goodIn_r _ [5, 6, 7, 8, 9, 10, 11, 12, 13, 14, 15, 16] (by decide +kernel) (by decide +kernel)
set_option maxRecDepth 20000 in
theorem gX1_offBy_X1_dropOf : GoodIn wsX1_offBy (wsV RX1 45 RX1 yX1_dropOf wsX1_dropOf) := goodIn_app (goodIn_of _ (by decide +kernel)) ggX1_offBy_X1_dropOf
theorem dX1_offBy_0 : decode cX1_offBy 0 = .ok (.getstatic 42, 3) := by decide +kernel
theorem dX1_offBy_3 : decode cX1_offBy 3 = .ok (.iload_n 1, 1) := by decide +kernel
theorem dX1_offBy_4 : decode cX1_offBy 4 = .ok (.bipush 8, 2) := by decide +kernel
theorem dX1_offBy_6 : decode cX1_offBy 6 = .ok (.idiv, 1) := by decide +kernel
theorem dX1_offBy_7 : decode cX1_offBy 7 = .ok (.iaload, 1) := by decide +kernel
theorem dX1_offBy_8 : decode cX1_offBy 8 = .ok (.aload_n 0, 1) := by decide +kernel
theorem dX1_offBy_9 : decode cX1_offBy 9 = .ok (.iload_n 1, 1) := by decide +kernel
theorem dX1_offBy_10 : decode cX1_offBy 10 = .ok (.bipush 8, 2) := by decide +kernel
theorem dX1_offBy_12 : decode cX1_offBy 12 = .ok (.irem, 1) := by decide +kernel
theorem dX1_offBy_13 : decode cX1_offBy 13 = .ok (.invokevirtual 45, 3) := by decide +kernel
theorem dX1_offBy_16 : decode cX1_offBy 16 = .ok (.isub, 1) := by decide +kernel
theorem dX1_offBy_17 : decode cX1_offBy 17 = .ok (.bipush 100, 2) := by decide +kernel
theorem dX1_offBy_19 : decode cX1_offBy 19 = .ok (.iload_n 2, 1) := by decide +kernel
theorem dX1_offBy_20 : decode cX1_offBy 20 = .ok (.imul, 1) := by decide +kernel
theorem dX1_offBy_21 : decode cX1_offBy 21 = .ok (.isub, 1) := by decide +kernel
theorem dX1_offBy_22 : decode cX1_offBy 22 = .ok (.ireturn, 1) := by decide +kernel
set_option maxRecDepth 20000 in
theorem ggX1_gatherWays_X1_hasWay : GoodIn wsX1_gatherWays wsX1_hasWay := goodIn_r _ [10, 11, 12, 13, 9, 14, 15, 28, 29, 30, 31, 32] (by decide +kernel) (by decide +kernel)
set_option maxRecDepth 20000 in
theorem gX1_gatherWays_X1_hasWay : GoodIn wsX1_gatherWays (wsV RX1 49 RX1 yX1_hasWay wsX1_hasWay) := goodIn_app (goodIn_of _ (by decide +kernel)) ggX1_gatherWays_X1_hasWay
set_option maxRecDepth 20000 in
theorem ggX1_gatherWays_X1_offBy : GoodIn wsX1_gatherWays wsX1_offBy := goodIn_r _ [19, 20, 21, 22, 9, 23, 15, 24, 5, 25, 26, 27, 28, 29, 30, 31, 32] (by decide +kernel) (by decide +kernel)
set_option maxRecDepth 20000 in
theorem gX1_gatherWays_X1_offBy : GoodIn wsX1_gatherWays (wsV RX1 52 RX1 yX1_offBy wsX1_offBy) := goodIn_app (goodIn_of _ (by decide +kernel)) ggX1_gatherWays_X1_offBy
theorem dX1_gatherWays_0 : decode cX1_gatherWays 0 = .ok (.iconst 0, 1) := by decide +kernel
theorem dX1_gatherWays_1 : decode cX1_gatherWays 1 = .ok (.istore 4, 2) := by decide +kernel
theorem dX1_gatherWays_3 : decode cX1_gatherWays 3 = .ok (.iconst 0, 1) := by decide +kernel
theorem dX1_gatherWays_4 : decode cX1_gatherWays 4 = .ok (.istore 5, 2) := by decide +kernel
theorem dX1_gatherWays_6 : decode cX1_gatherWays 6 = .ok (.iload 5, 2) := by decide +kernel
theorem dX1_gatherWays_8 : decode cX1_gatherWays 8 = .ok (.bipush 64, 2) := by decide +kernel
theorem dX1_gatherWays_10 : decode cX1_gatherWays 10 = .ok (.if_icmp .ge 55, 3) := by decide +kernel
theorem dX1_gatherWays_13 : decode cX1_gatherWays 13 = .ok (.iload 4, 2) := by decide +kernel
theorem dX1_gatherWays_15 : decode cX1_gatherWays 15 = .ok (.bipush 8, 2) := by decide +kernel
theorem dX1_gatherWays_17 : decode cX1_gatherWays 17 = .ok (.if_icmp .ge 42, 3) := by decide +kernel
theorem dX1_gatherWays_20 : decode cX1_gatherWays 20 = .ok (.aload_n 0, 1) := by decide +kernel
theorem dX1_gatherWays_21 : decode cX1_gatherWays 21 = .ok (.iload 5, 2) := by decide +kernel
theorem dX1_gatherWays_23 : decode cX1_gatherWays 23 = .ok (.invokevirtual 49, 3) := by decide +kernel
theorem dX1_gatherWays_26 : decode cX1_gatherWays 26 = .ok (.ifCond .eq 33, 3) := by decide +kernel
theorem dX1_gatherWays_29 : decode cX1_gatherWays 29 = .ok (.aload_n 0, 1) := by decide +kernel
theorem dX1_gatherWays_30 : decode cX1_gatherWays 30 = .ok (.iload 5, 2) := by decide +kernel
theorem dX1_gatherWays_32 : decode cX1_gatherWays 32 = .ok (.iload_n 1, 1) := by decide +kernel
theorem dX1_gatherWays_33 : decode cX1_gatherWays 33 = .ok (.invokevirtual 52, 3) := by decide +kernel
theorem dX1_gatherWays_36 : decode cX1_gatherWays 36 = .ok (.invokestatic 56, 3) := by decide +kernel
theorem dX1_gatherWays_39 : decode cX1_gatherWays 39 = .ok (.aload_n 0, 1) := by decide +kernel
theorem dX1_gatherWays_40 : decode cX1_gatherWays 40 = .ok (.getfield 19, 3) := by decide +kernel
theorem dX1_gatherWays_43 : decode cX1_gatherWays 43 = .ok (.iconst 1, 1) := by decide +kernel
theorem dX1_gatherWays_44 : decode cX1_gatherWays 44 = .ok (.iaload, 1) := by decide +kernel
theorem dX1_gatherWays_45 : decode cX1_gatherWays 45 = .ok (.if_icmp .gt 14, 3) := by decide +kernel
theorem dX1_gatherWays_48 : decode cX1_gatherWays 48 = .ok (.aload_n 2, 1) := by decide +kernel
theorem dX1_gatherWays_49 : decode cX1_gatherWays 49 = .ok (.iload_n 3, 1) := by decide +kernel
theorem dX1_gatherWays_50 : decode cX1_gatherWays 50 = .ok (.iload 4, 2) := by decide +kernel
theorem dX1_gatherWays_52 : decode cX1_gatherWays 52 = .ok (.iadd, 1) := by decide +kernel
theorem dX1_gatherWays_53 : decode cX1_gatherWays 53 = .ok (.iload 5, 2) := by decide +kernel
theorem dX1_gatherWays_55 : decode cX1_gatherWays 55 = .ok (.iastore, 1) := by decide +kernel
theorem dX1_gatherWays_56 : decode cX1_gatherWays 56 = .ok (.iinc 4 1, 3) := by decide +kernel
theorem dX1_gatherWays_59 : decode cX1_gatherWays 59 = .ok (.iinc 5 1, 3) := by decide +kernel
theorem dX1_gatherWays_62 : decode cX1_gatherWays 62 = .ok (.goto (-56), 3) := by decide +kernel
theorem dX1_gatherWays_65 : decode cX1_gatherWays 65 = .ok (.iload 4, 2) := by decide +kernel
theorem dX1_gatherWays_67 : decode cX1_gatherWays 67 = .ok (.ireturn, 1) := by decide +kernel
set_option maxRecDepth 20000 in
theorem ggX1_motion_J6_bitCount_0f7a4 : GoodIn wsX1_motion wsJ6_bitCount_0f7a4 := goodIn_r _ [10, 11, 12, 13] (by decide +kernel) (by decide +kernel)
set_option maxRecDepth 20000 in
theorem gX1_motion_J6_bitCount_0f7a4 : GoodIn wsX1_motion (va_wsS RX1 61 yJ6_bitCount_0f7a4 wsJ6_bitCount_0f7a4) := goodIn_app (goodIn_of _ (by decide +kernel)) ggX1_motion_J6_bitCount_0f7a4
theorem dX1_motion_0 : decode cX1_motion 0 = .ok (.iload_n 1, 1) := by decide +kernel
theorem dX1_motion_1 : decode cX1_motion 1 = .ok (.bipush 8, 2) := by decide +kernel
theorem dX1_motion_3 : decode cX1_motion 3 = .ok (.irem, 1) := by decide +kernel
theorem dX1_motion_4 : decode cX1_motion 4 = .ok (.istore_n 3, 1) := by decide +kernel
theorem dX1_motion_5 : decode cX1_motion 5 = .ok (.iload_n 2, 1) := by decide +kernel
theorem dX1_motion_6 : decode cX1_motion 6 = .ok (.bipush 8, 2) := by decide +kernel
theorem dX1_motion_8 : decode cX1_motion 8 = .ok (.irem, 1) := by decide +kernel
theorem dX1_motion_9 : decode cX1_motion 9 = .ok (.istore 4, 2) := by decide +kernel
theorem dX1_motion_11 : decode cX1_motion 11 = .ok (.aload_n 0, 1) := by decide +kernel
theorem dX1_motion_12 : decode cX1_motion 12 = .ok (.getfield 9, 3) := by decide +kernel
theorem dX1_motion_15 : decode cX1_motion 15 = .ok (.iconst 1, 1) := by decide +kernel
theorem dX1_motion_16 : decode cX1_motion 16 = .ok (.if_icmp .ne 13, 3) := by decide +kernel
theorem dX1_motion_19 : decode cX1_motion 19 = .ok (.iload_n 3, 1) := by decide +kernel
theorem dX1_motion_20 : decode cX1_motion 20 = .ok (.iload 4, 2) := by decide +kernel
theorem dX1_motion_22 : decode cX1_motion 22 = .ok (.isub, 1) := by decide +kernel
theorem dX1_motion_23 : decode cX1_motion 23 = .ok (.invokestatic 56, 3) := by decide +kernel
theorem dX1_motion_26 : decode cX1_motion 26 = .ok (.goto 10, 3) := by decide +kernel
theorem dX1_motion_29 : decode cX1_motion 29 = .ok (.iload_n 3, 1) := by decide +kernel
theorem dX1_motion_30 : decode cX1_motion 30 = .ok (.iload 4, 2) := by decide +kernel
theorem dX1_motion_32 : decode cX1_motion 32 = .ok (.ixor, 1) := by decide +kernel
theorem dX1_motion_33 : decode cX1_motion 33 = .ok (.invokestatic 61, 3) := by decide +kernel
theorem dX1_motion_36 : decode cX1_motion 36 = .ok (.istore 5, 2) := by decide +kernel
theorem dX1_motion_38 : decode cX1_motion 38 = .ok (.iload_n 1, 1) := by decide +kernel
theorem dX1_motion_39 : decode cX1_motion 39 = .ok (.bipush 8, 2) := by decide +kernel
theorem dX1_motion_41 : decode cX1_motion 41 = .ok (.idiv, 1) := by decide +kernel
theorem dX1_motion_42 : decode cX1_motion 42 = .ok (.iload_n 2, 1) := by decide +kernel
theorem dX1_motion_43 : decode cX1_motion 43 = .ok (.bipush 8, 2) := by decide +kernel
theorem dX1_motion_45 : decode cX1_motion 45 = .ok (.idiv, 1) := by decide +kernel
theorem dX1_motion_46 : decode cX1_motion 46 = .ok (.isub, 1) := by decide +kernel
theorem dX1_motion_47 : decode cX1_motion 47 = .ok (.invokestatic 56, 3) := by decide +kernel
theorem dX1_motion_50 : decode cX1_motion 50 = .ok (.istore 6, 2) := by decide +kernel
theorem dX1_motion_52 : decode cX1_motion 52 = .ok (.aload_n 0, 1) := by decide +kernel
theorem dX1_motion_53 : decode cX1_motion 53 = .ok (.getfield 19, 3) := by decide +kernel
theorem dX1_motion_56 : decode cX1_motion 56 = .ok (.iconst 2, 1) := by decide +kernel
theorem dX1_motion_57 : decode cX1_motion 57 = .ok (.iaload, 1) := by decide +kernel
theorem dX1_motion_58 : decode cX1_motion 58 = .ok (.iload 5, 2) := by decide +kernel
theorem dX1_motion_60 : decode cX1_motion 60 = .ok (.imul, 1) := by decide +kernel
theorem dX1_motion_61 : decode cX1_motion 61 = .ok (.aload_n 0, 1) := by decide +kernel
theorem dX1_motion_62 : decode cX1_motion 62 = .ok (.getfield 19, 3) := by decide +kernel
theorem dX1_motion_65 : decode cX1_motion 65 = .ok (.iconst 3, 1) := by decide +kernel
theorem dX1_motion_66 : decode cX1_motion 66 = .ok (.iaload, 1) := by decide +kernel
theorem dX1_motion_67 : decode cX1_motion 67 = .ok (.iload 6, 2) := by decide +kernel
theorem dX1_motion_69 : decode cX1_motion 69 = .ok (.imul, 1) := by decide +kernel
theorem dX1_motion_70 : decode cX1_motion 70 = .ok (.iadd, 1) := by decide +kernel
theorem dX1_motion_71 : decode cX1_motion 71 = .ok (.ireturn, 1) := by decide +kernel
set_option maxRecDepth 20000 in
theorem ggX1_fault_X1_offBy : GoodIn wsX1_fault wsX1_offBy := goodIn_r _ [10, 11, 12, 13, 9, 14, 15, 16, 1, 17, 18, 19, 20, 21, 22, 23, 24] (by decide +kernel) (by decide +kernel)
set_option maxRecDepth 20000 in
theorem gX1_fault_X1_offBy : GoodIn wsX1_fault (wsV RX1 52 RX1 yX1_offBy wsX1_offBy) := goodIn_app (goodIn_of _ (by decide +kernel)) ggX1_fault_X1_offBy
theorem dX1_fault_0 : decode cX1_fault 0 = .ok (.aload_n 0, 1) := by decide +kernel
theorem dX1_fault_1 : decode cX1_fault 1 = .ok (.getfield 19, 3) := by decide +kernel
theorem dX1_fault_4 : decode cX1_fault 4 = .ok (.iconst 4, 1) := by decide +kernel
theorem dX1_fault_5 : decode cX1_fault 5 = .ok (.iaload, 1) := by decide +kernel
theorem dX1_fault_6 : decode cX1_fault 6 = .ok (.aload_n 0, 1) := by decide +kernel
theorem dX1_fault_7 : decode cX1_fault 7 = .ok (.iload_n 1, 1) := by decide +kernel
theorem dX1_fault_8 : decode cX1_fault 8 = .ok (.iload_n 2, 1) := by decide +kernel
theorem dX1_fault_9 : decode cX1_fault 9 = .ok (.invokevirtual 52, 3) := by decide +kernel
theorem dX1_fault_12 : decode cX1_fault 12 = .ok (.invokestatic 56, 3) := by decide +kernel
theorem dX1_fault_15 : decode cX1_fault 15 = .ok (.imul, 1) := by decide +kernel
theorem dX1_fault_16 : decode cX1_fault 16 = .ok (.bipush 10, 2) := by decide +kernel
theorem dX1_fault_18 : decode cX1_fault 18 = .ok (.idiv, 1) := by decide +kernel
theorem dX1_fault_19 : decode cX1_fault 19 = .ok (.ireturn, 1) := by decide +kernel
set_option maxRecDepth 20000 in
theorem ggX2_init_X1_init : GoodIn wsX2_init wsX1_init := goodIn_r _ [20, 21, 2, 3, 22, 14, 23, 24, 25, 26, 37, 38, 39, 40, 41] (by decide +kernel) (by decide +kernel)
set_option maxRecDepth 20000 in
theorem gX2_init_X1_init_n11 : GoodIn wsX2_init (wsX1_init) := ggX2_init_X1_init
set_option maxRecDepth 20000 in
theorem ggX2_init_X0_init : GoodIn wsX2_init wsX0_init := goodIn_r _ [28, 29, 2, 3, 30, 14, 31, 32, 33, 34, 35, 36, 50, 51, 52, 53, 54, 55] (by decide +kernel) (by decide +kernel)
set_option maxRecDepth 20000 in
theorem gX2_init_X0_init_n26 : GoodIn wsX2_init (wsX0_init) := ggX2_init_X0_init
theorem dX2_init_0 : decode cX2_init 0 = .ok (.aload_n 0, 1) := by decide +kernel
theorem dX2_init_1 : decode cX2_init 1 = .ok (.invokespecial 3, 3) := by decide +kernel
theorem dX2_init_4 : decode cX2_init 4 = .ok (.aload_n 0, 1) := by decide +kernel
theorem dX2_init_5 : decode cX2_init 5 = .ok (.new 9, 3) := by decide +kernel
theorem dX2_init_8 : decode cX2_init 8 = .ok (.dup, 1) := by decide +kernel
theorem dX2_init_9 : decode cX2_init 9 = .ok (.invokespecial 11, 3) := by decide +kernel
theorem dX2_init_12 : decode cX2_init 12 = .ok (.putfield 12, 3) := by decide +kernel
theorem dX2_init_15 : decode cX2_init 15 = .ok (.aload_n 0, 1) := by decide +kernel
theorem dX2_init_16 : decode cX2_init 16 = .ok (.iconst 2, 1) := by decide +kernel
theorem dX2_init_17 : decode cX2_init 17 = .ok (.anewarray 9, 3) := by decide +kernel
theorem dX2_init_20 : decode cX2_init 20 = .ok (.dup, 1) := by decide +kernel
theorem dX2_init_21 : decode cX2_init 21 = .ok (.iconst 0, 1) := by decide +kernel
theorem dX2_init_22 : decode cX2_init 22 = .ok (.new 9, 3) := by decide +kernel
theorem dX2_init_25 : decode cX2_init 25 = .ok (.dup, 1) := by decide +kernel
theorem dX2_init_26 : decode cX2_init 26 = .ok (.invokespecial 11, 3) := by decide +kernel
theorem dX2_init_29 : decode cX2_init 29 = .ok (.aastore, 1) := by decide +kernel
theorem dX2_init_30 : decode cX2_init 30 = .ok (.dup, 1) := by decide +kernel
theorem dX2_init_31 : decode cX2_init 31 = .ok (.iconst 1, 1) := by decide +kernel
theorem dX2_init_32 : decode cX2_init 32 = .ok (.new 9, 3) := by decide +kernel
theorem dX2_init_35 : decode cX2_init 35 = .ok (.dup, 1) := by decide +kernel
theorem dX2_init_36 : decode cX2_init 36 = .ok (.invokespecial 11, 3) := by decide +kernel
theorem dX2_init_39 : decode cX2_init 39 = .ok (.aastore, 1) := by decide +kernel
theorem dX2_init_40 : decode cX2_init 40 = .ok (.putfield 16, 3) := by decide +kernel
theorem dX2_init_43 : decode cX2_init 43 = .ok (.aload_n 0, 1) := by decide +kernel
theorem dX2_init_44 : decode cX2_init 44 = .ok (.iconst 0, 1) := by decide +kernel
theorem dX2_init_45 : decode cX2_init 45 = .ok (.putfield 20, 3) := by decide +kernel
theorem dX2_init_48 : decode cX2_init 48 = .ok (.aload_n 0, 1) := by decide +kernel
theorem dX2_init_49 : decode cX2_init 49 = .ok (.new 24, 3) := by decide +kernel
theorem dX2_init_52 : decode cX2_init 52 = .ok (.dup, 1) := by decide +kernel
theorem dX2_init_53 : decode cX2_init 53 = .ok (.invokespecial 26, 3) := by decide +kernel
theorem dX2_init_56 : decode cX2_init 56 = .ok (.putfield 27, 3) := by decide +kernel
theorem dX2_init_59 : decode cX2_init 59 = .ok (.aload_n 0, 1) := by decide +kernel
theorem dX2_init_60 : decode cX2_init 60 = .ok (.bipush 8, 2) := by decide +kernel
theorem dX2_init_62 : decode cX2_init 62 = .ok (.newarray .int, 2) := by decide +kernel
theorem dX2_init_64 : decode cX2_init 64 = .ok (.putfield 31, 3) := by decide +kernel
theorem dX2_init_67 : decode cX2_init 67 = .ok (.aload_n 0, 1) := by decide +kernel
theorem dX2_init_68 : decode cX2_init 68 = .ok (.bipush 8, 2) := by decide +kernel
theorem dX2_init_70 : decode cX2_init 70 = .ok (.newarray .int, 2) := by decide +kernel
theorem dX2_init_72 : decode cX2_init 72 = .ok (.putfield 35, 3) := by decide +kernel
theorem dX2_init_75 : decode cX2_init 75 = .ok (.aload_n 0, 1) := by decide +kernel
theorem dX2_init_76 : decode cX2_init 76 = .ok (.iconst 3, 1) := by decide +kernel
theorem dX2_init_77 : decode cX2_init 77 = .ok (.newarray .int, 2) := by decide +kernel
theorem dX2_init_79 : decode cX2_init 79 = .ok (.putfield 38, 3) := by decide +kernel
theorem dX2_init_82 : decode cX2_init 82 = .ok (.aload_n 0, 1) := by decide +kernel
theorem dX2_init_83 : decode cX2_init 83 = .ok (.bipush 8, 2) := by decide +kernel
theorem dX2_init_85 : decode cX2_init 85 = .ok (.newarray .int, 2) := by decide +kernel
theorem dX2_init_87 : decode cX2_init 87 = .ok (.putfield 41, 3) := by decide +kernel
theorem dX2_init_90 : decode cX2_init 90 = .ok (.return_, 1) := by decide +kernel
theorem dX2_horn_0 : decode cX2_horn 0 = .ok (.iload_n 1, 1) := by decide +kernel
theorem dX2_horn_1 : decode cX2_horn 1 = .ok (.ifCond .lt 8, 3) := by decide +kernel
theorem dX2_horn_4 : decode cX2_horn 4 = .ok (.iload_n 1, 1) := by decide +kernel
theorem dX2_horn_5 : decode cX2_horn 5 = .ok (.iconst 1, 1) := by decide +kernel
theorem dX2_horn_6 : decode cX2_horn 6 = .ok (.if_icmp .le 6, 3) := by decide +kernel
theorem dX2_horn_9 : decode cX2_horn 9 = .ok (.bipush (-2), 2) := by decide +kernel
theorem dX2_horn_11 : decode cX2_horn 11 = .ok (.ireturn, 1) := by decide +kernel
theorem dX2_horn_12 : decode cX2_horn 12 = .ok (.aload_n 0, 1) := by decide +kernel
theorem dX2_horn_13 : decode cX2_horn 13 = .ok (.getfield 12, 3) := by decide +kernel
theorem dX2_horn_16 : decode cX2_horn 16 = .ok (.getfield 44, 3) := by decide +kernel
theorem dX2_horn_19 : decode cX2_horn 19 = .ok (.istore_n 2, 1) := by decide +kernel
theorem dX2_horn_20 : decode cX2_horn 20 = .ok (.aload_n 0, 1) := by decide +kernel
theorem dX2_horn_21 : decode cX2_horn 21 = .ok (.getfield 12, 3) := by decide +kernel
theorem dX2_horn_24 : decode cX2_horn 24 = .ok (.iload_n 1, 1) := by decide +kernel
theorem dX2_horn_25 : decode cX2_horn 25 = .ok (.putfield 44, 3) := by decide +kernel
theorem dX2_horn_28 : decode cX2_horn 28 = .ok (.iload_n 2, 1) := by decide +kernel
theorem dX2_horn_29 : decode cX2_horn 29 = .ok (.ireturn, 1) := by decide +kernel
set_option maxRecDepth 20000 in
theorem ggX2_valve_X2_isValve : GoodIn wsX2_valve wsX2_isValve := goodIn_r _ [6] (by decide +kernel) (by decide +kernel)
set_option maxRecDepth 20000 in
theorem gX2_valve_X2_isValve : GoodIn wsX2_valve (va_wsS RX2 47 yX2_isValve wsX2_isValve) := goodIn_app (goodIn_of _ (by decide +kernel)) ggX2_valve_X2_isValve
theorem dX2_valve_0 : decode cX2_valve 0 = .ok (.iload_n 1, 1) := by decide +kernel
theorem dX2_valve_1 : decode cX2_valve 1 = .ok (.invokestatic 47, 3) := by decide +kernel
theorem dX2_valve_4 : decode cX2_valve 4 = .ok (.ifCond .ne 5, 3) := by decide +kernel
theorem dX2_valve_7 : decode cX2_valve 7 = .ok (.iconst (-1), 1) := by decide +kernel
theorem dX2_valve_8 : decode cX2_valve 8 = .ok (.ireturn, 1) := by decide +kernel
theorem dX2_valve_9 : decode cX2_valve 9 = .ok (.iload_n 2, 1) := by decide +kernel
theorem dX2_valve_10 : decode cX2_valve 10 = .ok (.ifCond .lt 10, 3) := by decide +kernel
theorem dX2_valve_13 : decode cX2_valve 13 = .ok (.iload_n 2, 1) := by decide +kernel
theorem dX2_valve_14 : decode cX2_valve 14 = .ok (.sipush 400, 3) := by decide +kernel
theorem dX2_valve_17 : decode cX2_valve 17 = .ok (.if_icmp .le 6, 3) := by decide +kernel
theorem dX2_valve_20 : decode cX2_valve 20 = .ok (.bipush (-2), 2) := by decide +kernel
theorem dX2_valve_22 : decode cX2_valve 22 = .ok (.ireturn, 1) := by decide +kernel
theorem dX2_valve_23 : decode cX2_valve 23 = .ok (.aload_n 0, 1) := by decide +kernel
theorem dX2_valve_24 : decode cX2_valve 24 = .ok (.getfield 12, 3) := by decide +kernel
theorem dX2_valve_27 : decode cX2_valve 27 = .ok (.getfield 51, 3) := by decide +kernel
theorem dX2_valve_30 : decode cX2_valve 30 = .ok (.iload_n 1, 1) := by decide +kernel
theorem dX2_valve_31 : decode cX2_valve 31 = .ok (.iaload, 1) := by decide +kernel
theorem dX2_valve_32 : decode cX2_valve 32 = .ok (.istore_n 3, 1) := by decide +kernel
theorem dX2_valve_33 : decode cX2_valve 33 = .ok (.aload_n 0, 1) := by decide +kernel
theorem dX2_valve_34 : decode cX2_valve 34 = .ok (.getfield 12, 3) := by decide +kernel
theorem dX2_valve_37 : decode cX2_valve 37 = .ok (.getfield 51, 3) := by decide +kernel
theorem dX2_valve_40 : decode cX2_valve 40 = .ok (.iload_n 1, 1) := by decide +kernel
theorem dX2_valve_41 : decode cX2_valve 41 = .ok (.iload_n 2, 1) := by decide +kernel
theorem dX2_valve_42 : decode cX2_valve 42 = .ok (.iastore, 1) := by decide +kernel
theorem dX2_valve_43 : decode cX2_valve 43 = .ok (.iload_n 3, 1) := by decide +kernel
theorem dX2_valve_44 : decode cX2_valve 44 = .ok (.ireturn, 1) := by decide +kernel
theorem dX2_rule_0 : decode cX2_rule 0 = .ok (.iload_n 1, 1) := by decide +kernel
theorem dX2_rule_1 : decode cX2_rule 1 = .ok (.ifCond .lt 21, 3) := by decide +kernel
theorem dX2_rule_4 : decode cX2_rule 4 = .ok (.iload_n 1, 1) := by decide +kernel
theorem dX2_rule_5 : decode cX2_rule 5 = .ok (.iconst 5, 1) := by decide +kernel
theorem dX2_rule_6 : decode cX2_rule 6 = .ok (.if_icmp .ge 16, 3) := by decide +kernel
theorem dX2_rule_9 : decode cX2_rule 9 = .ok (.iload_n 2, 1) := by decide +kernel
theorem dX2_rule_10 : decode cX2_rule 10 = .ok (.ifCond .lt 12, 3) := by decide +kernel
theorem dX2_rule_13 : decode cX2_rule 13 = .ok (.iload_n 2, 1) := by decide +kernel
theorem dX2_rule_14 : decode cX2_rule 14 = .ok (.getstatic 54, 3) := by decide +kernel
theorem dX2_rule_17 : decode cX2_rule 17 = .ok (.iload_n 1, 1) := by decide +kernel
theorem dX2_rule_18 : decode cX2_rule 18 = .ok (.iaload, 1) := by decide +kernel
theorem dX2_rule_19 : decode cX2_rule 19 = .ok (.if_icmp .le 6, 3) := by decide +kernel
theorem dX2_rule_22 : decode cX2_rule 22 = .ok (.bipush (-2), 2) := by decide +kernel
theorem dX2_rule_24 : decode cX2_rule 24 = .ok (.ireturn, 1) := by decide +kernel
theorem dX2_rule_25 : decode cX2_rule 25 = .ok (.aload_n 0, 1) := by decide +kernel
theorem dX2_rule_26 : decode cX2_rule 26 = .ok (.getfield 12, 3) := by decide +kernel
theorem dX2_rule_29 : decode cX2_rule 29 = .ok (.getfield 57, 3) := by decide +kernel
theorem dX2_rule_32 : decode cX2_rule 32 = .ok (.iload_n 1, 1) := by decide +kernel
theorem dX2_rule_33 : decode cX2_rule 33 = .ok (.iaload, 1) := by decide +kernel
theorem dX2_rule_34 : decode cX2_rule 34 = .ok (.istore_n 3, 1) := by decide +kernel
theorem dX2_rule_35 : decode cX2_rule 35 = .ok (.aload_n 0, 1) := by decide +kernel
theorem dX2_rule_36 : decode cX2_rule 36 = .ok (.getfield 12, 3) := by decide +kernel
theorem dX2_rule_39 : decode cX2_rule 39 = .ok (.getfield 57, 3) := by decide +kernel
theorem dX2_rule_42 : decode cX2_rule 42 = .ok (.iload_n 1, 1) := by decide +kernel
theorem dX2_rule_43 : decode cX2_rule 43 = .ok (.iload_n 2, 1) := by decide +kernel
theorem dX2_rule_44 : decode cX2_rule 44 = .ok (.iastore, 1) := by decide +kernel
theorem dX2_rule_45 : decode cX2_rule 45 = .ok (.iload_n 3, 1) := by decide +kernel
theorem dX2_rule_46 : decode cX2_rule 46 = .ok (.ireturn, 1) := by decide +kernel
set_option maxRecDepth 20000 in
theorem ggX2_lowers_X1_hasSetting : GoodIn wsX2_lowers wsX1_hasSetting := goodIn_r _ [6, 7, 25, 26, 27, 28, 29] (by decide +kernel) (by decide +kernel)
set_option maxRecDepth 20000 in
theorem gX2_lowers_X1_hasSetting : GoodIn wsX2_lowers (wsV RX2 60 RX1 yX1_hasSetting wsX1_hasSetting) := goodIn_app (goodIn_of _ (by decide +kernel)) ggX2_lowers_X1_hasSetting
set_option maxRecDepth 20000 in
theorem ggX2_lowers_X1_dropOf : GoodIn wsX2_lowers wsX1_dropOf := goodIn_r _ [11, 7, 12, 13, 14, 15, 16, 25, 26, 27, 28, 29] (by decide +kernel) (by decide +kernel)
set_option maxRecDepth 20000 in
theorem gX2_lowers_X1_dropOf : GoodIn wsX2_lowers (wsV RX2 63 RX1 yX1_dropOf wsX1_dropOf) := goodIn_app (goodIn_of _ (by decide +kernel)) ggX2_lowers_X1_dropOf
theorem dX2_lowers_0 : decode cX2_lowers 0 = .ok (.aload_n 0, 1) := by decide +kernel
theorem dX2_lowers_1 : decode cX2_lowers 1 = .ok (.getfield 12, 3) := by decide +kernel
theorem dX2_lowers_4 : decode cX2_lowers 4 = .ok (.iload_n 1, 1) := by decide +kernel
theorem dX2_lowers_5 : decode cX2_lowers 5 = .ok (.invokevirtual 60, 3) := by decide +kernel
theorem dX2_lowers_8 : decode cX2_lowers 8 = .ok (.ifCond .eq 18, 3) := by decide +kernel
theorem dX2_lowers_11 : decode cX2_lowers 11 = .ok (.aload_n 0, 1) := by decide +kernel
theorem dX2_lowers_12 : decode cX2_lowers 12 = .ok (.getfield 12, 3) := by decide +kernel
theorem dX2_lowers_15 : decode cX2_lowers 15 = .ok (.iload_n 1, 1) := by decide +kernel
theorem dX2_lowers_16 : decode cX2_lowers 16 = .ok (.invokevirtual 63, 3) := by decide +kernel
theorem dX2_lowers_19 : decode cX2_lowers 19 = .ok (.sipush 1000, 3) := by decide +kernel
theorem dX2_lowers_22 : decode cX2_lowers 22 = .ok (.iadd, 1) := by decide +kernel
theorem dX2_lowers_23 : decode cX2_lowers 23 = .ok (.goto 5, 3) := by decide +kernel
theorem dX2_lowers_26 : decode cX2_lowers 26 = .ok (.bipush (-2), 2) := by decide +kernel
theorem dX2_lowers_28 : decode cX2_lowers 28 = .ok (.ireturn, 1) := by decide +kernel
set_option maxRecDepth 20000 in
theorem ggX2_off_X1_hasWay : GoodIn wsX2_off wsX1_hasWay := goodIn_r _ [6, 7, 8, 9, 5, 10, 11, 36, 37, 38, 39, 40] (by decide +kernel) (by decide +kernel)
set_option maxRecDepth 20000 in
theorem gX2_off_X1_hasWay : GoodIn wsX2_off (wsV RX2 67 RX1 yX1_hasWay wsX1_hasWay) := goodIn_app (goodIn_of _ (by decide +kernel)) ggX2_off_X1_hasWay
set_option maxRecDepth 20000 in
theorem ggX2_off_X2_isNote : GoodIn wsX2_off wsX2_isNote := goodIn_r _ [15] (by decide +kernel) (by decide +kernel)
set_option maxRecDepth 20000 in
theorem gX2_off_X2_isNote : GoodIn wsX2_off (va_wsS RX2 70 yX2_isNote wsX2_isNote) := goodIn_app (goodIn_of _ (by decide +kernel)) ggX2_off_X2_isNote
set_option maxRecDepth 20000 in
theorem ggX2_off_X1_offBy : GoodIn wsX2_off wsX1_offBy := goodIn_r _ [19, 20, 21, 22, 5, 23, 11, 24, 25, 26, 14, 27, 36, 37, 38, 39, 40] (by decide +kernel) (by decide +kernel)
set_option maxRecDepth 20000 in
theorem gX2_off_X1_offBy : GoodIn wsX2_off (wsV RX2 73 RX1 yX1_offBy wsX1_offBy) := goodIn_app (goodIn_of _ (by decide +kernel)) ggX2_off_X1_offBy
theorem dX2_off_0 : decode cX2_off 0 = .ok (.aload_n 0, 1) := by decide +kernel
theorem dX2_off_1 : decode cX2_off 1 = .ok (.getfield 12, 3) := by decide +kernel
theorem dX2_off_4 : decode cX2_off 4 = .ok (.iload_n 1, 1) := by decide +kernel
theorem dX2_off_5 : decode cX2_off 5 = .ok (.invokevirtual 67, 3) := by decide +kernel
theorem dX2_off_8 : decode cX2_off 8 = .ok (.ifCond .eq 26, 3) := by decide +kernel
theorem dX2_off_11 : decode cX2_off 11 = .ok (.iload_n 2, 1) := by decide +kernel
theorem dX2_off_12 : decode cX2_off 12 = .ok (.invokestatic 70, 3) := by decide +kernel
theorem dX2_off_15 : decode cX2_off 15 = .ok (.ifCond .eq 19, 3) := by decide +kernel
theorem dX2_off_18 : decode cX2_off 18 = .ok (.aload_n 0, 1) := by decide +kernel
theorem dX2_off_19 : decode cX2_off 19 = .ok (.getfield 12, 3) := by decide +kernel
theorem dX2_off_22 : decode cX2_off 22 = .ok (.iload_n 1, 1) := by decide +kernel
theorem dX2_off_23 : decode cX2_off 23 = .ok (.iload_n 2, 1) := by decide +kernel
theorem dX2_off_24 : decode cX2_off 24 = .ok (.invokevirtual 73, 3) := by decide +kernel
theorem dX2_off_27 : decode cX2_off 27 = .ok (.sipush 10000, 3) := by decide +kernel
theorem dX2_off_30 : decode cX2_off 30 = .ok (.iadd, 1) := by decide +kernel
theorem dX2_off_31 : decode cX2_off 31 = .ok (.goto 5, 3) := by decide +kernel
theorem dX2_off_34 : decode cX2_off 34 = .ok (.bipush (-2), 2) := by decide +kernel
theorem dX2_off_36 : decode cX2_off 36 = .ok (.ireturn, 1) := by decide +kernel
set_option maxRecDepth 20000 in
theorem ggX2_ways_X2_isNote : GoodIn wsX2_ways wsX2_isNote := goodIn_r _ [6] (by decide +kernel) (by decide +kernel)
set_option maxRecDepth 20000 in
theorem gX2_ways_X2_isNote : GoodIn wsX2_ways (va_wsS RX2 70 yX2_isNote wsX2_isNote) := goodIn_app (goodIn_of _ (by decide +kernel)) ggX2_ways_X2_isNote
set_option maxRecDepth 20000 in
theorem ggX2_ways_X1_gatherWays : GoodIn wsX2_ways wsX1_gatherWays := goodIn_r _ [11, 12, 13, 14, 15, 16, 17, 18, 19, 10, 20, 21, 22, 23, 24, 25, 26, 27, 28, 29, 30, 31, 32, 33, 34, 35, 5, 36, 45, 46, 47, 48, 49] (by decide +kernel) (by decide +kernel)
set_option maxRecDepth 20000 in
theorem gX2_ways_X1_gatherWays : GoodIn wsX2_ways (wsV RX2 77 RX1 yX1_gatherWays wsX1_gatherWays) := goodIn_app (goodIn_of _ (by decide +kernel)) ggX2_ways_X1_gatherWays
theorem dX2_ways_0 : decode cX2_ways 0 = .ok (.iload_n 1, 1) := by decide +kernel
theorem dX2_ways_1 : decode cX2_ways 1 = .ok (.invokestatic 70, 3) := by decide +kernel
theorem dX2_ways_4 : decode cX2_ways 4 = .ok (.ifCond .eq 8, 3) := by decide +kernel
theorem dX2_ways_7 : decode cX2_ways 7 = .ok (.iload_n 2, 1) := by decide +kernel
theorem dX2_ways_8 : decode cX2_ways 8 = .ok (.iconst (-1), 1) := by decide +kernel
theorem dX2_ways_9 : decode cX2_ways 9 = .ok (.if_icmp .ge 6, 3) := by decide +kernel
theorem dX2_ways_12 : decode cX2_ways 12 = .ok (.bipush (-2), 2) := by decide +kernel
theorem dX2_ways_14 : decode cX2_ways 14 = .ok (.ireturn, 1) := by decide +kernel
theorem dX2_ways_15 : decode cX2_ways 15 = .ok (.aload_n 0, 1) := by decide +kernel
theorem dX2_ways_16 : decode cX2_ways 16 = .ok (.getfield 12, 3) := by decide +kernel
theorem dX2_ways_19 : decode cX2_ways 19 = .ok (.iload_n 1, 1) := by decide +kernel
theorem dX2_ways_20 : decode cX2_ways 20 = .ok (.aload_n 0, 1) := by decide +kernel
theorem dX2_ways_21 : decode cX2_ways 21 = .ok (.getfield 31, 3) := by decide +kernel
theorem dX2_ways_24 : decode cX2_ways 24 = .ok (.iconst 0, 1) := by decide +kernel
theorem dX2_ways_25 : decode cX2_ways 25 = .ok (.invokevirtual 77, 3) := by decide +kernel
theorem dX2_ways_28 : decode cX2_ways 28 = .ok (.istore_n 3, 1) := by decide +kernel
theorem dX2_ways_29 : decode cX2_ways 29 = .ok (.iload_n 2, 1) := by decide +kernel
theorem dX2_ways_30 : decode cX2_ways 30 = .ok (.iconst (-1), 1) := by decide +kernel
theorem dX2_ways_31 : decode cX2_ways 31 = .ok (.if_icmp .ne 5, 3) := by decide +kernel
theorem dX2_ways_34 : decode cX2_ways 34 = .ok (.iload_n 3, 1) := by decide +kernel
theorem dX2_ways_35 : decode cX2_ways 35 = .ok (.ireturn, 1) := by decide +kernel
theorem dX2_ways_36 : decode cX2_ways 36 = .ok (.iload_n 2, 1) := by decide +kernel
theorem dX2_ways_37 : decode cX2_ways 37 = .ok (.iload_n 3, 1) := by decide +kernel
theorem dX2_ways_38 : decode cX2_ways 38 = .ok (.if_icmp .ge 12, 3) := by decide +kernel
theorem dX2_ways_41 : decode cX2_ways 41 = .ok (.aload_n 0, 1) := by decide +kernel
theorem dX2_ways_42 : decode cX2_ways 42 = .ok (.getfield 31, 3) := by decide +kernel
theorem dX2_ways_45 : decode cX2_ways 45 = .ok (.iload_n 2, 1) := by decide +kernel
theorem dX2_ways_46 : decode cX2_ways 46 = .ok (.iaload, 1) := by decide +kernel
theorem dX2_ways_47 : decode cX2_ways 47 = .ok (.goto 5, 3) := by decide +kernel
theorem dX2_ways_50 : decode cX2_ways 50 = .ok (.bipush (-6), 2) := by decide +kernel
theorem dX2_ways_52 : decode cX2_ways 52 = .ok (.ireturn, 1) := by decide +kernel
set_option maxRecDepth 20000 in
theorem ggX2_truest_X2_isNote : GoodIn wsX2_truest wsX2_isNote := goodIn_r _ [11] (by decide +kernel) (by decide +kernel)
set_option maxRecDepth 20000 in
theorem gX2_truest_X2_isNote : GoodIn wsX2_truest (va_wsS RX2 70 yX2_isNote wsX2_isNote) := goodIn_app (goodIn_of _ (by decide +kernel)) ggX2_truest_X2_isNote
set_option maxRecDepth 20000 in
theorem ggX2_truest_X1_gatherWays : GoodIn wsX2_truest wsX1_gatherWays := goodIn_r _ [16, 17, 5, 6, 7, 18, 19, 20, 21, 15, 22, 23, 24, 25, 26, 27, 28, 29, 30, 31, 32, 33, 34, 35, 36, 37, 10, 38, 48, 49, 50, 51, 52] (by decide +kernel) (by decide +kernel)
set_option maxRecDepth 20000 in
theorem gX2_truest_X1_gatherWays : GoodIn wsX2_truest (wsV RX2 77 RX1 yX1_gatherWays wsX1_gatherWays) := goodIn_app (goodIn_of _ (by decide +kernel)) ggX2_truest_X1_gatherWays
set_option maxRecDepth 20000 in
theorem ggX2_truest_X1_offBy : GoodIn wsX2_truest wsX1_offBy := goodIn_r _ [31, 32, 33, 34, 15, 35, 27, 36, 18, 37, 10, 38, 48, 49, 50, 51, 52] (by decide +kernel) (by decide +kernel)
set_option maxRecDepth 20000 in
theorem gX2_truest_X1_offBy : GoodIn wsX2_truest (wsV RX2 73 RX1 yX1_offBy wsX1_offBy) := goodIn_app (goodIn_of _ (by decide +kernel)) ggX2_truest_X1_offBy
theorem dX2_truest_0 : decode cX2_truest 0 = .ok (.iload_n 1, 1) := by decide +kernel
theorem dX2_truest_1 : decode cX2_truest 1 = .ok (.invokestatic 70, 3) := by decide +kernel
theorem dX2_truest_4 : decode cX2_truest 4 = .ok (.ifCond .ne 6, 3) := by decide +kernel
theorem dX2_truest_7 : decode cX2_truest 7 = .ok (.bipush (-2), 2) := by decide +kernel
theorem dX2_truest_9 : decode cX2_truest 9 = .ok (.ireturn, 1) := by decide +kernel
theorem dX2_truest_10 : decode cX2_truest 10 = .ok (.aload_n 0, 1) := by decide +kernel
theorem dX2_truest_11 : decode cX2_truest 11 = .ok (.getfield 12, 3) := by decide +kernel
theorem dX2_truest_14 : decode cX2_truest 14 = .ok (.iload_n 1, 1) := by decide +kernel
theorem dX2_truest_15 : decode cX2_truest 15 = .ok (.aload_n 0, 1) := by decide +kernel
theorem dX2_truest_16 : decode cX2_truest 16 = .ok (.getfield 31, 3) := by decide +kernel
theorem dX2_truest_19 : decode cX2_truest 19 = .ok (.iconst 0, 1) := by decide +kernel
theorem dX2_truest_20 : decode cX2_truest 20 = .ok (.invokevirtual 77, 3) := by decide +kernel
theorem dX2_truest_23 : decode cX2_truest 23 = .ok (.istore_n 2, 1) := by decide +kernel
theorem dX2_truest_24 : decode cX2_truest 24 = .ok (.bipush (-6), 2) := by decide +kernel
theorem dX2_truest_26 : decode cX2_truest 26 = .ok (.istore_n 3, 1) := by decide +kernel
theorem dX2_truest_27 : decode cX2_truest 27 = .ok (.ldc 81, 2) := by decide +kernel
theorem dX2_truest_29 : decode cX2_truest 29 = .ok (.istore 4, 2) := by decide +kernel
theorem dX2_truest_31 : decode cX2_truest 31 = .ok (.iconst 0, 1) := by decide +kernel
theorem dX2_truest_32 : decode cX2_truest 32 = .ok (.istore 5, 2) := by decide +kernel
theorem dX2_truest_34 : decode cX2_truest 34 = .ok (.iload 5, 2) := by decide +kernel
theorem dX2_truest_36 : decode cX2_truest 36 = .ok (.iload_n 2, 1) := by decide +kernel
theorem dX2_truest_37 : decode cX2_truest 37 = .ok (.if_icmp .ge 48, 3) := by decide +kernel
theorem dX2_truest_40 : decode cX2_truest 40 = .ok (.aload_n 0, 1) := by decide +kernel
theorem dX2_truest_41 : decode cX2_truest 41 = .ok (.getfield 12, 3) := by decide +kernel
theorem dX2_truest_44 : decode cX2_truest 44 = .ok (.aload_n 0, 1) := by decide +kernel
theorem dX2_truest_45 : decode cX2_truest 45 = .ok (.getfield 31, 3) := by decide +kernel
theorem dX2_truest_48 : decode cX2_truest 48 = .ok (.iload 5, 2) := by decide +kernel
theorem dX2_truest_50 : decode cX2_truest 50 = .ok (.iaload, 1) := by decide +kernel
theorem dX2_truest_51 : decode cX2_truest 51 = .ok (.iload_n 1, 1) := by decide +kernel
theorem dX2_truest_52 : decode cX2_truest 52 = .ok (.invokevirtual 73, 3) := by decide +kernel
theorem dX2_truest_55 : decode cX2_truest 55 = .ok (.invokestatic 82, 3) := by decide +kernel
theorem dX2_truest_58 : decode cX2_truest 58 = .ok (.istore 6, 2) := by decide +kernel
theorem dX2_truest_60 : decode cX2_truest 60 = .ok (.iload 6, 2) := by decide +kernel
theorem dX2_truest_62 : decode cX2_truest 62 = .ok (.iload 4, 2) := by decide +kernel
theorem dX2_truest_64 : decode cX2_truest 64 = .ok (.if_icmp .ge 15, 3) := by decide +kernel
theorem dX2_truest_67 : decode cX2_truest 67 = .ok (.iload 6, 2) := by decide +kernel
theorem dX2_truest_69 : decode cX2_truest 69 = .ok (.istore 4, 2) := by decide +kernel
theorem dX2_truest_71 : decode cX2_truest 71 = .ok (.aload_n 0, 1) := by decide +kernel
theorem dX2_truest_72 : decode cX2_truest 72 = .ok (.getfield 31, 3) := by decide +kernel
theorem dX2_truest_75 : decode cX2_truest 75 = .ok (.iload 5, 2) := by decide +kernel
theorem dX2_truest_77 : decode cX2_truest 77 = .ok (.iaload, 1) := by decide +kernel
theorem dX2_truest_78 : decode cX2_truest 78 = .ok (.istore_n 3, 1) := by decide +kernel
theorem dX2_truest_79 : decode cX2_truest 79 = .ok (.iinc 5 1, 3) := by decide +kernel
theorem dX2_truest_82 : decode cX2_truest 82 = .ok (.goto (-48), 3) := by decide +kernel
theorem dX2_truest_85 : decode cX2_truest 85 = .ok (.iload_n 3, 1) := by decide +kernel
theorem dX2_truest_86 : decode cX2_truest 86 = .ok (.ireturn, 1) := by decide +kernel
set_option maxRecDepth 20000 in
theorem ggX2_range_X1_gatherWays : GoodIn wsX2_range wsX1_gatherWays := goodIn_r _ [7, 8, 9, 10, 11, 12, 13, 14, 15, 6, 16, 17, 18, 19, 20, 21, 22, 23, 24, 25, 26, 27, 28, 29, 30, 31, 32, 33, 42, 43, 44, 45, 46] (by decide +kernel) (by decide +kernel)
set_option maxRecDepth 20000 in
theorem gX2_range_X1_gatherWays : GoodIn wsX2_range (wsV RX2 77 RX1 yX1_gatherWays wsX1_gatherWays) := goodIn_app (goodIn_of _ (by decide +kernel)) ggX2_range_X1_gatherWays
theorem dX2_range_0 : decode cX2_range 0 = .ok (.iload_n 1, 1) := by decide +kernel
theorem dX2_range_1 : decode cX2_range 1 = .ok (.iconst (-1), 1) := by decide +kernel
theorem dX2_range_2 : decode cX2_range 2 = .ok (.if_icmp .lt 9, 3) := by decide +kernel
theorem dX2_range_5 : decode cX2_range 5 = .ok (.iload_n 1, 1) := by decide +kernel
theorem dX2_range_6 : decode cX2_range 6 = .ok (.bipush 64, 2) := by decide +kernel
theorem dX2_range_8 : decode cX2_range 8 = .ok (.if_icmp .le 6, 3) := by decide +kernel
theorem dX2_range_11 : decode cX2_range 11 = .ok (.bipush (-2), 2) := by decide +kernel
theorem dX2_range_13 : decode cX2_range 13 = .ok (.ireturn, 1) := by decide +kernel
theorem dX2_range_14 : decode cX2_range 14 = .ok (.iconst 0, 1) := by decide +kernel
theorem dX2_range_15 : decode cX2_range 15 = .ok (.istore_n 2, 1) := by decide +kernel
theorem dX2_range_16 : decode cX2_range 16 = .ok (.iconst 0, 1) := by decide +kernel
theorem dX2_range_17 : decode cX2_range 17 = .ok (.istore_n 3, 1) := by decide +kernel
theorem dX2_range_18 : decode cX2_range 18 = .ok (.iload_n 3, 1) := by decide +kernel
theorem dX2_range_19 : decode cX2_range 19 = .ok (.bipush 37, 2) := by decide +kernel
theorem dX2_range_21 : decode cX2_range 21 = .ok (.if_icmp .ge 46, 3) := by decide +kernel
theorem dX2_range_24 : decode cX2_range 24 = .ok (.aload_n 0, 1) := by decide +kernel
theorem dX2_range_25 : decode cX2_range 25 = .ok (.getfield 12, 3) := by decide +kernel
theorem dX2_range_28 : decode cX2_range 28 = .ok (.iload_n 3, 1) := by decide +kernel
theorem dX2_range_29 : decode cX2_range 29 = .ok (.aload_n 0, 1) := by decide +kernel
theorem dX2_range_30 : decode cX2_range 30 = .ok (.getfield 31, 3) := by decide +kernel
theorem dX2_range_33 : decode cX2_range 33 = .ok (.iconst 0, 1) := by decide +kernel
theorem dX2_range_34 : decode cX2_range 34 = .ok (.invokevirtual 77, 3) := by decide +kernel
theorem dX2_range_37 : decode cX2_range 37 = .ok (.istore 4, 2) := by decide +kernel
theorem dX2_range_39 : decode cX2_range 39 = .ok (.iload_n 1, 1) := by decide +kernel
theorem dX2_range_40 : decode cX2_range 40 = .ok (.iconst (-1), 1) := by decide +kernel
theorem dX2_range_41 : decode cX2_range 41 = .ok (.if_icmp .ne 11, 3) := by decide +kernel
theorem dX2_range_44 : decode cX2_range 44 = .ok (.iload 4, 2) := by decide +kernel
theorem dX2_range_46 : decode cX2_range 46 = .ok (.ifCond .le 15, 3) := by decide +kernel
theorem dX2_range_49 : decode cX2_range 49 = .ok (.goto 9, 3) := by decide +kernel
theorem dX2_range_52 : decode cX2_range 52 = .ok (.iload 4, 2) := by decide +kernel
theorem dX2_range_54 : decode cX2_range 54 = .ok (.iload_n 1, 1) := by decide +kernel
theorem dX2_range_55 : decode cX2_range 55 = .ok (.if_icmp .ne 6, 3) := by decide +kernel
theorem dX2_range_58 : decode cX2_range 58 = .ok (.iinc 2 1, 3) := by decide +kernel
theorem dX2_range_61 : decode cX2_range 61 = .ok (.iinc 3 1, 3) := by decide +kernel
theorem dX2_range_64 : decode cX2_range 64 = .ok (.goto (-46), 3) := by decide +kernel
theorem dX2_range_67 : decode cX2_range 67 = .ok (.iload_n 2, 1) := by decide +kernel
theorem dX2_range_68 : decode cX2_range 68 = .ok (.ireturn, 1) := by decide +kernel
set_option maxRecDepth 20000 in
theorem ggX2_note_X2_isNote : GoodIn wsX2_note wsX2_isNote := goodIn_r _ [7] (by decide +kernel) (by decide +kernel)
set_option maxRecDepth 20000 in
theorem gX2_note_X2_isNote : GoodIn wsX2_note (va_wsS RX2 70 yX2_isNote wsX2_isNote) := goodIn_app (goodIn_of _ (by decide +kernel)) ggX2_note_X2_isNote
theorem dX2_note_0 : decode cX2_note 0 = .ok (.iload_n 1, 1) := by decide +kernel
theorem dX2_note_1 : decode cX2_note 1 = .ok (.invokestatic 70, 3) := by decide +kernel
theorem dX2_note_4 : decode cX2_note 4 = .ok (.ifCond .ne 6, 3) := by decide +kernel
theorem dX2_note_7 : decode cX2_note 7 = .ok (.bipush (-2), 2) := by decide +kernel
theorem dX2_note_9 : decode cX2_note 9 = .ok (.ireturn, 1) := by decide +kernel
theorem dX2_note_10 : decode cX2_note 10 = .ok (.aload_n 0, 1) := by decide +kernel
theorem dX2_note_11 : decode cX2_note 11 = .ok (.getfield 12, 3) := by decide +kernel
theorem dX2_note_14 : decode cX2_note 14 = .ok (.getfield 87, 3) := by decide +kernel
theorem dX2_note_17 : decode cX2_note 17 = .ok (.bipush 12, 2) := by decide +kernel
theorem dX2_note_19 : decode cX2_note 19 = .ok (.if_icmp .lt 6, 3) := by decide +kernel
theorem dX2_note_22 : decode cX2_note 22 = .ok (.bipush (-4), 2) := by decide +kernel
theorem dX2_note_24 : decode cX2_note 24 = .ok (.ireturn, 1) := by decide +kernel
theorem dX2_note_25 : decode cX2_note 25 = .ok (.aload_n 0, 1) := by decide +kernel
theorem dX2_note_26 : decode cX2_note 26 = .ok (.getfield 12, 3) := by decide +kernel
theorem dX2_note_29 : decode cX2_note 29 = .ok (.getfield 87, 3) := by decide +kernel
theorem dX2_note_32 : decode cX2_note 32 = .ok (.istore_n 2, 1) := by decide +kernel
theorem dX2_note_33 : decode cX2_note 33 = .ok (.aload_n 0, 1) := by decide +kernel
theorem dX2_note_34 : decode cX2_note 34 = .ok (.getfield 12, 3) := by decide +kernel
theorem dX2_note_37 : decode cX2_note 37 = .ok (.getfield 90, 3) := by decide +kernel
theorem dX2_note_40 : decode cX2_note 40 = .ok (.iload_n 2, 1) := by decide +kernel
theorem dX2_note_41 : decode cX2_note 41 = .ok (.iload_n 1, 1) := by decide +kernel
theorem dX2_note_42 : decode cX2_note 42 = .ok (.iastore, 1) := by decide +kernel
theorem dX2_note_43 : decode cX2_note 43 = .ok (.aload_n 0, 1) := by decide +kernel
theorem dX2_note_44 : decode cX2_note 44 = .ok (.getfield 12, 3) := by decide +kernel
theorem dX2_note_47 : decode cX2_note 47 = .ok (.iload_n 2, 1) := by decide +kernel
theorem dX2_note_48 : decode cX2_note 48 = .ok (.iconst 1, 1) := by decide +kernel
theorem dX2_note_49 : decode cX2_note 49 = .ok (.iadd, 1) := by decide +kernel
theorem dX2_note_50 : decode cX2_note 50 = .ok (.putfield 87, 3) := by decide +kernel
theorem dX2_note_53 : decode cX2_note 53 = .ok (.iload_n 2, 1) := by decide +kernel
theorem dX2_note_54 : decode cX2_note 54 = .ok (.ireturn, 1) := by decide +kernel
set_option maxRecDepth 20000 in
theorem ggX2_set_X2_isPlace : GoodIn wsX2_set wsX2_isPlace := goodIn_r _ [7, 1, 8, 12, 13, 14, 15, 16, 17, 18, 19, 20, 21, 22, 23, 24] (by decide +kernel) (by decide +kernel)
set_option maxRecDepth 20000 in
theorem gX2_set_X2_isPlace : GoodIn wsX2_set (wsV RX2 93 RX2 yX2_isPlace wsX2_isPlace) := goodIn_app (goodIn_of _ (by decide +kernel)) ggX2_set_X2_isPlace
set_option maxRecDepth 20000 in
theorem ggX2_set_X2_isNote : GoodIn wsX2_set wsX2_isNote := goodIn_r _ [11] (by decide +kernel) (by decide +kernel)
set_option maxRecDepth 20000 in
theorem gX2_set_X2_isNote : GoodIn wsX2_set (va_wsS RX2 70 yX2_isNote wsX2_isNote) := goodIn_app (goodIn_of _ (by decide +kernel)) ggX2_set_X2_isNote
theorem dX2_set_0 : decode cX2_set 0 = .ok (.aload_n 0, 1) := by decide +kernel
theorem dX2_set_1 : decode cX2_set 1 = .ok (.iload_n 1, 1) := by decide +kernel
theorem dX2_set_2 : decode cX2_set 2 = .ok (.invokevirtual 93, 3) := by decide +kernel
theorem dX2_set_5 : decode cX2_set 5 = .ok (.ifCond .ne 5, 3) := by decide +kernel
theorem dX2_set_8 : decode cX2_set 8 = .ok (.iconst (-1), 1) := by decide +kernel
theorem dX2_set_9 : decode cX2_set 9 = .ok (.ireturn, 1) := by decide +kernel
theorem dX2_set_10 : decode cX2_set 10 = .ok (.iload_n 2, 1) := by decide +kernel
theorem dX2_set_11 : decode cX2_set 11 = .ok (.invokestatic 70, 3) := by decide +kernel
theorem dX2_set_14 : decode cX2_set 14 = .ok (.ifCond .ne 6, 3) := by decide +kernel
theorem dX2_set_17 : decode cX2_set 17 = .ok (.bipush (-2), 2) := by decide +kernel
theorem dX2_set_19 : decode cX2_set 19 = .ok (.ireturn, 1) := by decide +kernel
theorem dX2_set_20 : decode cX2_set 20 = .ok (.aload_n 0, 1) := by decide +kernel
theorem dX2_set_21 : decode cX2_set 21 = .ok (.getfield 12, 3) := by decide +kernel
theorem dX2_set_24 : decode cX2_set 24 = .ok (.getfield 90, 3) := by decide +kernel
theorem dX2_set_27 : decode cX2_set 27 = .ok (.iload_n 1, 1) := by decide +kernel
theorem dX2_set_28 : decode cX2_set 28 = .ok (.iaload, 1) := by decide +kernel
theorem dX2_set_29 : decode cX2_set 29 = .ok (.istore_n 3, 1) := by decide +kernel
theorem dX2_set_30 : decode cX2_set 30 = .ok (.aload_n 0, 1) := by decide +kernel
theorem dX2_set_31 : decode cX2_set 31 = .ok (.getfield 12, 3) := by decide +kernel
theorem dX2_set_34 : decode cX2_set 34 = .ok (.getfield 90, 3) := by decide +kernel
theorem dX2_set_37 : decode cX2_set 37 = .ok (.iload_n 1, 1) := by decide +kernel
theorem dX2_set_38 : decode cX2_set 38 = .ok (.iload_n 2, 1) := by decide +kernel
theorem dX2_set_39 : decode cX2_set 39 = .ok (.iastore, 1) := by decide +kernel
theorem dX2_set_40 : decode cX2_set 40 = .ok (.iload_n 3, 1) := by decide +kernel
theorem dX2_set_41 : decode cX2_set 41 = .ok (.ireturn, 1) := by decide +kernel
theorem dX2_clear_0 : decode cX2_clear 0 = .ok (.aload_n 0, 1) := by decide +kernel
theorem dX2_clear_1 : decode cX2_clear 1 = .ok (.getfield 12, 3) := by decide +kernel
theorem dX2_clear_4 : decode cX2_clear 4 = .ok (.getfield 87, 3) := by decide +kernel
theorem dX2_clear_7 : decode cX2_clear 7 = .ok (.istore_n 1, 1) := by decide +kernel
theorem dX2_clear_8 : decode cX2_clear 8 = .ok (.aload_n 0, 1) := by decide +kernel
theorem dX2_clear_9 : decode cX2_clear 9 = .ok (.getfield 12, 3) := by decide +kernel
theorem dX2_clear_12 : decode cX2_clear 12 = .ok (.iconst 0, 1) := by decide +kernel
theorem dX2_clear_13 : decode cX2_clear 13 = .ok (.putfield 87, 3) := by decide +kernel
theorem dX2_clear_16 : decode cX2_clear 16 = .ok (.iload_n 1, 1) := by decide +kernel
theorem dX2_clear_17 : decode cX2_clear 17 = .ok (.ireturn, 1) := by decide +kernel
set_option maxRecDepth 20000 in
theorem ggX2_effort_X1_hasWay : GoodIn wsX2_effort wsX1_hasWay := goodIn_r _ [6, 7, 8, 9, 5, 10, 11, 36, 37, 38, 39, 40] (by decide +kernel) (by decide +kernel)
set_option maxRecDepth 20000 in
theorem gX2_effort_X1_hasWay : GoodIn wsX2_effort (wsV RX2 67 RX1 yX1_hasWay wsX1_hasWay) := goodIn_app (goodIn_of _ (by decide +kernel)) ggX2_effort_X1_hasWay
set_option maxRecDepth 20000 in
theorem ggX2_effort_X1_motion : GoodIn wsX2_effort wsX1_motion := goodIn_r _ [15, 11, 16, 17, 18, 19, 20, 21, 22, 23, 24, 25, 26, 27, 36, 37, 38, 39, 40] (by decide +kernel) (by decide +kernel)
set_option maxRecDepth 20000 in
theorem gX2_effort_X1_motion : GoodIn wsX2_effort (wsV RX2 96 RX1 yX1_motion wsX1_motion) := goodIn_app (goodIn_of _ (by decide +kernel)) ggX2_effort_X1_motion
theorem dX2_effort_0 : decode cX2_effort 0 = .ok (.aload_n 0, 1) := by decide +kernel
theorem dX2_effort_1 : decode cX2_effort 1 = .ok (.getfield 12, 3) := by decide +kernel
theorem dX2_effort_4 : decode cX2_effort 4 = .ok (.iload_n 1, 1) := by decide +kernel
theorem dX2_effort_5 : decode cX2_effort 5 = .ok (.invokevirtual 67, 3) := by decide +kernel
theorem dX2_effort_8 : decode cX2_effort 8 = .ok (.ifCond .eq 26, 3) := by decide +kernel
theorem dX2_effort_11 : decode cX2_effort 11 = .ok (.aload_n 0, 1) := by decide +kernel
theorem dX2_effort_12 : decode cX2_effort 12 = .ok (.getfield 12, 3) := by decide +kernel
theorem dX2_effort_15 : decode cX2_effort 15 = .ok (.iload_n 2, 1) := by decide +kernel
theorem dX2_effort_16 : decode cX2_effort 16 = .ok (.invokevirtual 67, 3) := by decide +kernel
theorem dX2_effort_19 : decode cX2_effort 19 = .ok (.ifCond .eq 15, 3) := by decide +kernel
theorem dX2_effort_22 : decode cX2_effort 22 = .ok (.aload_n 0, 1) := by decide +kernel
theorem dX2_effort_23 : decode cX2_effort 23 = .ok (.getfield 12, 3) := by decide +kernel
theorem dX2_effort_26 : decode cX2_effort 26 = .ok (.iload_n 1, 1) := by decide +kernel
theorem dX2_effort_27 : decode cX2_effort 27 = .ok (.iload_n 2, 1) := by decide +kernel
theorem dX2_effort_28 : decode cX2_effort 28 = .ok (.invokevirtual 96, 3) := by decide +kernel
theorem dX2_effort_31 : decode cX2_effort 31 = .ok (.goto 5, 3) := by decide +kernel
theorem dX2_effort_34 : decode cX2_effort 34 = .ok (.bipush (-2), 2) := by decide +kernel
theorem dX2_effort_36 : decode cX2_effort 36 = .ok (.ireturn, 1) := by decide +kernel
set_option maxRecDepth 20000 in
theorem ggX2_least_X0_workOut : GoodIn wsX2_least wsX0_workOut := goodIn_r _ [8, 9, 10, 11, 12, 13, 14, 15, 16, 17, 18, 19, 20, 21, 22, 23, 24, 25, 26, 27, 28, 29, 30, 31, 32, 33, 34, 35, 36, 37, 38, 39, 40, 41, 42, 43, 44, 45, 46, 47, 7, 48, 49, 50, 51, 52, 53, 54, 55, 56, 57, 58, 59, 60, 61, 62, 63, 64, 65, 66, 67, 108, 109, 110, 111, 112, 113, 114, 115, 116, 117, 118] (by decide +kernel) (by decide +kernel)
set_option maxRecDepth 20000 in
theorem gX2_least_X0_workOut : GoodIn wsX2_least (wsV RX2 99 RX0 yX0_workOut wsX0_workOut) := goodIn_app (goodIn_of _ (by decide +kernel)) ggX2_least_X0_workOut
set_option maxRecDepth 20000 in
theorem ggX2_least_X0_hasPlan : GoodIn wsX2_least wsX0_hasPlan := goodIn_r _ [71, 72, 73, 74, 7, 75, 10, 11, 113, 114, 115, 116, 117, 118] (by decide +kernel) (by decide +kernel)
set_option maxRecDepth 20000 in
theorem gX2_least_X0_hasPlan : GoodIn wsX2_least (wsV RX2 103 RX0 yX0_hasPlan wsX0_hasPlan) := goodIn_app (goodIn_of _ (by decide +kernel)) ggX2_least_X0_hasPlan
set_option maxRecDepth 20000 in
theorem ggX2_least_X0_leastCost : GoodIn wsX2_least wsX0_leastCost := goodIn_r _ [79, 10, 49, 11, 50, 80, 81, 21, 82, 113, 114, 115, 116, 117, 118] (by decide +kernel) (by decide +kernel)
set_option maxRecDepth 20000 in
theorem gX2_least_X0_leastCost : GoodIn wsX2_least (wsV RX2 107 RX0 yX0_leastCost wsX0_leastCost) := goodIn_app (goodIn_of _ (by decide +kernel)) ggX2_least_X0_leastCost
set_option maxRecDepth 20000 in
theorem ggX2_least_X0_leastWayAt : GoodIn wsX2_least wsX0_leastWayAt := goodIn_r _ [86, 10, 13, 87, 88, 89, 7, 90, 11, 50, 91, 77, 78, 79, 49, 80, 81, 21, 82, 92, 93, 94, 95, 96, 97, 98, 52, 53, 54, 55, 17, 56, 32, 19, 20, 22, 23, 57, 58, 59, 60, 61, 62, 63, 99, 113, 114, 115, 116, 117, 118, 108, 109, 110, 111, 112] (by decide +kernel) (by decide +kernel)
set_option maxRecDepth 20000 in
theorem gX2_least_X0_leastWayAt : GoodIn wsX2_least (wsV RX2 111 RX0 yX0_leastWayAt wsX0_leastWayAt) := goodIn_app (goodIn_of _ (by decide +kernel)) ggX2_least_X0_leastWayAt
theorem dX2_least_0 : decode cX2_least 0 = .ok (.iload_n 1, 1) := by decide +kernel
theorem dX2_least_1 : decode cX2_least 1 = .ok (.iconst (-1), 1) := by decide +kernel
theorem dX2_least_2 : decode cX2_least 2 = .ok (.if_icmp .ge 6, 3) := by decide +kernel
theorem dX2_least_5 : decode cX2_least 5 = .ok (.bipush (-2), 2) := by decide +kernel
theorem dX2_least_7 : decode cX2_least 7 = .ok (.ireturn, 1) := by decide +kernel
theorem dX2_least_8 : decode cX2_least 8 = .ok (.iload_n 1, 1) := by decide +kernel
theorem dX2_least_9 : decode cX2_least 9 = .ok (.aload_n 0, 1) := by decide +kernel
theorem dX2_least_10 : decode cX2_least 10 = .ok (.getfield 12, 3) := by decide +kernel
theorem dX2_least_13 : decode cX2_least 13 = .ok (.getfield 87, 3) := by decide +kernel
theorem dX2_least_16 : decode cX2_least 16 = .ok (.if_icmp .lt 6, 3) := by decide +kernel
theorem dX2_least_19 : decode cX2_least 19 = .ok (.bipush (-6), 2) := by decide +kernel
theorem dX2_least_21 : decode cX2_least 21 = .ok (.ireturn, 1) := by decide +kernel
theorem dX2_least_22 : decode cX2_least 22 = .ok (.aload_n 0, 1) := by decide +kernel
theorem dX2_least_23 : decode cX2_least 23 = .ok (.getfield 27, 3) := by decide +kernel
theorem dX2_least_26 : decode cX2_least 26 = .ok (.aload_n 0, 1) := by decide +kernel
theorem dX2_least_27 : decode cX2_least 27 = .ok (.getfield 12, 3) := by decide +kernel
theorem dX2_least_30 : decode cX2_least 30 = .ok (.invokevirtual 99, 3) := by decide +kernel
theorem dX2_least_33 : decode cX2_least 33 = .ok (.aload_n 0, 1) := by decide +kernel
theorem dX2_least_34 : decode cX2_least 34 = .ok (.getfield 27, 3) := by decide +kernel
theorem dX2_least_37 : decode cX2_least 37 = .ok (.invokevirtual 103, 3) := by decide +kernel
theorem dX2_least_40 : decode cX2_least 40 = .ok (.ifCond .ne 6, 3) := by decide +kernel
theorem dX2_least_43 : decode cX2_least 43 = .ok (.bipush (-6), 2) := by decide +kernel
theorem dX2_least_45 : decode cX2_least 45 = .ok (.ireturn, 1) := by decide +kernel
theorem dX2_least_46 : decode cX2_least 46 = .ok (.iload_n 1, 1) := by decide +kernel
theorem dX2_least_47 : decode cX2_least 47 = .ok (.iconst (-1), 1) := by decide +kernel
theorem dX2_least_48 : decode cX2_least 48 = .ok (.if_icmp .ne 13, 3) := by decide +kernel
theorem dX2_least_51 : decode cX2_least 51 = .ok (.aload_n 0, 1) := by decide +kernel
theorem dX2_least_52 : decode cX2_least 52 = .ok (.getfield 27, 3) := by decide +kernel
theorem dX2_least_55 : decode cX2_least 55 = .ok (.invokevirtual 107, 3) := by decide +kernel
theorem dX2_least_58 : decode cX2_least 58 = .ok (.goto 15, 3) := by decide +kernel
theorem dX2_least_61 : decode cX2_least 61 = .ok (.aload_n 0, 1) := by decide +kernel
theorem dX2_least_62 : decode cX2_least 62 = .ok (.getfield 27, 3) := by decide +kernel
theorem dX2_least_65 : decode cX2_least 65 = .ok (.aload_n 0, 1) := by decide +kernel
theorem dX2_least_66 : decode cX2_least 66 = .ok (.getfield 12, 3) := by decide +kernel
theorem dX2_least_69 : decode cX2_least 69 = .ok (.iload_n 1, 1) := by decide +kernel
theorem dX2_least_70 : decode cX2_least 70 = .ok (.invokevirtual 111, 3) := by decide +kernel
theorem dX2_least_73 : decode cX2_least 73 = .ok (.ireturn, 1) := by decide +kernel
set_option maxRecDepth 20000 in
theorem ggX2_plans_X0_workOut : GoodIn wsX2_plans wsX0_workOut := goodIn_r _ [9, 10, 11, 12, 13, 14, 15, 16, 17, 18, 19, 20, 21, 22, 23, 24, 25, 26, 27, 28, 29, 30, 31, 32, 33, 34, 35, 36, 37, 38, 39, 40, 41, 42, 43, 44, 45, 46, 47, 48, 8, 49, 50, 51, 52, 53, 54, 55, 56, 57, 58, 59, 60, 61, 62, 63, 64, 65, 66, 67, 68, 116, 117, 118, 119, 120, 121, 122, 123, 124, 125, 126] (by decide +kernel) (by decide +kernel)
set_option maxRecDepth 20000 in
theorem gX2_plans_X0_workOut : GoodIn wsX2_plans (wsV RX2 99 RX0 yX0_workOut wsX0_workOut) := goodIn_app (goodIn_of _ (by decide +kernel)) ggX2_plans_X0_workOut
set_option maxRecDepth 20000 in
theorem ggX2_plans_X0_countAll : GoodIn wsX2_plans wsX0_countAll := goodIn_r _ [72, 11, 12, 121, 122, 123, 124, 125, 126] (by decide +kernel) (by decide +kernel)
set_option maxRecDepth 20000 in
theorem gX2_plans_X0_countAll : GoodIn wsX2_plans (wsV RX2 117 RX0 yX0_countAll wsX0_countAll) := goodIn_app (goodIn_of _ (by decide +kernel)) ggX2_plans_X0_countAll
set_option maxRecDepth 20000 in
theorem ggX2_plans_X0_countLeast : GoodIn wsX2_plans wsX0_countLeast := goodIn_r _ [76, 11, 12, 51, 52, 77, 78, 79, 8, 80, 81, 70, 71, 72, 82, 83, 84, 85, 50, 86, 87, 22, 88, 121, 122, 123, 124, 125, 126] (by decide +kernel) (by decide +kernel)
set_option maxRecDepth 20000 in
theorem gX2_plans_X0_countLeast : GoodIn wsX2_plans (wsV RX2 121 RX0 yX0_countLeast wsX0_countLeast) := goodIn_app (goodIn_of _ (by decide +kernel)) ggX2_plans_X0_countLeast
set_option maxRecDepth 20000 in
theorem ggX2_plans_X2_isPlace : GoodIn wsX2_plans wsX2_isPlace := goodIn_r _ [92, 3, 93, 108, 109, 110, 111, 112, 113, 114, 115, 116, 117, 118, 119, 120] (by decide +kernel) (by decide +kernel)
set_option maxRecDepth 20000 in
theorem gX2_plans_X2_isPlace : GoodIn wsX2_plans (wsV RX2 93 RX2 yX2_isPlace wsX2_isPlace) := goodIn_app (goodIn_of _ (by decide +kernel)) ggX2_plans_X2_isPlace
set_option maxRecDepth 20000 in
theorem ggX2_plans_X0_hasPlan : GoodIn wsX2_plans wsX0_hasPlan := goodIn_r _ [80, 81, 70, 71, 8, 72, 11, 12, 121, 122, 123, 124, 125, 126] (by decide +kernel) (by decide +kernel)
set_option maxRecDepth 20000 in
theorem gX2_plans_X0_hasPlan : GoodIn wsX2_plans (wsV RX2 103 RX0 yX0_hasPlan wsX0_hasPlan) := goodIn_app (goodIn_of _ (by decide +kernel)) ggX2_plans_X0_hasPlan
set_option maxRecDepth 20000 in
theorem ggX2_plans_X0_countWaysAt : GoodIn wsX2_plans wsX0_countWaysAt := goodIn_r _ [98, 99, 100, 101, 8, 102, 12, 51, 82, 83, 84, 85, 11, 50, 86, 87, 22, 88, 103, 104, 105, 106, 14, 53, 54, 55, 56, 18, 57, 33, 20, 21, 23, 24, 58, 59, 60, 61, 62, 63, 64, 107, 121, 122, 123, 124, 125, 126, 116, 117, 118, 119, 120] (by decide +kernel) (by decide +kernel)
set_option maxRecDepth 20000 in
theorem gX2_plans_X0_countWaysAt : GoodIn wsX2_plans (wsV RX2 124 RX0 yX0_countWaysAt wsX0_countWaysAt) := goodIn_app (goodIn_of _ (by decide +kernel)) ggX2_plans_X0_countWaysAt
theorem dX2_plans_0 : decode cX2_plans 0 = .ok (.iload_n 1, 1) := by decide +kernel
theorem dX2_plans_1 : decode cX2_plans 1 = .ok (.ifCond .lt 20, 3) := by decide +kernel
theorem dX2_plans_4 : decode cX2_plans 4 = .ok (.iload_n 1, 1) := by decide +kernel
theorem dX2_plans_5 : decode cX2_plans 5 = .ok (.iconst 1, 1) := by decide +kernel
theorem dX2_plans_6 : decode cX2_plans 6 = .ok (.if_icmp .le 9, 3) := by decide +kernel
theorem dX2_plans_9 : decode cX2_plans 9 = .ok (.iload_n 1, 1) := by decide +kernel
theorem dX2_plans_10 : decode cX2_plans 10 = .ok (.bipush 10, 2) := by decide +kernel
theorem dX2_plans_12 : decode cX2_plans 12 = .ok (.if_icmp .lt 9, 3) := by decide +kernel
end
section
theorem dX2_plans_15 : decode cX2_plans 15 = .ok (.iload_n 1, 1) := by decide +kernel
theorem dX2_plans_16 : decode cX2_plans 16 = .ok (.bipush 22, 2) := by decide +kernel
theorem dX2_plans_18 : decode cX2_plans 18 = .ok (.if_icmp .lt 7, 3) := by decide +kernel
theorem dX2_plans_21 : decode cX2_plans 21 = .ok (.ldc2_w 115, 3) := by decide +kernel
theorem dX2_plans_24 : decode cX2_plans 24 = .ok (.lreturn, 1) := by decide +kernel
theorem dX2_plans_25 : decode cX2_plans 25 = .ok (.aload_n 0, 1) := by decide +kernel
theorem dX2_plans_26 : decode cX2_plans 26 = .ok (.getfield 27, 3) := by decide +kernel
theorem dX2_plans_29 : decode cX2_plans 29 = .ok (.aload_n 0, 1) := by decide +kernel
theorem dX2_plans_30 : decode cX2_plans 30 = .ok (.getfield 12, 3) := by decide +kernel
theorem dX2_plans_33 : decode cX2_plans 33 = .ok (.invokevirtual 99, 3) := by decide +kernel
theorem dX2_plans_36 : decode cX2_plans 36 = .ok (.iload_n 1, 1) := by decide +kernel
theorem dX2_plans_37 : decode cX2_plans 37 = .ok (.ifCond .ne 11, 3) := by decide +kernel
theorem dX2_plans_40 : decode cX2_plans 40 = .ok (.aload_n 0, 1) := by decide +kernel
theorem dX2_plans_41 : decode cX2_plans 41 = .ok (.getfield 27, 3) := by decide +kernel
theorem dX2_plans_44 : decode cX2_plans 44 = .ok (.invokevirtual 117, 3) := by decide +kernel
theorem dX2_plans_47 : decode cX2_plans 47 = .ok (.lreturn, 1) := by decide +kernel
theorem dX2_plans_48 : decode cX2_plans 48 = .ok (.iload_n 1, 1) := by decide +kernel
theorem dX2_plans_49 : decode cX2_plans 49 = .ok (.iconst 1, 1) := by decide +kernel
theorem dX2_plans_50 : decode cX2_plans 50 = .ok (.if_icmp .ne 11, 3) := by decide +kernel
theorem dX2_plans_53 : decode cX2_plans 53 = .ok (.aload_n 0, 1) := by decide +kernel
theorem dX2_plans_54 : decode cX2_plans 54 = .ok (.getfield 27, 3) := by decide +kernel
theorem dX2_plans_57 : decode cX2_plans 57 = .ok (.invokevirtual 121, 3) := by decide +kernel
theorem dX2_plans_60 : decode cX2_plans 60 = .ok (.lreturn, 1) := by decide +kernel
theorem dX2_plans_61 : decode cX2_plans 61 = .ok (.iload_n 1, 1) := by decide +kernel
theorem dX2_plans_62 : decode cX2_plans 62 = .ok (.bipush 10, 2) := by decide +kernel
theorem dX2_plans_64 : decode cX2_plans 64 = .ok (.isub, 1) := by decide +kernel
theorem dX2_plans_65 : decode cX2_plans 65 = .ok (.istore_n 2, 1) := by decide +kernel
theorem dX2_plans_66 : decode cX2_plans 66 = .ok (.aload_n 0, 1) := by decide +kernel
theorem dX2_plans_67 : decode cX2_plans 67 = .ok (.iload_n 2, 1) := by decide +kernel
theorem dX2_plans_68 : decode cX2_plans 68 = .ok (.invokevirtual 93, 3) := by decide +kernel
theorem dX2_plans_71 : decode cX2_plans 71 = .ok (.ifCond .eq 29, 3) := by decide +kernel
theorem dX2_plans_74 : decode cX2_plans 74 = .ok (.aload_n 0, 1) := by decide +kernel
theorem dX2_plans_75 : decode cX2_plans 75 = .ok (.getfield 27, 3) := by decide +kernel
theorem dX2_plans_78 : decode cX2_plans 78 = .ok (.invokevirtual 103, 3) := by decide +kernel
theorem dX2_plans_81 : decode cX2_plans 81 = .ok (.ifCond .eq 19, 3) := by decide +kernel
theorem dX2_plans_84 : decode cX2_plans 84 = .ok (.aload_n 0, 1) := by decide +kernel
theorem dX2_plans_85 : decode cX2_plans 85 = .ok (.getfield 27, 3) := by decide +kernel
theorem dX2_plans_88 : decode cX2_plans 88 = .ok (.aload_n 0, 1) := by decide +kernel
theorem dX2_plans_89 : decode cX2_plans 89 = .ok (.getfield 12, 3) := by decide +kernel
theorem dX2_plans_92 : decode cX2_plans 92 = .ok (.iload_n 2, 1) := by decide +kernel
theorem dX2_plans_93 : decode cX2_plans 93 = .ok (.invokevirtual 124, 3) := by decide +kernel
theorem dX2_plans_96 : decode cX2_plans 96 = .ok (.i2l, 1) := by decide +kernel
theorem dX2_plans_97 : decode cX2_plans 97 = .ok (.goto 6, 3) := by decide +kernel
theorem dX2_plans_100 : decode cX2_plans 100 = .ok (.ldc2_w 127, 3) := by decide +kernel
theorem dX2_plans_103 : decode cX2_plans 103 = .ok (.lreturn, 1) := by decide +kernel
set_option maxRecDepth 20000 in
theorem ggX2_dumb_X1_gatherWays : GoodIn wsX2_dumb wsX1_gatherWays := goodIn_r _ [9, 10, 11, 12, 13, 14, 15, 16, 17, 8, 18, 19, 20, 21, 22, 23, 24, 25, 26, 27, 28, 29, 30, 31, 32, 33, 34, 35, 44, 45, 46, 47, 48] (by decide +kernel) (by decide +kernel)
set_option maxRecDepth 20000 in
theorem gX2_dumb_X1_gatherWays : GoodIn wsX2_dumb (wsV RX2 77 RX1 yX1_gatherWays wsX1_gatherWays) := goodIn_app (goodIn_of _ (by decide +kernel)) ggX2_dumb_X1_gatherWays
theorem dX2_dumb_0 : decode cX2_dumb 0 = .ok (.iconst 0, 1) := by decide +kernel
theorem dX2_dumb_1 : decode cX2_dumb 1 = .ok (.istore_n 1, 1) := by decide +kernel
theorem dX2_dumb_2 : decode cX2_dumb 2 = .ok (.iload_n 1, 1) := by decide +kernel
theorem dX2_dumb_3 : decode cX2_dumb 3 = .ok (.aload_n 0, 1) := by decide +kernel
theorem dX2_dumb_4 : decode cX2_dumb 4 = .ok (.getfield 12, 3) := by decide +kernel
theorem dX2_dumb_7 : decode cX2_dumb 7 = .ok (.getfield 87, 3) := by decide +kernel
theorem dX2_dumb_10 : decode cX2_dumb 10 = .ok (.if_icmp .ge 35, 3) := by decide +kernel
theorem dX2_dumb_13 : decode cX2_dumb 13 = .ok (.aload_n 0, 1) := by decide +kernel
theorem dX2_dumb_14 : decode cX2_dumb 14 = .ok (.getfield 12, 3) := by decide +kernel
theorem dX2_dumb_17 : decode cX2_dumb 17 = .ok (.aload_n 0, 1) := by decide +kernel
theorem dX2_dumb_18 : decode cX2_dumb 18 = .ok (.getfield 12, 3) := by decide +kernel
theorem dX2_dumb_21 : decode cX2_dumb 21 = .ok (.getfield 90, 3) := by decide +kernel
theorem dX2_dumb_24 : decode cX2_dumb 24 = .ok (.iload_n 1, 1) := by decide +kernel
theorem dX2_dumb_25 : decode cX2_dumb 25 = .ok (.iaload, 1) := by decide +kernel
theorem dX2_dumb_26 : decode cX2_dumb 26 = .ok (.aload_n 0, 1) := by decide +kernel
theorem dX2_dumb_27 : decode cX2_dumb 27 = .ok (.getfield 31, 3) := by decide +kernel
theorem dX2_dumb_30 : decode cX2_dumb 30 = .ok (.iconst 0, 1) := by decide +kernel
theorem dX2_dumb_31 : decode cX2_dumb 31 = .ok (.invokevirtual 77, 3) := by decide +kernel
theorem dX2_dumb_34 : decode cX2_dumb 34 = .ok (.ifCond .ne 5, 3) := by decide +kernel
theorem dX2_dumb_37 : decode cX2_dumb 37 = .ok (.iload_n 1, 1) := by decide +kernel
theorem dX2_dumb_38 : decode cX2_dumb 38 = .ok (.ireturn, 1) := by decide +kernel
theorem dX2_dumb_39 : decode cX2_dumb 39 = .ok (.iinc 1 1, 3) := by decide +kernel
theorem dX2_dumb_42 : decode cX2_dumb 42 = .ok (.goto (-40), 3) := by decide +kernel
theorem dX2_dumb_45 : decode cX2_dumb 45 = .ok (.bipush (-6), 2) := by decide +kernel
theorem dX2_dumb_47 : decode cX2_dumb 47 = .ok (.ireturn, 1) := by decide +kernel
set_option maxRecDepth 20000 in
theorem ggX2_trill_X2_isNote : GoodIn wsX2_trill wsX2_isNote := goodIn_r _ [4] (by decide +kernel) (by decide +kernel)
set_option maxRecDepth 20000 in
theorem gX2_trill_X2_isNote : GoodIn wsX2_trill (va_wsS RX2 70 yX2_isNote wsX2_isNote) := goodIn_app (goodIn_of _ (by decide +kernel)) ggX2_trill_X2_isNote
set_option maxRecDepth 20000 in
theorem ggX2_trill_X2_leastMotion : GoodIn wsX2_trill wsX2_leastMotion := goodIn_r _ [8, 9, 10, 11, 12, 13, 14, 15, 16, 17, 18, 19, 20, 21, 22, 23, 24, 25, 26, 27, 28, 29, 30, 31, 32, 33, 34, 35, 36, 37, 38, 39, 40, 41, 42, 43, 44, 3, 45, 46, 47, 48, 49, 50, 51, 52, 53, 54, 55, 56, 57, 58, 59, 60, 61, 62, 63, 64, 65, 66, 67, 68, 69] (by decide +kernel) (by decide +kernel)
set_option maxRecDepth 20000 in
theorem gX2_trill_X2_leastMotion : GoodIn wsX2_trill (wsV RX2 129 RX2 yX2_leastMotion wsX2_leastMotion) := goodIn_app (goodIn_of _ (by decide +kernel)) ggX2_trill_X2_leastMotion
theorem dX2_trill_0 : decode cX2_trill 0 = .ok (.iload_n 1, 1) := by decide +kernel
theorem dX2_trill_1 : decode cX2_trill 1 = .ok (.invokestatic 70, 3) := by decide +kernel
theorem dX2_trill_4 : decode cX2_trill 4 = .ok (.ifCond .eq 19, 3) := by decide +kernel
theorem dX2_trill_7 : decode cX2_trill 7 = .ok (.iload_n 2, 1) := by decide +kernel
theorem dX2_trill_8 : decode cX2_trill 8 = .ok (.invokestatic 70, 3) := by decide +kernel
theorem dX2_trill_11 : decode cX2_trill 11 = .ok (.ifCond .eq 12, 3) := by decide +kernel
theorem dX2_trill_14 : decode cX2_trill 14 = .ok (.aload_n 0, 1) := by decide +kernel
theorem dX2_trill_15 : decode cX2_trill 15 = .ok (.iload_n 1, 1) := by decide +kernel
theorem dX2_trill_16 : decode cX2_trill 16 = .ok (.iload_n 2, 1) := by decide +kernel
theorem dX2_trill_17 : decode cX2_trill 17 = .ok (.invokevirtual 129, 3) := by decide +kernel
theorem dX2_trill_20 : decode cX2_trill 20 = .ok (.goto 5, 3) := by decide +kernel
theorem dX2_trill_23 : decode cX2_trill 23 = .ok (.bipush (-2), 2) := by decide +kernel
theorem dX2_trill_25 : decode cX2_trill 25 = .ok (.ireturn, 1) := by decide +kernel
set_option maxRecDepth 20000 in
theorem ggX2_awkward_X2_leastMotion : GoodIn wsX2_awkward wsX2_leastMotion := goodIn_r _ [5, 6, 7, 8, 9, 10, 11, 12, 13, 14, 15, 16, 17, 18, 19, 20, 21, 22, 23, 24, 25, 26, 27, 28, 29, 30, 31, 32, 33, 34, 35, 36, 37, 38, 39, 40, 41, 4, 42, 43, 44, 45, 46, 47, 48, 49, 50, 51, 52, 53, 54, 55, 56, 57, 58, 59, 60, 61, 62, 63, 64, 65, 66] (by decide +kernel) (by decide +kernel)
set_option maxRecDepth 20000 in
theorem gX2_awkward_X2_leastMotion : GoodIn wsX2_awkward (wsV RX2 129 RX2 yX2_leastMotion wsX2_leastMotion) := goodIn_app (goodIn_of _ (by decide +kernel)) ggX2_awkward_X2_leastMotion
theorem dX2_awkward_0 : decode cX2_awkward 0 = .ok (.iload_n 1, 1) := by decide +kernel
theorem dX2_awkward_1 : decode cX2_awkward 1 = .ok (.iconst 1, 1) := by decide +kernel
theorem dX2_awkward_2 : decode cX2_awkward 2 = .ok (.if_icmp .lt 19, 3) := by decide +kernel
theorem dX2_awkward_5 : decode cX2_awkward 5 = .ok (.iload_n 1, 1) := by decide +kernel
theorem dX2_awkward_6 : decode cX2_awkward 6 = .ok (.bipush 12, 2) := by decide +kernel
theorem dX2_awkward_8 : decode cX2_awkward 8 = .ok (.if_icmp .gt 13, 3) := by decide +kernel
theorem dX2_awkward_11 : decode cX2_awkward 11 = .ok (.iload_n 2, 1) := by decide +kernel
theorem dX2_awkward_12 : decode cX2_awkward 12 = .ok (.ifCond .lt 9, 3) := by decide +kernel
theorem dX2_awkward_15 : decode cX2_awkward 15 = .ok (.iload_n 2, 1) := by decide +kernel
theorem dX2_awkward_16 : decode cX2_awkward 16 = .ok (.bipush 99, 2) := by decide +kernel
theorem dX2_awkward_18 : decode cX2_awkward 18 = .ok (.if_icmp .le 6, 3) := by decide +kernel
theorem dX2_awkward_21 : decode cX2_awkward 21 = .ok (.bipush (-2), 2) := by decide +kernel
theorem dX2_awkward_23 : decode cX2_awkward 23 = .ok (.ireturn, 1) := by decide +kernel
theorem dX2_awkward_24 : decode cX2_awkward 24 = .ok (.iconst 0, 1) := by decide +kernel
theorem dX2_awkward_25 : decode cX2_awkward 25 = .ok (.istore_n 3, 1) := by decide +kernel
theorem dX2_awkward_26 : decode cX2_awkward 26 = .ok (.iconst 0, 1) := by decide +kernel
theorem dX2_awkward_27 : decode cX2_awkward 27 = .ok (.istore 4, 2) := by decide +kernel
theorem dX2_awkward_29 : decode cX2_awkward 29 = .ok (.iload 4, 2) := by decide +kernel
theorem dX2_awkward_31 : decode cX2_awkward 31 = .ok (.iload_n 1, 1) := by decide +kernel
theorem dX2_awkward_32 : decode cX2_awkward 32 = .ok (.iadd, 1) := by decide +kernel
theorem dX2_awkward_33 : decode cX2_awkward 33 = .ok (.bipush 37, 2) := by decide +kernel
theorem dX2_awkward_35 : decode cX2_awkward 35 = .ok (.if_icmp .ge 26, 3) := by decide +kernel
theorem dX2_awkward_38 : decode cX2_awkward 38 = .ok (.aload_n 0, 1) := by decide +kernel
theorem dX2_awkward_39 : decode cX2_awkward 39 = .ok (.iload 4, 2) := by decide +kernel
theorem dX2_awkward_41 : decode cX2_awkward 41 = .ok (.iload 4, 2) := by decide +kernel
theorem dX2_awkward_43 : decode cX2_awkward 43 = .ok (.iload_n 1, 1) := by decide +kernel
theorem dX2_awkward_44 : decode cX2_awkward 44 = .ok (.iadd, 1) := by decide +kernel
theorem dX2_awkward_45 : decode cX2_awkward 45 = .ok (.invokevirtual 129, 3) := by decide +kernel
theorem dX2_awkward_48 : decode cX2_awkward 48 = .ok (.iload_n 2, 1) := by decide +kernel
theorem dX2_awkward_49 : decode cX2_awkward 49 = .ok (.if_icmp .le 6, 3) := by decide +kernel
theorem dX2_awkward_52 : decode cX2_awkward 52 = .ok (.iinc 3 1, 3) := by decide +kernel
theorem dX2_awkward_55 : decode cX2_awkward 55 = .ok (.iinc 4 1, 3) := by decide +kernel
theorem dX2_awkward_58 : decode cX2_awkward 58 = .ok (.goto (-29), 3) := by decide +kernel
theorem dX2_awkward_61 : decode cX2_awkward 61 = .ok (.iload_n 3, 1) := by decide +kernel
theorem dX2_awkward_62 : decode cX2_awkward 62 = .ok (.ireturn, 1) := by decide +kernel
set_option maxRecDepth 20000 in
theorem ggX2_tune_X2_isValve : GoodIn wsX2_tune wsX2_isValve := goodIn_r _ [6] (by decide +kernel) (by decide +kernel)
set_option maxRecDepth 20000 in
theorem gX2_tune_X2_isValve : GoodIn wsX2_tune (va_wsS RX2 47 yX2_isValve wsX2_isValve) := goodIn_app (goodIn_of _ (by decide +kernel)) ggX2_tune_X2_isValve
set_option maxRecDepth 20000 in
theorem ggX2_tune_X2_missOfPart : GoodIn wsX2_tune wsX2_missOfPart := goodIn_r _ [10, 11, 1, 12, 13, 14, 15, 16, 17, 18, 5, 19, 20, 21, 22, 23, 24, 25, 26, 27, 28, 29, 30, 31, 32, 33, 34, 35, 36, 37, 38, 39, 40, 41, 42, 43, 44, 45] (by decide +kernel) (by decide +kernel)
set_option maxRecDepth 20000 in
theorem gX2_tune_X2_missOfPart : GoodIn wsX2_tune (wsV RX2 132 RX2 yX2_missOfPart wsX2_missOfPart) := goodIn_app (goodIn_of _ (by decide +kernel)) ggX2_tune_X2_missOfPart
theorem dX2_tune_0 : decode cX2_tune 0 = .ok (.iload_n 1, 1) := by decide +kernel
theorem dX2_tune_1 : decode cX2_tune 1 = .ok (.invokestatic 47, 3) := by decide +kernel
theorem dX2_tune_4 : decode cX2_tune 4 = .ok (.ifCond .ne 5, 3) := by decide +kernel
theorem dX2_tune_7 : decode cX2_tune 7 = .ok (.iconst (-1), 1) := by decide +kernel
theorem dX2_tune_8 : decode cX2_tune 8 = .ok (.ireturn, 1) := by decide +kernel
theorem dX2_tune_9 : decode cX2_tune 9 = .ok (.iload_n 2, 1) := by decide +kernel
theorem dX2_tune_10 : decode cX2_tune 10 = .ok (.ifCond .lt 8, 3) := by decide +kernel
theorem dX2_tune_13 : decode cX2_tune 13 = .ok (.iload_n 2, 1) := by decide +kernel
theorem dX2_tune_14 : decode cX2_tune 14 = .ok (.iconst 1, 1) := by decide +kernel
theorem dX2_tune_15 : decode cX2_tune 15 = .ok (.if_icmp .le 6, 3) := by decide +kernel
theorem dX2_tune_18 : decode cX2_tune 18 = .ok (.bipush (-2), 2) := by decide +kernel
theorem dX2_tune_20 : decode cX2_tune 20 = .ok (.ireturn, 1) := by decide +kernel
theorem dX2_tune_21 : decode cX2_tune 21 = .ok (.aload_n 0, 1) := by decide +kernel
theorem dX2_tune_22 : decode cX2_tune 22 = .ok (.getfield 12, 3) := by decide +kernel
theorem dX2_tune_25 : decode cX2_tune 25 = .ok (.getfield 44, 3) := by decide +kernel
theorem dX2_tune_28 : decode cX2_tune 28 = .ok (.iconst 1, 1) := by decide +kernel
theorem dX2_tune_29 : decode cX2_tune 29 = .ok (.if_icmp .ne 6, 3) := by decide +kernel
theorem dX2_tune_32 : decode cX2_tune 32 = .ok (.bipush (-3), 2) := by decide +kernel
theorem dX2_tune_34 : decode cX2_tune 34 = .ok (.ireturn, 1) := by decide +kernel
theorem dX2_tune_35 : decode cX2_tune 35 = .ok (.iconst 0, 1) := by decide +kernel
theorem dX2_tune_36 : decode cX2_tune 36 = .ok (.istore_n 3, 1) := by decide +kernel
theorem dX2_tune_37 : decode cX2_tune 37 = .ok (.aload_n 0, 1) := by decide +kernel
theorem dX2_tune_38 : decode cX2_tune 38 = .ok (.iload_n 1, 1) := by decide +kernel
theorem dX2_tune_39 : decode cX2_tune 39 = .ok (.iconst 0, 1) := by decide +kernel
theorem dX2_tune_40 : decode cX2_tune 40 = .ok (.invokevirtual 132, 3) := by decide +kernel
theorem dX2_tune_43 : decode cX2_tune 43 = .ok (.istore 4, 2) := by decide +kernel
theorem dX2_tune_45 : decode cX2_tune 45 = .ok (.iconst 5, 1) := by decide +kernel
theorem dX2_tune_46 : decode cX2_tune 46 = .ok (.istore 5, 2) := by decide +kernel
theorem dX2_tune_48 : decode cX2_tune 48 = .ok (.iload 5, 2) := by decide +kernel
theorem dX2_tune_50 : decode cX2_tune 50 = .ok (.sipush 400, 3) := by decide +kernel
theorem dX2_tune_53 : decode cX2_tune 53 = .ok (.if_icmp .gt 32, 3) := by decide +kernel
theorem dX2_tune_56 : decode cX2_tune 56 = .ok (.aload_n 0, 1) := by decide +kernel
theorem dX2_tune_57 : decode cX2_tune 57 = .ok (.iload_n 1, 1) := by decide +kernel
theorem dX2_tune_58 : decode cX2_tune 58 = .ok (.iload 5, 2) := by decide +kernel
theorem dX2_tune_60 : decode cX2_tune 60 = .ok (.invokevirtual 132, 3) := by decide +kernel
theorem dX2_tune_63 : decode cX2_tune 63 = .ok (.istore 6, 2) := by decide +kernel
theorem dX2_tune_65 : decode cX2_tune 65 = .ok (.iload 6, 2) := by decide +kernel
theorem dX2_tune_67 : decode cX2_tune 67 = .ok (.iload 4, 2) := by decide +kernel
theorem dX2_tune_69 : decode cX2_tune 69 = .ok (.if_icmp .ge 10, 3) := by decide +kernel
theorem dX2_tune_72 : decode cX2_tune 72 = .ok (.iload 6, 2) := by decide +kernel
theorem dX2_tune_74 : decode cX2_tune 74 = .ok (.istore 4, 2) := by decide +kernel
theorem dX2_tune_76 : decode cX2_tune 76 = .ok (.iload 5, 2) := by decide +kernel
theorem dX2_tune_78 : decode cX2_tune 78 = .ok (.istore_n 3, 1) := by decide +kernel
theorem dX2_tune_79 : decode cX2_tune 79 = .ok (.iinc 5 5, 3) := by decide +kernel
theorem dX2_tune_82 : decode cX2_tune 82 = .ok (.goto (-34), 3) := by decide +kernel
theorem dX2_tune_85 : decode cX2_tune 85 = .ok (.iload_n 2, 1) := by decide +kernel
theorem dX2_tune_86 : decode cX2_tune 86 = .ok (.ifCond .ne 7, 3) := by decide +kernel
theorem dX2_tune_89 : decode cX2_tune 89 = .ok (.iload_n 3, 1) := by decide +kernel
theorem dX2_tune_90 : decode cX2_tune 90 = .ok (.goto 5, 3) := by decide +kernel
theorem dX2_tune_93 : decode cX2_tune 93 = .ok (.iload 4, 2) := by decide +kernel
theorem dX2_tune_95 : decode cX2_tune 95 = .ok (.ireturn, 1) := by decide +kernel
set_option maxRecDepth 20000 in
theorem ggX2_image_X1_takeFrom : GoodIn wsX2_image wsX1_takeFrom := goodIn_r _ [8, 9, 10, 11, 12, 13, 14, 15, 16, 17, 26, 27, 28, 29, 30] (by decide +kernel) (by decide +kernel)
set_option maxRecDepth 20000 in
theorem gX2_image_X1_takeFrom : GoodIn wsX2_image (wsV RX2 135 RX1 yX1_takeFrom wsX1_takeFrom) := goodIn_app (goodIn_of _ (by decide +kernel)) ggX2_image_X1_takeFrom
theorem dX2_image_0 : decode cX2_image 0 = .ok (.iload_n 1, 1) := by decide +kernel
theorem dX2_image_1 : decode cX2_image 1 = .ok (.ifCond .lt 8, 3) := by decide +kernel
theorem dX2_image_4 : decode cX2_image 4 = .ok (.iload_n 1, 1) := by decide +kernel
theorem dX2_image_5 : decode cX2_image 5 = .ok (.iconst 2, 1) := by decide +kernel
theorem dX2_image_6 : decode cX2_image 6 = .ok (.if_icmp .lt 6, 3) := by decide +kernel
theorem dX2_image_9 : decode cX2_image 9 = .ok (.bipush (-2), 2) := by decide +kernel
theorem dX2_image_11 : decode cX2_image 11 = .ok (.ireturn, 1) := by decide +kernel
theorem dX2_image_12 : decode cX2_image 12 = .ok (.aload_n 0, 1) := by decide +kernel
theorem dX2_image_13 : decode cX2_image 13 = .ok (.getfield 16, 3) := by decide +kernel
theorem dX2_image_16 : decode cX2_image 16 = .ok (.iload_n 1, 1) := by decide +kernel
theorem dX2_image_17 : decode cX2_image 17 = .ok (.aaload, 1) := by decide +kernel
theorem dX2_image_18 : decode cX2_image 18 = .ok (.aload_n 0, 1) := by decide +kernel
theorem dX2_image_19 : decode cX2_image 19 = .ok (.getfield 12, 3) := by decide +kernel
theorem dX2_image_22 : decode cX2_image 22 = .ok (.invokevirtual 135, 3) := by decide +kernel
theorem dX2_image_25 : decode cX2_image 25 = .ok (.aload_n 0, 1) := by decide +kernel
theorem dX2_image_26 : decode cX2_image 26 = .ok (.dup, 1) := by decide +kernel
theorem dX2_image_27 : decode cX2_image 27 = .ok (.getfield 20, 3) := by decide +kernel
theorem dX2_image_30 : decode cX2_image 30 = .ok (.iconst 1, 1) := by decide +kernel
theorem dX2_image_31 : decode cX2_image 31 = .ok (.iload_n 1, 1) := by decide +kernel
theorem dX2_image_32 : decode cX2_image 32 = .ok (.ishl, 1) := by decide +kernel
theorem dX2_image_33 : decode cX2_image 33 = .ok (.ior, 1) := by decide +kernel
theorem dX2_image_34 : decode cX2_image 34 = .ok (.putfield 20, 3) := by decide +kernel
theorem dX2_image_37 : decode cX2_image 37 = .ok (.iconst 1, 1) := by decide +kernel
theorem dX2_image_38 : decode cX2_image 38 = .ok (.ireturn, 1) := by decide +kernel
set_option maxRecDepth 20000 in
theorem ggX2_restore_X1_takeFrom : GoodIn wsX2_restore wsX1_takeFrom := goodIn_r _ [8, 9, 10, 11, 12, 13, 14, 15, 16, 17, 26, 27, 28, 29, 30] (by decide +kernel) (by decide +kernel)
set_option maxRecDepth 20000 in
theorem gX2_restore_X1_takeFrom : GoodIn wsX2_restore (wsV RX2 135 RX1 yX1_takeFrom wsX1_takeFrom) := goodIn_app (goodIn_of _ (by decide +kernel)) ggX2_restore_X1_takeFrom
theorem dX2_restore_0 : decode cX2_restore 0 = .ok (.iload_n 1, 1) := by decide +kernel
theorem dX2_restore_1 : decode cX2_restore 1 = .ok (.ifCond .lt 8, 3) := by decide +kernel
theorem dX2_restore_4 : decode cX2_restore 4 = .ok (.iload_n 1, 1) := by decide +kernel
theorem dX2_restore_5 : decode cX2_restore 5 = .ok (.iconst 2, 1) := by decide +kernel
theorem dX2_restore_6 : decode cX2_restore 6 = .ok (.if_icmp .lt 6, 3) := by decide +kernel
theorem dX2_restore_9 : decode cX2_restore 9 = .ok (.bipush (-2), 2) := by decide +kernel
theorem dX2_restore_11 : decode cX2_restore 11 = .ok (.ireturn, 1) := by decide +kernel
theorem dX2_restore_12 : decode cX2_restore 12 = .ok (.aload_n 0, 1) := by decide +kernel
theorem dX2_restore_13 : decode cX2_restore 13 = .ok (.getfield 20, 3) := by decide +kernel
theorem dX2_restore_16 : decode cX2_restore 16 = .ok (.iload_n 1, 1) := by decide +kernel
theorem dX2_restore_17 : decode cX2_restore 17 = .ok (.ishr, 1) := by decide +kernel
theorem dX2_restore_18 : decode cX2_restore 18 = .ok (.iconst 1, 1) := by decide +kernel
theorem dX2_restore_19 : decode cX2_restore 19 = .ok (.iand, 1) := by decide +kernel
theorem dX2_restore_20 : decode cX2_restore 20 = .ok (.ifCond .ne 6, 3) := by decide +kernel
theorem dX2_restore_23 : decode cX2_restore 23 = .ok (.bipush (-3), 2) := by decide +kernel
theorem dX2_restore_25 : decode cX2_restore 25 = .ok (.ireturn, 1) := by decide +kernel
theorem dX2_restore_26 : decode cX2_restore 26 = .ok (.aload_n 0, 1) := by decide +kernel
theorem dX2_restore_27 : decode cX2_restore 27 = .ok (.getfield 12, 3) := by decide +kernel
theorem dX2_restore_30 : decode cX2_restore 30 = .ok (.aload_n 0, 1) := by decide +kernel
theorem dX2_restore_31 : decode cX2_restore 31 = .ok (.getfield 16, 3) := by decide +kernel
theorem dX2_restore_34 : decode cX2_restore 34 = .ok (.iload_n 1, 1) := by decide +kernel
theorem dX2_restore_35 : decode cX2_restore 35 = .ok (.aaload, 1) := by decide +kernel
theorem dX2_restore_36 : decode cX2_restore 36 = .ok (.invokevirtual 135, 3) := by decide +kernel
theorem dX2_restore_39 : decode cX2_restore 39 = .ok (.iconst 1, 1) := by decide +kernel
theorem dX2_restore_40 : decode cX2_restore 40 = .ok (.ireturn, 1) := by decide +kernel
set_option maxRecDepth 20000 in
theorem ggX2_count_X2_isPlace : GoodIn wsX2_count wsX2_isPlace := goodIn_r _ [12, 1, 3, 13, 14, 15, 16, 17, 18, 19, 20, 21, 22, 23, 24, 25] (by decide +kernel) (by decide +kernel)
set_option maxRecDepth 20000 in
theorem gX2_count_X2_isPlace : GoodIn wsX2_count (wsV RX2 93 RX2 yX2_isPlace wsX2_isPlace) := goodIn_app (goodIn_of _ (by decide +kernel)) ggX2_count_X2_isPlace
theorem dX2_count_0 : decode cX2_count 0 = .ok (.iload_n 1, 1) := by decide +kernel
theorem dX2_count_1 : decode cX2_count 1 = .ok (.ifCond .ne 11, 3) := by decide +kernel
theorem dX2_count_4 : decode cX2_count 4 = .ok (.aload_n 0, 1) := by decide +kernel
theorem dX2_count_5 : decode cX2_count 5 = .ok (.getfield 12, 3) := by decide +kernel
theorem dX2_count_8 : decode cX2_count 8 = .ok (.getfield 44, 3) := by decide +kernel
theorem dX2_count_11 : decode cX2_count 11 = .ok (.ireturn, 1) := by decide +kernel
theorem dX2_count_12 : decode cX2_count 12 = .ok (.iload_n 1, 1) := by decide +kernel
theorem dX2_count_13 : decode cX2_count 13 = .ok (.iconst 1, 1) := by decide +kernel
theorem dX2_count_14 : decode cX2_count 14 = .ok (.if_icmp .ne 11, 3) := by decide +kernel
theorem dX2_count_17 : decode cX2_count 17 = .ok (.aload_n 0, 1) := by decide +kernel
theorem dX2_count_18 : decode cX2_count 18 = .ok (.getfield 12, 3) := by decide +kernel
theorem dX2_count_21 : decode cX2_count 21 = .ok (.getfield 87, 3) := by decide +kernel
theorem dX2_count_24 : decode cX2_count 24 = .ok (.ireturn, 1) := by decide +kernel
theorem dX2_count_25 : decode cX2_count 25 = .ok (.iload_n 1, 1) := by decide +kernel
theorem dX2_count_26 : decode cX2_count 26 = .ok (.iconst 2, 1) := by decide +kernel
theorem dX2_count_27 : decode cX2_count 27 = .ok (.if_icmp .ne 8, 3) := by decide +kernel
theorem dX2_count_30 : decode cX2_count 30 = .ok (.aload_n 0, 1) := by decide +kernel
theorem dX2_count_31 : decode cX2_count 31 = .ok (.getfield 20, 3) := by decide +kernel
theorem dX2_count_34 : decode cX2_count 34 = .ok (.ireturn, 1) := by decide +kernel
theorem dX2_count_35 : decode cX2_count 35 = .ok (.iload_n 1, 1) := by decide +kernel
theorem dX2_count_36 : decode cX2_count 36 = .ok (.bipush 10, 2) := by decide +kernel
theorem dX2_count_38 : decode cX2_count 38 = .ok (.if_icmp .lt 22, 3) := by decide +kernel
theorem dX2_count_41 : decode cX2_count 41 = .ok (.iload_n 1, 1) := by decide +kernel
theorem dX2_count_42 : decode cX2_count 42 = .ok (.bipush 15, 2) := by decide +kernel
theorem dX2_count_44 : decode cX2_count 44 = .ok (.if_icmp .ge 16, 3) := by decide +kernel
theorem dX2_count_47 : decode cX2_count 47 = .ok (.aload_n 0, 1) := by decide +kernel
theorem dX2_count_48 : decode cX2_count 48 = .ok (.getfield 12, 3) := by decide +kernel
theorem dX2_count_51 : decode cX2_count 51 = .ok (.getfield 57, 3) := by decide +kernel
theorem dX2_count_54 : decode cX2_count 54 = .ok (.iload_n 1, 1) := by decide +kernel
theorem dX2_count_55 : decode cX2_count 55 = .ok (.bipush 10, 2) := by decide +kernel
theorem dX2_count_57 : decode cX2_count 57 = .ok (.isub, 1) := by decide +kernel
theorem dX2_count_58 : decode cX2_count 58 = .ok (.iaload, 1) := by decide +kernel
theorem dX2_count_59 : decode cX2_count 59 = .ok (.ireturn, 1) := by decide +kernel
theorem dX2_count_60 : decode cX2_count 60 = .ok (.iload_n 1, 1) := by decide +kernel
theorem dX2_count_61 : decode cX2_count 61 = .ok (.bipush 20, 2) := by decide +kernel
theorem dX2_count_63 : decode cX2_count 63 = .ok (.if_icmp .lt 22, 3) := by decide +kernel
theorem dX2_count_66 : decode cX2_count 66 = .ok (.iload_n 1, 1) := by decide +kernel
theorem dX2_count_67 : decode cX2_count 67 = .ok (.bipush 23, 2) := by decide +kernel
theorem dX2_count_69 : decode cX2_count 69 = .ok (.if_icmp .ge 16, 3) := by decide +kernel
theorem dX2_count_72 : decode cX2_count 72 = .ok (.aload_n 0, 1) := by decide +kernel
theorem dX2_count_73 : decode cX2_count 73 = .ok (.getfield 12, 3) := by decide +kernel
theorem dX2_count_76 : decode cX2_count 76 = .ok (.getfield 51, 3) := by decide +kernel
theorem dX2_count_79 : decode cX2_count 79 = .ok (.iload_n 1, 1) := by decide +kernel
theorem dX2_count_80 : decode cX2_count 80 = .ok (.bipush 20, 2) := by decide +kernel
theorem dX2_count_82 : decode cX2_count 82 = .ok (.isub, 1) := by decide +kernel
theorem dX2_count_83 : decode cX2_count 83 = .ok (.iaload, 1) := by decide +kernel
theorem dX2_count_84 : decode cX2_count 84 = .ok (.ireturn, 1) := by decide +kernel
theorem dX2_count_85 : decode cX2_count 85 = .ok (.iload_n 1, 1) := by decide +kernel
theorem dX2_count_86 : decode cX2_count 86 = .ok (.bipush 30, 2) := by decide +kernel
theorem dX2_count_88 : decode cX2_count 88 = .ok (.if_icmp .lt 38, 3) := by decide +kernel
theorem dX2_count_91 : decode cX2_count 91 = .ok (.iload_n 1, 1) := by decide +kernel
theorem dX2_count_92 : decode cX2_count 92 = .ok (.bipush 42, 2) := by decide +kernel
theorem dX2_count_94 : decode cX2_count 94 = .ok (.if_icmp .ge 32, 3) := by decide +kernel
theorem dX2_count_97 : decode cX2_count 97 = .ok (.aload_n 0, 1) := by decide +kernel
theorem dX2_count_98 : decode cX2_count 98 = .ok (.iload_n 1, 1) := by decide +kernel
theorem dX2_count_99 : decode cX2_count 99 = .ok (.bipush 30, 2) := by decide +kernel
theorem dX2_count_101 : decode cX2_count 101 = .ok (.isub, 1) := by decide +kernel
theorem dX2_count_102 : decode cX2_count 102 = .ok (.invokevirtual 93, 3) := by decide +kernel
theorem dX2_count_105 : decode cX2_count 105 = .ok (.ifCond .eq 18, 3) := by decide +kernel
theorem dX2_count_108 : decode cX2_count 108 = .ok (.aload_n 0, 1) := by decide +kernel
theorem dX2_count_109 : decode cX2_count 109 = .ok (.getfield 12, 3) := by decide +kernel
theorem dX2_count_112 : decode cX2_count 112 = .ok (.getfield 90, 3) := by decide +kernel
theorem dX2_count_115 : decode cX2_count 115 = .ok (.iload_n 1, 1) := by decide +kernel
theorem dX2_count_116 : decode cX2_count 116 = .ok (.bipush 30, 2) := by decide +kernel
theorem dX2_count_118 : decode cX2_count 118 = .ok (.isub, 1) := by decide +kernel
theorem dX2_count_119 : decode cX2_count 119 = .ok (.iaload, 1) := by decide +kernel
theorem dX2_count_120 : decode cX2_count 120 = .ok (.goto 5, 3) := by decide +kernel
theorem dX2_count_123 : decode cX2_count 123 = .ok (.bipush (-6), 2) := by decide +kernel
theorem dX2_count_125 : decode cX2_count 125 = .ok (.ireturn, 1) := by decide +kernel
theorem dX2_count_126 : decode cX2_count 126 = .ok (.bipush (-2), 2) := by decide +kernel
theorem dX2_count_128 : decode cX2_count 128 = .ok (.ireturn, 1) := by decide +kernel
theorem dX2_isValve_0 : decode cX2_isValve 0 = .ok (.iload_n 0, 1) := by decide +kernel
theorem dX2_isValve_1 : decode cX2_isValve 1 = .ok (.ifCond .lt 12, 3) := by decide +kernel
theorem dX2_isValve_4 : decode cX2_isValve 4 = .ok (.iload_n 0, 1) := by decide +kernel
theorem dX2_isValve_5 : decode cX2_isValve 5 = .ok (.iconst 3, 1) := by decide +kernel
theorem dX2_isValve_6 : decode cX2_isValve 6 = .ok (.if_icmp .ge 7, 3) := by decide +kernel
theorem dX2_isValve_9 : decode cX2_isValve 9 = .ok (.iconst 1, 1) := by decide +kernel
theorem dX2_isValve_10 : decode cX2_isValve 10 = .ok (.goto 4, 3) := by decide +kernel
theorem dX2_isValve_13 : decode cX2_isValve 13 = .ok (.iconst 0, 1) := by decide +kernel
theorem dX2_isValve_14 : decode cX2_isValve 14 = .ok (.ireturn, 1) := by decide +kernel
theorem dX2_isNote_0 : decode cX2_isNote 0 = .ok (.iload_n 0, 1) := by decide +kernel
theorem dX2_isNote_1 : decode cX2_isNote 1 = .ok (.ifCond .lt 13, 3) := by decide +kernel
theorem dX2_isNote_4 : decode cX2_isNote 4 = .ok (.iload_n 0, 1) := by decide +kernel
theorem dX2_isNote_5 : decode cX2_isNote 5 = .ok (.bipush 37, 2) := by decide +kernel
theorem dX2_isNote_7 : decode cX2_isNote 7 = .ok (.if_icmp .ge 7, 3) := by decide +kernel
theorem dX2_isNote_10 : decode cX2_isNote 10 = .ok (.iconst 1, 1) := by decide +kernel
theorem dX2_isNote_11 : decode cX2_isNote 11 = .ok (.goto 4, 3) := by decide +kernel
theorem dX2_isNote_14 : decode cX2_isNote 14 = .ok (.iconst 0, 1) := by decide +kernel
theorem dX2_isNote_15 : decode cX2_isNote 15 = .ok (.ireturn, 1) := by decide +kernel
theorem dX2_isPlace_0 : decode cX2_isPlace 0 = .ok (.iload_n 1, 1) := by decide +kernel
theorem dX2_isPlace_1 : decode cX2_isPlace 1 = .ok (.ifCond .lt 18, 3) := by decide +kernel
theorem dX2_isPlace_4 : decode cX2_isPlace 4 = .ok (.iload_n 1, 1) := by decide +kernel
theorem dX2_isPlace_5 : decode cX2_isPlace 5 = .ok (.aload_n 0, 1) := by decide +kernel
theorem dX2_isPlace_6 : decode cX2_isPlace 6 = .ok (.getfield 12, 3) := by decide +kernel
theorem dX2_isPlace_9 : decode cX2_isPlace 9 = .ok (.getfield 87, 3) := by decide +kernel
theorem dX2_isPlace_12 : decode cX2_isPlace 12 = .ok (.if_icmp .ge 7, 3) := by decide +kernel
theorem dX2_isPlace_15 : decode cX2_isPlace 15 = .ok (.iconst 1, 1) := by decide +kernel
theorem dX2_isPlace_16 : decode cX2_isPlace 16 = .ok (.goto 4, 3) := by decide +kernel
theorem dX2_isPlace_19 : decode cX2_isPlace 19 = .ok (.iconst 0, 1) := by decide +kernel
theorem dX2_isPlace_20 : decode cX2_isPlace 20 = .ok (.ireturn, 1) := by decide +kernel
set_option maxRecDepth 20000 in
theorem ggX2_leastMotion_X1_gatherWays : GoodIn wsX2_leastMotion wsX1_gatherWays := goodIn_r _ [13, 14, 15, 7, 16, 17, 18, 19, 20, 12, 21, 22, 23, 24, 25, 26, 27, 28, 29, 30, 31, 32, 33, 34, 35, 36, 37, 38, 58, 59, 60, 61, 62] (by decide +kernel) (by decide +kernel)
set_option maxRecDepth 20000 in
theorem gX2_leastMotion_X1_gatherWays : GoodIn wsX2_leastMotion (wsV RX2 77 RX1 yX1_gatherWays wsX1_gatherWays) := goodIn_app (goodIn_of _ (by decide +kernel)) ggX2_leastMotion_X1_gatherWays
set_option maxRecDepth 20000 in
theorem ggX2_leastMotion_X1_motion : GoodIn wsX2_leastMotion wsX1_motion := goodIn_r _ [42, 26, 14, 15, 7, 16, 17, 43, 44, 45, 46, 47, 48, 49, 58, 59, 60, 61, 62] (by decide +kernel) (by decide +kernel)
set_option maxRecDepth 20000 in
theorem gX2_leastMotion_X1_motion : GoodIn wsX2_leastMotion (wsV RX2 96 RX1 yX1_motion wsX1_motion) := goodIn_app (goodIn_of _ (by decide +kernel)) ggX2_leastMotion_X1_motion
theorem dX2_leastMotion_0 : decode cX2_leastMotion 0 = .ok (.aload_n 0, 1) := by decide +kernel
theorem dX2_leastMotion_1 : decode cX2_leastMotion 1 = .ok (.getfield 12, 3) := by decide +kernel
theorem dX2_leastMotion_4 : decode cX2_leastMotion 4 = .ok (.iload_n 1, 1) := by decide +kernel
theorem dX2_leastMotion_5 : decode cX2_leastMotion 5 = .ok (.aload_n 0, 1) := by decide +kernel
theorem dX2_leastMotion_6 : decode cX2_leastMotion 6 = .ok (.getfield 31, 3) := by decide +kernel
theorem dX2_leastMotion_9 : decode cX2_leastMotion 9 = .ok (.iconst 0, 1) := by decide +kernel
theorem dX2_leastMotion_10 : decode cX2_leastMotion 10 = .ok (.invokevirtual 77, 3) := by decide +kernel
theorem dX2_leastMotion_13 : decode cX2_leastMotion 13 = .ok (.istore_n 3, 1) := by decide +kernel
theorem dX2_leastMotion_14 : decode cX2_leastMotion 14 = .ok (.aload_n 0, 1) := by decide +kernel
theorem dX2_leastMotion_15 : decode cX2_leastMotion 15 = .ok (.getfield 12, 3) := by decide +kernel
theorem dX2_leastMotion_18 : decode cX2_leastMotion 18 = .ok (.iload_n 2, 1) := by decide +kernel
theorem dX2_leastMotion_19 : decode cX2_leastMotion 19 = .ok (.aload_n 0, 1) := by decide +kernel
theorem dX2_leastMotion_20 : decode cX2_leastMotion 20 = .ok (.getfield 35, 3) := by decide +kernel
theorem dX2_leastMotion_23 : decode cX2_leastMotion 23 = .ok (.iconst 0, 1) := by decide +kernel
theorem dX2_leastMotion_24 : decode cX2_leastMotion 24 = .ok (.invokevirtual 77, 3) := by decide +kernel
theorem dX2_leastMotion_27 : decode cX2_leastMotion 27 = .ok (.istore 4, 2) := by decide +kernel
theorem dX2_leastMotion_29 : decode cX2_leastMotion 29 = .ok (.iload_n 3, 1) := by decide +kernel
theorem dX2_leastMotion_30 : decode cX2_leastMotion 30 = .ok (.ifCond .eq 8, 3) := by decide +kernel
theorem dX2_leastMotion_33 : decode cX2_leastMotion 33 = .ok (.iload 4, 2) := by decide +kernel
theorem dX2_leastMotion_35 : decode cX2_leastMotion 35 = .ok (.ifCond .ne 6, 3) := by decide +kernel
theorem dX2_leastMotion_38 : decode cX2_leastMotion 38 = .ok (.bipush (-6), 2) := by decide +kernel
theorem dX2_leastMotion_40 : decode cX2_leastMotion 40 = .ok (.ireturn, 1) := by decide +kernel
theorem dX2_leastMotion_41 : decode cX2_leastMotion 41 = .ok (.ldc 81, 2) := by decide +kernel
theorem dX2_leastMotion_43 : decode cX2_leastMotion 43 = .ok (.istore 5, 2) := by decide +kernel
theorem dX2_leastMotion_45 : decode cX2_leastMotion 45 = .ok (.iconst 0, 1) := by decide +kernel
theorem dX2_leastMotion_46 : decode cX2_leastMotion 46 = .ok (.istore 6, 2) := by decide +kernel
theorem dX2_leastMotion_48 : decode cX2_leastMotion 48 = .ok (.iload 6, 2) := by decide +kernel
theorem dX2_leastMotion_50 : decode cX2_leastMotion 50 = .ok (.iload_n 3, 1) := by decide +kernel
theorem dX2_leastMotion_51 : decode cX2_leastMotion 51 = .ok (.if_icmp .ge 53, 3) := by decide +kernel
theorem dX2_leastMotion_54 : decode cX2_leastMotion 54 = .ok (.iconst 0, 1) := by decide +kernel
theorem dX2_leastMotion_55 : decode cX2_leastMotion 55 = .ok (.istore 7, 2) := by decide +kernel
theorem dX2_leastMotion_57 : decode cX2_leastMotion 57 = .ok (.iload 7, 2) := by decide +kernel
theorem dX2_leastMotion_59 : decode cX2_leastMotion 59 = .ok (.iload 4, 2) := by decide +kernel
theorem dX2_leastMotion_61 : decode cX2_leastMotion 61 = .ok (.if_icmp .ge 37, 3) := by decide +kernel
theorem dX2_leastMotion_64 : decode cX2_leastMotion 64 = .ok (.iload 5, 2) := by decide +kernel
theorem dX2_leastMotion_66 : decode cX2_leastMotion 66 = .ok (.aload_n 0, 1) := by decide +kernel
theorem dX2_leastMotion_67 : decode cX2_leastMotion 67 = .ok (.getfield 12, 3) := by decide +kernel
theorem dX2_leastMotion_70 : decode cX2_leastMotion 70 = .ok (.aload_n 0, 1) := by decide +kernel
theorem dX2_leastMotion_71 : decode cX2_leastMotion 71 = .ok (.getfield 31, 3) := by decide +kernel
theorem dX2_leastMotion_74 : decode cX2_leastMotion 74 = .ok (.iload 6, 2) := by decide +kernel
theorem dX2_leastMotion_76 : decode cX2_leastMotion 76 = .ok (.iaload, 1) := by decide +kernel
theorem dX2_leastMotion_77 : decode cX2_leastMotion 77 = .ok (.aload_n 0, 1) := by decide +kernel
theorem dX2_leastMotion_78 : decode cX2_leastMotion 78 = .ok (.getfield 35, 3) := by decide +kernel
theorem dX2_leastMotion_81 : decode cX2_leastMotion 81 = .ok (.iload 7, 2) := by decide +kernel
theorem dX2_leastMotion_83 : decode cX2_leastMotion 83 = .ok (.iaload, 1) := by decide +kernel
theorem dX2_leastMotion_84 : decode cX2_leastMotion 84 = .ok (.invokevirtual 96, 3) := by decide +kernel
theorem dX2_leastMotion_87 : decode cX2_leastMotion 87 = .ok (.invokestatic 138, 3) := by decide +kernel
theorem dX2_leastMotion_90 : decode cX2_leastMotion 90 = .ok (.istore 5, 2) := by decide +kernel
theorem dX2_leastMotion_92 : decode cX2_leastMotion 92 = .ok (.iinc 7 1, 3) := by decide +kernel
theorem dX2_leastMotion_95 : decode cX2_leastMotion 95 = .ok (.goto (-38), 3) := by decide +kernel
theorem dX2_leastMotion_98 : decode cX2_leastMotion 98 = .ok (.iinc 6 1, 3) := by decide +kernel
theorem dX2_leastMotion_101 : decode cX2_leastMotion 101 = .ok (.goto (-53), 3) := by decide +kernel
theorem dX2_leastMotion_104 : decode cX2_leastMotion 104 = .ok (.iload 5, 2) := by decide +kernel
theorem dX2_leastMotion_106 : decode cX2_leastMotion 106 = .ok (.ireturn, 1) := by decide +kernel
set_option maxRecDepth 20000 in
theorem ggX2_missOfPart_X2_valveDrop : GoodIn wsX2_missOfPart wsX2_valveDrop := goodIn_r _ [11] (by decide +kernel) (by decide +kernel)
set_option maxRecDepth 20000 in
theorem gX2_missOfPart_X2_valveDrop : GoodIn wsX2_missOfPart (va_wsS RX2 141 yX2_valveDrop wsX2_valveDrop) := goodIn_app (goodIn_of _ (by decide +kernel)) ggX2_missOfPart_X2_valveDrop
set_option maxRecDepth 20000 in
theorem ggX2_missOfPart_X2_nearestMiss : GoodIn wsX2_missOfPart wsX2_nearestMiss := goodIn_r _ [15, 16, 4, 17, 18, 19, 20, 21, 22, 23, 24, 25, 26, 27, 28, 29, 30, 31, 32] (by decide +kernel) (by decide +kernel)
set_option maxRecDepth 20000 in
theorem gX2_missOfPart_X2_nearestMiss : GoodIn wsX2_missOfPart (wsV RX2 144 RX2 yX2_nearestMiss wsX2_nearestMiss) := goodIn_app (goodIn_of _ (by decide +kernel)) ggX2_missOfPart_X2_nearestMiss
theorem dX2_missOfPart_0 : decode cX2_missOfPart 0 = .ok (.iconst 0, 1) := by decide +kernel
theorem dX2_missOfPart_1 : decode cX2_missOfPart 1 = .ok (.istore_n 3, 1) := by decide +kernel
theorem dX2_missOfPart_2 : decode cX2_missOfPart 2 = .ok (.iload_n 3, 1) := by decide +kernel
theorem dX2_missOfPart_3 : decode cX2_missOfPart 3 = .ok (.iconst 3, 1) := by decide +kernel
theorem dX2_missOfPart_4 : decode cX2_missOfPart 4 = .ok (.if_icmp .ge 33, 3) := by decide +kernel
theorem dX2_missOfPart_7 : decode cX2_missOfPart 7 = .ok (.aload_n 0, 1) := by decide +kernel
theorem dX2_missOfPart_8 : decode cX2_missOfPart 8 = .ok (.getfield 38, 3) := by decide +kernel
theorem dX2_missOfPart_11 : decode cX2_missOfPart 11 = .ok (.iload_n 3, 1) := by decide +kernel
theorem dX2_missOfPart_12 : decode cX2_missOfPart 12 = .ok (.iload_n 3, 1) := by decide +kernel
theorem dX2_missOfPart_13 : decode cX2_missOfPart 13 = .ok (.iload_n 1, 1) := by decide +kernel
theorem dX2_missOfPart_14 : decode cX2_missOfPart 14 = .ok (.if_icmp .ne 7, 3) := by decide +kernel
theorem dX2_missOfPart_17 : decode cX2_missOfPart 17 = .ok (.iload_n 2, 1) := by decide +kernel
theorem dX2_missOfPart_18 : decode cX2_missOfPart 18 = .ok (.goto 12, 3) := by decide +kernel
theorem dX2_missOfPart_21 : decode cX2_missOfPart 21 = .ok (.aload_n 0, 1) := by decide +kernel
theorem dX2_missOfPart_22 : decode cX2_missOfPart 22 = .ok (.getfield 12, 3) := by decide +kernel
theorem dX2_missOfPart_25 : decode cX2_missOfPart 25 = .ok (.getfield 51, 3) := by decide +kernel
theorem dX2_missOfPart_28 : decode cX2_missOfPart 28 = .ok (.iload_n 3, 1) := by decide +kernel
theorem dX2_missOfPart_29 : decode cX2_missOfPart 29 = .ok (.iaload, 1) := by decide +kernel
theorem dX2_missOfPart_30 : decode cX2_missOfPart 30 = .ok (.iastore, 1) := by decide +kernel
theorem dX2_missOfPart_31 : decode cX2_missOfPart 31 = .ok (.iinc 3 1, 3) := by decide +kernel
theorem dX2_missOfPart_34 : decode cX2_missOfPart 34 = .ok (.goto (-32), 3) := by decide +kernel
theorem dX2_missOfPart_37 : decode cX2_missOfPart 37 = .ok (.iconst 0, 1) := by decide +kernel
theorem dX2_missOfPart_38 : decode cX2_missOfPart 38 = .ok (.istore_n 3, 1) := by decide +kernel
theorem dX2_missOfPart_39 : decode cX2_missOfPart 39 = .ok (.iload_n 3, 1) := by decide +kernel
theorem dX2_missOfPart_40 : decode cX2_missOfPart 40 = .ok (.bipush 8, 2) := by decide +kernel
theorem dX2_missOfPart_42 : decode cX2_missOfPart 42 = .ok (.if_icmp .ge 32, 3) := by decide +kernel
theorem dX2_missOfPart_45 : decode cX2_missOfPart 45 = .ok (.aload_n 0, 1) := by decide +kernel
theorem dX2_missOfPart_46 : decode cX2_missOfPart 46 = .ok (.getfield 41, 3) := by decide +kernel
theorem dX2_missOfPart_49 : decode cX2_missOfPart 49 = .ok (.iload_n 3, 1) := by decide +kernel
theorem dX2_missOfPart_50 : decode cX2_missOfPart 50 = .ok (.iload_n 3, 1) := by decide +kernel
theorem dX2_missOfPart_51 : decode cX2_missOfPart 51 = .ok (.aload_n 0, 1) := by decide +kernel
theorem dX2_missOfPart_52 : decode cX2_missOfPart 52 = .ok (.getfield 38, 3) := by decide +kernel
theorem dX2_missOfPart_55 : decode cX2_missOfPart 55 = .ok (.aload_n 0, 1) := by decide +kernel
theorem dX2_missOfPart_56 : decode cX2_missOfPart 56 = .ok (.getfield 12, 3) := by decide +kernel
theorem dX2_missOfPart_59 : decode cX2_missOfPart 59 = .ok (.getfield 57, 3) := by decide +kernel
theorem dX2_missOfPart_62 : decode cX2_missOfPart 62 = .ok (.iconst 0, 1) := by decide +kernel
theorem dX2_missOfPart_63 : decode cX2_missOfPart 63 = .ok (.iaload, 1) := by decide +kernel
theorem dX2_missOfPart_64 : decode cX2_missOfPart 64 = .ok (.invokestatic 141, 3) := by decide +kernel
theorem dX2_missOfPart_67 : decode cX2_missOfPart 67 = .ok (.iastore, 1) := by decide +kernel
theorem dX2_missOfPart_68 : decode cX2_missOfPart 68 = .ok (.iinc 3 1, 3) := by decide +kernel
theorem dX2_missOfPart_71 : decode cX2_missOfPart 71 = .ok (.goto (-32), 3) := by decide +kernel
theorem dX2_missOfPart_74 : decode cX2_missOfPart 74 = .ok (.iconst 0, 1) := by decide +kernel
theorem dX2_missOfPart_75 : decode cX2_missOfPart 75 = .ok (.istore_n 3, 1) := by decide +kernel
theorem dX2_missOfPart_76 : decode cX2_missOfPart 76 = .ok (.iconst 0, 1) := by decide +kernel
theorem dX2_missOfPart_77 : decode cX2_missOfPart 77 = .ok (.istore 4, 2) := by decide +kernel
theorem dX2_missOfPart_79 : decode cX2_missOfPart 79 = .ok (.iload 4, 2) := by decide +kernel
theorem dX2_missOfPart_81 : decode cX2_missOfPart 81 = .ok (.aload_n 0, 1) := by decide +kernel
theorem dX2_missOfPart_82 : decode cX2_missOfPart 82 = .ok (.getfield 12, 3) := by decide +kernel
theorem dX2_missOfPart_85 : decode cX2_missOfPart 85 = .ok (.getfield 87, 3) := by decide +kernel
theorem dX2_missOfPart_88 : decode cX2_missOfPart 88 = .ok (.if_icmp .ge 26, 3) := by decide +kernel
theorem dX2_missOfPart_91 : decode cX2_missOfPart 91 = .ok (.iload_n 3, 1) := by decide +kernel
theorem dX2_missOfPart_92 : decode cX2_missOfPart 92 = .ok (.aload_n 0, 1) := by decide +kernel
theorem dX2_missOfPart_93 : decode cX2_missOfPart 93 = .ok (.aload_n 0, 1) := by decide +kernel
theorem dX2_missOfPart_94 : decode cX2_missOfPart 94 = .ok (.getfield 12, 3) := by decide +kernel
theorem dX2_missOfPart_97 : decode cX2_missOfPart 97 = .ok (.getfield 90, 3) := by decide +kernel
theorem dX2_missOfPart_100 : decode cX2_missOfPart 100 = .ok (.iload 4, 2) := by decide +kernel
theorem dX2_missOfPart_102 : decode cX2_missOfPart 102 = .ok (.iaload, 1) := by decide +kernel
theorem dX2_missOfPart_103 : decode cX2_missOfPart 103 = .ok (.invokevirtual 144, 3) := by decide +kernel
theorem dX2_missOfPart_106 : decode cX2_missOfPart 106 = .ok (.iadd, 1) := by decide +kernel
theorem dX2_missOfPart_107 : decode cX2_missOfPart 107 = .ok (.istore_n 3, 1) := by decide +kernel
theorem dX2_missOfPart_108 : decode cX2_missOfPart 108 = .ok (.iinc 4 1, 3) := by decide +kernel
theorem dX2_missOfPart_111 : decode cX2_missOfPart 111 = .ok (.goto (-32), 3) := by decide +kernel
theorem dX2_missOfPart_114 : decode cX2_missOfPart 114 = .ok (.iload_n 3, 1) := by decide +kernel
theorem dX2_missOfPart_115 : decode cX2_missOfPart 115 = .ok (.ireturn, 1) := by decide +kernel
theorem dX2_nearestMiss_0 : decode cX2_nearestMiss 0 = .ok (.ldc 81, 2) := by decide +kernel
theorem dX2_nearestMiss_2 : decode cX2_nearestMiss 2 = .ok (.istore_n 2, 1) := by decide +kernel
theorem dX2_nearestMiss_3 : decode cX2_nearestMiss 3 = .ok (.iconst 0, 1) := by decide +kernel
theorem dX2_nearestMiss_4 : decode cX2_nearestMiss 4 = .ok (.istore_n 3, 1) := by decide +kernel
theorem dX2_nearestMiss_5 : decode cX2_nearestMiss 5 = .ok (.iload_n 3, 1) := by decide +kernel
theorem dX2_nearestMiss_6 : decode cX2_nearestMiss 6 = .ok (.bipush 8, 2) := by decide +kernel
theorem dX2_nearestMiss_8 : decode cX2_nearestMiss 8 = .ok (.if_icmp .ge 55, 3) := by decide +kernel
theorem dX2_nearestMiss_11 : decode cX2_nearestMiss 11 = .ok (.aload_n 0, 1) := by decide +kernel
theorem dX2_nearestMiss_12 : decode cX2_nearestMiss 12 = .ok (.getfield 41, 3) := by decide +kernel
theorem dX2_nearestMiss_15 : decode cX2_nearestMiss 15 = .ok (.iload_n 3, 1) := by decide +kernel
theorem dX2_nearestMiss_16 : decode cX2_nearestMiss 16 = .ok (.iaload, 1) := by decide +kernel
theorem dX2_nearestMiss_17 : decode cX2_nearestMiss 17 = .ok (.bipush 100, 2) := by decide +kernel
theorem dX2_nearestMiss_19 : decode cX2_nearestMiss 19 = .ok (.iload_n 1, 1) := by decide +kernel
theorem dX2_nearestMiss_20 : decode cX2_nearestMiss 20 = .ok (.imul, 1) := by decide +kernel
theorem dX2_nearestMiss_21 : decode cX2_nearestMiss 21 = .ok (.iadd, 1) := by decide +kernel
theorem dX2_nearestMiss_22 : decode cX2_nearestMiss 22 = .ok (.istore 4, 2) := by decide +kernel
theorem dX2_nearestMiss_24 : decode cX2_nearestMiss 24 = .ok (.iconst 0, 1) := by decide +kernel
theorem dX2_nearestMiss_25 : decode cX2_nearestMiss 25 = .ok (.istore 5, 2) := by decide +kernel
theorem dX2_nearestMiss_27 : decode cX2_nearestMiss 27 = .ok (.iload 5, 2) := by decide +kernel
theorem dX2_nearestMiss_29 : decode cX2_nearestMiss 29 = .ok (.bipush 8, 2) := by decide +kernel
theorem dX2_nearestMiss_31 : decode cX2_nearestMiss 31 = .ok (.if_icmp .ge 26, 3) := by decide +kernel
theorem dX2_nearestMiss_34 : decode cX2_nearestMiss 34 = .ok (.iload_n 2, 1) := by decide +kernel
theorem dX2_nearestMiss_35 : decode cX2_nearestMiss 35 = .ok (.getstatic 147, 3) := by decide +kernel
theorem dX2_nearestMiss_38 : decode cX2_nearestMiss 38 = .ok (.iload 5, 2) := by decide +kernel
theorem dX2_nearestMiss_40 : decode cX2_nearestMiss 40 = .ok (.iaload, 1) := by decide +kernel
theorem dX2_nearestMiss_41 : decode cX2_nearestMiss 41 = .ok (.iload 4, 2) := by decide +kernel
theorem dX2_nearestMiss_43 : decode cX2_nearestMiss 43 = .ok (.isub, 1) := by decide +kernel
theorem dX2_nearestMiss_44 : decode cX2_nearestMiss 44 = .ok (.invokestatic 82, 3) := by decide +kernel
theorem dX2_nearestMiss_47 : decode cX2_nearestMiss 47 = .ok (.invokestatic 138, 3) := by decide +kernel
theorem dX2_nearestMiss_50 : decode cX2_nearestMiss 50 = .ok (.istore_n 2, 1) := by decide +kernel
theorem dX2_nearestMiss_51 : decode cX2_nearestMiss 51 = .ok (.iinc 5 1, 3) := by decide +kernel
theorem dX2_nearestMiss_54 : decode cX2_nearestMiss 54 = .ok (.goto (-27), 3) := by decide +kernel
theorem dX2_nearestMiss_57 : decode cX2_nearestMiss 57 = .ok (.iinc 3 1, 3) := by decide +kernel
theorem dX2_nearestMiss_60 : decode cX2_nearestMiss 60 = .ok (.goto (-55), 3) := by decide +kernel
theorem dX2_nearestMiss_63 : decode cX2_nearestMiss 63 = .ok (.iload_n 2, 1) := by decide +kernel
theorem dX2_nearestMiss_64 : decode cX2_nearestMiss 64 = .ok (.ireturn, 1) := by decide +kernel
theorem dX2_valveDrop_0 : decode cX2_valveDrop 0 = .ok (.iconst 0, 1) := by decide +kernel
theorem dX2_valveDrop_1 : decode cX2_valveDrop 1 = .ok (.istore_n 3, 1) := by decide +kernel
theorem dX2_valveDrop_2 : decode cX2_valveDrop 2 = .ok (.iconst 0, 1) := by decide +kernel
theorem dX2_valveDrop_3 : decode cX2_valveDrop 3 = .ok (.istore 4, 2) := by decide +kernel
theorem dX2_valveDrop_5 : decode cX2_valveDrop 5 = .ok (.iconst 0, 1) := by decide +kernel
theorem dX2_valveDrop_6 : decode cX2_valveDrop 6 = .ok (.istore 5, 2) := by decide +kernel
theorem dX2_valveDrop_8 : decode cX2_valveDrop 8 = .ok (.iload 5, 2) := by decide +kernel
theorem dX2_valveDrop_10 : decode cX2_valveDrop 10 = .ok (.iconst 3, 1) := by decide +kernel
theorem dX2_valveDrop_11 : decode cX2_valveDrop 11 = .ok (.if_icmp .ge 34, 3) := by decide +kernel
theorem dX2_valveDrop_14 : decode cX2_valveDrop 14 = .ok (.iload_n 0, 1) := by decide +kernel
theorem dX2_valveDrop_15 : decode cX2_valveDrop 15 = .ok (.iload 5, 2) := by decide +kernel
theorem dX2_valveDrop_17 : decode cX2_valveDrop 17 = .ok (.ishr, 1) := by decide +kernel
theorem dX2_valveDrop_18 : decode cX2_valveDrop 18 = .ok (.iconst 1, 1) := by decide +kernel
theorem dX2_valveDrop_19 : decode cX2_valveDrop 19 = .ok (.iand, 1) := by decide +kernel
theorem dX2_valveDrop_20 : decode cX2_valveDrop 20 = .ok (.iconst 1, 1) := by decide +kernel
theorem dX2_valveDrop_21 : decode cX2_valveDrop 21 = .ok (.if_icmp .ne 18, 3) := by decide +kernel
theorem dX2_valveDrop_24 : decode cX2_valveDrop 24 = .ok (.iload_n 3, 1) := by decide +kernel
theorem dX2_valveDrop_25 : decode cX2_valveDrop 25 = .ok (.aload_n 1, 1) := by decide +kernel
theorem dX2_valveDrop_26 : decode cX2_valveDrop 26 = .ok (.iload 5, 2) := by decide +kernel
theorem dX2_valveDrop_28 : decode cX2_valveDrop 28 = .ok (.iaload, 1) := by decide +kernel
theorem dX2_valveDrop_29 : decode cX2_valveDrop 29 = .ok (.iload_n 2, 1) := by decide +kernel
theorem dX2_valveDrop_30 : decode cX2_valveDrop 30 = .ok (.iload 4, 2) := by decide +kernel
theorem dX2_valveDrop_32 : decode cX2_valveDrop 32 = .ok (.imul, 1) := by decide +kernel
theorem dX2_valveDrop_33 : decode cX2_valveDrop 33 = .ok (.isub, 1) := by decide +kernel
theorem dX2_valveDrop_34 : decode cX2_valveDrop 34 = .ok (.iadd, 1) := by decide +kernel
theorem dX2_valveDrop_35 : decode cX2_valveDrop 35 = .ok (.istore_n 3, 1) := by decide +kernel
theorem dX2_valveDrop_36 : decode cX2_valveDrop 36 = .ok (.iinc 4 1, 3) := by decide +kernel
theorem dX2_valveDrop_39 : decode cX2_valveDrop 39 = .ok (.iinc 5 1, 3) := by decide +kernel
theorem dX2_valveDrop_42 : decode cX2_valveDrop 42 = .ok (.goto (-34), 3) := by decide +kernel
theorem dX2_valveDrop_45 : decode cX2_valveDrop 45 = .ok (.iload_n 3, 1) := by decide +kernel
theorem dX2_valveDrop_46 : decode cX2_valveDrop 46 = .ok (.ireturn, 1) := by decide +kernel
theorem dX3_init_0 : decode cX3_init 0 = .ok (.aload_n 0, 1) := by decide +kernel
theorem dX3_init_1 : decode cX3_init 1 = .ok (.invokespecial 1, 3) := by decide +kernel
theorem dX3_init_4 : decode cX3_init 4 = .ok (.aload_n 0, 1) := by decide +kernel
theorem dX3_init_5 : decode cX3_init 5 = .ok (.bipush 22, 2) := by decide +kernel
theorem dX3_init_7 : decode cX3_init 7 = .ok (.newarray .int, 2) := by decide +kernel
theorem dX3_init_9 : decode cX3_init 9 = .ok (.putfield 7, 3) := by decide +kernel
theorem dX3_init_12 : decode cX3_init 12 = .ok (.aload_n 0, 1) := by decide +kernel
theorem dX3_init_13 : decode cX3_init 13 = .ok (.bipush 44, 2) := by decide +kernel
theorem dX3_init_15 : decode cX3_init 15 = .ok (.newarray .int, 2) := by decide +kernel
theorem dX3_init_17 : decode cX3_init 17 = .ok (.putfield 13, 3) := by decide +kernel
theorem dX3_init_20 : decode cX3_init 20 = .ok (.aload_n 0, 1) := by decide +kernel
theorem dX3_init_21 : decode cX3_init 21 = .ok (.iconst 2, 1) := by decide +kernel
theorem dX3_init_22 : decode cX3_init 22 = .ok (.newarray .boolean, 2) := by decide +kernel
theorem dX3_init_24 : decode cX3_init 24 = .ok (.putfield 16, 3) := by decide +kernel
theorem dX3_init_27 : decode cX3_init 27 = .ok (.aload_n 0, 1) := by decide +kernel
theorem dX3_init_28 : decode cX3_init 28 = .ok (.sipush 768, 3) := by decide +kernel
theorem dX3_init_31 : decode cX3_init 31 = .ok (.newarray .int, 2) := by decide +kernel
theorem dX3_init_33 : decode cX3_init 33 = .ok (.putfield 20, 3) := by decide +kernel
theorem dX3_init_36 : decode cX3_init 36 = .ok (.aload_n 0, 1) := by decide +kernel
theorem dX3_init_37 : decode cX3_init 37 = .ok (.sipush 768, 3) := by decide +kernel
theorem dX3_init_40 : decode cX3_init 40 = .ok (.newarray .long, 2) := by decide +kernel
theorem dX3_init_42 : decode cX3_init 42 = .ok (.putfield 23, 3) := by decide +kernel
theorem dX3_init_45 : decode cX3_init 45 = .ok (.aload_n 0, 1) := by decide +kernel
theorem dX3_init_46 : decode cX3_init 46 = .ok (.sipush 768, 3) := by decide +kernel
theorem dX3_init_49 : decode cX3_init 49 = .ok (.newarray .long, 2) := by decide +kernel
theorem dX3_init_51 : decode cX3_init 51 = .ok (.putfield 27, 3) := by decide +kernel
theorem dX3_init_54 : decode cX3_init 54 = .ok (.aload_n 0, 1) := by decide +kernel
theorem dX3_init_55 : decode cX3_init 55 = .ok (.sipush 768, 3) := by decide +kernel
theorem dX3_init_58 : decode cX3_init 58 = .ok (.newarray .int, 2) := by decide +kernel
theorem dX3_init_60 : decode cX3_init 60 = .ok (.putfield 30, 3) := by decide +kernel
theorem dX3_init_63 : decode cX3_init 63 = .ok (.aload_n 0, 1) := by decide +kernel
theorem dX3_init_64 : decode cX3_init 64 = .ok (.getfield 7, 3) := by decide +kernel
theorem dX3_init_67 : decode cX3_init 67 = .ok (.iconst 1, 1) := by decide +kernel
theorem dX3_init_68 : decode cX3_init 68 = .ok (.sipush 200, 3) := by decide +kernel
theorem dX3_init_71 : decode cX3_init 71 = .ok (.iastore, 1) := by decide +kernel
theorem dX3_init_72 : decode cX3_init 72 = .ok (.aload_n 0, 1) := by decide +kernel
theorem dX3_init_73 : decode cX3_init 73 = .ok (.getfield 7, 3) := by decide +kernel
theorem dX3_init_76 : decode cX3_init 76 = .ok (.iconst 2, 1) := by decide +kernel
theorem dX3_init_77 : decode cX3_init 77 = .ok (.bipush 100, 2) := by decide +kernel
theorem dX3_init_79 : decode cX3_init 79 = .ok (.iastore, 1) := by decide +kernel
theorem dX3_init_80 : decode cX3_init 80 = .ok (.aload_n 0, 1) := by decide +kernel
theorem dX3_init_81 : decode cX3_init 81 = .ok (.getfield 7, 3) := by decide +kernel
theorem dX3_init_84 : decode cX3_init 84 = .ok (.iconst 3, 1) := by decide +kernel
theorem dX3_init_85 : decode cX3_init 85 = .ok (.sipush 300, 3) := by decide +kernel
theorem dX3_init_88 : decode cX3_init 88 = .ok (.iastore, 1) := by decide +kernel
theorem dX3_init_89 : decode cX3_init 89 = .ok (.aload_n 0, 1) := by decide +kernel
theorem dX3_init_90 : decode cX3_init 90 = .ok (.getfield 7, 3) := by decide +kernel
theorem dX3_init_93 : decode cX3_init 93 = .ok (.iconst 4, 1) := by decide +kernel
theorem dX3_init_94 : decode cX3_init 94 = .ok (.bipush 10, 2) := by decide +kernel
theorem dX3_init_96 : decode cX3_init 96 = .ok (.iastore, 1) := by decide +kernel
theorem dX3_init_97 : decode cX3_init 97 = .ok (.aload_n 0, 1) := by decide +kernel
theorem dX3_init_98 : decode cX3_init 98 = .ok (.getfield 7, 3) := by decide +kernel
theorem dX3_init_101 : decode cX3_init 101 = .ok (.iconst 5, 1) := by decide +kernel
theorem dX3_init_102 : decode cX3_init 102 = .ok (.bipush 35, 2) := by decide +kernel
theorem dX3_init_104 : decode cX3_init 104 = .ok (.iastore, 1) := by decide +kernel
theorem dX3_init_105 : decode cX3_init 105 = .ok (.aload_n 0, 1) := by decide +kernel
theorem dX3_init_106 : decode cX3_init 106 = .ok (.getfield 7, 3) := by decide +kernel
theorem dX3_init_109 : decode cX3_init 109 = .ok (.bipush 6, 2) := by decide +kernel
theorem dX3_init_111 : decode cX3_init 111 = .ok (.iconst 2, 1) := by decide +kernel
theorem dX3_init_112 : decode cX3_init 112 = .ok (.iastore, 1) := by decide +kernel
theorem dX3_init_113 : decode cX3_init 113 = .ok (.aload_n 0, 1) := by decide +kernel
theorem dX3_init_114 : decode cX3_init 114 = .ok (.getfield 7, 3) := by decide +kernel
theorem dX3_init_117 : decode cX3_init 117 = .ok (.bipush 7, 2) := by decide +kernel
theorem dX3_init_119 : decode cX3_init 119 = .ok (.iconst 1, 1) := by decide +kernel
theorem dX3_init_120 : decode cX3_init 120 = .ok (.iastore, 1) := by decide +kernel
theorem dX3_init_121 : decode cX3_init 121 = .ok (.aload_n 0, 1) := by decide +kernel
theorem dX3_init_122 : decode cX3_init 122 = .ok (.getfield 7, 3) := by decide +kernel
theorem dX3_init_125 : decode cX3_init 125 = .ok (.bipush 8, 2) := by decide +kernel
theorem dX3_init_127 : decode cX3_init 127 = .ok (.iconst 1, 1) := by decide +kernel
theorem dX3_init_128 : decode cX3_init 128 = .ok (.iastore, 1) := by decide +kernel
theorem dX3_init_129 : decode cX3_init 129 = .ok (.return_, 1) := by decide +kernel
theorem dX3_in_0 : decode cX3_in 0 = .ok (.iload_n 0, 1) := by decide +kernel
theorem dX3_in_1 : decode cX3_in 1 = .ok (.iload_n 1, 1) := by decide +kernel
theorem dX3_in_2 : decode cX3_in 2 = .ok (.if_icmp .lt 12, 3) := by decide +kernel
theorem dX3_in_5 : decode cX3_in 5 = .ok (.iload_n 0, 1) := by decide +kernel
theorem dX3_in_6 : decode cX3_in 6 = .ok (.iload_n 2, 1) := by decide +kernel
theorem dX3_in_7 : decode cX3_in 7 = .ok (.if_icmp .gt 7, 3) := by decide +kernel
theorem dX3_in_10 : decode cX3_in 10 = .ok (.iconst 1, 1) := by decide +kernel
theorem dX3_in_11 : decode cX3_in 11 = .ok (.goto 4, 3) := by decide +kernel
theorem dX3_in_14 : decode cX3_in 14 = .ok (.iconst 0, 1) := by decide +kernel
theorem dX3_in_15 : decode cX3_in 15 = .ok (.ireturn, 1) := by decide +kernel
theorem dX3_size_0 : decode cX3_size 0 = .ok (.iload_n 0, 1) := by decide +kernel
theorem dX3_size_1 : decode cX3_size 1 = .ok (.ifCond .ge 8, 3) := by decide +kernel
theorem dX3_size_4 : decode cX3_size 4 = .ok (.iload_n 0, 1) := by decide +kernel
theorem dX3_size_5 : decode cX3_size 5 = .ok (.ineg, 1) := by decide +kernel
theorem dX3_size_6 : decode cX3_size 6 = .ok (.goto 4, 3) := by decide +kernel
theorem dX3_size_9 : decode cX3_size 9 = .ok (.iload_n 0, 1) := by decide +kernel
theorem dX3_size_10 : decode cX3_size 10 = .ok (.ireturn, 1) := by decide +kernel
set_option maxRecDepth 20000 in
theorem ggX3_isSetting_X3_in : GoodIn wsX3_isSetting wsX3_in := goodIn_r _ [5] (by decide +kernel) (by decide +kernel)
set_option maxRecDepth 20000 in
theorem gX3_isSetting_X3_in : GoodIn wsX3_isSetting (va_wsS RX3 33 yX3_in wsX3_in) := goodIn_app (goodIn_of _ (by decide +kernel)) ggX3_isSetting_X3_in
theorem dX3_isSetting_0 : decode cX3_isSetting 0 = .ok (.iload_n 1, 1) := by decide +kernel
theorem dX3_isSetting_1 : decode cX3_isSetting 1 = .ok (.iconst 0, 1) := by decide +kernel
theorem dX3_isSetting_2 : decode cX3_isSetting 2 = .ok (.aload_n 0, 1) := by decide +kernel
theorem dX3_isSetting_3 : decode cX3_isSetting 3 = .ok (.getfield 7, 3) := by decide +kernel
theorem dX3_isSetting_6 : decode cX3_isSetting 6 = .ok (.iconst 0, 1) := by decide +kernel
theorem dX3_isSetting_7 : decode cX3_isSetting 7 = .ok (.iaload, 1) := by decide +kernel
theorem dX3_isSetting_8 : decode cX3_isSetting 8 = .ok (.ifCond .ne 8, 3) := by decide +kernel
theorem dX3_isSetting_11 : decode cX3_isSetting 11 = .ok (.bipush 7, 2) := by decide +kernel
theorem dX3_isSetting_13 : decode cX3_isSetting 13 = .ok (.goto 5, 3) := by decide +kernel
theorem dX3_isSetting_16 : decode cX3_isSetting 16 = .ok (.bipush 6, 2) := by decide +kernel
theorem dX3_isSetting_18 : decode cX3_isSetting 18 = .ok (.invokestatic 33, 3) := by decide +kernel
theorem dX3_isSetting_21 : decode cX3_isSetting 21 = .ok (.ireturn, 1) := by decide +kernel
set_option maxRecDepth 20000 in
theorem ggX3_isWay_X3_in : GoodIn wsX3_isWay wsX3_in := goodIn_r _ [4] (by decide +kernel) (by decide +kernel)
set_option maxRecDepth 20000 in
theorem gX3_isWay_X3_in : GoodIn wsX3_isWay (va_wsS RX3 33 yX3_in wsX3_in) := goodIn_app (goodIn_of _ (by decide +kernel)) ggX3_isWay_X3_in
set_option maxRecDepth 20000 in
theorem ggX3_isWay_X3_isSetting : GoodIn wsX3_isWay wsX3_isSetting := goodIn_r _ [8, 9, 1, 2, 3, 4, 10, 11, 12, 13, 14, 15, 16] (by decide +kernel) (by decide +kernel)
set_option maxRecDepth 20000 in
theorem gX3_isWay_X3_isSetting : GoodIn wsX3_isWay (wsV RX3 37 RX3 yX3_isSetting wsX3_isSetting) := goodIn_app (goodIn_of _ (by decide +kernel)) ggX3_isWay_X3_isSetting
theorem dX3_isWay_0 : decode cX3_isWay 0 = .ok (.iload_n 1, 1) := by decide +kernel
theorem dX3_isWay_1 : decode cX3_isWay 1 = .ok (.iconst 0, 1) := by decide +kernel
theorem dX3_isWay_2 : decode cX3_isWay 2 = .ok (.bipush 63, 2) := by decide +kernel
theorem dX3_isWay_4 : decode cX3_isWay 4 = .ok (.invokestatic 33, 3) := by decide +kernel
theorem dX3_isWay_7 : decode cX3_isWay 7 = .ok (.ifCond .eq 18, 3) := by decide +kernel
theorem dX3_isWay_10 : decode cX3_isWay 10 = .ok (.aload_n 0, 1) := by decide +kernel
theorem dX3_isWay_11 : decode cX3_isWay 11 = .ok (.iload_n 1, 1) := by decide +kernel
theorem dX3_isWay_12 : decode cX3_isWay 12 = .ok (.bipush 8, 2) := by decide +kernel
theorem dX3_isWay_14 : decode cX3_isWay 14 = .ok (.irem, 1) := by decide +kernel
theorem dX3_isWay_15 : decode cX3_isWay 15 = .ok (.invokevirtual 37, 3) := by decide +kernel
theorem dX3_isWay_18 : decode cX3_isWay 18 = .ok (.ifCond .eq 7, 3) := by decide +kernel
theorem dX3_isWay_21 : decode cX3_isWay 21 = .ok (.iconst 1, 1) := by decide +kernel
theorem dX3_isWay_22 : decode cX3_isWay 22 = .ok (.goto 4, 3) := by decide +kernel
theorem dX3_isWay_25 : decode cX3_isWay 25 = .ok (.iconst 0, 1) := by decide +kernel
theorem dX3_isWay_26 : decode cX3_isWay 26 = .ok (.ireturn, 1) := by decide +kernel
set_option maxRecDepth 20000 in
theorem ggX3_isNote_X3_in : GoodIn wsX3_isNote wsX3_in := goodIn_r _ [4] (by decide +kernel) (by decide +kernel)
set_option maxRecDepth 20000 in
theorem gX3_isNote_X3_in : GoodIn wsX3_isNote (va_wsS RX3 33 yX3_in wsX3_in) := goodIn_app (goodIn_of _ (by decide +kernel)) ggX3_isNote_X3_in
theorem dX3_isNote_0 : decode cX3_isNote 0 = .ok (.iload_n 0, 1) := by decide +kernel
theorem dX3_isNote_1 : decode cX3_isNote 1 = .ok (.iconst 0, 1) := by decide +kernel
theorem dX3_isNote_2 : decode cX3_isNote 2 = .ok (.bipush 36, 2) := by decide +kernel
theorem dX3_isNote_4 : decode cX3_isNote 4 = .ok (.invokestatic 33, 3) := by decide +kernel
theorem dX3_isNote_7 : decode cX3_isNote 7 = .ok (.ireturn, 1) := by decide +kernel
set_option maxRecDepth 20000 in
theorem ggX3_isPlace_X3_in : GoodIn wsX3_isPlace wsX3_in := goodIn_r _ [5] (by decide +kernel) (by decide +kernel)
set_option maxRecDepth 20000 in
theorem gX3_isPlace_X3_in : GoodIn wsX3_isPlace (va_wsS RX3 33 yX3_in wsX3_in) := goodIn_app (goodIn_of _ (by decide +kernel)) ggX3_isPlace_X3_in
theorem dX3_isPlace_0 : decode cX3_isPlace 0 = .ok (.iload_n 1, 1) := by decide +kernel
theorem dX3_isPlace_1 : decode cX3_isPlace 1 = .ok (.iconst 0, 1) := by decide +kernel
theorem dX3_isPlace_2 : decode cX3_isPlace 2 = .ok (.aload_n 0, 1) := by decide +kernel
theorem dX3_isPlace_3 : decode cX3_isPlace 3 = .ok (.getfield 7, 3) := by decide +kernel
theorem dX3_isPlace_6 : decode cX3_isPlace 6 = .ok (.bipush 9, 2) := by decide +kernel
theorem dX3_isPlace_8 : decode cX3_isPlace 8 = .ok (.iaload, 1) := by decide +kernel
theorem dX3_isPlace_9 : decode cX3_isPlace 9 = .ok (.iconst 1, 1) := by decide +kernel
theorem dX3_isPlace_10 : decode cX3_isPlace 10 = .ok (.isub, 1) := by decide +kernel
theorem dX3_isPlace_11 : decode cX3_isPlace 11 = .ok (.invokestatic 33, 3) := by decide +kernel
theorem dX3_isPlace_14 : decode cX3_isPlace 14 = .ok (.ireturn, 1) := by decide +kernel
theorem dX3_bits_0 : decode cX3_bits 0 = .ok (.iload_n 0, 1) := by decide +kernel
theorem dX3_bits_1 : decode cX3_bits 1 = .ok (.iconst 1, 1) := by decide +kernel
theorem dX3_bits_2 : decode cX3_bits 2 = .ok (.iand, 1) := by decide +kernel
theorem dX3_bits_3 : decode cX3_bits 3 = .ok (.iload_n 0, 1) := by decide +kernel
theorem dX3_bits_4 : decode cX3_bits 4 = .ok (.iconst 1, 1) := by decide +kernel
theorem dX3_bits_5 : decode cX3_bits 5 = .ok (.ishr, 1) := by decide +kernel
theorem dX3_bits_6 : decode cX3_bits 6 = .ok (.iconst 1, 1) := by decide +kernel
theorem dX3_bits_7 : decode cX3_bits 7 = .ok (.iand, 1) := by decide +kernel
theorem dX3_bits_8 : decode cX3_bits 8 = .ok (.iadd, 1) := by decide +kernel
theorem dX3_bits_9 : decode cX3_bits 9 = .ok (.iload_n 0, 1) := by decide +kernel
theorem dX3_bits_10 : decode cX3_bits 10 = .ok (.iconst 2, 1) := by decide +kernel
theorem dX3_bits_11 : decode cX3_bits 11 = .ok (.ishr, 1) := by decide +kernel
theorem dX3_bits_12 : decode cX3_bits 12 = .ok (.iconst 1, 1) := by decide +kernel
theorem dX3_bits_13 : decode cX3_bits 13 = .ok (.iand, 1) := by decide +kernel
theorem dX3_bits_14 : decode cX3_bits 14 = .ok (.iadd, 1) := by decide +kernel
theorem dX3_bits_15 : decode cX3_bits 15 = .ok (.ireturn, 1) := by decide +kernel
set_option maxRecDepth 20000 in
theorem ggX3_lowersBy_X3_bits : GoodIn wsX3_lowersBy wsX3_bits := goodIn_r _ [5] (by decide +kernel) (by decide +kernel)
set_option maxRecDepth 20000 in
theorem gX3_lowersBy_X3_bits : GoodIn wsX3_lowersBy (va_wsS RX3 41 yX3_bits wsX3_bits) := goodIn_app (goodIn_of _ (by decide +kernel)) ggX3_lowersBy_X3_bits
theorem dX3_lowersBy_0 : decode cX3_lowersBy 0 = .ok (.aload_n 0, 1) := by decide +kernel
theorem dX3_lowersBy_1 : decode cX3_lowersBy 1 = .ok (.getfield 7, 3) := by decide +kernel
theorem dX3_lowersBy_4 : decode cX3_lowersBy 4 = .ok (.iconst 0, 1) := by decide +kernel
theorem dX3_lowersBy_5 : decode cX3_lowersBy 5 = .ok (.iaload, 1) := by decide +kernel
theorem dX3_lowersBy_6 : decode cX3_lowersBy 6 = .ok (.iconst 1, 1) := by decide +kernel
theorem dX3_lowersBy_7 : decode cX3_lowersBy 7 = .ok (.if_icmp .ne 8, 3) := by decide +kernel
theorem dX3_lowersBy_10 : decode cX3_lowersBy 10 = .ok (.bipush 100, 2) := by decide +kernel
theorem dX3_lowersBy_12 : decode cX3_lowersBy 12 = .ok (.iload_n 1, 1) := by decide +kernel
theorem dX3_lowersBy_13 : decode cX3_lowersBy 13 = .ok (.imul, 1) := by decide +kernel
theorem dX3_lowersBy_14 : decode cX3_lowersBy 14 = .ok (.ireturn, 1) := by decide +kernel
theorem dX3_lowersBy_15 : decode cX3_lowersBy 15 = .ok (.iconst 0, 1) := by decide +kernel
theorem dX3_lowersBy_16 : decode cX3_lowersBy 16 = .ok (.istore_n 2, 1) := by decide +kernel
theorem dX3_lowersBy_17 : decode cX3_lowersBy 17 = .ok (.iconst 0, 1) := by decide +kernel
theorem dX3_lowersBy_18 : decode cX3_lowersBy 18 = .ok (.istore_n 3, 1) := by decide +kernel
theorem dX3_lowersBy_19 : decode cX3_lowersBy 19 = .ok (.iload_n 3, 1) := by decide +kernel
theorem dX3_lowersBy_20 : decode cX3_lowersBy 20 = .ok (.iconst 3, 1) := by decide +kernel
theorem dX3_lowersBy_21 : decode cX3_lowersBy 21 = .ok (.if_icmp .ge 26, 3) := by decide +kernel
theorem dX3_lowersBy_24 : decode cX3_lowersBy 24 = .ok (.iload_n 2, 1) := by decide +kernel
theorem dX3_lowersBy_25 : decode cX3_lowersBy 25 = .ok (.iload_n 1, 1) := by decide +kernel
theorem dX3_lowersBy_26 : decode cX3_lowersBy 26 = .ok (.iload_n 3, 1) := by decide +kernel
theorem dX3_lowersBy_27 : decode cX3_lowersBy 27 = .ok (.ishr, 1) := by decide +kernel
theorem dX3_lowersBy_28 : decode cX3_lowersBy 28 = .ok (.iconst 1, 1) := by decide +kernel
theorem dX3_lowersBy_29 : decode cX3_lowersBy 29 = .ok (.iand, 1) := by decide +kernel
theorem dX3_lowersBy_30 : decode cX3_lowersBy 30 = .ok (.aload_n 0, 1) := by decide +kernel
theorem dX3_lowersBy_31 : decode cX3_lowersBy 31 = .ok (.getfield 7, 3) := by decide +kernel
theorem dX3_lowersBy_34 : decode cX3_lowersBy 34 = .ok (.iconst 1, 1) := by decide +kernel
theorem dX3_lowersBy_35 : decode cX3_lowersBy 35 = .ok (.iload_n 3, 1) := by decide +kernel
theorem dX3_lowersBy_36 : decode cX3_lowersBy 36 = .ok (.iadd, 1) := by decide +kernel
theorem dX3_lowersBy_37 : decode cX3_lowersBy 37 = .ok (.iaload, 1) := by decide +kernel
theorem dX3_lowersBy_38 : decode cX3_lowersBy 38 = .ok (.imul, 1) := by decide +kernel
theorem dX3_lowersBy_39 : decode cX3_lowersBy 39 = .ok (.iadd, 1) := by decide +kernel
theorem dX3_lowersBy_40 : decode cX3_lowersBy 40 = .ok (.istore_n 2, 1) := by decide +kernel
theorem dX3_lowersBy_41 : decode cX3_lowersBy 41 = .ok (.iinc 3 1, 3) := by decide +kernel
theorem dX3_lowersBy_44 : decode cX3_lowersBy 44 = .ok (.goto (-25), 3) := by decide +kernel
theorem dX3_lowersBy_47 : decode cX3_lowersBy 47 = .ok (.iload_n 1, 1) := by decide +kernel
theorem dX3_lowersBy_48 : decode cX3_lowersBy 48 = .ok (.invokestatic 41, 3) := by decide +kernel
theorem dX3_lowersBy_51 : decode cX3_lowersBy 51 = .ok (.istore_n 3, 1) := by decide +kernel
theorem dX3_lowersBy_52 : decode cX3_lowersBy 52 = .ok (.iload_n 2, 1) := by decide +kernel
theorem dX3_lowersBy_53 : decode cX3_lowersBy 53 = .ok (.aload_n 0, 1) := by decide +kernel
theorem dX3_lowersBy_54 : decode cX3_lowersBy 54 = .ok (.getfield 7, 3) := by decide +kernel
theorem dX3_lowersBy_57 : decode cX3_lowersBy 57 = .ok (.iconst 4, 1) := by decide +kernel
theorem dX3_lowersBy_58 : decode cX3_lowersBy 58 = .ok (.iaload, 1) := by decide +kernel
theorem dX3_lowersBy_59 : decode cX3_lowersBy 59 = .ok (.iload_n 3, 1) := by decide +kernel
theorem dX3_lowersBy_60 : decode cX3_lowersBy 60 = .ok (.iload_n 3, 1) := by decide +kernel
theorem dX3_lowersBy_61 : decode cX3_lowersBy 61 = .ok (.iconst 1, 1) := by decide +kernel
theorem dX3_lowersBy_62 : decode cX3_lowersBy 62 = .ok (.isub, 1) := by decide +kernel
theorem dX3_lowersBy_63 : decode cX3_lowersBy 63 = .ok (.imul, 1) := by decide +kernel
theorem dX3_lowersBy_64 : decode cX3_lowersBy 64 = .ok (.iconst 2, 1) := by decide +kernel
theorem dX3_lowersBy_65 : decode cX3_lowersBy 65 = .ok (.idiv, 1) := by decide +kernel
theorem dX3_lowersBy_66 : decode cX3_lowersBy 66 = .ok (.imul, 1) := by decide +kernel
theorem dX3_lowersBy_67 : decode cX3_lowersBy 67 = .ok (.isub, 1) := by decide +kernel
theorem dX3_lowersBy_68 : decode cX3_lowersBy 68 = .ok (.ireturn, 1) := by decide +kernel
theorem dX3_highOf_0 : decode cX3_highOf 0 = .ok (.iload_n 0, 1) := by decide +kernel
theorem dX3_highOf_1 : decode cX3_highOf 1 = .ok (.tableswitch 69 0 6 #[43, 45, 49, 53, 57, 61, 65], 43) := by decide +kernel
theorem dX3_highOf_44 : decode cX3_highOf 44 = .ok (.iconst 0, 1) := by decide +kernel
theorem dX3_highOf_45 : decode cX3_highOf 45 = .ok (.ireturn, 1) := by decide +kernel
theorem dX3_highOf_46 : decode cX3_highOf 46 = .ok (.sipush 1200, 3) := by decide +kernel
theorem dX3_highOf_49 : decode cX3_highOf 49 = .ok (.ireturn, 1) := by decide +kernel
theorem dX3_highOf_50 : decode cX3_highOf 50 = .ok (.sipush 1902, 3) := by decide +kernel
theorem dX3_highOf_53 : decode cX3_highOf 53 = .ok (.ireturn, 1) := by decide +kernel
theorem dX3_highOf_54 : decode cX3_highOf 54 = .ok (.sipush 2400, 3) := by decide +kernel
theorem dX3_highOf_57 : decode cX3_highOf 57 = .ok (.ireturn, 1) := by decide +kernel
theorem dX3_highOf_58 : decode cX3_highOf 58 = .ok (.sipush 2786, 3) := by decide +kernel
theorem dX3_highOf_61 : decode cX3_highOf 61 = .ok (.ireturn, 1) := by decide +kernel
theorem dX3_highOf_62 : decode cX3_highOf 62 = .ok (.sipush 3102, 3) := by decide +kernel
theorem dX3_highOf_65 : decode cX3_highOf 65 = .ok (.ireturn, 1) := by decide +kernel
theorem dX3_highOf_66 : decode cX3_highOf 66 = .ok (.sipush 3369, 3) := by decide +kernel
theorem dX3_highOf_69 : decode cX3_highOf 69 = .ok (.ireturn, 1) := by decide +kernel
theorem dX3_highOf_70 : decode cX3_highOf 70 = .ok (.sipush 3600, 3) := by decide +kernel
theorem dX3_highOf_73 : decode cX3_highOf 73 = .ok (.ireturn, 1) := by decide +kernel
set_option maxRecDepth 20000 in
theorem ggX3_offOf_X3_highOf : GoodIn wsX3_offOf wsX3_highOf := goodIn_r _ [4] (by decide +kernel) (by decide +kernel)
set_option maxRecDepth 20000 in
theorem gX3_offOf_X3_highOf : GoodIn wsX3_offOf (va_wsS RX3 45 yX3_highOf wsX3_highOf) := goodIn_app (goodIn_of _ (by decide +kernel)) ggX3_offOf_X3_highOf
set_option maxRecDepth 20000 in
theorem ggX3_offOf_X3_lowersBy : GoodIn wsX3_offOf wsX3_lowersBy := goodIn_r _ [8, 9, 10, 11, 3, 12, 13, 14, 15, 16, 17, 18, 19] (by decide +kernel) (by decide +kernel)
set_option maxRecDepth 20000 in
theorem gX3_offOf_X3_lowersBy : GoodIn wsX3_offOf (wsV RX3 48 RX3 yX3_lowersBy wsX3_lowersBy) := goodIn_app (goodIn_of _ (by decide +kernel)) ggX3_offOf_X3_lowersBy
theorem dX3_offOf_0 : decode cX3_offOf 0 = .ok (.iload_n 1, 1) := by decide +kernel
theorem dX3_offOf_1 : decode cX3_offOf 1 = .ok (.bipush 8, 2) := by decide +kernel
theorem dX3_offOf_3 : decode cX3_offOf 3 = .ok (.idiv, 1) := by decide +kernel
theorem dX3_offOf_4 : decode cX3_offOf 4 = .ok (.invokestatic 45, 3) := by decide +kernel
theorem dX3_offOf_7 : decode cX3_offOf 7 = .ok (.aload_n 0, 1) := by decide +kernel
theorem dX3_offOf_8 : decode cX3_offOf 8 = .ok (.iload_n 1, 1) := by decide +kernel
theorem dX3_offOf_9 : decode cX3_offOf 9 = .ok (.bipush 8, 2) := by decide +kernel
theorem dX3_offOf_11 : decode cX3_offOf 11 = .ok (.irem, 1) := by decide +kernel
theorem dX3_offOf_12 : decode cX3_offOf 12 = .ok (.invokevirtual 48, 3) := by decide +kernel
theorem dX3_offOf_15 : decode cX3_offOf 15 = .ok (.isub, 1) := by decide +kernel
theorem dX3_offOf_16 : decode cX3_offOf 16 = .ok (.bipush 100, 2) := by decide +kernel
theorem dX3_offOf_18 : decode cX3_offOf 18 = .ok (.iload_n 2, 1) := by decide +kernel
theorem dX3_offOf_19 : decode cX3_offOf 19 = .ok (.imul, 1) := by decide +kernel
theorem dX3_offOf_20 : decode cX3_offOf 20 = .ok (.isub, 1) := by decide +kernel
theorem dX3_offOf_21 : decode cX3_offOf 21 = .ok (.ireturn, 1) := by decide +kernel
set_option maxRecDepth 20000 in
theorem ggX3_sounds_X3_isWay : GoodIn wsX3_sounds wsX3_isWay := goodIn_r _ [6, 7, 8, 5, 9, 10, 11, 12, 13, 1, 31, 32, 33, 34, 35, 36, 37] (by decide +kernel) (by decide +kernel)
set_option maxRecDepth 20000 in
theorem gX3_sounds_X3_isWay : GoodIn wsX3_sounds (wsV RX3 51 RX3 yX3_isWay wsX3_isWay) := goodIn_app (goodIn_of _ (by decide +kernel)) ggX3_sounds_X3_isWay
set_option maxRecDepth 20000 in
theorem ggX3_sounds_X3_offOf : GoodIn wsX3_sounds wsX3_offOf := goodIn_r _ [17, 18, 19, 5, 20, 21, 22, 23, 24, 1, 25, 26, 27, 31, 32, 33, 34, 35, 36, 37] (by decide +kernel) (by decide +kernel)
set_option maxRecDepth 20000 in
theorem gX3_sounds_X3_offOf : GoodIn wsX3_sounds (wsV RX3 54 RX3 yX3_offOf wsX3_offOf) := goodIn_app (goodIn_of _ (by decide +kernel)) ggX3_sounds_X3_offOf
set_option maxRecDepth 20000 in
theorem ggX3_sounds_X3_size : GoodIn wsX3_sounds wsX3_size := goodIn_r _ [30] (by decide +kernel) (by decide +kernel)
set_option maxRecDepth 20000 in
theorem gX3_sounds_X3_size : GoodIn wsX3_sounds (va_wsS RX3 58 yX3_size wsX3_size) := goodIn_app (goodIn_of _ (by decide +kernel)) ggX3_sounds_X3_size
theorem dX3_sounds_0 : decode cX3_sounds 0 = .ok (.aload_n 0, 1) := by decide +kernel
theorem dX3_sounds_1 : decode cX3_sounds 1 = .ok (.iload_n 1, 1) := by decide +kernel
theorem dX3_sounds_2 : decode cX3_sounds 2 = .ok (.invokevirtual 51, 3) := by decide +kernel
theorem dX3_sounds_5 : decode cX3_sounds 5 = .ok (.ifCond .eq 25, 3) := by decide +kernel
theorem dX3_sounds_8 : decode cX3_sounds 8 = .ok (.aload_n 0, 1) := by decide +kernel
theorem dX3_sounds_9 : decode cX3_sounds 9 = .ok (.iload_n 1, 1) := by decide +kernel
theorem dX3_sounds_10 : decode cX3_sounds 10 = .ok (.iload_n 2, 1) := by decide +kernel
theorem dX3_sounds_11 : decode cX3_sounds 11 = .ok (.invokevirtual 54, 3) := by decide +kernel
theorem dX3_sounds_14 : decode cX3_sounds 14 = .ok (.invokestatic 58, 3) := by decide +kernel
theorem dX3_sounds_17 : decode cX3_sounds 17 = .ok (.aload_n 0, 1) := by decide +kernel
theorem dX3_sounds_18 : decode cX3_sounds 18 = .ok (.getfield 7, 3) := by decide +kernel
theorem dX3_sounds_21 : decode cX3_sounds 21 = .ok (.iconst 5, 1) := by decide +kernel
theorem dX3_sounds_22 : decode cX3_sounds 22 = .ok (.iaload, 1) := by decide +kernel
theorem dX3_sounds_23 : decode cX3_sounds 23 = .ok (.if_icmp .gt 7, 3) := by decide +kernel
theorem dX3_sounds_26 : decode cX3_sounds 26 = .ok (.iconst 1, 1) := by decide +kernel
theorem dX3_sounds_27 : decode cX3_sounds 27 = .ok (.goto 4, 3) := by decide +kernel
theorem dX3_sounds_30 : decode cX3_sounds 30 = .ok (.iconst 0, 1) := by decide +kernel
theorem dX3_sounds_31 : decode cX3_sounds 31 = .ok (.ireturn, 1) := by decide +kernel
set_option maxRecDepth 20000 in
theorem ggX3_horn_X3_in : GoodIn wsX3_horn wsX3_in := goodIn_r _ [5] (by decide +kernel) (by decide +kernel)
set_option maxRecDepth 20000 in
theorem gX3_horn_X3_in : GoodIn wsX3_horn (va_wsS RX3 33 yX3_in wsX3_in) := goodIn_app (goodIn_of _ (by decide +kernel)) ggX3_horn_X3_in
theorem dX3_horn_0 : decode cX3_horn 0 = .ok (.iload_n 1, 1) := by decide +kernel
theorem dX3_horn_1 : decode cX3_horn 1 = .ok (.iconst 0, 1) := by decide +kernel
theorem dX3_horn_2 : decode cX3_horn 2 = .ok (.iconst 1, 1) := by decide +kernel
theorem dX3_horn_3 : decode cX3_horn 3 = .ok (.invokestatic 33, 3) := by decide +kernel
theorem dX3_horn_6 : decode cX3_horn 6 = .ok (.ifCond .ne 6, 3) := by decide +kernel
theorem dX3_horn_9 : decode cX3_horn 9 = .ok (.bipush (-2), 2) := by decide +kernel
theorem dX3_horn_11 : decode cX3_horn 11 = .ok (.ireturn, 1) := by decide +kernel
theorem dX3_horn_12 : decode cX3_horn 12 = .ok (.aload_n 0, 1) := by decide +kernel
theorem dX3_horn_13 : decode cX3_horn 13 = .ok (.getfield 7, 3) := by decide +kernel
theorem dX3_horn_16 : decode cX3_horn 16 = .ok (.iconst 0, 1) := by decide +kernel
theorem dX3_horn_17 : decode cX3_horn 17 = .ok (.iaload, 1) := by decide +kernel
theorem dX3_horn_18 : decode cX3_horn 18 = .ok (.istore_n 2, 1) := by decide +kernel
theorem dX3_horn_19 : decode cX3_horn 19 = .ok (.aload_n 0, 1) := by decide +kernel
theorem dX3_horn_20 : decode cX3_horn 20 = .ok (.getfield 7, 3) := by decide +kernel
theorem dX3_horn_23 : decode cX3_horn 23 = .ok (.iconst 0, 1) := by decide +kernel
theorem dX3_horn_24 : decode cX3_horn 24 = .ok (.iload_n 1, 1) := by decide +kernel
theorem dX3_horn_25 : decode cX3_horn 25 = .ok (.iastore, 1) := by decide +kernel
theorem dX3_horn_26 : decode cX3_horn 26 = .ok (.iload_n 2, 1) := by decide +kernel
theorem dX3_horn_27 : decode cX3_horn 27 = .ok (.ireturn, 1) := by decide +kernel
set_option maxRecDepth 20000 in
theorem ggX3_valve_X3_in : GoodIn wsX3_valve wsX3_in := goodIn_r _ [5] (by decide +kernel) (by decide +kernel)
set_option maxRecDepth 20000 in
theorem gX3_valve_X3_in : GoodIn wsX3_valve (va_wsS RX3 33 yX3_in wsX3_in) := goodIn_app (goodIn_of _ (by decide +kernel)) ggX3_valve_X3_in
theorem dX3_valve_0 : decode cX3_valve 0 = .ok (.iload_n 1, 1) := by decide +kernel
theorem dX3_valve_1 : decode cX3_valve 1 = .ok (.iconst 0, 1) := by decide +kernel
theorem dX3_valve_2 : decode cX3_valve 2 = .ok (.iconst 2, 1) := by decide +kernel
theorem dX3_valve_3 : decode cX3_valve 3 = .ok (.invokestatic 33, 3) := by decide +kernel
theorem dX3_valve_6 : decode cX3_valve 6 = .ok (.ifCond .ne 5, 3) := by decide +kernel
theorem dX3_valve_9 : decode cX3_valve 9 = .ok (.iconst (-1), 1) := by decide +kernel
theorem dX3_valve_10 : decode cX3_valve 10 = .ok (.ireturn, 1) := by decide +kernel
theorem dX3_valve_11 : decode cX3_valve 11 = .ok (.iload_n 2, 1) := by decide +kernel
theorem dX3_valve_12 : decode cX3_valve 12 = .ok (.iconst 0, 1) := by decide +kernel
theorem dX3_valve_13 : decode cX3_valve 13 = .ok (.sipush 400, 3) := by decide +kernel
theorem dX3_valve_16 : decode cX3_valve 16 = .ok (.invokestatic 33, 3) := by decide +kernel
theorem dX3_valve_19 : decode cX3_valve 19 = .ok (.ifCond .ne 6, 3) := by decide +kernel
theorem dX3_valve_22 : decode cX3_valve 22 = .ok (.bipush (-2), 2) := by decide +kernel
theorem dX3_valve_24 : decode cX3_valve 24 = .ok (.ireturn, 1) := by decide +kernel
theorem dX3_valve_25 : decode cX3_valve 25 = .ok (.aload_n 0, 1) := by decide +kernel
theorem dX3_valve_26 : decode cX3_valve 26 = .ok (.getfield 7, 3) := by decide +kernel
theorem dX3_valve_29 : decode cX3_valve 29 = .ok (.iconst 1, 1) := by decide +kernel
theorem dX3_valve_30 : decode cX3_valve 30 = .ok (.iload_n 1, 1) := by decide +kernel
theorem dX3_valve_31 : decode cX3_valve 31 = .ok (.iadd, 1) := by decide +kernel
theorem dX3_valve_32 : decode cX3_valve 32 = .ok (.iaload, 1) := by decide +kernel
theorem dX3_valve_33 : decode cX3_valve 33 = .ok (.istore_n 3, 1) := by decide +kernel
theorem dX3_valve_34 : decode cX3_valve 34 = .ok (.aload_n 0, 1) := by decide +kernel
theorem dX3_valve_35 : decode cX3_valve 35 = .ok (.getfield 7, 3) := by decide +kernel
theorem dX3_valve_38 : decode cX3_valve 38 = .ok (.iconst 1, 1) := by decide +kernel
theorem dX3_valve_39 : decode cX3_valve 39 = .ok (.iload_n 1, 1) := by decide +kernel
theorem dX3_valve_40 : decode cX3_valve 40 = .ok (.iadd, 1) := by decide +kernel
theorem dX3_valve_41 : decode cX3_valve 41 = .ok (.iload_n 2, 1) := by decide +kernel
theorem dX3_valve_42 : decode cX3_valve 42 = .ok (.iastore, 1) := by decide +kernel
theorem dX3_valve_43 : decode cX3_valve 43 = .ok (.iload_n 3, 1) := by decide +kernel
theorem dX3_valve_44 : decode cX3_valve 44 = .ok (.ireturn, 1) := by decide +kernel
set_option maxRecDepth 20000 in
theorem ggX3_rule_X3_in : GoodIn wsX3_rule wsX3_in := goodIn_r _ [5] (by decide +kernel) (by decide +kernel)
set_option maxRecDepth 20000 in
theorem gX3_rule_X3_in : GoodIn wsX3_rule (va_wsS RX3 33 yX3_in wsX3_in) := goodIn_app (goodIn_of _ (by decide +kernel)) ggX3_rule_X3_in
theorem dX3_rule_0 : decode cX3_rule 0 = .ok (.iload_n 1, 1) := by decide +kernel
theorem dX3_rule_1 : decode cX3_rule 1 = .ok (.iconst 0, 1) := by decide +kernel
theorem dX3_rule_2 : decode cX3_rule 2 = .ok (.iconst 4, 1) := by decide +kernel
theorem dX3_rule_3 : decode cX3_rule 3 = .ok (.invokestatic 33, 3) := by decide +kernel
theorem dX3_rule_6 : decode cX3_rule 6 = .ok (.ifCond .eq 32, 3) := by decide +kernel
theorem dX3_rule_9 : decode cX3_rule 9 = .ok (.iload_n 2, 1) := by decide +kernel
theorem dX3_rule_10 : decode cX3_rule 10 = .ok (.iconst 0, 1) := by decide +kernel
theorem dX3_rule_11 : decode cX3_rule 11 = .ok (.iload_n 1, 1) := by decide +kernel
theorem dX3_rule_12 : decode cX3_rule 12 = .ok (.ifCond .ne 8, 3) := by decide +kernel
theorem dX3_rule_15 : decode cX3_rule 15 = .ok (.bipush 50, 2) := by decide +kernel
theorem dX3_rule_17 : decode cX3_rule 17 = .ok (.goto 15, 3) := by decide +kernel
theorem dX3_rule_20 : decode cX3_rule 20 = .ok (.iload_n 1, 1) := by decide +kernel
theorem dX3_rule_21 : decode cX3_rule 21 = .ok (.iconst 1, 1) := by decide +kernel
theorem dX3_rule_22 : decode cX3_rule 22 = .ok (.if_icmp .ne 8, 3) := by decide +kernel
theorem dX3_rule_25 : decode cX3_rule 25 = .ok (.bipush 99, 2) := by decide +kernel
theorem dX3_rule_27 : decode cX3_rule 27 = .ok (.goto 5, 3) := by decide +kernel
theorem dX3_rule_30 : decode cX3_rule 30 = .ok (.bipush 9, 2) := by decide +kernel
theorem dX3_rule_32 : decode cX3_rule 32 = .ok (.invokestatic 33, 3) := by decide +kernel
theorem dX3_rule_35 : decode cX3_rule 35 = .ok (.ifCond .ne 6, 3) := by decide +kernel
theorem dX3_rule_38 : decode cX3_rule 38 = .ok (.bipush (-2), 2) := by decide +kernel
theorem dX3_rule_40 : decode cX3_rule 40 = .ok (.ireturn, 1) := by decide +kernel
theorem dX3_rule_41 : decode cX3_rule 41 = .ok (.aload_n 0, 1) := by decide +kernel
theorem dX3_rule_42 : decode cX3_rule 42 = .ok (.getfield 7, 3) := by decide +kernel
theorem dX3_rule_45 : decode cX3_rule 45 = .ok (.iconst 4, 1) := by decide +kernel
theorem dX3_rule_46 : decode cX3_rule 46 = .ok (.iload_n 1, 1) := by decide +kernel
theorem dX3_rule_47 : decode cX3_rule 47 = .ok (.iadd, 1) := by decide +kernel
theorem dX3_rule_48 : decode cX3_rule 48 = .ok (.iaload, 1) := by decide +kernel
theorem dX3_rule_49 : decode cX3_rule 49 = .ok (.istore_n 3, 1) := by decide +kernel
theorem dX3_rule_50 : decode cX3_rule 50 = .ok (.aload_n 0, 1) := by decide +kernel
theorem dX3_rule_51 : decode cX3_rule 51 = .ok (.getfield 7, 3) := by decide +kernel
theorem dX3_rule_54 : decode cX3_rule 54 = .ok (.iconst 4, 1) := by decide +kernel
theorem dX3_rule_55 : decode cX3_rule 55 = .ok (.iload_n 1, 1) := by decide +kernel
theorem dX3_rule_56 : decode cX3_rule 56 = .ok (.iadd, 1) := by decide +kernel
theorem dX3_rule_57 : decode cX3_rule 57 = .ok (.iload_n 2, 1) := by decide +kernel
theorem dX3_rule_58 : decode cX3_rule 58 = .ok (.iastore, 1) := by decide +kernel
theorem dX3_rule_59 : decode cX3_rule 59 = .ok (.iload_n 3, 1) := by decide +kernel
theorem dX3_rule_60 : decode cX3_rule 60 = .ok (.ireturn, 1) := by decide +kernel
set_option maxRecDepth 20000 in
theorem ggX3_lowers_X3_isSetting : GoodIn wsX3_lowers wsX3_isSetting := goodIn_r _ [5, 6, 7, 8, 4, 9, 17, 18, 19, 20, 21, 22, 23] (by decide +kernel) (by decide +kernel)
set_option maxRecDepth 20000 in
theorem gX3_lowers_X3_isSetting : GoodIn wsX3_lowers (wsV RX3 37 RX3 yX3_isSetting wsX3_isSetting) := goodIn_app (goodIn_of _ (by decide +kernel)) ggX3_lowers_X3_isSetting
set_option maxRecDepth 20000 in
theorem ggX3_lowers_X3_lowersBy : GoodIn wsX3_lowers wsX3_lowersBy := goodIn_r _ [13, 6, 14, 15, 4, 16, 17, 18, 19, 20, 21, 22, 23] (by decide +kernel) (by decide +kernel)
set_option maxRecDepth 20000 in
theorem gX3_lowers_X3_lowersBy : GoodIn wsX3_lowers (wsV RX3 48 RX3 yX3_lowersBy wsX3_lowersBy) := goodIn_app (goodIn_of _ (by decide +kernel)) ggX3_lowers_X3_lowersBy
theorem dX3_lowers_0 : decode cX3_lowers 0 = .ok (.aload_n 0, 1) := by decide +kernel
theorem dX3_lowers_1 : decode cX3_lowers 1 = .ok (.iload_n 1, 1) := by decide +kernel
theorem dX3_lowers_2 : decode cX3_lowers 2 = .ok (.invokevirtual 37, 3) := by decide +kernel
theorem dX3_lowers_5 : decode cX3_lowers 5 = .ok (.ifCond .eq 15, 3) := by decide +kernel
theorem dX3_lowers_8 : decode cX3_lowers 8 = .ok (.aload_n 0, 1) := by decide +kernel
theorem dX3_lowers_9 : decode cX3_lowers 9 = .ok (.iload_n 1, 1) := by decide +kernel
theorem dX3_lowers_10 : decode cX3_lowers 10 = .ok (.invokevirtual 48, 3) := by decide +kernel
theorem dX3_lowers_13 : decode cX3_lowers 13 = .ok (.sipush 1000, 3) := by decide +kernel
theorem dX3_lowers_16 : decode cX3_lowers 16 = .ok (.iadd, 1) := by decide +kernel
theorem dX3_lowers_17 : decode cX3_lowers 17 = .ok (.goto 5, 3) := by decide +kernel
theorem dX3_lowers_20 : decode cX3_lowers 20 = .ok (.bipush (-2), 2) := by decide +kernel
theorem dX3_lowers_22 : decode cX3_lowers 22 = .ok (.ireturn, 1) := by decide +kernel
set_option maxRecDepth 20000 in
theorem ggX3_off_X3_isWay : GoodIn wsX3_off wsX3_isWay := goodIn_r _ [5, 6, 7, 4, 8, 9, 10, 11, 12, 13, 31, 32, 33, 34, 35, 36, 37] (by decide +kernel) (by decide +kernel)
set_option maxRecDepth 20000 in
theorem gX3_off_X3_isWay : GoodIn wsX3_off (wsV RX3 51 RX3 yX3_isWay wsX3_isWay) := goodIn_app (goodIn_of _ (by decide +kernel)) ggX3_off_X3_isWay
set_option maxRecDepth 20000 in
theorem ggX3_off_X3_isNote : GoodIn wsX3_off wsX3_isNote := goodIn_r _ [16, 6, 7, 4, 8] (by decide +kernel) (by decide +kernel)
set_option maxRecDepth 20000 in
theorem gX3_off_X3_isNote : GoodIn wsX3_off (va_wsS RX3 61 yX3_isNote wsX3_isNote) := goodIn_app (goodIn_of _ (by decide +kernel)) ggX3_off_X3_isNote
set_option maxRecDepth 20000 in
theorem ggX3_off_X3_offOf : GoodIn wsX3_off wsX3_offOf := goodIn_r _ [20, 21, 22, 4, 23, 24, 25, 26, 27, 13, 28, 29, 30, 31, 32, 33, 34, 35, 36, 37] (by decide +kernel) (by decide +kernel)
set_option maxRecDepth 20000 in
theorem gX3_off_X3_offOf : GoodIn wsX3_off (wsV RX3 54 RX3 yX3_offOf wsX3_offOf) := goodIn_app (goodIn_of _ (by decide +kernel)) ggX3_off_X3_offOf
theorem dX3_off_0 : decode cX3_off 0 = .ok (.aload_n 0, 1) := by decide +kernel
theorem dX3_off_1 : decode cX3_off 1 = .ok (.iload_n 1, 1) := by decide +kernel
theorem dX3_off_2 : decode cX3_off 2 = .ok (.invokevirtual 51, 3) := by decide +kernel
theorem dX3_off_5 : decode cX3_off 5 = .ok (.ifCond .eq 23, 3) := by decide +kernel
theorem dX3_off_8 : decode cX3_off 8 = .ok (.iload_n 2, 1) := by decide +kernel
theorem dX3_off_9 : decode cX3_off 9 = .ok (.invokestatic 61, 3) := by decide +kernel
theorem dX3_off_12 : decode cX3_off 12 = .ok (.ifCond .eq 16, 3) := by decide +kernel
theorem dX3_off_15 : decode cX3_off 15 = .ok (.aload_n 0, 1) := by decide +kernel
theorem dX3_off_16 : decode cX3_off 16 = .ok (.iload_n 1, 1) := by decide +kernel
theorem dX3_off_17 : decode cX3_off 17 = .ok (.iload_n 2, 1) := by decide +kernel
theorem dX3_off_18 : decode cX3_off 18 = .ok (.invokevirtual 54, 3) := by decide +kernel
theorem dX3_off_21 : decode cX3_off 21 = .ok (.sipush 10000, 3) := by decide +kernel
theorem dX3_off_24 : decode cX3_off 24 = .ok (.iadd, 1) := by decide +kernel
theorem dX3_off_25 : decode cX3_off 25 = .ok (.goto 5, 3) := by decide +kernel
theorem dX3_off_28 : decode cX3_off 28 = .ok (.bipush (-2), 2) := by decide +kernel
theorem dX3_off_30 : decode cX3_off 30 = .ok (.ireturn, 1) := by decide +kernel
set_option maxRecDepth 20000 in
theorem ggX3_waysOf_X3_sounds : GoodIn wsX3_waysOf wsX3_sounds := goodIn_r _ [5, 6, 7, 8, 9, 4, 10, 11, 12, 13, 14, 15, 16, 17, 18, 19, 20, 21, 22, 23, 24, 25, 26, 27, 28, 29, 30, 31, 32, 33, 34, 35, 36, 37, 38, 39, 40, 41] (by decide +kernel) (by decide +kernel)
set_option maxRecDepth 20000 in
theorem gX3_waysOf_X3_sounds : GoodIn wsX3_waysOf (wsV RX3 64 RX3 yX3_sounds wsX3_sounds) := goodIn_app (goodIn_of _ (by decide +kernel)) ggX3_waysOf_X3_sounds
theorem dX3_waysOf_0 : decode cX3_waysOf 0 = .ok (.iconst 0, 1) := by decide +kernel
theorem dX3_waysOf_1 : decode cX3_waysOf 1 = .ok (.istore_n 2, 1) := by decide +kernel
theorem dX3_waysOf_2 : decode cX3_waysOf 2 = .ok (.iconst 0, 1) := by decide +kernel
theorem dX3_waysOf_3 : decode cX3_waysOf 3 = .ok (.istore_n 3, 1) := by decide +kernel
theorem dX3_waysOf_4 : decode cX3_waysOf 4 = .ok (.iload_n 3, 1) := by decide +kernel
theorem dX3_waysOf_5 : decode cX3_waysOf 5 = .ok (.bipush 64, 2) := by decide +kernel
theorem dX3_waysOf_7 : decode cX3_waysOf 7 = .ok (.if_icmp .ge 26, 3) := by decide +kernel
theorem dX3_waysOf_10 : decode cX3_waysOf 10 = .ok (.iload_n 2, 1) := by decide +kernel
theorem dX3_waysOf_11 : decode cX3_waysOf 11 = .ok (.aload_n 0, 1) := by decide +kernel
theorem dX3_waysOf_12 : decode cX3_waysOf 12 = .ok (.iload_n 3, 1) := by decide +kernel
theorem dX3_waysOf_13 : decode cX3_waysOf 13 = .ok (.iload_n 1, 1) := by decide +kernel
theorem dX3_waysOf_14 : decode cX3_waysOf 14 = .ok (.invokevirtual 64, 3) := by decide +kernel
theorem dX3_waysOf_17 : decode cX3_waysOf 17 = .ok (.ifCond .eq 7, 3) := by decide +kernel
theorem dX3_waysOf_20 : decode cX3_waysOf 20 = .ok (.iconst 1, 1) := by decide +kernel
theorem dX3_waysOf_21 : decode cX3_waysOf 21 = .ok (.goto 4, 3) := by decide +kernel
theorem dX3_waysOf_24 : decode cX3_waysOf 24 = .ok (.iconst 0, 1) := by decide +kernel
theorem dX3_waysOf_25 : decode cX3_waysOf 25 = .ok (.iadd, 1) := by decide +kernel
theorem dX3_waysOf_26 : decode cX3_waysOf 26 = .ok (.istore_n 2, 1) := by decide +kernel
theorem dX3_waysOf_27 : decode cX3_waysOf 27 = .ok (.iinc 3 1, 3) := by decide +kernel
theorem dX3_waysOf_30 : decode cX3_waysOf 30 = .ok (.goto (-26), 3) := by decide +kernel
theorem dX3_waysOf_33 : decode cX3_waysOf 33 = .ok (.iload_n 2, 1) := by decide +kernel
theorem dX3_waysOf_34 : decode cX3_waysOf 34 = .ok (.ireturn, 1) := by decide +kernel
set_option maxRecDepth 20000 in
theorem ggX3_ways_X3_isNote : GoodIn wsX3_ways wsX3_isNote := goodIn_r _ [4, 5, 6, 3, 7] (by decide +kernel) (by decide +kernel)
set_option maxRecDepth 20000 in
theorem gX3_ways_X3_isNote : GoodIn wsX3_ways (va_wsS RX3 61 yX3_isNote wsX3_isNote) := goodIn_app (goodIn_of _ (by decide +kernel)) ggX3_ways_X3_isNote
set_option maxRecDepth 20000 in
theorem ggX3_ways_X3_waysOf : GoodIn wsX3_ways wsX3_waysOf := goodIn_r _ [11, 12, 13, 14, 3, 15, 16, 17, 18, 19, 20, 5, 6, 7, 21, 22, 23, 24, 25, 26, 27, 28, 29, 30, 31, 32, 33, 34, 35, 36, 37, 38, 39, 40, 41, 42, 43, 44, 45, 46, 47, 48] (by decide +kernel) (by decide +kernel)
set_option maxRecDepth 20000 in
theorem gX3_ways_X3_waysOf : GoodIn wsX3_ways (wsV RX3 68 RX3 yX3_waysOf wsX3_waysOf) := goodIn_app (goodIn_of _ (by decide +kernel)) ggX3_ways_X3_waysOf
set_option maxRecDepth 20000 in
theorem ggX3_ways_X3_sounds : GoodIn wsX3_ways wsX3_sounds := goodIn_r _ [15, 16, 17, 18, 19, 3, 20, 5, 6, 7, 21, 22, 23, 24, 25, 26, 27, 28, 29, 30, 31, 32, 33, 34, 35, 36, 37, 38, 39, 40, 41, 42, 43, 44, 45, 46, 47, 48] (by decide +kernel) (by decide +kernel)
set_option maxRecDepth 20000 in
theorem gX3_ways_X3_sounds : GoodIn wsX3_ways (wsV RX3 64 RX3 yX3_sounds wsX3_sounds) := goodIn_app (goodIn_of _ (by decide +kernel)) ggX3_ways_X3_sounds
theorem dX3_ways_0 : decode cX3_ways 0 = .ok (.iload_n 1, 1) := by decide +kernel
theorem dX3_ways_1 : decode cX3_ways 1 = .ok (.invokestatic 61, 3) := by decide +kernel
theorem dX3_ways_4 : decode cX3_ways 4 = .ok (.ifCond .eq 8, 3) := by decide +kernel
theorem dX3_ways_7 : decode cX3_ways 7 = .ok (.iload_n 2, 1) := by decide +kernel
theorem dX3_ways_8 : decode cX3_ways 8 = .ok (.iconst (-1), 1) := by decide +kernel
theorem dX3_ways_9 : decode cX3_ways 9 = .ok (.if_icmp .ge 6, 3) := by decide +kernel
theorem dX3_ways_12 : decode cX3_ways 12 = .ok (.bipush (-2), 2) := by decide +kernel
theorem dX3_ways_14 : decode cX3_ways 14 = .ok (.ireturn, 1) := by decide +kernel
theorem dX3_ways_15 : decode cX3_ways 15 = .ok (.iload_n 2, 1) := by decide +kernel
theorem dX3_ways_16 : decode cX3_ways 16 = .ok (.iconst (-1), 1) := by decide +kernel
theorem dX3_ways_17 : decode cX3_ways 17 = .ok (.if_icmp .ne 9, 3) := by decide +kernel
theorem dX3_ways_20 : decode cX3_ways 20 = .ok (.aload_n 0, 1) := by decide +kernel
theorem dX3_ways_21 : decode cX3_ways 21 = .ok (.iload_n 1, 1) := by decide +kernel
theorem dX3_ways_22 : decode cX3_ways 22 = .ok (.invokevirtual 68, 3) := by decide +kernel
theorem dX3_ways_25 : decode cX3_ways 25 = .ok (.ireturn, 1) := by decide +kernel
theorem dX3_ways_26 : decode cX3_ways 26 = .ok (.iconst 0, 1) := by decide +kernel
theorem dX3_ways_27 : decode cX3_ways 27 = .ok (.istore_n 3, 1) := by decide +kernel
theorem dX3_ways_28 : decode cX3_ways 28 = .ok (.iconst 0, 1) := by decide +kernel
theorem dX3_ways_29 : decode cX3_ways 29 = .ok (.istore 4, 2) := by decide +kernel
theorem dX3_ways_31 : decode cX3_ways 31 = .ok (.iload 4, 2) := by decide +kernel
theorem dX3_ways_33 : decode cX3_ways 33 = .ok (.bipush 64, 2) := by decide +kernel
theorem dX3_ways_35 : decode cX3_ways 35 = .ok (.if_icmp .ge 30, 3) := by decide +kernel
theorem dX3_ways_38 : decode cX3_ways 38 = .ok (.aload_n 0, 1) := by decide +kernel
theorem dX3_ways_39 : decode cX3_ways 39 = .ok (.iload 4, 2) := by decide +kernel
theorem dX3_ways_41 : decode cX3_ways 41 = .ok (.iload_n 1, 1) := by decide +kernel
theorem dX3_ways_42 : decode cX3_ways 42 = .ok (.invokevirtual 64, 3) := by decide +kernel
theorem dX3_ways_45 : decode cX3_ways 45 = .ok (.ifCond .eq 14, 3) := by decide +kernel
theorem dX3_ways_48 : decode cX3_ways 48 = .ok (.iload_n 3, 1) := by decide +kernel
theorem dX3_ways_49 : decode cX3_ways 49 = .ok (.iload_n 2, 1) := by decide +kernel
theorem dX3_ways_50 : decode cX3_ways 50 = .ok (.if_icmp .ne 6, 3) := by decide +kernel
theorem dX3_ways_53 : decode cX3_ways 53 = .ok (.iload 4, 2) := by decide +kernel
theorem dX3_ways_55 : decode cX3_ways 55 = .ok (.ireturn, 1) := by decide +kernel
theorem dX3_ways_56 : decode cX3_ways 56 = .ok (.iinc 3 1, 3) := by decide +kernel
theorem dX3_ways_59 : decode cX3_ways 59 = .ok (.iinc 4 1, 3) := by decide +kernel
theorem dX3_ways_62 : decode cX3_ways 62 = .ok (.goto (-31), 3) := by decide +kernel
theorem dX3_ways_65 : decode cX3_ways 65 = .ok (.bipush (-6), 2) := by decide +kernel
theorem dX3_ways_67 : decode cX3_ways 67 = .ok (.ireturn, 1) := by decide +kernel
set_option maxRecDepth 20000 in
theorem ggX3_truest_X3_isNote : GoodIn wsX3_truest wsX3_isNote := goodIn_r _ [4, 5, 6, 3, 7] (by decide +kernel) (by decide +kernel)
set_option maxRecDepth 20000 in
theorem gX3_truest_X3_isNote : GoodIn wsX3_truest (va_wsS RX3 61 yX3_isNote wsX3_isNote) := goodIn_app (goodIn_of _ (by decide +kernel)) ggX3_truest_X3_isNote
set_option maxRecDepth 20000 in
theorem ggX3_truest_X3_sounds : GoodIn wsX3_truest wsX3_sounds := goodIn_r _ [11, 12, 13, 14, 15, 3, 16, 5, 6, 7, 17, 18, 19, 20, 21, 22, 23, 24, 25, 26, 27, 28, 29, 30, 31, 32, 33, 34, 35, 36, 37, 38, 39, 40, 41, 42, 43, 44] (by decide +kernel) (by decide +kernel)
set_option maxRecDepth 20000 in
theorem gX3_truest_X3_sounds : GoodIn wsX3_truest (wsV RX3 64 RX3 yX3_sounds wsX3_sounds) := goodIn_app (goodIn_of _ (by decide +kernel)) ggX3_truest_X3_sounds
set_option maxRecDepth 20000 in
theorem ggX3_truest_X3_offOf : GoodIn wsX3_truest wsX3_offOf := goodIn_r _ [24, 25, 26, 3, 27, 28, 29, 30, 31, 12, 32, 33, 34, 38, 39, 40, 41, 42, 43, 44] (by decide +kernel) (by decide +kernel)
set_option maxRecDepth 20000 in
theorem gX3_truest_X3_offOf : GoodIn wsX3_truest (wsV RX3 54 RX3 yX3_offOf wsX3_offOf) := goodIn_app (goodIn_of _ (by decide +kernel)) ggX3_truest_X3_offOf
set_option maxRecDepth 20000 in
theorem ggX3_truest_X3_size : GoodIn wsX3_truest wsX3_size := goodIn_r _ [37] (by decide +kernel) (by decide +kernel)
set_option maxRecDepth 20000 in
theorem gX3_truest_X3_size : GoodIn wsX3_truest (va_wsS RX3 58 yX3_size wsX3_size) := goodIn_app (goodIn_of _ (by decide +kernel)) ggX3_truest_X3_size
theorem dX3_truest_0 : decode cX3_truest 0 = .ok (.iload_n 1, 1) := by decide +kernel
theorem dX3_truest_1 : decode cX3_truest 1 = .ok (.invokestatic 61, 3) := by decide +kernel
theorem dX3_truest_4 : decode cX3_truest 4 = .ok (.ifCond .ne 6, 3) := by decide +kernel
theorem dX3_truest_7 : decode cX3_truest 7 = .ok (.bipush (-2), 2) := by decide +kernel
theorem dX3_truest_9 : decode cX3_truest 9 = .ok (.ireturn, 1) := by decide +kernel
theorem dX3_truest_10 : decode cX3_truest 10 = .ok (.bipush (-6), 2) := by decide +kernel
theorem dX3_truest_12 : decode cX3_truest 12 = .ok (.istore_n 2, 1) := by decide +kernel
theorem dX3_truest_13 : decode cX3_truest 13 = .ok (.iconst 0, 1) := by decide +kernel
theorem dX3_truest_14 : decode cX3_truest 14 = .ok (.istore_n 3, 1) := by decide +kernel
theorem dX3_truest_15 : decode cX3_truest 15 = .ok (.iload_n 3, 1) := by decide +kernel
theorem dX3_truest_16 : decode cX3_truest 16 = .ok (.bipush 64, 2) := by decide +kernel
theorem dX3_truest_18 : decode cX3_truest 18 = .ok (.if_icmp .ge 49, 3) := by decide +kernel
theorem dX3_truest_21 : decode cX3_truest 21 = .ok (.aload_n 0, 1) := by decide +kernel
theorem dX3_truest_22 : decode cX3_truest 22 = .ok (.iload_n 3, 1) := by decide +kernel
theorem dX3_truest_23 : decode cX3_truest 23 = .ok (.iload_n 1, 1) := by decide +kernel
theorem dX3_truest_24 : decode cX3_truest 24 = .ok (.invokevirtual 64, 3) := by decide +kernel
theorem dX3_truest_27 : decode cX3_truest 27 = .ok (.ifCond .eq 32, 3) := by decide +kernel
theorem dX3_truest_30 : decode cX3_truest 30 = .ok (.iload_n 2, 1) := by decide +kernel
theorem dX3_truest_31 : decode cX3_truest 31 = .ok (.ifCond .lt 24, 3) := by decide +kernel
theorem dX3_truest_34 : decode cX3_truest 34 = .ok (.aload_n 0, 1) := by decide +kernel
theorem dX3_truest_35 : decode cX3_truest 35 = .ok (.iload_n 3, 1) := by decide +kernel
theorem dX3_truest_36 : decode cX3_truest 36 = .ok (.iload_n 1, 1) := by decide +kernel
theorem dX3_truest_37 : decode cX3_truest 37 = .ok (.invokevirtual 54, 3) := by decide +kernel
theorem dX3_truest_40 : decode cX3_truest 40 = .ok (.invokestatic 58, 3) := by decide +kernel
theorem dX3_truest_43 : decode cX3_truest 43 = .ok (.aload_n 0, 1) := by decide +kernel
theorem dX3_truest_44 : decode cX3_truest 44 = .ok (.iload_n 2, 1) := by decide +kernel
theorem dX3_truest_45 : decode cX3_truest 45 = .ok (.iload_n 1, 1) := by decide +kernel
theorem dX3_truest_46 : decode cX3_truest 46 = .ok (.invokevirtual 54, 3) := by decide +kernel
theorem dX3_truest_49 : decode cX3_truest 49 = .ok (.invokestatic 58, 3) := by decide +kernel
theorem dX3_truest_52 : decode cX3_truest 52 = .ok (.if_icmp .ge 7, 3) := by decide +kernel
theorem dX3_truest_55 : decode cX3_truest 55 = .ok (.iload_n 3, 1) := by decide +kernel
theorem dX3_truest_56 : decode cX3_truest 56 = .ok (.goto 4, 3) := by decide +kernel
theorem dX3_truest_59 : decode cX3_truest 59 = .ok (.iload_n 2, 1) := by decide +kernel
theorem dX3_truest_60 : decode cX3_truest 60 = .ok (.istore_n 2, 1) := by decide +kernel
theorem dX3_truest_61 : decode cX3_truest 61 = .ok (.iinc 3 1, 3) := by decide +kernel
theorem dX3_truest_64 : decode cX3_truest 64 = .ok (.goto (-49), 3) := by decide +kernel
theorem dX3_truest_67 : decode cX3_truest 67 = .ok (.iload_n 2, 1) := by decide +kernel
theorem dX3_truest_68 : decode cX3_truest 68 = .ok (.ireturn, 1) := by decide +kernel
set_option maxRecDepth 20000 in
theorem ggX3_range_X3_in : GoodIn wsX3_range wsX3_in := goodIn_r _ [4] (by decide +kernel) (by decide +kernel)
set_option maxRecDepth 20000 in
theorem gX3_range_X3_in : GoodIn wsX3_range (va_wsS RX3 33 yX3_in wsX3_in) := goodIn_app (goodIn_of _ (by decide +kernel)) ggX3_range_X3_in
set_option maxRecDepth 20000 in
theorem ggX3_range_X3_waysOf : GoodIn wsX3_range wsX3_waysOf := goodIn_r _ [8, 9, 10, 11, 3, 12, 13, 14, 15, 16, 17, 1, 2, 4, 18, 19, 20, 21, 22, 23, 24, 25, 26, 27, 28, 29, 30, 31, 32, 33, 34, 35, 36, 37, 38, 39, 40, 41, 42, 43, 44, 45] (by decide +kernel) (by decide +kernel)
set_option maxRecDepth 20000 in
theorem gX3_range_X3_waysOf : GoodIn wsX3_range (wsV RX3 68 RX3 yX3_waysOf wsX3_waysOf) := goodIn_app (goodIn_of _ (by decide +kernel)) ggX3_range_X3_waysOf
theorem dX3_range_0 : decode cX3_range 0 = .ok (.iload_n 1, 1) := by decide +kernel
theorem dX3_range_1 : decode cX3_range 1 = .ok (.iconst (-1), 1) := by decide +kernel
theorem dX3_range_2 : decode cX3_range 2 = .ok (.bipush 64, 2) := by decide +kernel
theorem dX3_range_4 : decode cX3_range 4 = .ok (.invokestatic 33, 3) := by decide +kernel
theorem dX3_range_7 : decode cX3_range 7 = .ok (.ifCond .ne 6, 3) := by decide +kernel
theorem dX3_range_10 : decode cX3_range 10 = .ok (.bipush (-2), 2) := by decide +kernel
theorem dX3_range_12 : decode cX3_range 12 = .ok (.ireturn, 1) := by decide +kernel
theorem dX3_range_13 : decode cX3_range 13 = .ok (.iconst 0, 1) := by decide +kernel
theorem dX3_range_14 : decode cX3_range 14 = .ok (.istore_n 2, 1) := by decide +kernel
theorem dX3_range_15 : decode cX3_range 15 = .ok (.iconst 0, 1) := by decide +kernel
theorem dX3_range_16 : decode cX3_range 16 = .ok (.istore_n 3, 1) := by decide +kernel
theorem dX3_range_17 : decode cX3_range 17 = .ok (.iload_n 3, 1) := by decide +kernel
theorem dX3_range_18 : decode cX3_range 18 = .ok (.bipush 37, 2) := by decide +kernel
theorem dX3_range_20 : decode cX3_range 20 = .ok (.if_icmp .ge 43, 3) := by decide +kernel
theorem dX3_range_23 : decode cX3_range 23 = .ok (.aload_n 0, 1) := by decide +kernel
theorem dX3_range_24 : decode cX3_range 24 = .ok (.iload_n 3, 1) := by decide +kernel
theorem dX3_range_25 : decode cX3_range 25 = .ok (.invokevirtual 68, 3) := by decide +kernel
theorem dX3_range_28 : decode cX3_range 28 = .ok (.istore 4, 2) := by decide +kernel
theorem dX3_range_30 : decode cX3_range 30 = .ok (.iload_n 2, 1) := by decide +kernel
theorem dX3_range_31 : decode cX3_range 31 = .ok (.iload_n 1, 1) := by decide +kernel
theorem dX3_range_32 : decode cX3_range 32 = .ok (.iconst (-1), 1) := by decide +kernel
theorem dX3_range_33 : decode cX3_range 33 = .ok (.if_icmp .ne 11, 3) := by decide +kernel
theorem dX3_range_36 : decode cX3_range 36 = .ok (.iload 4, 2) := by decide +kernel
theorem dX3_range_38 : decode cX3_range 38 = .ok (.ifCond .le 16, 3) := by decide +kernel
theorem dX3_range_41 : decode cX3_range 41 = .ok (.goto 9, 3) := by decide +kernel
theorem dX3_range_44 : decode cX3_range 44 = .ok (.iload 4, 2) := by decide +kernel
theorem dX3_range_46 : decode cX3_range 46 = .ok (.iload_n 1, 1) := by decide +kernel
theorem dX3_range_47 : decode cX3_range 47 = .ok (.if_icmp .ne 7, 3) := by decide +kernel
theorem dX3_range_50 : decode cX3_range 50 = .ok (.iconst 1, 1) := by decide +kernel
theorem dX3_range_51 : decode cX3_range 51 = .ok (.goto 4, 3) := by decide +kernel
theorem dX3_range_54 : decode cX3_range 54 = .ok (.iconst 0, 1) := by decide +kernel
theorem dX3_range_55 : decode cX3_range 55 = .ok (.iadd, 1) := by decide +kernel
theorem dX3_range_56 : decode cX3_range 56 = .ok (.istore_n 2, 1) := by decide +kernel
theorem dX3_range_57 : decode cX3_range 57 = .ok (.iinc 3 1, 3) := by decide +kernel
theorem dX3_range_60 : decode cX3_range 60 = .ok (.goto (-43), 3) := by decide +kernel
theorem dX3_range_63 : decode cX3_range 63 = .ok (.iload_n 2, 1) := by decide +kernel
theorem dX3_range_64 : decode cX3_range 64 = .ok (.ireturn, 1) := by decide +kernel
set_option maxRecDepth 20000 in
theorem ggX3_note_X3_isNote : GoodIn wsX3_note wsX3_isNote := goodIn_r _ [5, 6, 7, 4, 8] (by decide +kernel) (by decide +kernel)
set_option maxRecDepth 20000 in
theorem gX3_note_X3_isNote : GoodIn wsX3_note (va_wsS RX3 61 yX3_isNote wsX3_isNote) := goodIn_app (goodIn_of _ (by decide +kernel)) ggX3_note_X3_isNote
theorem dX3_note_0 : decode cX3_note 0 = .ok (.iload_n 1, 1) := by decide +kernel
theorem dX3_note_1 : decode cX3_note 1 = .ok (.invokestatic 61, 3) := by decide +kernel
theorem dX3_note_4 : decode cX3_note 4 = .ok (.ifCond .ne 6, 3) := by decide +kernel
theorem dX3_note_7 : decode cX3_note 7 = .ok (.bipush (-2), 2) := by decide +kernel
theorem dX3_note_9 : decode cX3_note 9 = .ok (.ireturn, 1) := by decide +kernel
theorem dX3_note_10 : decode cX3_note 10 = .ok (.aload_n 0, 1) := by decide +kernel
theorem dX3_note_11 : decode cX3_note 11 = .ok (.getfield 7, 3) := by decide +kernel
theorem dX3_note_14 : decode cX3_note 14 = .ok (.bipush 9, 2) := by decide +kernel
theorem dX3_note_16 : decode cX3_note 16 = .ok (.iaload, 1) := by decide +kernel
theorem dX3_note_17 : decode cX3_note 17 = .ok (.bipush 12, 2) := by decide +kernel
theorem dX3_note_19 : decode cX3_note 19 = .ok (.if_icmp .ne 6, 3) := by decide +kernel
theorem dX3_note_22 : decode cX3_note 22 = .ok (.bipush (-4), 2) := by decide +kernel
theorem dX3_note_24 : decode cX3_note 24 = .ok (.ireturn, 1) := by decide +kernel
theorem dX3_note_25 : decode cX3_note 25 = .ok (.aload_n 0, 1) := by decide +kernel
theorem dX3_note_26 : decode cX3_note 26 = .ok (.getfield 7, 3) := by decide +kernel
theorem dX3_note_29 : decode cX3_note 29 = .ok (.bipush 10, 2) := by decide +kernel
theorem dX3_note_31 : decode cX3_note 31 = .ok (.aload_n 0, 1) := by decide +kernel
theorem dX3_note_32 : decode cX3_note 32 = .ok (.getfield 7, 3) := by decide +kernel
theorem dX3_note_35 : decode cX3_note 35 = .ok (.bipush 9, 2) := by decide +kernel
theorem dX3_note_37 : decode cX3_note 37 = .ok (.iaload, 1) := by decide +kernel
theorem dX3_note_38 : decode cX3_note 38 = .ok (.iadd, 1) := by decide +kernel
theorem dX3_note_39 : decode cX3_note 39 = .ok (.iload_n 1, 1) := by decide +kernel
theorem dX3_note_40 : decode cX3_note 40 = .ok (.iastore, 1) := by decide +kernel
theorem dX3_note_41 : decode cX3_note 41 = .ok (.aload_n 0, 1) := by decide +kernel
theorem dX3_note_42 : decode cX3_note 42 = .ok (.getfield 7, 3) := by decide +kernel
theorem dX3_note_45 : decode cX3_note 45 = .ok (.bipush 9, 2) := by decide +kernel
theorem dX3_note_47 : decode cX3_note 47 = .ok (.dup2, 1) := by decide +kernel
theorem dX3_note_48 : decode cX3_note 48 = .ok (.iaload, 1) := by decide +kernel
theorem dX3_note_49 : decode cX3_note 49 = .ok (.iconst 1, 1) := by decide +kernel
theorem dX3_note_50 : decode cX3_note 50 = .ok (.iadd, 1) := by decide +kernel
theorem dX3_note_51 : decode cX3_note 51 = .ok (.iastore, 1) := by decide +kernel
theorem dX3_note_52 : decode cX3_note 52 = .ok (.aload_n 0, 1) := by decide +kernel
theorem dX3_note_53 : decode cX3_note 53 = .ok (.getfield 7, 3) := by decide +kernel
theorem dX3_note_56 : decode cX3_note 56 = .ok (.bipush 9, 2) := by decide +kernel
theorem dX3_note_58 : decode cX3_note 58 = .ok (.iaload, 1) := by decide +kernel
theorem dX3_note_59 : decode cX3_note 59 = .ok (.iconst 1, 1) := by decide +kernel
theorem dX3_note_60 : decode cX3_note 60 = .ok (.isub, 1) := by decide +kernel
theorem dX3_note_61 : decode cX3_note 61 = .ok (.ireturn, 1) := by decide +kernel
set_option maxRecDepth 20000 in
theorem ggX3_set_X3_isPlace : GoodIn wsX3_set wsX3_isPlace := goodIn_r _ [6, 1, 7, 8, 5, 9, 13, 14, 15, 16, 17, 18, 19] (by decide +kernel) (by decide +kernel)
set_option maxRecDepth 20000 in
theorem gX3_set_X3_isPlace : GoodIn wsX3_set (wsV RX3 71 RX3 yX3_isPlace wsX3_isPlace) := goodIn_app (goodIn_of _ (by decide +kernel)) ggX3_set_X3_isPlace
set_option maxRecDepth 20000 in
theorem ggX3_set_X3_isNote : GoodIn wsX3_set wsX3_isNote := goodIn_r _ [12, 7, 8, 5, 9] (by decide +kernel) (by decide +kernel)
set_option maxRecDepth 20000 in
theorem gX3_set_X3_isNote : GoodIn wsX3_set (va_wsS RX3 61 yX3_isNote wsX3_isNote) := goodIn_app (goodIn_of _ (by decide +kernel)) ggX3_set_X3_isNote
theorem dX3_set_0 : decode cX3_set 0 = .ok (.aload_n 0, 1) := by decide +kernel
theorem dX3_set_1 : decode cX3_set 1 = .ok (.iload_n 1, 1) := by decide +kernel
theorem dX3_set_2 : decode cX3_set 2 = .ok (.invokevirtual 71, 3) := by decide +kernel
theorem dX3_set_5 : decode cX3_set 5 = .ok (.ifCond .ne 5, 3) := by decide +kernel
theorem dX3_set_8 : decode cX3_set 8 = .ok (.iconst (-1), 1) := by decide +kernel
theorem dX3_set_9 : decode cX3_set 9 = .ok (.ireturn, 1) := by decide +kernel
theorem dX3_set_10 : decode cX3_set 10 = .ok (.iload_n 2, 1) := by decide +kernel
theorem dX3_set_11 : decode cX3_set 11 = .ok (.invokestatic 61, 3) := by decide +kernel
theorem dX3_set_14 : decode cX3_set 14 = .ok (.ifCond .ne 6, 3) := by decide +kernel
theorem dX3_set_17 : decode cX3_set 17 = .ok (.bipush (-2), 2) := by decide +kernel
theorem dX3_set_19 : decode cX3_set 19 = .ok (.ireturn, 1) := by decide +kernel
theorem dX3_set_20 : decode cX3_set 20 = .ok (.aload_n 0, 1) := by decide +kernel
theorem dX3_set_21 : decode cX3_set 21 = .ok (.getfield 7, 3) := by decide +kernel
theorem dX3_set_24 : decode cX3_set 24 = .ok (.bipush 10, 2) := by decide +kernel
theorem dX3_set_26 : decode cX3_set 26 = .ok (.iload_n 1, 1) := by decide +kernel
theorem dX3_set_27 : decode cX3_set 27 = .ok (.iadd, 1) := by decide +kernel
theorem dX3_set_28 : decode cX3_set 28 = .ok (.iaload, 1) := by decide +kernel
theorem dX3_set_29 : decode cX3_set 29 = .ok (.istore_n 3, 1) := by decide +kernel
theorem dX3_set_30 : decode cX3_set 30 = .ok (.aload_n 0, 1) := by decide +kernel
theorem dX3_set_31 : decode cX3_set 31 = .ok (.getfield 7, 3) := by decide +kernel
theorem dX3_set_34 : decode cX3_set 34 = .ok (.bipush 10, 2) := by decide +kernel
theorem dX3_set_36 : decode cX3_set 36 = .ok (.iload_n 1, 1) := by decide +kernel
theorem dX3_set_37 : decode cX3_set 37 = .ok (.iadd, 1) := by decide +kernel
theorem dX3_set_38 : decode cX3_set 38 = .ok (.iload_n 2, 1) := by decide +kernel
theorem dX3_set_39 : decode cX3_set 39 = .ok (.iastore, 1) := by decide +kernel
theorem dX3_set_40 : decode cX3_set 40 = .ok (.iload_n 3, 1) := by decide +kernel
theorem dX3_set_41 : decode cX3_set 41 = .ok (.ireturn, 1) := by decide +kernel
theorem dX3_clear_0 : decode cX3_clear 0 = .ok (.aload_n 0, 1) := by decide +kernel
theorem dX3_clear_1 : decode cX3_clear 1 = .ok (.getfield 7, 3) := by decide +kernel
theorem dX3_clear_4 : decode cX3_clear 4 = .ok (.bipush 9, 2) := by decide +kernel
theorem dX3_clear_6 : decode cX3_clear 6 = .ok (.iaload, 1) := by decide +kernel
theorem dX3_clear_7 : decode cX3_clear 7 = .ok (.istore_n 1, 1) := by decide +kernel
theorem dX3_clear_8 : decode cX3_clear 8 = .ok (.aload_n 0, 1) := by decide +kernel
theorem dX3_clear_9 : decode cX3_clear 9 = .ok (.getfield 7, 3) := by decide +kernel
theorem dX3_clear_12 : decode cX3_clear 12 = .ok (.bipush 9, 2) := by decide +kernel
theorem dX3_clear_14 : decode cX3_clear 14 = .ok (.iconst 0, 1) := by decide +kernel
theorem dX3_clear_15 : decode cX3_clear 15 = .ok (.iastore, 1) := by decide +kernel
theorem dX3_clear_16 : decode cX3_clear 16 = .ok (.iload_n 1, 1) := by decide +kernel
theorem dX3_clear_17 : decode cX3_clear 17 = .ok (.ireturn, 1) := by decide +kernel
set_option maxRecDepth 20000 in
theorem ggX3_effortOf_X3_bits : GoodIn wsX3_effortOf wsX3_bits := goodIn_r _ [5] (by decide +kernel) (by decide +kernel)
set_option maxRecDepth 20000 in
theorem gX3_effortOf_X3_bits : GoodIn wsX3_effortOf (va_wsS RX3 41 yX3_bits wsX3_bits) := goodIn_app (goodIn_of _ (by decide +kernel)) ggX3_effortOf_X3_bits
set_option maxRecDepth 20000 in
theorem ggX3_effortOf_X3_size : GoodIn wsX3_effortOf wsX3_size := goodIn_r _ [8] (by decide +kernel) (by decide +kernel)
set_option maxRecDepth 20000 in
theorem gX3_effortOf_X3_size : GoodIn wsX3_effortOf (va_wsS RX3 58 yX3_size wsX3_size) := goodIn_app (goodIn_of _ (by decide +kernel)) ggX3_effortOf_X3_size
theorem dX3_effortOf_0 : decode cX3_effortOf 0 = .ok (.aload_n 0, 1) := by decide +kernel
theorem dX3_effortOf_1 : decode cX3_effortOf 1 = .ok (.getfield 7, 3) := by decide +kernel
theorem dX3_effortOf_4 : decode cX3_effortOf 4 = .ok (.iconst 0, 1) := by decide +kernel
theorem dX3_effortOf_5 : decode cX3_effortOf 5 = .ok (.iaload, 1) := by decide +kernel
theorem dX3_effortOf_6 : decode cX3_effortOf 6 = .ok (.ifCond .ne 18, 3) := by decide +kernel
theorem dX3_effortOf_9 : decode cX3_effortOf 9 = .ok (.iload_n 1, 1) := by decide +kernel
theorem dX3_effortOf_10 : decode cX3_effortOf 10 = .ok (.bipush 8, 2) := by decide +kernel
theorem dX3_effortOf_12 : decode cX3_effortOf 12 = .ok (.irem, 1) := by decide +kernel
theorem dX3_effortOf_13 : decode cX3_effortOf 13 = .ok (.iload_n 2, 1) := by decide +kernel
theorem dX3_effortOf_14 : decode cX3_effortOf 14 = .ok (.bipush 8, 2) := by decide +kernel
theorem dX3_effortOf_16 : decode cX3_effortOf 16 = .ok (.irem, 1) := by decide +kernel
theorem dX3_effortOf_17 : decode cX3_effortOf 17 = .ok (.ixor, 1) := by decide +kernel
theorem dX3_effortOf_18 : decode cX3_effortOf 18 = .ok (.invokestatic 41, 3) := by decide +kernel
theorem dX3_effortOf_21 : decode cX3_effortOf 21 = .ok (.goto 15, 3) := by decide +kernel
theorem dX3_effortOf_24 : decode cX3_effortOf 24 = .ok (.iload_n 1, 1) := by decide +kernel
theorem dX3_effortOf_25 : decode cX3_effortOf 25 = .ok (.bipush 8, 2) := by decide +kernel
theorem dX3_effortOf_27 : decode cX3_effortOf 27 = .ok (.irem, 1) := by decide +kernel
theorem dX3_effortOf_28 : decode cX3_effortOf 28 = .ok (.iload_n 2, 1) := by decide +kernel
theorem dX3_effortOf_29 : decode cX3_effortOf 29 = .ok (.bipush 8, 2) := by decide +kernel
theorem dX3_effortOf_31 : decode cX3_effortOf 31 = .ok (.irem, 1) := by decide +kernel
theorem dX3_effortOf_32 : decode cX3_effortOf 32 = .ok (.isub, 1) := by decide +kernel
theorem dX3_effortOf_33 : decode cX3_effortOf 33 = .ok (.invokestatic 58, 3) := by decide +kernel
theorem dX3_effortOf_36 : decode cX3_effortOf 36 = .ok (.istore_n 3, 1) := by decide +kernel
theorem dX3_effortOf_37 : decode cX3_effortOf 37 = .ok (.aload_n 0, 1) := by decide +kernel
theorem dX3_effortOf_38 : decode cX3_effortOf 38 = .ok (.getfield 7, 3) := by decide +kernel
theorem dX3_effortOf_41 : decode cX3_effortOf 41 = .ok (.bipush 6, 2) := by decide +kernel
theorem dX3_effortOf_43 : decode cX3_effortOf 43 = .ok (.iaload, 1) := by decide +kernel
theorem dX3_effortOf_44 : decode cX3_effortOf 44 = .ok (.iload_n 3, 1) := by decide +kernel
theorem dX3_effortOf_45 : decode cX3_effortOf 45 = .ok (.imul, 1) := by decide +kernel
theorem dX3_effortOf_46 : decode cX3_effortOf 46 = .ok (.aload_n 0, 1) := by decide +kernel
theorem dX3_effortOf_47 : decode cX3_effortOf 47 = .ok (.getfield 7, 3) := by decide +kernel
theorem dX3_effortOf_50 : decode cX3_effortOf 50 = .ok (.bipush 7, 2) := by decide +kernel
theorem dX3_effortOf_52 : decode cX3_effortOf 52 = .ok (.iaload, 1) := by decide +kernel
theorem dX3_effortOf_53 : decode cX3_effortOf 53 = .ok (.iload_n 1, 1) := by decide +kernel
theorem dX3_effortOf_54 : decode cX3_effortOf 54 = .ok (.bipush 8, 2) := by decide +kernel
end
section
theorem dX3_effortOf_56 : decode cX3_effortOf 56 = .ok (.idiv, 1) := by decide +kernel
theorem dX3_effortOf_57 : decode cX3_effortOf 57 = .ok (.iload_n 2, 1) := by decide +kernel
theorem dX3_effortOf_58 : decode cX3_effortOf 58 = .ok (.bipush 8, 2) := by decide +kernel
theorem dX3_effortOf_60 : decode cX3_effortOf 60 = .ok (.idiv, 1) := by decide +kernel
theorem dX3_effortOf_61 : decode cX3_effortOf 61 = .ok (.isub, 1) := by decide +kernel
theorem dX3_effortOf_62 : decode cX3_effortOf 62 = .ok (.invokestatic 58, 3) := by decide +kernel
theorem dX3_effortOf_65 : decode cX3_effortOf 65 = .ok (.imul, 1) := by decide +kernel
theorem dX3_effortOf_66 : decode cX3_effortOf 66 = .ok (.iadd, 1) := by decide +kernel
theorem dX3_effortOf_67 : decode cX3_effortOf 67 = .ok (.ireturn, 1) := by decide +kernel
set_option maxRecDepth 20000 in
theorem ggX3_effort_X3_isWay : GoodIn wsX3_effort wsX3_isWay := goodIn_r _ [5, 6, 7, 4, 8, 9, 10, 11, 12, 13, 24, 25, 26, 27, 28, 29, 30] (by decide +kernel) (by decide +kernel)
set_option maxRecDepth 20000 in
theorem gX3_effort_X3_isWay : GoodIn wsX3_effort (wsV RX3 51 RX3 yX3_isWay wsX3_isWay) := goodIn_app (goodIn_of _ (by decide +kernel)) ggX3_effort_X3_isWay
set_option maxRecDepth 20000 in
theorem ggX3_effort_X3_effortOf : GoodIn wsX3_effort wsX3_effortOf := goodIn_r _ [17, 13, 18, 19, 4, 20, 21, 22, 23, 24, 25, 26, 27, 28, 29, 30] (by decide +kernel) (by decide +kernel)
set_option maxRecDepth 20000 in
theorem gX3_effort_X3_effortOf : GoodIn wsX3_effort (wsV RX3 74 RX3 yX3_effortOf wsX3_effortOf) := goodIn_app (goodIn_of _ (by decide +kernel)) ggX3_effort_X3_effortOf
theorem dX3_effort_0 : decode cX3_effort 0 = .ok (.aload_n 0, 1) := by decide +kernel
theorem dX3_effort_1 : decode cX3_effort 1 = .ok (.iload_n 1, 1) := by decide +kernel
theorem dX3_effort_2 : decode cX3_effort 2 = .ok (.invokevirtual 51, 3) := by decide +kernel
theorem dX3_effort_5 : decode cX3_effort 5 = .ok (.ifCond .eq 20, 3) := by decide +kernel
theorem dX3_effort_8 : decode cX3_effort 8 = .ok (.aload_n 0, 1) := by decide +kernel
theorem dX3_effort_9 : decode cX3_effort 9 = .ok (.iload_n 2, 1) := by decide +kernel
theorem dX3_effort_10 : decode cX3_effort 10 = .ok (.invokevirtual 51, 3) := by decide +kernel
theorem dX3_effort_13 : decode cX3_effort 13 = .ok (.ifCond .eq 12, 3) := by decide +kernel
theorem dX3_effort_16 : decode cX3_effort 16 = .ok (.aload_n 0, 1) := by decide +kernel
theorem dX3_effort_17 : decode cX3_effort 17 = .ok (.iload_n 1, 1) := by decide +kernel
theorem dX3_effort_18 : decode cX3_effort 18 = .ok (.iload_n 2, 1) := by decide +kernel
theorem dX3_effort_19 : decode cX3_effort 19 = .ok (.invokevirtual 74, 3) := by decide +kernel
theorem dX3_effort_22 : decode cX3_effort 22 = .ok (.goto 5, 3) := by decide +kernel
theorem dX3_effort_25 : decode cX3_effort 25 = .ok (.bipush (-2), 2) := by decide +kernel
theorem dX3_effort_27 : decode cX3_effort 27 = .ok (.ireturn, 1) := by decide +kernel
set_option maxRecDepth 20000 in
theorem ggX3_faultOf_X3_offOf : GoodIn wsX3_faultOf wsX3_offOf := goodIn_r _ [6, 7, 8, 5, 9, 10, 11, 12, 13, 1, 14, 15, 16, 20, 21, 22, 23, 24, 25, 26] (by decide +kernel) (by decide +kernel)
set_option maxRecDepth 20000 in
theorem gX3_faultOf_X3_offOf : GoodIn wsX3_faultOf (wsV RX3 54 RX3 yX3_offOf wsX3_offOf) := goodIn_app (goodIn_of _ (by decide +kernel)) ggX3_faultOf_X3_offOf
set_option maxRecDepth 20000 in
theorem ggX3_faultOf_X3_size : GoodIn wsX3_faultOf wsX3_size := goodIn_r _ [19] (by decide +kernel) (by decide +kernel)
set_option maxRecDepth 20000 in
theorem gX3_faultOf_X3_size : GoodIn wsX3_faultOf (va_wsS RX3 58 yX3_size wsX3_size) := goodIn_app (goodIn_of _ (by decide +kernel)) ggX3_faultOf_X3_size
theorem dX3_faultOf_0 : decode cX3_faultOf 0 = .ok (.aload_n 0, 1) := by decide +kernel
theorem dX3_faultOf_1 : decode cX3_faultOf 1 = .ok (.getfield 7, 3) := by decide +kernel
theorem dX3_faultOf_4 : decode cX3_faultOf 4 = .ok (.bipush 8, 2) := by decide +kernel
theorem dX3_faultOf_6 : decode cX3_faultOf 6 = .ok (.iaload, 1) := by decide +kernel
theorem dX3_faultOf_7 : decode cX3_faultOf 7 = .ok (.aload_n 0, 1) := by decide +kernel
theorem dX3_faultOf_8 : decode cX3_faultOf 8 = .ok (.iload_n 1, 1) := by decide +kernel
theorem dX3_faultOf_9 : decode cX3_faultOf 9 = .ok (.iload_n 2, 1) := by decide +kernel
theorem dX3_faultOf_10 : decode cX3_faultOf 10 = .ok (.invokevirtual 54, 3) := by decide +kernel
theorem dX3_faultOf_13 : decode cX3_faultOf 13 = .ok (.invokestatic 58, 3) := by decide +kernel
theorem dX3_faultOf_16 : decode cX3_faultOf 16 = .ok (.imul, 1) := by decide +kernel
theorem dX3_faultOf_17 : decode cX3_faultOf 17 = .ok (.bipush 10, 2) := by decide +kernel
theorem dX3_faultOf_19 : decode cX3_faultOf 19 = .ok (.idiv, 1) := by decide +kernel
theorem dX3_faultOf_20 : decode cX3_faultOf 20 = .ok (.ireturn, 1) := by decide +kernel
theorem dX3_at_0 : decode cX3_at 0 = .ok (.bipush 64, 2) := by decide +kernel
theorem dX3_at_2 : decode cX3_at 2 = .ok (.iload_n 0, 1) := by decide +kernel
theorem dX3_at_3 : decode cX3_at 3 = .ok (.imul, 1) := by decide +kernel
theorem dX3_at_4 : decode cX3_at 4 = .ok (.iload_n 1, 1) := by decide +kernel
theorem dX3_at_5 : decode cX3_at 5 = .ok (.iadd, 1) := by decide +kernel
theorem dX3_at_6 : decode cX3_at 6 = .ok (.ireturn, 1) := by decide +kernel
set_option maxRecDepth 20000 in
theorem ggX3_isAt_X3_sounds : GoodIn wsX3_isAt wsX3_sounds := goodIn_r _ [6, 1, 7, 8, 9, 5, 10, 11, 12, 13, 14, 15, 16, 17, 18, 19, 20, 21, 22, 23, 24, 25, 26, 27, 28, 29, 30, 31, 32, 33, 34, 35, 36, 37, 38, 39, 40, 41] (by decide +kernel) (by decide +kernel)
set_option maxRecDepth 20000 in
theorem gX3_isAt_X3_sounds : GoodIn wsX3_isAt (wsV RX3 64 RX3 yX3_sounds wsX3_sounds) := goodIn_app (goodIn_of _ (by decide +kernel)) ggX3_isAt_X3_sounds
theorem dX3_isAt_0 : decode cX3_isAt 0 = .ok (.aload_n 0, 1) := by decide +kernel
theorem dX3_isAt_1 : decode cX3_isAt 1 = .ok (.iload_n 2, 1) := by decide +kernel
theorem dX3_isAt_2 : decode cX3_isAt 2 = .ok (.aload_n 0, 1) := by decide +kernel
theorem dX3_isAt_3 : decode cX3_isAt 3 = .ok (.getfield 7, 3) := by decide +kernel
theorem dX3_isAt_6 : decode cX3_isAt 6 = .ok (.bipush 10, 2) := by decide +kernel
theorem dX3_isAt_8 : decode cX3_isAt 8 = .ok (.iload_n 1, 1) := by decide +kernel
theorem dX3_isAt_9 : decode cX3_isAt 9 = .ok (.iadd, 1) := by decide +kernel
theorem dX3_isAt_10 : decode cX3_isAt 10 = .ok (.iaload, 1) := by decide +kernel
theorem dX3_isAt_11 : decode cX3_isAt 11 = .ok (.invokevirtual 64, 3) := by decide +kernel
theorem dX3_isAt_14 : decode cX3_isAt 14 = .ok (.ireturn, 1) := by decide +kernel
set_option maxRecDepth 20000 in
theorem ggX3_layRest_X3_at : GoodIn wsX3_layRest wsX3_at := goodIn_r _ [8] (by decide +kernel) (by decide +kernel)
set_option maxRecDepth 20000 in
theorem gX3_layRest_X3_at : GoodIn wsX3_layRest (va_wsS RX3 77 yX3_at wsX3_at) := goodIn_app (goodIn_of _ (by decide +kernel)) ggX3_layRest_X3_at
set_option maxRecDepth 20000 in
theorem ggX3_layRest_X3_faultOf : GoodIn wsX3_layRest wsX3_faultOf := goodIn_r _ [12, 1, 13, 14, 15, 7, 16, 17, 18, 19, 20, 21, 22, 23, 24, 25, 26, 27, 28, 29, 34, 35, 36, 37, 38, 39, 40] (by decide +kernel) (by decide +kernel)
set_option maxRecDepth 20000 in
theorem gX3_layRest_X3_faultOf : GoodIn wsX3_layRest (wsV RX3 80 RX3 yX3_faultOf wsX3_faultOf) := goodIn_app (goodIn_of _ (by decide +kernel)) ggX3_layRest_X3_faultOf
set_option maxRecDepth 20000 in
theorem ggX3_layRest_X3_effortOf : GoodIn wsX3_layRest wsX3_effortOf := goodIn_r _ [33, 1, 24, 25, 7, 26, 27, 28, 29, 34, 35, 36, 37, 38, 39, 40] (by decide +kernel) (by decide +kernel)
set_option maxRecDepth 20000 in
theorem gX3_layRest_X3_effortOf : GoodIn wsX3_layRest (wsV RX3 74 RX3 yX3_effortOf wsX3_effortOf) := goodIn_app (goodIn_of _ (by decide +kernel)) ggX3_layRest_X3_effortOf
theorem dX3_layRest_0 : decode cX3_layRest 0 = .ok (.iload_n 1, 1) := by decide +kernel
theorem dX3_layRest_1 : decode cX3_layRest 1 = .ok (.iload_n 2, 1) := by decide +kernel
theorem dX3_layRest_2 : decode cX3_layRest 2 = .ok (.invokestatic 77, 3) := by decide +kernel
theorem dX3_layRest_5 : decode cX3_layRest 5 = .ok (.istore_n 3, 1) := by decide +kernel
theorem dX3_layRest_6 : decode cX3_layRest 6 = .ok (.aload_n 0, 1) := by decide +kernel
theorem dX3_layRest_7 : decode cX3_layRest 7 = .ok (.iload_n 2, 1) := by decide +kernel
theorem dX3_layRest_8 : decode cX3_layRest 8 = .ok (.aload_n 0, 1) := by decide +kernel
theorem dX3_layRest_9 : decode cX3_layRest 9 = .ok (.getfield 7, 3) := by decide +kernel
theorem dX3_layRest_12 : decode cX3_layRest 12 = .ok (.bipush 10, 2) := by decide +kernel
theorem dX3_layRest_14 : decode cX3_layRest 14 = .ok (.iload_n 1, 1) := by decide +kernel
theorem dX3_layRest_15 : decode cX3_layRest 15 = .ok (.iadd, 1) := by decide +kernel
theorem dX3_layRest_16 : decode cX3_layRest 16 = .ok (.iaload, 1) := by decide +kernel
theorem dX3_layRest_17 : decode cX3_layRest 17 = .ok (.invokevirtual 80, 3) := by decide +kernel
theorem dX3_layRest_20 : decode cX3_layRest 20 = .ok (.istore 4, 2) := by decide +kernel
theorem dX3_layRest_22 : decode cX3_layRest 22 = .ok (.iload_n 1, 1) := by decide +kernel
theorem dX3_layRest_23 : decode cX3_layRest 23 = .ok (.iconst 1, 1) := by decide +kernel
theorem dX3_layRest_24 : decode cX3_layRest 24 = .ok (.iadd, 1) := by decide +kernel
theorem dX3_layRest_25 : decode cX3_layRest 25 = .ok (.aload_n 0, 1) := by decide +kernel
theorem dX3_layRest_26 : decode cX3_layRest 26 = .ok (.getfield 7, 3) := by decide +kernel
theorem dX3_layRest_29 : decode cX3_layRest 29 = .ok (.bipush 9, 2) := by decide +kernel
theorem dX3_layRest_31 : decode cX3_layRest 31 = .ok (.iaload, 1) := by decide +kernel
theorem dX3_layRest_32 : decode cX3_layRest 32 = .ok (.if_icmp .ne 7, 3) := by decide +kernel
theorem dX3_layRest_35 : decode cX3_layRest 35 = .ok (.iconst 1, 1) := by decide +kernel
theorem dX3_layRest_36 : decode cX3_layRest 36 = .ok (.goto 4, 3) := by decide +kernel
theorem dX3_layRest_39 : decode cX3_layRest 39 = .ok (.iconst 0, 1) := by decide +kernel
theorem dX3_layRest_40 : decode cX3_layRest 40 = .ok (.istore 5, 2) := by decide +kernel
theorem dX3_layRest_42 : decode cX3_layRest 42 = .ok (.aload_n 0, 1) := by decide +kernel
theorem dX3_layRest_43 : decode cX3_layRest 43 = .ok (.getfield 20, 3) := by decide +kernel
theorem dX3_layRest_46 : decode cX3_layRest 46 = .ok (.iload_n 3, 1) := by decide +kernel
theorem dX3_layRest_47 : decode cX3_layRest 47 = .ok (.iload 5, 2) := by decide +kernel
theorem dX3_layRest_49 : decode cX3_layRest 49 = .ok (.ifCond .eq 8, 3) := by decide +kernel
theorem dX3_layRest_52 : decode cX3_layRest 52 = .ok (.iload 4, 2) := by decide +kernel
theorem dX3_layRest_54 : decode cX3_layRest 54 = .ok (.goto 5, 3) := by decide +kernel
theorem dX3_layRest_57 : decode cX3_layRest 57 = .ok (.bipush (-6), 2) := by decide +kernel
theorem dX3_layRest_59 : decode cX3_layRest 59 = .ok (.iastore, 1) := by decide +kernel
theorem dX3_layRest_60 : decode cX3_layRest 60 = .ok (.aload_n 0, 1) := by decide +kernel
theorem dX3_layRest_61 : decode cX3_layRest 61 = .ok (.getfield 23, 3) := by decide +kernel
theorem dX3_layRest_64 : decode cX3_layRest 64 = .ok (.iload_n 3, 1) := by decide +kernel
theorem dX3_layRest_65 : decode cX3_layRest 65 = .ok (.iload 5, 2) := by decide +kernel
theorem dX3_layRest_67 : decode cX3_layRest 67 = .ok (.ifCond .eq 7, 3) := by decide +kernel
theorem dX3_layRest_70 : decode cX3_layRest 70 = .ok (.lconst 1, 1) := by decide +kernel
theorem dX3_layRest_71 : decode cX3_layRest 71 = .ok (.goto 4, 3) := by decide +kernel
theorem dX3_layRest_74 : decode cX3_layRest 74 = .ok (.lconst 0, 1) := by decide +kernel
theorem dX3_layRest_75 : decode cX3_layRest 75 = .ok (.lastore, 1) := by decide +kernel
theorem dX3_layRest_76 : decode cX3_layRest 76 = .ok (.aload_n 0, 1) := by decide +kernel
theorem dX3_layRest_77 : decode cX3_layRest 77 = .ok (.getfield 27, 3) := by decide +kernel
theorem dX3_layRest_80 : decode cX3_layRest 80 = .ok (.iload_n 3, 1) := by decide +kernel
theorem dX3_layRest_81 : decode cX3_layRest 81 = .ok (.iload 5, 2) := by decide +kernel
theorem dX3_layRest_83 : decode cX3_layRest 83 = .ok (.ifCond .eq 7, 3) := by decide +kernel
theorem dX3_layRest_86 : decode cX3_layRest 86 = .ok (.lconst 1, 1) := by decide +kernel
theorem dX3_layRest_87 : decode cX3_layRest 87 = .ok (.goto 4, 3) := by decide +kernel
theorem dX3_layRest_90 : decode cX3_layRest 90 = .ok (.lconst 0, 1) := by decide +kernel
theorem dX3_layRest_91 : decode cX3_layRest 91 = .ok (.lastore, 1) := by decide +kernel
theorem dX3_layRest_92 : decode cX3_layRest 92 = .ok (.iconst 0, 1) := by decide +kernel
theorem dX3_layRest_93 : decode cX3_layRest 93 = .ok (.istore 6, 2) := by decide +kernel
theorem dX3_layRest_95 : decode cX3_layRest 95 = .ok (.iload 6, 2) := by decide +kernel
theorem dX3_layRest_97 : decode cX3_layRest 97 = .ok (.bipush 64, 2) := by decide +kernel
theorem dX3_layRest_99 : decode cX3_layRest 99 = .ok (.if_icmp .ge 138, 3) := by decide +kernel
theorem dX3_layRest_102 : decode cX3_layRest 102 = .ok (.iload 5, 2) := by decide +kernel
theorem dX3_layRest_104 : decode cX3_layRest 104 = .ok (.ifCond .ne 133, 3) := by decide +kernel
theorem dX3_layRest_107 : decode cX3_layRest 107 = .ok (.iload_n 1, 1) := by decide +kernel
theorem dX3_layRest_108 : decode cX3_layRest 108 = .ok (.iconst 1, 1) := by decide +kernel
theorem dX3_layRest_109 : decode cX3_layRest 109 = .ok (.iadd, 1) := by decide +kernel
theorem dX3_layRest_110 : decode cX3_layRest 110 = .ok (.iload 6, 2) := by decide +kernel
theorem dX3_layRest_112 : decode cX3_layRest 112 = .ok (.invokestatic 77, 3) := by decide +kernel
theorem dX3_layRest_115 : decode cX3_layRest 115 = .ok (.istore 7, 2) := by decide +kernel
theorem dX3_layRest_117 : decode cX3_layRest 117 = .ok (.aload_n 0, 1) := by decide +kernel
theorem dX3_layRest_118 : decode cX3_layRest 118 = .ok (.getfield 23, 3) := by decide +kernel
theorem dX3_layRest_121 : decode cX3_layRest 121 = .ok (.iload 7, 2) := by decide +kernel
theorem dX3_layRest_123 : decode cX3_layRest 123 = .ok (.laload, 1) := by decide +kernel
theorem dX3_layRest_124 : decode cX3_layRest 124 = .ok (.lconst 0, 1) := by decide +kernel
theorem dX3_layRest_125 : decode cX3_layRest 125 = .ok (.lcmp, 1) := by decide +kernel
theorem dX3_layRest_126 : decode cX3_layRest 126 = .ok (.ifCond .le 105, 3) := by decide +kernel
theorem dX3_layRest_129 : decode cX3_layRest 129 = .ok (.iload 4, 2) := by decide +kernel
theorem dX3_layRest_131 : decode cX3_layRest 131 = .ok (.aload_n 0, 1) := by decide +kernel
theorem dX3_layRest_132 : decode cX3_layRest 132 = .ok (.iload_n 2, 1) := by decide +kernel
theorem dX3_layRest_133 : decode cX3_layRest 133 = .ok (.iload 6, 2) := by decide +kernel
theorem dX3_layRest_135 : decode cX3_layRest 135 = .ok (.invokevirtual 74, 3) := by decide +kernel
theorem dX3_layRest_138 : decode cX3_layRest 138 = .ok (.iadd, 1) := by decide +kernel
theorem dX3_layRest_139 : decode cX3_layRest 139 = .ok (.aload_n 0, 1) := by decide +kernel
theorem dX3_layRest_140 : decode cX3_layRest 140 = .ok (.getfield 20, 3) := by decide +kernel
theorem dX3_layRest_143 : decode cX3_layRest 143 = .ok (.iload 7, 2) := by decide +kernel
theorem dX3_layRest_145 : decode cX3_layRest 145 = .ok (.iaload, 1) := by decide +kernel
theorem dX3_layRest_146 : decode cX3_layRest 146 = .ok (.iadd, 1) := by decide +kernel
theorem dX3_layRest_147 : decode cX3_layRest 147 = .ok (.istore 8, 2) := by decide +kernel
theorem dX3_layRest_149 : decode cX3_layRest 149 = .ok (.aload_n 0, 1) := by decide +kernel
theorem dX3_layRest_150 : decode cX3_layRest 150 = .ok (.getfield 20, 3) := by decide +kernel
theorem dX3_layRest_153 : decode cX3_layRest 153 = .ok (.iload_n 3, 1) := by decide +kernel
theorem dX3_layRest_154 : decode cX3_layRest 154 = .ok (.iaload, 1) := by decide +kernel
theorem dX3_layRest_155 : decode cX3_layRest 155 = .ok (.ifCond .lt 14, 3) := by decide +kernel
theorem dX3_layRest_158 : decode cX3_layRest 158 = .ok (.iload 8, 2) := by decide +kernel
theorem dX3_layRest_160 : decode cX3_layRest 160 = .ok (.aload_n 0, 1) := by decide +kernel
theorem dX3_layRest_161 : decode cX3_layRest 161 = .ok (.getfield 20, 3) := by decide +kernel
theorem dX3_layRest_164 : decode cX3_layRest 164 = .ok (.iload_n 3, 1) := by decide +kernel
theorem dX3_layRest_165 : decode cX3_layRest 165 = .ok (.iaload, 1) := by decide +kernel
theorem dX3_layRest_166 : decode cX3_layRest 166 = .ok (.if_icmp .ge 18, 3) := by decide +kernel
theorem dX3_layRest_169 : decode cX3_layRest 169 = .ok (.aload_n 0, 1) := by decide +kernel
theorem dX3_layRest_170 : decode cX3_layRest 170 = .ok (.getfield 20, 3) := by decide +kernel
theorem dX3_layRest_173 : decode cX3_layRest 173 = .ok (.iload_n 3, 1) := by decide +kernel
theorem dX3_layRest_174 : decode cX3_layRest 174 = .ok (.iload 8, 2) := by decide +kernel
theorem dX3_layRest_176 : decode cX3_layRest 176 = .ok (.iastore, 1) := by decide +kernel
theorem dX3_layRest_177 : decode cX3_layRest 177 = .ok (.aload_n 0, 1) := by decide +kernel
theorem dX3_layRest_178 : decode cX3_layRest 178 = .ok (.getfield 27, 3) := by decide +kernel
theorem dX3_layRest_181 : decode cX3_layRest 181 = .ok (.iload_n 3, 1) := by decide +kernel
theorem dX3_layRest_182 : decode cX3_layRest 182 = .ok (.lconst 0, 1) := by decide +kernel
theorem dX3_layRest_183 : decode cX3_layRest 183 = .ok (.lastore, 1) := by decide +kernel
theorem dX3_layRest_184 : decode cX3_layRest 184 = .ok (.aload_n 0, 1) := by decide +kernel
theorem dX3_layRest_185 : decode cX3_layRest 185 = .ok (.getfield 27, 3) := by decide +kernel
theorem dX3_layRest_188 : decode cX3_layRest 188 = .ok (.iload_n 3, 1) := by decide +kernel
theorem dX3_layRest_189 : decode cX3_layRest 189 = .ok (.dup2, 1) := by decide +kernel
theorem dX3_layRest_190 : decode cX3_layRest 190 = .ok (.laload, 1) := by decide +kernel
theorem dX3_layRest_191 : decode cX3_layRest 191 = .ok (.iload 8, 2) := by decide +kernel
theorem dX3_layRest_193 : decode cX3_layRest 193 = .ok (.aload_n 0, 1) := by decide +kernel
theorem dX3_layRest_194 : decode cX3_layRest 194 = .ok (.getfield 20, 3) := by decide +kernel
theorem dX3_layRest_197 : decode cX3_layRest 197 = .ok (.iload_n 3, 1) := by decide +kernel
theorem dX3_layRest_198 : decode cX3_layRest 198 = .ok (.iaload, 1) := by decide +kernel
theorem dX3_layRest_199 : decode cX3_layRest 199 = .ok (.if_icmp .ne 13, 3) := by decide +kernel
theorem dX3_layRest_202 : decode cX3_layRest 202 = .ok (.aload_n 0, 1) := by decide +kernel
theorem dX3_layRest_203 : decode cX3_layRest 203 = .ok (.getfield 27, 3) := by decide +kernel
theorem dX3_layRest_206 : decode cX3_layRest 206 = .ok (.iload 7, 2) := by decide +kernel
theorem dX3_layRest_208 : decode cX3_layRest 208 = .ok (.laload, 1) := by decide +kernel
theorem dX3_layRest_209 : decode cX3_layRest 209 = .ok (.goto 4, 3) := by decide +kernel
theorem dX3_layRest_212 : decode cX3_layRest 212 = .ok (.lconst 0, 1) := by decide +kernel
theorem dX3_layRest_213 : decode cX3_layRest 213 = .ok (.ladd, 1) := by decide +kernel
theorem dX3_layRest_214 : decode cX3_layRest 214 = .ok (.lastore, 1) := by decide +kernel
theorem dX3_layRest_215 : decode cX3_layRest 215 = .ok (.aload_n 0, 1) := by decide +kernel
theorem dX3_layRest_216 : decode cX3_layRest 216 = .ok (.getfield 23, 3) := by decide +kernel
theorem dX3_layRest_219 : decode cX3_layRest 219 = .ok (.iload_n 3, 1) := by decide +kernel
theorem dX3_layRest_220 : decode cX3_layRest 220 = .ok (.dup2, 1) := by decide +kernel
theorem dX3_layRest_221 : decode cX3_layRest 221 = .ok (.laload, 1) := by decide +kernel
theorem dX3_layRest_222 : decode cX3_layRest 222 = .ok (.aload_n 0, 1) := by decide +kernel
theorem dX3_layRest_223 : decode cX3_layRest 223 = .ok (.getfield 23, 3) := by decide +kernel
theorem dX3_layRest_226 : decode cX3_layRest 226 = .ok (.iload 7, 2) := by decide +kernel
theorem dX3_layRest_228 : decode cX3_layRest 228 = .ok (.laload, 1) := by decide +kernel
theorem dX3_layRest_229 : decode cX3_layRest 229 = .ok (.ladd, 1) := by decide +kernel
theorem dX3_layRest_230 : decode cX3_layRest 230 = .ok (.lastore, 1) := by decide +kernel
theorem dX3_layRest_231 : decode cX3_layRest 231 = .ok (.iinc 6 1, 3) := by decide +kernel
theorem dX3_layRest_234 : decode cX3_layRest 234 = .ok (.goto (-139), 3) := by decide +kernel
theorem dX3_layRest_237 : decode cX3_layRest 237 = .ok (.return_, 1) := by decide +kernel
set_option maxRecDepth 20000 in
theorem ggX3_layAllRests_X3_at : GoodIn wsX3_layAllRests wsX3_at := goodIn_r _ [6] (by decide +kernel) (by decide +kernel)
set_option maxRecDepth 20000 in
theorem gX3_layAllRests_X3_at : GoodIn wsX3_layAllRests (va_wsS RX3 77 yX3_at wsX3_at) := goodIn_app (goodIn_of _ (by decide +kernel)) ggX3_layAllRests_X3_at
set_option maxRecDepth 20000 in
theorem ggX3_layAllRests_X3_isAt : GoodIn wsX3_layAllRests wsX3_isAt := goodIn_r _ [10, 1, 11, 12, 13, 5, 14, 15, 16, 17, 18, 19, 20, 21, 22, 23, 24, 25, 26, 27, 28, 29, 30, 31, 32, 33, 34, 35, 36, 37, 38, 39, 40, 41, 42, 57, 58, 59, 60, 61, 62, 63] (by decide +kernel) (by decide +kernel)
set_option maxRecDepth 20000 in
theorem gX3_layAllRests_X3_isAt : GoodIn wsX3_layAllRests (wsV RX3 83 RX3 yX3_isAt wsX3_isAt) := goodIn_app (goodIn_of _ (by decide +kernel)) ggX3_layAllRests_X3_isAt
set_option maxRecDepth 20000 in
theorem ggX3_layAllRests_X3_layRest : GoodIn wsX3_layAllRests wsX3_layRest := goodIn_r _ [46, 1, 47, 2, 48, 3, 4, 5, 6, 49, 50, 51, 52, 26, 27, 28, 29, 30, 31, 32, 33, 34, 35, 36, 37, 38, 39, 40, 41, 42, 53, 54, 55, 56, 57, 58, 59, 60, 61, 62, 63] (by decide +kernel) (by decide +kernel)
set_option maxRecDepth 20000 in
theorem gX3_layAllRests_X3_layRest : GoodIn wsX3_layAllRests (wsV RX3 86 RX3 yX3_layRest wsX3_layRest) := goodIn_app (goodIn_of _ (by decide +kernel)) ggX3_layAllRests_X3_layRest
theorem dX3_layAllRests_0 : decode cX3_layAllRests 0 = .ok (.aload_n 0, 1) := by decide +kernel
theorem dX3_layAllRests_1 : decode cX3_layAllRests 1 = .ok (.getfield 7, 3) := by decide +kernel
theorem dX3_layAllRests_4 : decode cX3_layAllRests 4 = .ok (.bipush 9, 2) := by decide +kernel
theorem dX3_layAllRests_6 : decode cX3_layAllRests 6 = .ok (.iaload, 1) := by decide +kernel
theorem dX3_layAllRests_7 : decode cX3_layAllRests 7 = .ok (.iconst 1, 1) := by decide +kernel
theorem dX3_layAllRests_8 : decode cX3_layAllRests 8 = .ok (.isub, 1) := by decide +kernel
theorem dX3_layAllRests_9 : decode cX3_layAllRests 9 = .ok (.istore_n 1, 1) := by decide +kernel
theorem dX3_layAllRests_10 : decode cX3_layAllRests 10 = .ok (.iload_n 1, 1) := by decide +kernel
theorem dX3_layAllRests_11 : decode cX3_layAllRests 11 = .ok (.ifCond .lt 49, 3) := by decide +kernel
theorem dX3_layAllRests_14 : decode cX3_layAllRests 14 = .ok (.iconst 0, 1) := by decide +kernel
theorem dX3_layAllRests_15 : decode cX3_layAllRests 15 = .ok (.istore_n 2, 1) := by decide +kernel
theorem dX3_layAllRests_16 : decode cX3_layAllRests 16 = .ok (.iload_n 2, 1) := by decide +kernel
theorem dX3_layAllRests_17 : decode cX3_layAllRests 17 = .ok (.bipush 64, 2) := by decide +kernel
theorem dX3_layAllRests_19 : decode cX3_layAllRests 19 = .ok (.if_icmp .ge 35, 3) := by decide +kernel
theorem dX3_layAllRests_22 : decode cX3_layAllRests 22 = .ok (.aload_n 0, 1) := by decide +kernel
theorem dX3_layAllRests_23 : decode cX3_layAllRests 23 = .ok (.getfield 23, 3) := by decide +kernel
theorem dX3_layAllRests_26 : decode cX3_layAllRests 26 = .ok (.iload_n 1, 1) := by decide +kernel
theorem dX3_layAllRests_27 : decode cX3_layAllRests 27 = .ok (.iload_n 2, 1) := by decide +kernel
theorem dX3_layAllRests_28 : decode cX3_layAllRests 28 = .ok (.invokestatic 77, 3) := by decide +kernel
theorem dX3_layAllRests_31 : decode cX3_layAllRests 31 = .ok (.lconst 0, 1) := by decide +kernel
theorem dX3_layAllRests_32 : decode cX3_layAllRests 32 = .ok (.lastore, 1) := by decide +kernel
theorem dX3_layAllRests_33 : decode cX3_layAllRests 33 = .ok (.aload_n 0, 1) := by decide +kernel
theorem dX3_layAllRests_34 : decode cX3_layAllRests 34 = .ok (.iload_n 1, 1) := by decide +kernel
theorem dX3_layAllRests_35 : decode cX3_layAllRests 35 = .ok (.iload_n 2, 1) := by decide +kernel
theorem dX3_layAllRests_36 : decode cX3_layAllRests 36 = .ok (.invokevirtual 83, 3) := by decide +kernel
theorem dX3_layAllRests_39 : decode cX3_layAllRests 39 = .ok (.ifCond .eq 9, 3) := by decide +kernel
theorem dX3_layAllRests_42 : decode cX3_layAllRests 42 = .ok (.aload_n 0, 1) := by decide +kernel
theorem dX3_layAllRests_43 : decode cX3_layAllRests 43 = .ok (.iload_n 1, 1) := by decide +kernel
theorem dX3_layAllRests_44 : decode cX3_layAllRests 44 = .ok (.iload_n 2, 1) := by decide +kernel
theorem dX3_layAllRests_45 : decode cX3_layAllRests 45 = .ok (.invokevirtual 86, 3) := by decide +kernel
theorem dX3_layAllRests_48 : decode cX3_layAllRests 48 = .ok (.iinc 2 1, 3) := by decide +kernel
theorem dX3_layAllRests_51 : decode cX3_layAllRests 51 = .ok (.goto (-35), 3) := by decide +kernel
theorem dX3_layAllRests_54 : decode cX3_layAllRests 54 = .ok (.iinc 1 (-1), 3) := by decide +kernel
theorem dX3_layAllRests_57 : decode cX3_layAllRests 57 = .ok (.goto (-47), 3) := by decide +kernel
theorem dX3_layAllRests_60 : decode cX3_layAllRests 60 = .ok (.return_, 1) := by decide +kernel
theorem dX3_leastOfAll_0 : decode cX3_leastOfAll 0 = .ok (.aload_n 0, 1) := by decide +kernel
theorem dX3_leastOfAll_1 : decode cX3_leastOfAll 1 = .ok (.getfield 7, 3) := by decide +kernel
theorem dX3_leastOfAll_4 : decode cX3_leastOfAll 4 = .ok (.bipush 9, 2) := by decide +kernel
theorem dX3_leastOfAll_6 : decode cX3_leastOfAll 6 = .ok (.iaload, 1) := by decide +kernel
theorem dX3_leastOfAll_7 : decode cX3_leastOfAll 7 = .ok (.ifCond .ne 5, 3) := by decide +kernel
theorem dX3_leastOfAll_10 : decode cX3_leastOfAll 10 = .ok (.iconst 0, 1) := by decide +kernel
theorem dX3_leastOfAll_11 : decode cX3_leastOfAll 11 = .ok (.ireturn, 1) := by decide +kernel
theorem dX3_leastOfAll_12 : decode cX3_leastOfAll 12 = .ok (.bipush (-6), 2) := by decide +kernel
theorem dX3_leastOfAll_14 : decode cX3_leastOfAll 14 = .ok (.istore_n 1, 1) := by decide +kernel
theorem dX3_leastOfAll_15 : decode cX3_leastOfAll 15 = .ok (.iconst 0, 1) := by decide +kernel
theorem dX3_leastOfAll_16 : decode cX3_leastOfAll 16 = .ok (.istore_n 2, 1) := by decide +kernel
theorem dX3_leastOfAll_17 : decode cX3_leastOfAll 17 = .ok (.iload_n 2, 1) := by decide +kernel
theorem dX3_leastOfAll_18 : decode cX3_leastOfAll 18 = .ok (.bipush 64, 2) := by decide +kernel
theorem dX3_leastOfAll_20 : decode cX3_leastOfAll 20 = .ok (.if_icmp .ge 55, 3) := by decide +kernel
theorem dX3_leastOfAll_23 : decode cX3_leastOfAll 23 = .ok (.aload_n 0, 1) := by decide +kernel
theorem dX3_leastOfAll_24 : decode cX3_leastOfAll 24 = .ok (.getfield 23, 3) := by decide +kernel
theorem dX3_leastOfAll_27 : decode cX3_leastOfAll 27 = .ok (.iload_n 2, 1) := by decide +kernel
theorem dX3_leastOfAll_28 : decode cX3_leastOfAll 28 = .ok (.laload, 1) := by decide +kernel
theorem dX3_leastOfAll_29 : decode cX3_leastOfAll 29 = .ok (.lconst 0, 1) := by decide +kernel
theorem dX3_leastOfAll_30 : decode cX3_leastOfAll 30 = .ok (.lcmp, 1) := by decide +kernel
theorem dX3_leastOfAll_31 : decode cX3_leastOfAll 31 = .ok (.ifCond .le 21, 3) := by decide +kernel
theorem dX3_leastOfAll_34 : decode cX3_leastOfAll 34 = .ok (.iload_n 1, 1) := by decide +kernel
theorem dX3_leastOfAll_35 : decode cX3_leastOfAll 35 = .ok (.ifCond .lt 13, 3) := by decide +kernel
theorem dX3_leastOfAll_38 : decode cX3_leastOfAll 38 = .ok (.aload_n 0, 1) := by decide +kernel
theorem dX3_leastOfAll_39 : decode cX3_leastOfAll 39 = .ok (.getfield 20, 3) := by decide +kernel
theorem dX3_leastOfAll_42 : decode cX3_leastOfAll 42 = .ok (.iload_n 2, 1) := by decide +kernel
theorem dX3_leastOfAll_43 : decode cX3_leastOfAll 43 = .ok (.iaload, 1) := by decide +kernel
theorem dX3_leastOfAll_44 : decode cX3_leastOfAll 44 = .ok (.iload_n 1, 1) := by decide +kernel
theorem dX3_leastOfAll_45 : decode cX3_leastOfAll 45 = .ok (.if_icmp .ge 7, 3) := by decide +kernel
theorem dX3_leastOfAll_48 : decode cX3_leastOfAll 48 = .ok (.iconst 1, 1) := by decide +kernel
theorem dX3_leastOfAll_49 : decode cX3_leastOfAll 49 = .ok (.goto 4, 3) := by decide +kernel
theorem dX3_leastOfAll_52 : decode cX3_leastOfAll 52 = .ok (.iconst 0, 1) := by decide +kernel
theorem dX3_leastOfAll_53 : decode cX3_leastOfAll 53 = .ok (.istore_n 3, 1) := by decide +kernel
theorem dX3_leastOfAll_54 : decode cX3_leastOfAll 54 = .ok (.iload_n 3, 1) := by decide +kernel
theorem dX3_leastOfAll_55 : decode cX3_leastOfAll 55 = .ok (.ifCond .eq 12, 3) := by decide +kernel
theorem dX3_leastOfAll_58 : decode cX3_leastOfAll 58 = .ok (.aload_n 0, 1) := by decide +kernel
theorem dX3_leastOfAll_59 : decode cX3_leastOfAll 59 = .ok (.getfield 20, 3) := by decide +kernel
theorem dX3_leastOfAll_62 : decode cX3_leastOfAll 62 = .ok (.iload_n 2, 1) := by decide +kernel
theorem dX3_leastOfAll_63 : decode cX3_leastOfAll 63 = .ok (.iaload, 1) := by decide +kernel
theorem dX3_leastOfAll_64 : decode cX3_leastOfAll 64 = .ok (.goto 4, 3) := by decide +kernel
theorem dX3_leastOfAll_67 : decode cX3_leastOfAll 67 = .ok (.iload_n 1, 1) := by decide +kernel
theorem dX3_leastOfAll_68 : decode cX3_leastOfAll 68 = .ok (.istore_n 1, 1) := by decide +kernel
theorem dX3_leastOfAll_69 : decode cX3_leastOfAll 69 = .ok (.iinc 2 1, 3) := by decide +kernel
theorem dX3_leastOfAll_72 : decode cX3_leastOfAll 72 = .ok (.goto (-55), 3) := by decide +kernel
theorem dX3_leastOfAll_75 : decode cX3_leastOfAll 75 = .ok (.iload_n 1, 1) := by decide +kernel
theorem dX3_leastOfAll_76 : decode cX3_leastOfAll 76 = .ok (.ireturn, 1) := by decide +kernel
set_option maxRecDepth 20000 in
theorem ggX3_nextWay_X3_effortOf : GoodIn wsX3_nextWay wsX3_effortOf := goodIn_r _ [7, 8, 9, 10, 6, 11, 12, 13, 14, 18, 19, 20, 21, 22, 23, 24] (by decide +kernel) (by decide +kernel)
set_option maxRecDepth 20000 in
theorem gX3_nextWay_X3_effortOf : GoodIn wsX3_nextWay (wsV RX3 74 RX3 yX3_effortOf wsX3_effortOf) := goodIn_app (goodIn_of _ (by decide +kernel)) ggX3_nextWay_X3_effortOf
set_option maxRecDepth 20000 in
theorem ggX3_nextWay_X3_at : GoodIn wsX3_nextWay wsX3_at := goodIn_r _ [17] (by decide +kernel) (by decide +kernel)
set_option maxRecDepth 20000 in
theorem gX3_nextWay_X3_at : GoodIn wsX3_nextWay (va_wsS RX3 77 yX3_at wsX3_at) := goodIn_app (goodIn_of _ (by decide +kernel)) ggX3_nextWay_X3_at
theorem dX3_nextWay_0 : decode cX3_nextWay 0 = .ok (.iconst 0, 1) := by decide +kernel
theorem dX3_nextWay_1 : decode cX3_nextWay 1 = .ok (.istore 4, 2) := by decide +kernel
theorem dX3_nextWay_3 : decode cX3_nextWay 3 = .ok (.iload 4, 2) := by decide +kernel
theorem dX3_nextWay_5 : decode cX3_nextWay 5 = .ok (.bipush 64, 2) := by decide +kernel
theorem dX3_nextWay_7 : decode cX3_nextWay 7 = .ok (.if_icmp .ge 63, 3) := by decide +kernel
theorem dX3_nextWay_10 : decode cX3_nextWay 10 = .ok (.iload_n 1, 1) := by decide +kernel
theorem dX3_nextWay_11 : decode cX3_nextWay 11 = .ok (.ifCond .ne 7, 3) := by decide +kernel
theorem dX3_nextWay_14 : decode cX3_nextWay 14 = .ok (.iconst 0, 1) := by decide +kernel
theorem dX3_nextWay_15 : decode cX3_nextWay 15 = .ok (.goto 10, 3) := by decide +kernel
theorem dX3_nextWay_18 : decode cX3_nextWay 18 = .ok (.aload_n 0, 1) := by decide +kernel
theorem dX3_nextWay_19 : decode cX3_nextWay 19 = .ok (.iload_n 2, 1) := by decide +kernel
theorem dX3_nextWay_20 : decode cX3_nextWay 20 = .ok (.iload 4, 2) := by decide +kernel
theorem dX3_nextWay_22 : decode cX3_nextWay 22 = .ok (.invokevirtual 74, 3) := by decide +kernel
theorem dX3_nextWay_25 : decode cX3_nextWay 25 = .ok (.aload_n 0, 1) := by decide +kernel
theorem dX3_nextWay_26 : decode cX3_nextWay 26 = .ok (.getfield 20, 3) := by decide +kernel
theorem dX3_nextWay_29 : decode cX3_nextWay 29 = .ok (.iload_n 1, 1) := by decide +kernel
theorem dX3_nextWay_30 : decode cX3_nextWay 30 = .ok (.iload 4, 2) := by decide +kernel
theorem dX3_nextWay_32 : decode cX3_nextWay 32 = .ok (.invokestatic 77, 3) := by decide +kernel
theorem dX3_nextWay_35 : decode cX3_nextWay 35 = .ok (.iaload, 1) := by decide +kernel
theorem dX3_nextWay_36 : decode cX3_nextWay 36 = .ok (.iadd, 1) := by decide +kernel
theorem dX3_nextWay_37 : decode cX3_nextWay 37 = .ok (.istore 5, 2) := by decide +kernel
theorem dX3_nextWay_39 : decode cX3_nextWay 39 = .ok (.aload_n 0, 1) := by decide +kernel
theorem dX3_nextWay_40 : decode cX3_nextWay 40 = .ok (.getfield 23, 3) := by decide +kernel
theorem dX3_nextWay_43 : decode cX3_nextWay 43 = .ok (.iload_n 1, 1) := by decide +kernel
theorem dX3_nextWay_44 : decode cX3_nextWay 44 = .ok (.iload 4, 2) := by decide +kernel
theorem dX3_nextWay_46 : decode cX3_nextWay 46 = .ok (.invokestatic 77, 3) := by decide +kernel
theorem dX3_nextWay_49 : decode cX3_nextWay 49 = .ok (.laload, 1) := by decide +kernel
theorem dX3_nextWay_50 : decode cX3_nextWay 50 = .ok (.lconst 0, 1) := by decide +kernel
theorem dX3_nextWay_51 : decode cX3_nextWay 51 = .ok (.lcmp, 1) := by decide +kernel
theorem dX3_nextWay_52 : decode cX3_nextWay 52 = .ok (.ifCond .le 12, 3) := by decide +kernel
theorem dX3_nextWay_55 : decode cX3_nextWay 55 = .ok (.iload 5, 2) := by decide +kernel
theorem dX3_nextWay_57 : decode cX3_nextWay 57 = .ok (.iload_n 3, 1) := by decide +kernel
theorem dX3_nextWay_58 : decode cX3_nextWay 58 = .ok (.if_icmp .ne 6, 3) := by decide +kernel
theorem dX3_nextWay_61 : decode cX3_nextWay 61 = .ok (.iload 4, 2) := by decide +kernel
theorem dX3_nextWay_63 : decode cX3_nextWay 63 = .ok (.ireturn, 1) := by decide +kernel
theorem dX3_nextWay_64 : decode cX3_nextWay 64 = .ok (.iinc 4 1, 3) := by decide +kernel
theorem dX3_nextWay_67 : decode cX3_nextWay 67 = .ok (.goto (-64), 3) := by decide +kernel
theorem dX3_nextWay_70 : decode cX3_nextWay 70 = .ok (.bipush (-6), 2) := by decide +kernel
theorem dX3_nextWay_72 : decode cX3_nextWay 72 = .ok (.ireturn, 1) := by decide +kernel
set_option maxRecDepth 20000 in
theorem ggX3_least_X3_layAllRests : GoodIn wsX3_least wsX3_layAllRests := goodIn_r _ [7, 1, 8, 9, 10, 6, 11, 12, 13, 14, 15, 16, 17, 18, 19, 20, 21, 22, 23, 24, 25, 26, 27, 28, 29, 30, 31, 32, 33, 34, 35, 36, 37, 38, 39, 40, 41, 42, 43, 44, 45, 46, 47, 48, 49, 50, 51, 2, 52, 53, 54, 55, 56, 57, 58, 59, 60, 69, 70, 71, 72, 73, 74, 75] (by decide +kernel) (by decide +kernel)
set_option maxRecDepth 20000 in
theorem gX3_least_X3_layAllRests : GoodIn wsX3_least (wsV RX3 90 RX3 yX3_layAllRests wsX3_layAllRests) := goodIn_app (goodIn_of _ (by decide +kernel)) ggX3_least_X3_layAllRests
set_option maxRecDepth 20000 in
theorem ggX3_least_X3_leastOfAll : GoodIn wsX3_least wsX3_leastOfAll := goodIn_r _ [64, 1, 8, 2, 69, 70, 71, 72, 73, 74, 75] (by decide +kernel) (by decide +kernel)
set_option maxRecDepth 20000 in
theorem gX3_least_X3_leastOfAll : GoodIn wsX3_least (wsV RX3 93 RX3 yX3_leastOfAll wsX3_leastOfAll) := goodIn_app (goodIn_of _ (by decide +kernel)) ggX3_least_X3_leastOfAll
set_option maxRecDepth 20000 in
theorem ggX3_least_X3_nextWay : GoodIn wsX3_least wsX3_nextWay := goodIn_r _ [68, 2, 8, 57, 58, 59, 6, 60, 1, 42, 43, 44, 45, 46, 47, 9, 10, 11, 69, 70, 71, 72, 73, 74, 75] (by decide +kernel) (by decide +kernel)
set_option maxRecDepth 20000 in
theorem gX3_least_X3_nextWay : GoodIn wsX3_least (wsV RX3 97 RX3 yX3_nextWay wsX3_nextWay) := goodIn_app (goodIn_of _ (by decide +kernel)) ggX3_least_X3_nextWay
set_option maxRecDepth 20000 in
theorem ggX3_least_X3_at : GoodIn wsX3_least wsX3_at := goodIn_r _ [11] (by decide +kernel) (by decide +kernel)
set_option maxRecDepth 20000 in
theorem gX3_least_X3_at : GoodIn wsX3_least (va_wsS RX3 77 yX3_at wsX3_at) := goodIn_app (goodIn_of _ (by decide +kernel)) ggX3_least_X3_at
set_option maxRecDepth 20000 in
theorem ggX3_least_X3_faultOf : GoodIn wsX3_least wsX3_faultOf := goodIn_r _ [56, 1, 31, 32, 33, 6, 34, 35, 36, 37, 38, 39, 40, 41, 42, 43, 44, 45, 46, 47, 69, 70, 71, 72, 73, 74, 75] (by decide +kernel) (by decide +kernel)
set_option maxRecDepth 20000 in
theorem gX3_least_X3_faultOf : GoodIn wsX3_least (wsV RX3 80 RX3 yX3_faultOf wsX3_faultOf) := goodIn_app (goodIn_of _ (by decide +kernel)) ggX3_least_X3_faultOf
theorem dX3_least_0 : decode cX3_least 0 = .ok (.iload_n 1, 1) := by decide +kernel
theorem dX3_least_1 : decode cX3_least 1 = .ok (.iconst (-1), 1) := by decide +kernel
theorem dX3_least_2 : decode cX3_least 2 = .ok (.if_icmp .ge 6, 3) := by decide +kernel
theorem dX3_least_5 : decode cX3_least 5 = .ok (.bipush (-2), 2) := by decide +kernel
theorem dX3_least_7 : decode cX3_least 7 = .ok (.ireturn, 1) := by decide +kernel
theorem dX3_least_8 : decode cX3_least 8 = .ok (.aload_n 0, 1) := by decide +kernel
theorem dX3_least_9 : decode cX3_least 9 = .ok (.invokevirtual 90, 3) := by decide +kernel
theorem dX3_least_12 : decode cX3_least 12 = .ok (.aload_n 0, 1) := by decide +kernel
theorem dX3_least_13 : decode cX3_least 13 = .ok (.invokevirtual 93, 3) := by decide +kernel
theorem dX3_least_16 : decode cX3_least 16 = .ok (.istore_n 2, 1) := by decide +kernel
theorem dX3_least_17 : decode cX3_least 17 = .ok (.iload_n 1, 1) := by decide +kernel
theorem dX3_least_18 : decode cX3_least 18 = .ok (.iconst (-1), 1) := by decide +kernel
theorem dX3_least_19 : decode cX3_least 19 = .ok (.if_icmp .eq 18, 3) := by decide +kernel
theorem dX3_least_22 : decode cX3_least 22 = .ok (.iload_n 2, 1) := by decide +kernel
theorem dX3_least_23 : decode cX3_least 23 = .ok (.ifCond .lt 14, 3) := by decide +kernel
theorem dX3_least_26 : decode cX3_least 26 = .ok (.iload_n 1, 1) := by decide +kernel
theorem dX3_least_27 : decode cX3_least 27 = .ok (.aload_n 0, 1) := by decide +kernel
theorem dX3_least_28 : decode cX3_least 28 = .ok (.getfield 7, 3) := by decide +kernel
theorem dX3_least_31 : decode cX3_least 31 = .ok (.bipush 9, 2) := by decide +kernel
theorem dX3_least_33 : decode cX3_least 33 = .ok (.iaload, 1) := by decide +kernel
theorem dX3_least_34 : decode cX3_least 34 = .ok (.if_icmp .lt 15, 3) := by decide +kernel
theorem dX3_least_37 : decode cX3_least 37 = .ok (.iload_n 1, 1) := by decide +kernel
theorem dX3_least_38 : decode cX3_least 38 = .ok (.iconst (-1), 1) := by decide +kernel
theorem dX3_least_39 : decode cX3_least 39 = .ok (.if_icmp .ne 7, 3) := by decide +kernel
theorem dX3_least_42 : decode cX3_least 42 = .ok (.iload_n 2, 1) := by decide +kernel
theorem dX3_least_43 : decode cX3_least 43 = .ok (.goto 5, 3) := by decide +kernel
theorem dX3_least_46 : decode cX3_least 46 = .ok (.bipush (-6), 2) := by decide +kernel
theorem dX3_least_48 : decode cX3_least 48 = .ok (.ireturn, 1) := by decide +kernel
theorem dX3_least_49 : decode cX3_least 49 = .ok (.aload_n 0, 1) := by decide +kernel
theorem dX3_least_50 : decode cX3_least 50 = .ok (.iconst 0, 1) := by decide +kernel
theorem dX3_least_51 : decode cX3_least 51 = .ok (.iconst 0, 1) := by decide +kernel
theorem dX3_least_52 : decode cX3_least 52 = .ok (.iload_n 2, 1) := by decide +kernel
theorem dX3_least_53 : decode cX3_least 53 = .ok (.invokevirtual 97, 3) := by decide +kernel
theorem dX3_least_56 : decode cX3_least 56 = .ok (.istore_n 3, 1) := by decide +kernel
theorem dX3_least_57 : decode cX3_least 57 = .ok (.iconst 1, 1) := by decide +kernel
theorem dX3_least_58 : decode cX3_least 58 = .ok (.istore 4, 2) := by decide +kernel
theorem dX3_least_60 : decode cX3_least 60 = .ok (.iload 4, 2) := by decide +kernel
theorem dX3_least_62 : decode cX3_least 62 = .ok (.iload_n 1, 1) := by decide +kernel
theorem dX3_least_63 : decode cX3_least 63 = .ok (.if_icmp .gt 52, 3) := by decide +kernel
theorem dX3_least_66 : decode cX3_least 66 = .ok (.aload_n 0, 1) := by decide +kernel
theorem dX3_least_67 : decode cX3_least 67 = .ok (.getfield 20, 3) := by decide +kernel
theorem dX3_least_70 : decode cX3_least 70 = .ok (.iload 4, 2) := by decide +kernel
theorem dX3_least_72 : decode cX3_least 72 = .ok (.iconst 1, 1) := by decide +kernel
theorem dX3_least_73 : decode cX3_least 73 = .ok (.isub, 1) := by decide +kernel
theorem dX3_least_74 : decode cX3_least 74 = .ok (.iload_n 3, 1) := by decide +kernel
theorem dX3_least_75 : decode cX3_least 75 = .ok (.invokestatic 77, 3) := by decide +kernel
theorem dX3_least_78 : decode cX3_least 78 = .ok (.iaload, 1) := by decide +kernel
theorem dX3_least_79 : decode cX3_least 79 = .ok (.aload_n 0, 1) := by decide +kernel
theorem dX3_least_80 : decode cX3_least 80 = .ok (.iload_n 3, 1) := by decide +kernel
theorem dX3_least_81 : decode cX3_least 81 = .ok (.aload_n 0, 1) := by decide +kernel
theorem dX3_least_82 : decode cX3_least 82 = .ok (.getfield 7, 3) := by decide +kernel
theorem dX3_least_85 : decode cX3_least 85 = .ok (.bipush 10, 2) := by decide +kernel
theorem dX3_least_87 : decode cX3_least 87 = .ok (.iload 4, 2) := by decide +kernel
theorem dX3_least_89 : decode cX3_least 89 = .ok (.iadd, 1) := by decide +kernel
theorem dX3_least_90 : decode cX3_least 90 = .ok (.iconst 1, 1) := by decide +kernel
theorem dX3_least_91 : decode cX3_least 91 = .ok (.isub, 1) := by decide +kernel
theorem dX3_least_92 : decode cX3_least 92 = .ok (.iaload, 1) := by decide +kernel
theorem dX3_least_93 : decode cX3_least 93 = .ok (.invokevirtual 80, 3) := by decide +kernel
theorem dX3_least_96 : decode cX3_least 96 = .ok (.isub, 1) := by decide +kernel
theorem dX3_least_97 : decode cX3_least 97 = .ok (.istore 5, 2) := by decide +kernel
theorem dX3_least_99 : decode cX3_least 99 = .ok (.aload_n 0, 1) := by decide +kernel
theorem dX3_least_100 : decode cX3_least 100 = .ok (.iload 4, 2) := by decide +kernel
theorem dX3_least_102 : decode cX3_least 102 = .ok (.iload_n 3, 1) := by decide +kernel
theorem dX3_least_103 : decode cX3_least 103 = .ok (.iload 5, 2) := by decide +kernel
theorem dX3_least_105 : decode cX3_least 105 = .ok (.invokevirtual 97, 3) := by decide +kernel
theorem dX3_least_108 : decode cX3_least 108 = .ok (.istore_n 3, 1) := by decide +kernel
theorem dX3_least_109 : decode cX3_least 109 = .ok (.iinc 4 1, 3) := by decide +kernel
theorem dX3_least_112 : decode cX3_least 112 = .ok (.goto (-52), 3) := by decide +kernel
theorem dX3_least_115 : decode cX3_least 115 = .ok (.iload_n 3, 1) := by decide +kernel
theorem dX3_least_116 : decode cX3_least 116 = .ok (.ireturn, 1) := by decide +kernel
set_option maxRecDepth 20000 in
theorem ggX3_layAhead_X3_at : GoodIn wsX3_layAhead wsX3_at := goodIn_r _ [6] (by decide +kernel) (by decide +kernel)
set_option maxRecDepth 20000 in
theorem gX3_layAhead_X3_at : GoodIn wsX3_layAhead (va_wsS RX3 77 yX3_at wsX3_at) := goodIn_app (goodIn_of _ (by decide +kernel)) ggX3_layAhead_X3_at
set_option maxRecDepth 20000 in
theorem ggX3_layAhead_X3_isAt : GoodIn wsX3_layAhead wsX3_isAt := goodIn_r _ [10, 1, 11, 12, 13, 5, 14, 15, 16, 17, 18, 19, 20, 21, 22, 23, 24, 25, 26, 27, 28, 29, 30, 31, 32, 33, 34, 35, 36, 37, 38, 39, 40, 41, 42, 55, 56, 57, 58, 59, 60, 61] (by decide +kernel) (by decide +kernel)
set_option maxRecDepth 20000 in
theorem gX3_layAhead_X3_isAt : GoodIn wsX3_layAhead (wsV RX3 83 RX3 yX3_isAt wsX3_isAt) := goodIn_app (goodIn_of _ (by decide +kernel)) ggX3_layAhead_X3_isAt
set_option maxRecDepth 20000 in
theorem ggX3_layAhead_X3_leastAhead : GoodIn wsX3_layAhead wsX3_leastAhead := goodIn_r _ [46, 2, 1, 3, 4, 5, 6, 47, 48, 49, 50, 26, 27, 28, 29, 30, 31, 32, 33, 34, 35, 36, 37, 38, 39, 40, 41, 42, 51, 52, 53, 54, 55, 56, 57, 58, 59, 60, 61] (by decide +kernel) (by decide +kernel)
set_option maxRecDepth 20000 in
theorem gX3_layAhead_X3_leastAhead : GoodIn wsX3_layAhead (wsV RX3 101 RX3 yX3_leastAhead wsX3_leastAhead) := goodIn_app (goodIn_of _ (by decide +kernel)) ggX3_layAhead_X3_leastAhead
theorem dX3_layAhead_0 : decode cX3_layAhead 0 = .ok (.iconst 0, 1) := by decide +kernel
theorem dX3_layAhead_1 : decode cX3_layAhead 1 = .ok (.istore_n 1, 1) := by decide +kernel
theorem dX3_layAhead_2 : decode cX3_layAhead 2 = .ok (.iload_n 1, 1) := by decide +kernel
theorem dX3_layAhead_3 : decode cX3_layAhead 3 = .ok (.aload_n 0, 1) := by decide +kernel
theorem dX3_layAhead_4 : decode cX3_layAhead 4 = .ok (.getfield 7, 3) := by decide +kernel
theorem dX3_layAhead_7 : decode cX3_layAhead 7 = .ok (.bipush 9, 2) := by decide +kernel
theorem dX3_layAhead_9 : decode cX3_layAhead 9 = .ok (.iaload, 1) := by decide +kernel
theorem dX3_layAhead_10 : decode cX3_layAhead 10 = .ok (.if_icmp .ge 61, 3) := by decide +kernel
theorem dX3_layAhead_13 : decode cX3_layAhead 13 = .ok (.iconst 0, 1) := by decide +kernel
theorem dX3_layAhead_14 : decode cX3_layAhead 14 = .ok (.istore_n 2, 1) := by decide +kernel
theorem dX3_layAhead_15 : decode cX3_layAhead 15 = .ok (.iload_n 2, 1) := by decide +kernel
theorem dX3_layAhead_16 : decode cX3_layAhead 16 = .ok (.bipush 64, 2) := by decide +kernel
theorem dX3_layAhead_18 : decode cX3_layAhead 18 = .ok (.if_icmp .ge 47, 3) := by decide +kernel
theorem dX3_layAhead_21 : decode cX3_layAhead 21 = .ok (.aload_n 0, 1) := by decide +kernel
theorem dX3_layAhead_22 : decode cX3_layAhead 22 = .ok (.getfield 30, 3) := by decide +kernel
theorem dX3_layAhead_25 : decode cX3_layAhead 25 = .ok (.iload_n 1, 1) := by decide +kernel
theorem dX3_layAhead_26 : decode cX3_layAhead 26 = .ok (.iload_n 2, 1) := by decide +kernel
theorem dX3_layAhead_27 : decode cX3_layAhead 27 = .ok (.invokestatic 77, 3) := by decide +kernel
theorem dX3_layAhead_30 : decode cX3_layAhead 30 = .ok (.aload_n 0, 1) := by decide +kernel
theorem dX3_layAhead_31 : decode cX3_layAhead 31 = .ok (.iload_n 1, 1) := by decide +kernel
theorem dX3_layAhead_32 : decode cX3_layAhead 32 = .ok (.iload_n 2, 1) := by decide +kernel
theorem dX3_layAhead_33 : decode cX3_layAhead 33 = .ok (.invokevirtual 83, 3) := by decide +kernel
theorem dX3_layAhead_36 : decode cX3_layAhead 36 = .ok (.ifCond .ne 8, 3) := by decide +kernel
theorem dX3_layAhead_39 : decode cX3_layAhead 39 = .ok (.bipush (-6), 2) := by decide +kernel
theorem dX3_layAhead_41 : decode cX3_layAhead 41 = .ok (.goto 17, 3) := by decide +kernel
theorem dX3_layAhead_44 : decode cX3_layAhead 44 = .ok (.iload_n 1, 1) := by decide +kernel
theorem dX3_layAhead_45 : decode cX3_layAhead 45 = .ok (.ifCond .ne 7, 3) := by decide +kernel
theorem dX3_layAhead_48 : decode cX3_layAhead 48 = .ok (.iconst 0, 1) := by decide +kernel
theorem dX3_layAhead_49 : decode cX3_layAhead 49 = .ok (.goto 9, 3) := by decide +kernel
theorem dX3_layAhead_52 : decode cX3_layAhead 52 = .ok (.aload_n 0, 1) := by decide +kernel
theorem dX3_layAhead_53 : decode cX3_layAhead 53 = .ok (.iload_n 1, 1) := by decide +kernel
theorem dX3_layAhead_54 : decode cX3_layAhead 54 = .ok (.iload_n 2, 1) := by decide +kernel
theorem dX3_layAhead_55 : decode cX3_layAhead 55 = .ok (.invokevirtual 101, 3) := by decide +kernel
theorem dX3_layAhead_58 : decode cX3_layAhead 58 = .ok (.iastore, 1) := by decide +kernel
theorem dX3_layAhead_59 : decode cX3_layAhead 59 = .ok (.iinc 2 1, 3) := by decide +kernel
theorem dX3_layAhead_62 : decode cX3_layAhead 62 = .ok (.goto (-47), 3) := by decide +kernel
theorem dX3_layAhead_65 : decode cX3_layAhead 65 = .ok (.iinc 1 1, 3) := by decide +kernel
theorem dX3_layAhead_68 : decode cX3_layAhead 68 = .ok (.goto (-66), 3) := by decide +kernel
theorem dX3_layAhead_71 : decode cX3_layAhead 71 = .ok (.return_, 1) := by decide +kernel
set_option maxRecDepth 20000 in
theorem ggX3_leastAhead_X3_at : GoodIn wsX3_leastAhead wsX3_at := goodIn_r _ [6] (by decide +kernel) (by decide +kernel)
set_option maxRecDepth 20000 in
theorem gX3_leastAhead_X3_at : GoodIn wsX3_leastAhead (va_wsS RX3 77 yX3_at wsX3_at) := goodIn_app (goodIn_of _ (by decide +kernel)) ggX3_leastAhead_X3_at
set_option maxRecDepth 20000 in
theorem ggX3_leastAhead_X3_faultOf : GoodIn wsX3_leastAhead wsX3_faultOf := goodIn_r _ [10, 2, 11, 12, 13, 5, 14, 15, 16, 17, 18, 19, 20, 21, 22, 23, 24, 25, 26, 27, 32, 33, 34, 35, 36, 37, 38] (by decide +kernel) (by decide +kernel)
set_option maxRecDepth 20000 in
theorem gX3_leastAhead_X3_faultOf : GoodIn wsX3_leastAhead (wsV RX3 80 RX3 yX3_faultOf wsX3_faultOf) := goodIn_app (goodIn_of _ (by decide +kernel)) ggX3_leastAhead_X3_faultOf
set_option maxRecDepth 20000 in
theorem ggX3_leastAhead_X3_effortOf : GoodIn wsX3_leastAhead wsX3_effortOf := goodIn_r _ [31, 2, 22, 23, 5, 24, 25, 26, 27, 32, 33, 34, 35, 36, 37, 38] (by decide +kernel) (by decide +kernel)
set_option maxRecDepth 20000 in
theorem gX3_leastAhead_X3_effortOf : GoodIn wsX3_leastAhead (wsV RX3 74 RX3 yX3_effortOf wsX3_effortOf) := goodIn_app (goodIn_of _ (by decide +kernel)) ggX3_leastAhead_X3_effortOf
theorem dX3_leastAhead_0 : decode cX3_leastAhead 0 = .ok (.bipush (-6), 2) := by decide +kernel
theorem dX3_leastAhead_2 : decode cX3_leastAhead 2 = .ok (.istore_n 3, 1) := by decide +kernel
theorem dX3_leastAhead_3 : decode cX3_leastAhead 3 = .ok (.iconst 0, 1) := by decide +kernel
theorem dX3_leastAhead_4 : decode cX3_leastAhead 4 = .ok (.istore 4, 2) := by decide +kernel
theorem dX3_leastAhead_6 : decode cX3_leastAhead 6 = .ok (.iload 4, 2) := by decide +kernel
theorem dX3_leastAhead_8 : decode cX3_leastAhead 8 = .ok (.bipush 64, 2) := by decide +kernel
theorem dX3_leastAhead_10 : decode cX3_leastAhead 10 = .ok (.if_icmp .ge 76, 3) := by decide +kernel
theorem dX3_leastAhead_13 : decode cX3_leastAhead 13 = .ok (.aload_n 0, 1) := by decide +kernel
theorem dX3_leastAhead_14 : decode cX3_leastAhead 14 = .ok (.getfield 30, 3) := by decide +kernel
theorem dX3_leastAhead_17 : decode cX3_leastAhead 17 = .ok (.iload_n 1, 1) := by decide +kernel
theorem dX3_leastAhead_18 : decode cX3_leastAhead 18 = .ok (.iconst 1, 1) := by decide +kernel
theorem dX3_leastAhead_19 : decode cX3_leastAhead 19 = .ok (.isub, 1) := by decide +kernel
theorem dX3_leastAhead_20 : decode cX3_leastAhead 20 = .ok (.iload 4, 2) := by decide +kernel
theorem dX3_leastAhead_22 : decode cX3_leastAhead 22 = .ok (.invokestatic 77, 3) := by decide +kernel
theorem dX3_leastAhead_25 : decode cX3_leastAhead 25 = .ok (.iaload, 1) := by decide +kernel
theorem dX3_leastAhead_26 : decode cX3_leastAhead 26 = .ok (.istore 5, 2) := by decide +kernel
theorem dX3_leastAhead_28 : decode cX3_leastAhead 28 = .ok (.iload 5, 2) := by decide +kernel
theorem dX3_leastAhead_30 : decode cX3_leastAhead 30 = .ok (.ifCond .lt 50, 3) := by decide +kernel
theorem dX3_leastAhead_33 : decode cX3_leastAhead 33 = .ok (.iload 5, 2) := by decide +kernel
theorem dX3_leastAhead_35 : decode cX3_leastAhead 35 = .ok (.aload_n 0, 1) := by decide +kernel
theorem dX3_leastAhead_36 : decode cX3_leastAhead 36 = .ok (.iload 4, 2) := by decide +kernel
theorem dX3_leastAhead_38 : decode cX3_leastAhead 38 = .ok (.aload_n 0, 1) := by decide +kernel
theorem dX3_leastAhead_39 : decode cX3_leastAhead 39 = .ok (.getfield 7, 3) := by decide +kernel
theorem dX3_leastAhead_42 : decode cX3_leastAhead 42 = .ok (.bipush 10, 2) := by decide +kernel
theorem dX3_leastAhead_44 : decode cX3_leastAhead 44 = .ok (.iload_n 1, 1) := by decide +kernel
theorem dX3_leastAhead_45 : decode cX3_leastAhead 45 = .ok (.iadd, 1) := by decide +kernel
theorem dX3_leastAhead_46 : decode cX3_leastAhead 46 = .ok (.iconst 1, 1) := by decide +kernel
theorem dX3_leastAhead_47 : decode cX3_leastAhead 47 = .ok (.isub, 1) := by decide +kernel
theorem dX3_leastAhead_48 : decode cX3_leastAhead 48 = .ok (.iaload, 1) := by decide +kernel
theorem dX3_leastAhead_49 : decode cX3_leastAhead 49 = .ok (.invokevirtual 80, 3) := by decide +kernel
theorem dX3_leastAhead_52 : decode cX3_leastAhead 52 = .ok (.iadd, 1) := by decide +kernel
theorem dX3_leastAhead_53 : decode cX3_leastAhead 53 = .ok (.aload_n 0, 1) := by decide +kernel
theorem dX3_leastAhead_54 : decode cX3_leastAhead 54 = .ok (.iload 4, 2) := by decide +kernel
theorem dX3_leastAhead_56 : decode cX3_leastAhead 56 = .ok (.iload_n 2, 1) := by decide +kernel
theorem dX3_leastAhead_57 : decode cX3_leastAhead 57 = .ok (.invokevirtual 74, 3) := by decide +kernel
theorem dX3_leastAhead_60 : decode cX3_leastAhead 60 = .ok (.iadd, 1) := by decide +kernel
theorem dX3_leastAhead_61 : decode cX3_leastAhead 61 = .ok (.istore 6, 2) := by decide +kernel
theorem dX3_leastAhead_63 : decode cX3_leastAhead 63 = .ok (.iload_n 3, 1) := by decide +kernel
theorem dX3_leastAhead_64 : decode cX3_leastAhead 64 = .ok (.ifCond .lt 9, 3) := by decide +kernel
theorem dX3_leastAhead_67 : decode cX3_leastAhead 67 = .ok (.iload 6, 2) := by decide +kernel
theorem dX3_leastAhead_69 : decode cX3_leastAhead 69 = .ok (.iload_n 3, 1) := by decide +kernel
theorem dX3_leastAhead_70 : decode cX3_leastAhead 70 = .ok (.if_icmp .ge 8, 3) := by decide +kernel
theorem dX3_leastAhead_73 : decode cX3_leastAhead 73 = .ok (.iload 6, 2) := by decide +kernel
theorem dX3_leastAhead_75 : decode cX3_leastAhead 75 = .ok (.goto 4, 3) := by decide +kernel
theorem dX3_leastAhead_78 : decode cX3_leastAhead 78 = .ok (.iload_n 3, 1) := by decide +kernel
theorem dX3_leastAhead_79 : decode cX3_leastAhead 79 = .ok (.istore_n 3, 1) := by decide +kernel
theorem dX3_leastAhead_80 : decode cX3_leastAhead 80 = .ok (.iinc 4 1, 3) := by decide +kernel
theorem dX3_leastAhead_83 : decode cX3_leastAhead 83 = .ok (.goto (-77), 3) := by decide +kernel
theorem dX3_leastAhead_86 : decode cX3_leastAhead 86 = .ok (.iload_n 3, 1) := by decide +kernel
theorem dX3_leastAhead_87 : decode cX3_leastAhead 87 = .ok (.ireturn, 1) := by decide +kernel
set_option maxRecDepth 20000 in
theorem ggX3_leastAt_X3_at : GoodIn wsX3_leastAt wsX3_at := goodIn_r _ [7] (by decide +kernel) (by decide +kernel)
set_option maxRecDepth 20000 in
theorem gX3_leastAt_X3_at : GoodIn wsX3_leastAt (va_wsS RX3 77 yX3_at wsX3_at) := goodIn_app (goodIn_of _ (by decide +kernel)) ggX3_leastAt_X3_at
theorem dX3_leastAt_0 : decode cX3_leastAt 0 = .ok (.iconst 0, 1) := by decide +kernel
theorem dX3_leastAt_1 : decode cX3_leastAt 1 = .ok (.istore_n 3, 1) := by decide +kernel
theorem dX3_leastAt_2 : decode cX3_leastAt 2 = .ok (.iconst 0, 1) := by decide +kernel
theorem dX3_leastAt_3 : decode cX3_leastAt 3 = .ok (.istore 4, 2) := by decide +kernel
theorem dX3_leastAt_5 : decode cX3_leastAt 5 = .ok (.iload 4, 2) := by decide +kernel
theorem dX3_leastAt_7 : decode cX3_leastAt 7 = .ok (.bipush 64, 2) := by decide +kernel
theorem dX3_leastAt_9 : decode cX3_leastAt 9 = .ok (.if_icmp .ge 66, 3) := by decide +kernel
theorem dX3_leastAt_12 : decode cX3_leastAt 12 = .ok (.iload_n 1, 1) := by decide +kernel
theorem dX3_leastAt_13 : decode cX3_leastAt 13 = .ok (.iload 4, 2) := by decide +kernel
theorem dX3_leastAt_15 : decode cX3_leastAt 15 = .ok (.invokestatic 77, 3) := by decide +kernel
theorem dX3_leastAt_18 : decode cX3_leastAt 18 = .ok (.istore 5, 2) := by decide +kernel
theorem dX3_leastAt_20 : decode cX3_leastAt 20 = .ok (.iload_n 3, 1) := by decide +kernel
theorem dX3_leastAt_21 : decode cX3_leastAt 21 = .ok (.aload_n 0, 1) := by decide +kernel
theorem dX3_leastAt_22 : decode cX3_leastAt 22 = .ok (.getfield 30, 3) := by decide +kernel
theorem dX3_leastAt_25 : decode cX3_leastAt 25 = .ok (.iload 5, 2) := by decide +kernel
theorem dX3_leastAt_27 : decode cX3_leastAt 27 = .ok (.iaload, 1) := by decide +kernel
theorem dX3_leastAt_28 : decode cX3_leastAt 28 = .ok (.ifCond .lt 38, 3) := by decide +kernel
theorem dX3_leastAt_31 : decode cX3_leastAt 31 = .ok (.aload_n 0, 1) := by decide +kernel
theorem dX3_leastAt_32 : decode cX3_leastAt 32 = .ok (.getfield 23, 3) := by decide +kernel
theorem dX3_leastAt_35 : decode cX3_leastAt 35 = .ok (.iload 5, 2) := by decide +kernel
theorem dX3_leastAt_37 : decode cX3_leastAt 37 = .ok (.laload, 1) := by decide +kernel
theorem dX3_leastAt_38 : decode cX3_leastAt 38 = .ok (.lconst 0, 1) := by decide +kernel
theorem dX3_leastAt_39 : decode cX3_leastAt 39 = .ok (.lcmp, 1) := by decide +kernel
theorem dX3_leastAt_40 : decode cX3_leastAt 40 = .ok (.ifCond .le 26, 3) := by decide +kernel
theorem dX3_leastAt_43 : decode cX3_leastAt 43 = .ok (.aload_n 0, 1) := by decide +kernel
theorem dX3_leastAt_44 : decode cX3_leastAt 44 = .ok (.getfield 30, 3) := by decide +kernel
theorem dX3_leastAt_47 : decode cX3_leastAt 47 = .ok (.iload 5, 2) := by decide +kernel
theorem dX3_leastAt_49 : decode cX3_leastAt 49 = .ok (.iaload, 1) := by decide +kernel
theorem dX3_leastAt_50 : decode cX3_leastAt 50 = .ok (.aload_n 0, 1) := by decide +kernel
theorem dX3_leastAt_51 : decode cX3_leastAt 51 = .ok (.getfield 20, 3) := by decide +kernel
theorem dX3_leastAt_54 : decode cX3_leastAt 54 = .ok (.iload 5, 2) := by decide +kernel
theorem dX3_leastAt_56 : decode cX3_leastAt 56 = .ok (.iaload, 1) := by decide +kernel
theorem dX3_leastAt_57 : decode cX3_leastAt 57 = .ok (.iadd, 1) := by decide +kernel
theorem dX3_leastAt_58 : decode cX3_leastAt 58 = .ok (.iload_n 2, 1) := by decide +kernel
theorem dX3_leastAt_59 : decode cX3_leastAt 59 = .ok (.if_icmp .ne 7, 3) := by decide +kernel
theorem dX3_leastAt_62 : decode cX3_leastAt 62 = .ok (.iconst 1, 1) := by decide +kernel
theorem dX3_leastAt_63 : decode cX3_leastAt 63 = .ok (.goto 4, 3) := by decide +kernel
theorem dX3_leastAt_66 : decode cX3_leastAt 66 = .ok (.iconst 0, 1) := by decide +kernel
theorem dX3_leastAt_67 : decode cX3_leastAt 67 = .ok (.iadd, 1) := by decide +kernel
theorem dX3_leastAt_68 : decode cX3_leastAt 68 = .ok (.istore_n 3, 1) := by decide +kernel
theorem dX3_leastAt_69 : decode cX3_leastAt 69 = .ok (.iinc 4 1, 3) := by decide +kernel
theorem dX3_leastAt_72 : decode cX3_leastAt 72 = .ok (.goto (-67), 3) := by decide +kernel
theorem dX3_leastAt_75 : decode cX3_leastAt 75 = .ok (.iload_n 3, 1) := by decide +kernel
theorem dX3_leastAt_76 : decode cX3_leastAt 76 = .ok (.ireturn, 1) := by decide +kernel
set_option maxRecDepth 20000 in
theorem ggX3_plans_X3_in : GoodIn wsX3_plans wsX3_in := goodIn_r _ [10] (by decide +kernel) (by decide +kernel)
set_option maxRecDepth 20000 in
theorem gX3_plans_X3_in : GoodIn wsX3_plans (va_wsS RX3 33 yX3_in wsX3_in) := goodIn_app (goodIn_of _ (by decide +kernel)) ggX3_plans_X3_in
set_option maxRecDepth 20000 in
theorem ggX3_plans_X3_layAllRests : GoodIn wsX3_plans wsX3_layAllRests := goodIn_r _ [14, 3, 4, 15, 16, 9, 17, 18, 19, 20, 21, 22, 23, 24, 25, 26, 27, 28, 29, 7, 8, 10, 30, 31, 32, 33, 34, 35, 36, 37, 38, 39, 40, 41, 42, 43, 44, 45, 46, 47, 48, 49, 50, 51, 52, 53, 54, 5, 6, 55, 56, 57, 58, 59, 60, 61, 62, 84, 85, 86, 87, 88, 89, 90] (by decide +kernel) (by decide +kernel)
set_option maxRecDepth 20000 in
theorem gX3_plans_X3_layAllRests : GoodIn wsX3_plans (wsV RX3 90 RX3 yX3_layAllRests wsX3_layAllRests) := goodIn_app (goodIn_of _ (by decide +kernel)) ggX3_plans_X3_layAllRests
set_option maxRecDepth 20000 in
theorem ggX3_plans_X3_leastOfAll : GoodIn wsX3_plans wsX3_leastOfAll := goodIn_r _ [66, 3, 4, 5, 84, 85, 86, 87, 88, 89, 90] (by decide +kernel) (by decide +kernel)
set_option maxRecDepth 20000 in
theorem gX3_plans_X3_leastOfAll : GoodIn wsX3_plans (wsV RX3 93 RX3 yX3_leastOfAll wsX3_leastOfAll) := goodIn_app (goodIn_of _ (by decide +kernel)) ggX3_plans_X3_leastOfAll
set_option maxRecDepth 20000 in
theorem ggX3_plans_X3_layAhead : GoodIn wsX3_plans wsX3_layAhead := goodIn_r _ [70, 3, 71, 15, 16, 9, 17, 18, 19, 20, 21, 22, 23, 24, 25, 26, 27, 28, 29, 7, 8, 10, 30, 31, 32, 33, 34, 35, 36, 37, 38, 39, 40, 41, 42, 43, 44, 45, 46, 47, 48, 49, 50, 72, 73, 74, 75, 55, 56, 57, 58, 59, 60, 61, 62, 84, 85, 86, 87, 88, 89, 90] (by decide +kernel) (by decide +kernel)
set_option maxRecDepth 20000 in
theorem gX3_plans_X3_layAhead : GoodIn wsX3_plans (wsV RX3 106 RX3 yX3_layAhead wsX3_layAhead) := goodIn_app (goodIn_of _ (by decide +kernel)) ggX3_plans_X3_layAhead
set_option maxRecDepth 20000 in
theorem ggX3_plans_X3_isPlace : GoodIn wsX3_plans wsX3_isPlace := goodIn_r _ [79, 3, 7, 8, 9, 10, 84, 85, 86, 87, 88, 89, 90] (by decide +kernel) (by decide +kernel)
set_option maxRecDepth 20000 in
theorem gX3_plans_X3_isPlace : GoodIn wsX3_plans (wsV RX3 71 RX3 yX3_isPlace wsX3_isPlace) := goodIn_app (goodIn_of _ (by decide +kernel)) ggX3_plans_X3_isPlace
set_option maxRecDepth 20000 in
theorem ggX3_plans_X3_leastAt : GoodIn wsX3_plans wsX3_leastAt := goodIn_r _ [83, 71, 4, 5, 15, 16, 9, 17, 84, 85, 86, 87, 88, 89, 90] (by decide +kernel) (by decide +kernel)
set_option maxRecDepth 20000 in
theorem gX3_plans_X3_leastAt : GoodIn wsX3_plans (wsV RX3 111 RX3 yX3_leastAt wsX3_leastAt) := goodIn_app (goodIn_of _ (by decide +kernel)) ggX3_plans_X3_leastAt
theorem dX3_plans_0 : decode cX3_plans 0 = .ok (.iload_n 1, 1) := by decide +kernel
theorem dX3_plans_1 : decode cX3_plans 1 = .ok (.iconst 0, 1) := by decide +kernel
theorem dX3_plans_2 : decode cX3_plans 2 = .ok (.iconst 1, 1) := by decide +kernel
theorem dX3_plans_3 : decode cX3_plans 3 = .ok (.invokestatic 33, 3) := by decide +kernel
theorem dX3_plans_6 : decode cX3_plans 6 = .ok (.ifCond .ne 18, 3) := by decide +kernel
theorem dX3_plans_9 : decode cX3_plans 9 = .ok (.iload_n 1, 1) := by decide +kernel
theorem dX3_plans_10 : decode cX3_plans 10 = .ok (.bipush 10, 2) := by decide +kernel
theorem dX3_plans_12 : decode cX3_plans 12 = .ok (.bipush 21, 2) := by decide +kernel
theorem dX3_plans_14 : decode cX3_plans 14 = .ok (.invokestatic 33, 3) := by decide +kernel
theorem dX3_plans_17 : decode cX3_plans 17 = .ok (.ifCond .ne 7, 3) := by decide +kernel
theorem dX3_plans_20 : decode cX3_plans 20 = .ok (.ldc2_w 104, 3) := by decide +kernel
theorem dX3_plans_23 : decode cX3_plans 23 = .ok (.lreturn, 1) := by decide +kernel
theorem dX3_plans_24 : decode cX3_plans 24 = .ok (.aload_n 0, 1) := by decide +kernel
theorem dX3_plans_25 : decode cX3_plans 25 = .ok (.invokevirtual 90, 3) := by decide +kernel
theorem dX3_plans_28 : decode cX3_plans 28 = .ok (.aload_n 0, 1) := by decide +kernel
theorem dX3_plans_29 : decode cX3_plans 29 = .ok (.invokevirtual 93, 3) := by decide +kernel
theorem dX3_plans_32 : decode cX3_plans 32 = .ok (.istore_n 2, 1) := by decide +kernel
theorem dX3_plans_33 : decode cX3_plans 33 = .ok (.iload_n 1, 1) := by decide +kernel
theorem dX3_plans_34 : decode cX3_plans 34 = .ok (.bipush 10, 2) := by decide +kernel
theorem dX3_plans_36 : decode cX3_plans 36 = .ok (.if_icmp .lt 39, 3) := by decide +kernel
theorem dX3_plans_39 : decode cX3_plans 39 = .ok (.aload_n 0, 1) := by decide +kernel
theorem dX3_plans_40 : decode cX3_plans 40 = .ok (.invokevirtual 106, 3) := by decide +kernel
theorem dX3_plans_43 : decode cX3_plans 43 = .ok (.iload_n 2, 1) := by decide +kernel
theorem dX3_plans_44 : decode cX3_plans 44 = .ok (.ifCond .lt 14, 3) := by decide +kernel
theorem dX3_plans_47 : decode cX3_plans 47 = .ok (.aload_n 0, 1) := by decide +kernel
theorem dX3_plans_48 : decode cX3_plans 48 = .ok (.iload_n 1, 1) := by decide +kernel
theorem dX3_plans_49 : decode cX3_plans 49 = .ok (.bipush 10, 2) := by decide +kernel
theorem dX3_plans_51 : decode cX3_plans 51 = .ok (.isub, 1) := by decide +kernel
theorem dX3_plans_52 : decode cX3_plans 52 = .ok (.invokevirtual 71, 3) := by decide +kernel
theorem dX3_plans_55 : decode cX3_plans 55 = .ok (.ifCond .ne 9, 3) := by decide +kernel
theorem dX3_plans_58 : decode cX3_plans 58 = .ok (.ldc2_w 109, 3) := by decide +kernel
theorem dX3_plans_61 : decode cX3_plans 61 = .ok (.goto 13, 3) := by decide +kernel
theorem dX3_plans_64 : decode cX3_plans 64 = .ok (.aload_n 0, 1) := by decide +kernel
theorem dX3_plans_65 : decode cX3_plans 65 = .ok (.iload_n 1, 1) := by decide +kernel
theorem dX3_plans_66 : decode cX3_plans 66 = .ok (.bipush 10, 2) := by decide +kernel
theorem dX3_plans_68 : decode cX3_plans 68 = .ok (.isub, 1) := by decide +kernel
theorem dX3_plans_69 : decode cX3_plans 69 = .ok (.iload_n 2, 1) := by decide +kernel
theorem dX3_plans_70 : decode cX3_plans 70 = .ok (.invokevirtual 111, 3) := by decide +kernel
theorem dX3_plans_73 : decode cX3_plans 73 = .ok (.i2l, 1) := by decide +kernel
theorem dX3_plans_74 : decode cX3_plans 74 = .ok (.lreturn, 1) := by decide +kernel
theorem dX3_plans_75 : decode cX3_plans 75 = .ok (.aload_n 0, 1) := by decide +kernel
theorem dX3_plans_76 : decode cX3_plans 76 = .ok (.getfield 7, 3) := by decide +kernel
theorem dX3_plans_79 : decode cX3_plans 79 = .ok (.bipush 9, 2) := by decide +kernel
theorem dX3_plans_81 : decode cX3_plans 81 = .ok (.iaload, 1) := by decide +kernel
theorem dX3_plans_82 : decode cX3_plans 82 = .ok (.ifCond .ne 5, 3) := by decide +kernel
theorem dX3_plans_85 : decode cX3_plans 85 = .ok (.lconst 1, 1) := by decide +kernel
theorem dX3_plans_86 : decode cX3_plans 86 = .ok (.lreturn, 1) := by decide +kernel
theorem dX3_plans_87 : decode cX3_plans 87 = .ok (.lconst 0, 1) := by decide +kernel
theorem dX3_plans_88 : decode cX3_plans 88 = .ok (.lstore_n 3, 1) := by decide +kernel
theorem dX3_plans_89 : decode cX3_plans 89 = .ok (.iconst 0, 1) := by decide +kernel
theorem dX3_plans_90 : decode cX3_plans 90 = .ok (.istore 5, 2) := by decide +kernel
theorem dX3_plans_92 : decode cX3_plans 92 = .ok (.iload 5, 2) := by decide +kernel
theorem dX3_plans_94 : decode cX3_plans 94 = .ok (.bipush 64, 2) := by decide +kernel
theorem dX3_plans_96 : decode cX3_plans 96 = .ok (.if_icmp .ge 60, 3) := by decide +kernel
theorem dX3_plans_99 : decode cX3_plans 99 = .ok (.aload_n 0, 1) := by decide +kernel
theorem dX3_plans_100 : decode cX3_plans 100 = .ok (.getfield 23, 3) := by decide +kernel
theorem dX3_plans_103 : decode cX3_plans 103 = .ok (.iload 5, 2) := by decide +kernel
theorem dX3_plans_105 : decode cX3_plans 105 = .ok (.laload, 1) := by decide +kernel
theorem dX3_plans_106 : decode cX3_plans 106 = .ok (.lconst 0, 1) := by decide +kernel
theorem dX3_plans_107 : decode cX3_plans 107 = .ok (.lcmp, 1) := by decide +kernel
theorem dX3_plans_108 : decode cX3_plans 108 = .ok (.ifCond .le 42, 3) := by decide +kernel
theorem dX3_plans_111 : decode cX3_plans 111 = .ok (.lload_n 3, 1) := by decide +kernel
theorem dX3_plans_112 : decode cX3_plans 112 = .ok (.iload_n 1, 1) := by decide +kernel
theorem dX3_plans_113 : decode cX3_plans 113 = .ok (.ifCond .ne 13, 3) := by decide +kernel
theorem dX3_plans_116 : decode cX3_plans 116 = .ok (.aload_n 0, 1) := by decide +kernel
theorem dX3_plans_117 : decode cX3_plans 117 = .ok (.getfield 23, 3) := by decide +kernel
theorem dX3_plans_120 : decode cX3_plans 120 = .ok (.iload 5, 2) := by decide +kernel
theorem dX3_plans_122 : decode cX3_plans 122 = .ok (.laload, 1) := by decide +kernel
theorem dX3_plans_123 : decode cX3_plans 123 = .ok (.goto 25, 3) := by decide +kernel
theorem dX3_plans_126 : decode cX3_plans 126 = .ok (.aload_n 0, 1) := by decide +kernel
theorem dX3_plans_127 : decode cX3_plans 127 = .ok (.getfield 20, 3) := by decide +kernel
theorem dX3_plans_130 : decode cX3_plans 130 = .ok (.iload 5, 2) := by decide +kernel
theorem dX3_plans_132 : decode cX3_plans 132 = .ok (.iaload, 1) := by decide +kernel
theorem dX3_plans_133 : decode cX3_plans 133 = .ok (.iload_n 2, 1) := by decide +kernel
theorem dX3_plans_134 : decode cX3_plans 134 = .ok (.if_icmp .ne 13, 3) := by decide +kernel
theorem dX3_plans_137 : decode cX3_plans 137 = .ok (.aload_n 0, 1) := by decide +kernel
theorem dX3_plans_138 : decode cX3_plans 138 = .ok (.getfield 27, 3) := by decide +kernel
theorem dX3_plans_141 : decode cX3_plans 141 = .ok (.iload 5, 2) := by decide +kernel
theorem dX3_plans_143 : decode cX3_plans 143 = .ok (.laload, 1) := by decide +kernel
theorem dX3_plans_144 : decode cX3_plans 144 = .ok (.goto 4, 3) := by decide +kernel
theorem dX3_plans_147 : decode cX3_plans 147 = .ok (.lconst 0, 1) := by decide +kernel
theorem dX3_plans_148 : decode cX3_plans 148 = .ok (.ladd, 1) := by decide +kernel
theorem dX3_plans_149 : decode cX3_plans 149 = .ok (.lstore_n 3, 1) := by decide +kernel
theorem dX3_plans_150 : decode cX3_plans 150 = .ok (.iinc 5 1, 3) := by decide +kernel
theorem dX3_plans_153 : decode cX3_plans 153 = .ok (.goto (-61), 3) := by decide +kernel
theorem dX3_plans_156 : decode cX3_plans 156 = .ok (.lload_n 3, 1) := by decide +kernel
theorem dX3_plans_157 : decode cX3_plans 157 = .ok (.lreturn, 1) := by decide +kernel
set_option maxRecDepth 20000 in
theorem ggX3_dumb_X3_waysOf : GoodIn wsX3_dumb wsX3_waysOf := goodIn_r _ [6, 7, 8, 9, 5, 10, 1, 11, 12, 13, 14, 15, 16, 17, 18, 19, 20, 21, 22, 23, 24, 25, 26, 27, 28, 29, 30, 31, 32, 33, 34, 35, 36, 37, 38, 39, 40, 41, 42, 43, 44, 45] (by decide +kernel) (by decide +kernel)
set_option maxRecDepth 20000 in
theorem gX3_dumb_X3_waysOf : GoodIn wsX3_dumb (wsV RX3 68 RX3 yX3_waysOf wsX3_waysOf) := goodIn_app (goodIn_of _ (by decide +kernel)) ggX3_dumb_X3_waysOf
theorem dX3_dumb_0 : decode cX3_dumb 0 = .ok (.iconst 0, 1) := by decide +kernel
theorem dX3_dumb_1 : decode cX3_dumb 1 = .ok (.istore_n 1, 1) := by decide +kernel
theorem dX3_dumb_2 : decode cX3_dumb 2 = .ok (.iload_n 1, 1) := by decide +kernel
theorem dX3_dumb_3 : decode cX3_dumb 3 = .ok (.aload_n 0, 1) := by decide +kernel
theorem dX3_dumb_4 : decode cX3_dumb 4 = .ok (.getfield 7, 3) := by decide +kernel
theorem dX3_dumb_7 : decode cX3_dumb 7 = .ok (.bipush 9, 2) := by decide +kernel
theorem dX3_dumb_9 : decode cX3_dumb 9 = .ok (.iaload, 1) := by decide +kernel
theorem dX3_dumb_10 : decode cX3_dumb 10 = .ok (.if_icmp .ge 27, 3) := by decide +kernel
theorem dX3_dumb_13 : decode cX3_dumb 13 = .ok (.aload_n 0, 1) := by decide +kernel
theorem dX3_dumb_14 : decode cX3_dumb 14 = .ok (.aload_n 0, 1) := by decide +kernel
theorem dX3_dumb_15 : decode cX3_dumb 15 = .ok (.getfield 7, 3) := by decide +kernel
theorem dX3_dumb_18 : decode cX3_dumb 18 = .ok (.bipush 10, 2) := by decide +kernel
theorem dX3_dumb_20 : decode cX3_dumb 20 = .ok (.iload_n 1, 1) := by decide +kernel
theorem dX3_dumb_21 : decode cX3_dumb 21 = .ok (.iadd, 1) := by decide +kernel
theorem dX3_dumb_22 : decode cX3_dumb 22 = .ok (.iaload, 1) := by decide +kernel
theorem dX3_dumb_23 : decode cX3_dumb 23 = .ok (.invokevirtual 68, 3) := by decide +kernel
theorem dX3_dumb_26 : decode cX3_dumb 26 = .ok (.ifCond .ne 5, 3) := by decide +kernel
theorem dX3_dumb_29 : decode cX3_dumb 29 = .ok (.iload_n 1, 1) := by decide +kernel
theorem dX3_dumb_30 : decode cX3_dumb 30 = .ok (.ireturn, 1) := by decide +kernel
theorem dX3_dumb_31 : decode cX3_dumb 31 = .ok (.iinc 1 1, 3) := by decide +kernel
theorem dX3_dumb_34 : decode cX3_dumb 34 = .ok (.goto (-32), 3) := by decide +kernel
theorem dX3_dumb_37 : decode cX3_dumb 37 = .ok (.bipush (-6), 2) := by decide +kernel
theorem dX3_dumb_39 : decode cX3_dumb 39 = .ok (.ireturn, 1) := by decide +kernel
set_option maxRecDepth 20000 in
theorem ggX3_trillOf_X3_sounds : GoodIn wsX3_trillOf wsX3_sounds := goodIn_r _ [5, 6, 7, 8, 9, 4, 10, 11, 12, 13, 14, 15, 16, 17, 18, 19, 20, 21, 22, 23, 24, 25, 26, 27, 28, 29, 30, 31, 32, 33, 34, 39, 40, 41, 42, 43, 44, 45] (by decide +kernel) (by decide +kernel)
set_option maxRecDepth 20000 in
theorem gX3_trillOf_X3_sounds : GoodIn wsX3_trillOf (wsV RX3 64 RX3 yX3_sounds wsX3_sounds) := goodIn_app (goodIn_of _ (by decide +kernel)) ggX3_trillOf_X3_sounds
set_option maxRecDepth 20000 in
theorem ggX3_trillOf_X3_effortOf : GoodIn wsX3_trillOf wsX3_effortOf := goodIn_r _ [38, 6, 29, 30, 4, 31, 32, 33, 34, 39, 40, 41, 42, 43, 44, 45] (by decide +kernel) (by decide +kernel)
set_option maxRecDepth 20000 in
theorem gX3_trillOf_X3_effortOf : GoodIn wsX3_trillOf (wsV RX3 74 RX3 yX3_effortOf wsX3_effortOf) := goodIn_app (goodIn_of _ (by decide +kernel)) ggX3_trillOf_X3_effortOf
theorem dX3_trillOf_0 : decode cX3_trillOf 0 = .ok (.bipush (-6), 2) := by decide +kernel
theorem dX3_trillOf_2 : decode cX3_trillOf 2 = .ok (.istore_n 3, 1) := by decide +kernel
theorem dX3_trillOf_3 : decode cX3_trillOf 3 = .ok (.iconst 0, 1) := by decide +kernel
theorem dX3_trillOf_4 : decode cX3_trillOf 4 = .ok (.istore 4, 2) := by decide +kernel
theorem dX3_trillOf_6 : decode cX3_trillOf 6 = .ok (.iload 4, 2) := by decide +kernel
theorem dX3_trillOf_8 : decode cX3_trillOf 8 = .ok (.bipush 64, 2) := by decide +kernel
theorem dX3_trillOf_10 : decode cX3_trillOf 10 = .ok (.if_icmp .ge 72, 3) := by decide +kernel
theorem dX3_trillOf_13 : decode cX3_trillOf 13 = .ok (.iconst 0, 1) := by decide +kernel
theorem dX3_trillOf_14 : decode cX3_trillOf 14 = .ok (.istore 5, 2) := by decide +kernel
theorem dX3_trillOf_16 : decode cX3_trillOf 16 = .ok (.iload 5, 2) := by decide +kernel
theorem dX3_trillOf_18 : decode cX3_trillOf 18 = .ok (.bipush 64, 2) := by decide +kernel
theorem dX3_trillOf_20 : decode cX3_trillOf 20 = .ok (.if_icmp .ge 56, 3) := by decide +kernel
theorem dX3_trillOf_23 : decode cX3_trillOf 23 = .ok (.aload_n 0, 1) := by decide +kernel
theorem dX3_trillOf_24 : decode cX3_trillOf 24 = .ok (.iload 4, 2) := by decide +kernel
theorem dX3_trillOf_26 : decode cX3_trillOf 26 = .ok (.iload_n 1, 1) := by decide +kernel
theorem dX3_trillOf_27 : decode cX3_trillOf 27 = .ok (.invokevirtual 64, 3) := by decide +kernel
theorem dX3_trillOf_30 : decode cX3_trillOf 30 = .ok (.ifCond .eq 46, 3) := by decide +kernel
theorem dX3_trillOf_33 : decode cX3_trillOf 33 = .ok (.aload_n 0, 1) := by decide +kernel
theorem dX3_trillOf_34 : decode cX3_trillOf 34 = .ok (.iload 5, 2) := by decide +kernel
theorem dX3_trillOf_36 : decode cX3_trillOf 36 = .ok (.iload_n 2, 1) := by decide +kernel
theorem dX3_trillOf_37 : decode cX3_trillOf 37 = .ok (.invokevirtual 64, 3) := by decide +kernel
theorem dX3_trillOf_40 : decode cX3_trillOf 40 = .ok (.ifCond .eq 30, 3) := by decide +kernel
theorem dX3_trillOf_43 : decode cX3_trillOf 43 = .ok (.aload_n 0, 1) := by decide +kernel
theorem dX3_trillOf_44 : decode cX3_trillOf 44 = .ok (.iload 4, 2) := by decide +kernel
theorem dX3_trillOf_46 : decode cX3_trillOf 46 = .ok (.iload 5, 2) := by decide +kernel
theorem dX3_trillOf_48 : decode cX3_trillOf 48 = .ok (.invokevirtual 74, 3) := by decide +kernel
theorem dX3_trillOf_51 : decode cX3_trillOf 51 = .ok (.istore 6, 2) := by decide +kernel
theorem dX3_trillOf_53 : decode cX3_trillOf 53 = .ok (.iload_n 3, 1) := by decide +kernel
theorem dX3_trillOf_54 : decode cX3_trillOf 54 = .ok (.ifCond .lt 9, 3) := by decide +kernel
theorem dX3_trillOf_57 : decode cX3_trillOf 57 = .ok (.iload 6, 2) := by decide +kernel
theorem dX3_trillOf_59 : decode cX3_trillOf 59 = .ok (.iload_n 3, 1) := by decide +kernel
theorem dX3_trillOf_60 : decode cX3_trillOf 60 = .ok (.if_icmp .ge 8, 3) := by decide +kernel
theorem dX3_trillOf_63 : decode cX3_trillOf 63 = .ok (.iload 6, 2) := by decide +kernel
theorem dX3_trillOf_65 : decode cX3_trillOf 65 = .ok (.goto 4, 3) := by decide +kernel
theorem dX3_trillOf_68 : decode cX3_trillOf 68 = .ok (.iload_n 3, 1) := by decide +kernel
theorem dX3_trillOf_69 : decode cX3_trillOf 69 = .ok (.istore_n 3, 1) := by decide +kernel
theorem dX3_trillOf_70 : decode cX3_trillOf 70 = .ok (.iinc 5 1, 3) := by decide +kernel
theorem dX3_trillOf_73 : decode cX3_trillOf 73 = .ok (.goto (-57), 3) := by decide +kernel
theorem dX3_trillOf_76 : decode cX3_trillOf 76 = .ok (.iinc 4 1, 3) := by decide +kernel
theorem dX3_trillOf_79 : decode cX3_trillOf 79 = .ok (.goto (-73), 3) := by decide +kernel
theorem dX3_trillOf_82 : decode cX3_trillOf 82 = .ok (.iload_n 3, 1) := by decide +kernel
theorem dX3_trillOf_83 : decode cX3_trillOf 83 = .ok (.ireturn, 1) := by decide +kernel
set_option maxRecDepth 20000 in
theorem ggX3_trill_X3_isNote : GoodIn wsX3_trill wsX3_isNote := goodIn_r _ [4, 5, 6, 3, 7] (by decide +kernel) (by decide +kernel)
set_option maxRecDepth 20000 in
theorem gX3_trill_X3_isNote : GoodIn wsX3_trill (va_wsS RX3 61 yX3_isNote wsX3_isNote) := goodIn_app (goodIn_of _ (by decide +kernel)) ggX3_trill_X3_isNote
set_option maxRecDepth 20000 in
theorem ggX3_trill_X3_trillOf : GoodIn wsX3_trill wsX3_trillOf := goodIn_r _ [11, 12, 13, 14, 3, 15, 16, 17, 18, 19, 20, 5, 6, 7, 21, 22, 23, 24, 25, 26, 27, 28, 29, 30, 31, 32, 33, 34, 35, 36, 37, 38, 39, 40, 41, 42, 43, 44, 45, 46, 47, 48, 49, 50, 51, 52] (by decide +kernel) (by decide +kernel)
set_option maxRecDepth 20000 in
theorem gX3_trill_X3_trillOf : GoodIn wsX3_trill (wsV RX3 114 RX3 yX3_trillOf wsX3_trillOf) := goodIn_app (goodIn_of _ (by decide +kernel)) ggX3_trill_X3_trillOf
theorem dX3_trill_0 : decode cX3_trill 0 = .ok (.iload_n 1, 1) := by decide +kernel
theorem dX3_trill_1 : decode cX3_trill 1 = .ok (.invokestatic 61, 3) := by decide +kernel
theorem dX3_trill_4 : decode cX3_trill 4 = .ok (.ifCond .eq 19, 3) := by decide +kernel
theorem dX3_trill_7 : decode cX3_trill 7 = .ok (.iload_n 2, 1) := by decide +kernel
theorem dX3_trill_8 : decode cX3_trill 8 = .ok (.invokestatic 61, 3) := by decide +kernel
theorem dX3_trill_11 : decode cX3_trill 11 = .ok (.ifCond .eq 12, 3) := by decide +kernel
theorem dX3_trill_14 : decode cX3_trill 14 = .ok (.aload_n 0, 1) := by decide +kernel
theorem dX3_trill_15 : decode cX3_trill 15 = .ok (.iload_n 1, 1) := by decide +kernel
theorem dX3_trill_16 : decode cX3_trill 16 = .ok (.iload_n 2, 1) := by decide +kernel
theorem dX3_trill_17 : decode cX3_trill 17 = .ok (.invokevirtual 114, 3) := by decide +kernel
theorem dX3_trill_20 : decode cX3_trill 20 = .ok (.goto 5, 3) := by decide +kernel
theorem dX3_trill_23 : decode cX3_trill 23 = .ok (.bipush (-2), 2) := by decide +kernel
theorem dX3_trill_25 : decode cX3_trill 25 = .ok (.ireturn, 1) := by decide +kernel
set_option maxRecDepth 20000 in
theorem ggX3_awkward_X3_in : GoodIn wsX3_awkward wsX3_in := goodIn_r _ [4] (by decide +kernel) (by decide +kernel)
set_option maxRecDepth 20000 in
theorem gX3_awkward_X3_in : GoodIn wsX3_awkward (va_wsS RX3 33 yX3_in wsX3_in) := goodIn_app (goodIn_of _ (by decide +kernel)) ggX3_awkward_X3_in
set_option maxRecDepth 20000 in
theorem ggX3_awkward_X3_trillOf : GoodIn wsX3_awkward wsX3_trillOf := goodIn_r _ [8, 9, 10, 11, 3, 12, 13, 14, 15, 16, 17, 1, 2, 4, 18, 19, 20, 21, 22, 23, 24, 25, 26, 27, 28, 29, 30, 31, 32, 33, 34, 35, 36, 37, 38, 39, 40, 41, 42, 43, 44, 45, 46, 47, 48, 49] (by decide +kernel) (by decide +kernel)
set_option maxRecDepth 20000 in
theorem gX3_awkward_X3_trillOf : GoodIn wsX3_awkward (wsV RX3 114 RX3 yX3_trillOf wsX3_trillOf) := goodIn_app (goodIn_of _ (by decide +kernel)) ggX3_awkward_X3_trillOf
theorem dX3_awkward_0 : decode cX3_awkward 0 = .ok (.iload_n 1, 1) := by decide +kernel
theorem dX3_awkward_1 : decode cX3_awkward 1 = .ok (.iconst 1, 1) := by decide +kernel
theorem dX3_awkward_2 : decode cX3_awkward 2 = .ok (.bipush 12, 2) := by decide +kernel
theorem dX3_awkward_4 : decode cX3_awkward 4 = .ok (.invokestatic 33, 3) := by decide +kernel
theorem dX3_awkward_7 : decode cX3_awkward 7 = .ok (.ifCond .eq 13, 3) := by decide +kernel
theorem dX3_awkward_10 : decode cX3_awkward 10 = .ok (.iload_n 2, 1) := by decide +kernel
theorem dX3_awkward_11 : decode cX3_awkward 11 = .ok (.iconst 0, 1) := by decide +kernel
theorem dX3_awkward_12 : decode cX3_awkward 12 = .ok (.bipush 99, 2) := by decide +kernel
theorem dX3_awkward_14 : decode cX3_awkward 14 = .ok (.invokestatic 33, 3) := by decide +kernel
theorem dX3_awkward_17 : decode cX3_awkward 17 = .ok (.ifCond .ne 6, 3) := by decide +kernel
theorem dX3_awkward_20 : decode cX3_awkward 20 = .ok (.bipush (-2), 2) := by decide +kernel
theorem dX3_awkward_22 : decode cX3_awkward 22 = .ok (.ireturn, 1) := by decide +kernel
theorem dX3_awkward_23 : decode cX3_awkward 23 = .ok (.iconst 0, 1) := by decide +kernel
theorem dX3_awkward_24 : decode cX3_awkward 24 = .ok (.istore_n 3, 1) := by decide +kernel
theorem dX3_awkward_25 : decode cX3_awkward 25 = .ok (.iconst 0, 1) := by decide +kernel
theorem dX3_awkward_26 : decode cX3_awkward 26 = .ok (.istore 4, 2) := by decide +kernel
theorem dX3_awkward_28 : decode cX3_awkward 28 = .ok (.iload 4, 2) := by decide +kernel
theorem dX3_awkward_30 : decode cX3_awkward 30 = .ok (.iload_n 1, 1) := by decide +kernel
theorem dX3_awkward_31 : decode cX3_awkward 31 = .ok (.iadd, 1) := by decide +kernel
theorem dX3_awkward_32 : decode cX3_awkward 32 = .ok (.bipush 37, 2) := by decide +kernel
theorem dX3_awkward_34 : decode cX3_awkward 34 = .ok (.if_icmp .ge 31, 3) := by decide +kernel
theorem dX3_awkward_37 : decode cX3_awkward 37 = .ok (.iload_n 3, 1) := by decide +kernel
theorem dX3_awkward_38 : decode cX3_awkward 38 = .ok (.aload_n 0, 1) := by decide +kernel
theorem dX3_awkward_39 : decode cX3_awkward 39 = .ok (.iload 4, 2) := by decide +kernel
theorem dX3_awkward_41 : decode cX3_awkward 41 = .ok (.iload 4, 2) := by decide +kernel
theorem dX3_awkward_43 : decode cX3_awkward 43 = .ok (.iload_n 1, 1) := by decide +kernel
theorem dX3_awkward_44 : decode cX3_awkward 44 = .ok (.iadd, 1) := by decide +kernel
theorem dX3_awkward_45 : decode cX3_awkward 45 = .ok (.invokevirtual 114, 3) := by decide +kernel
theorem dX3_awkward_48 : decode cX3_awkward 48 = .ok (.iload_n 2, 1) := by decide +kernel
theorem dX3_awkward_49 : decode cX3_awkward 49 = .ok (.if_icmp .le 7, 3) := by decide +kernel
theorem dX3_awkward_52 : decode cX3_awkward 52 = .ok (.iconst 1, 1) := by decide +kernel
theorem dX3_awkward_53 : decode cX3_awkward 53 = .ok (.goto 4, 3) := by decide +kernel
theorem dX3_awkward_56 : decode cX3_awkward 56 = .ok (.iconst 0, 1) := by decide +kernel
theorem dX3_awkward_57 : decode cX3_awkward 57 = .ok (.iadd, 1) := by decide +kernel
theorem dX3_awkward_58 : decode cX3_awkward 58 = .ok (.istore_n 3, 1) := by decide +kernel
theorem dX3_awkward_59 : decode cX3_awkward 59 = .ok (.iinc 4 1, 3) := by decide +kernel
theorem dX3_awkward_62 : decode cX3_awkward 62 = .ok (.goto (-34), 3) := by decide +kernel
theorem dX3_awkward_65 : decode cX3_awkward 65 = .ok (.iload_n 3, 1) := by decide +kernel
theorem dX3_awkward_66 : decode cX3_awkward 66 = .ok (.ireturn, 1) := by decide +kernel
set_option maxRecDepth 20000 in
theorem ggX3_offOfPart_X3_offOf : GoodIn wsX3_offOfPart wsX3_offOf := goodIn_r _ [6, 7, 8, 5, 9, 10, 11, 12, 13, 1, 14, 15, 16, 20, 21, 22, 23, 24, 25, 26] (by decide +kernel) (by decide +kernel)
set_option maxRecDepth 20000 in
theorem gX3_offOfPart_X3_offOf : GoodIn wsX3_offOfPart (wsV RX3 54 RX3 yX3_offOf wsX3_offOf) := goodIn_app (goodIn_of _ (by decide +kernel)) ggX3_offOfPart_X3_offOf
set_option maxRecDepth 20000 in
theorem ggX3_offOfPart_X3_size : GoodIn wsX3_offOfPart wsX3_size := goodIn_r _ [19] (by decide +kernel) (by decide +kernel)
set_option maxRecDepth 20000 in
theorem gX3_offOfPart_X3_size : GoodIn wsX3_offOfPart (va_wsS RX3 58 yX3_size wsX3_size) := goodIn_app (goodIn_of _ (by decide +kernel)) ggX3_offOfPart_X3_size
theorem dX3_offOfPart_0 : decode cX3_offOfPart 0 = .ok (.iconst 0, 1) := by decide +kernel
theorem dX3_offOfPart_1 : decode cX3_offOfPart 1 = .ok (.istore_n 1, 1) := by decide +kernel
theorem dX3_offOfPart_2 : decode cX3_offOfPart 2 = .ok (.iconst 0, 1) := by decide +kernel
theorem dX3_offOfPart_3 : decode cX3_offOfPart 3 = .ok (.istore_n 2, 1) := by decide +kernel
theorem dX3_offOfPart_4 : decode cX3_offOfPart 4 = .ok (.iload_n 2, 1) := by decide +kernel
theorem dX3_offOfPart_5 : decode cX3_offOfPart 5 = .ok (.aload_n 0, 1) := by decide +kernel
theorem dX3_offOfPart_6 : decode cX3_offOfPart 6 = .ok (.getfield 7, 3) := by decide +kernel
theorem dX3_offOfPart_9 : decode cX3_offOfPart 9 = .ok (.bipush 9, 2) := by decide +kernel
theorem dX3_offOfPart_11 : decode cX3_offOfPart 11 = .ok (.iaload, 1) := by decide +kernel
theorem dX3_offOfPart_12 : decode cX3_offOfPart 12 = .ok (.if_icmp .ge 69, 3) := by decide +kernel
theorem dX3_offOfPart_15 : decode cX3_offOfPart 15 = .ok (.bipush (-6), 2) := by decide +kernel
theorem dX3_offOfPart_17 : decode cX3_offOfPart 17 = .ok (.istore_n 3, 1) := by decide +kernel
theorem dX3_offOfPart_18 : decode cX3_offOfPart 18 = .ok (.iconst 0, 1) := by decide +kernel
theorem dX3_offOfPart_19 : decode cX3_offOfPart 19 = .ok (.istore 4, 2) := by decide +kernel
theorem dX3_offOfPart_21 : decode cX3_offOfPart 21 = .ok (.iload 4, 2) := by decide +kernel
theorem dX3_offOfPart_23 : decode cX3_offOfPart 23 = .ok (.bipush 64, 2) := by decide +kernel
theorem dX3_offOfPart_25 : decode cX3_offOfPart 25 = .ok (.if_icmp .ge 46, 3) := by decide +kernel
theorem dX3_offOfPart_28 : decode cX3_offOfPart 28 = .ok (.aload_n 0, 1) := by decide +kernel
theorem dX3_offOfPart_29 : decode cX3_offOfPart 29 = .ok (.iload 4, 2) := by decide +kernel
theorem dX3_offOfPart_31 : decode cX3_offOfPart 31 = .ok (.aload_n 0, 1) := by decide +kernel
theorem dX3_offOfPart_32 : decode cX3_offOfPart 32 = .ok (.getfield 7, 3) := by decide +kernel
theorem dX3_offOfPart_35 : decode cX3_offOfPart 35 = .ok (.bipush 10, 2) := by decide +kernel
theorem dX3_offOfPart_37 : decode cX3_offOfPart 37 = .ok (.iload_n 2, 1) := by decide +kernel
theorem dX3_offOfPart_38 : decode cX3_offOfPart 38 = .ok (.iadd, 1) := by decide +kernel
theorem dX3_offOfPart_39 : decode cX3_offOfPart 39 = .ok (.iaload, 1) := by decide +kernel
theorem dX3_offOfPart_40 : decode cX3_offOfPart 40 = .ok (.invokevirtual 54, 3) := by decide +kernel
theorem dX3_offOfPart_43 : decode cX3_offOfPart 43 = .ok (.invokestatic 58, 3) := by decide +kernel
theorem dX3_offOfPart_46 : decode cX3_offOfPart 46 = .ok (.istore 5, 2) := by decide +kernel
theorem dX3_offOfPart_48 : decode cX3_offOfPart 48 = .ok (.iload_n 3, 1) := by decide +kernel
theorem dX3_offOfPart_49 : decode cX3_offOfPart 49 = .ok (.ifCond .lt 9, 3) := by decide +kernel
theorem dX3_offOfPart_52 : decode cX3_offOfPart 52 = .ok (.iload 5, 2) := by decide +kernel
theorem dX3_offOfPart_54 : decode cX3_offOfPart 54 = .ok (.iload_n 3, 1) := by decide +kernel
theorem dX3_offOfPart_55 : decode cX3_offOfPart 55 = .ok (.if_icmp .ge 8, 3) := by decide +kernel
theorem dX3_offOfPart_58 : decode cX3_offOfPart 58 = .ok (.iload 5, 2) := by decide +kernel
theorem dX3_offOfPart_60 : decode cX3_offOfPart 60 = .ok (.goto 4, 3) := by decide +kernel
theorem dX3_offOfPart_63 : decode cX3_offOfPart 63 = .ok (.iload_n 3, 1) := by decide +kernel
theorem dX3_offOfPart_64 : decode cX3_offOfPart 64 = .ok (.istore_n 3, 1) := by decide +kernel
theorem dX3_offOfPart_65 : decode cX3_offOfPart 65 = .ok (.iinc 4 1, 3) := by decide +kernel
theorem dX3_offOfPart_68 : decode cX3_offOfPart 68 = .ok (.goto (-47), 3) := by decide +kernel
theorem dX3_offOfPart_71 : decode cX3_offOfPart 71 = .ok (.iload_n 1, 1) := by decide +kernel
theorem dX3_offOfPart_72 : decode cX3_offOfPart 72 = .ok (.iload_n 3, 1) := by decide +kernel
theorem dX3_offOfPart_73 : decode cX3_offOfPart 73 = .ok (.iadd, 1) := by decide +kernel
theorem dX3_offOfPart_74 : decode cX3_offOfPart 74 = .ok (.istore_n 1, 1) := by decide +kernel
theorem dX3_offOfPart_75 : decode cX3_offOfPart 75 = .ok (.iinc 2 1, 3) := by decide +kernel
theorem dX3_offOfPart_78 : decode cX3_offOfPart 78 = .ok (.goto (-74), 3) := by decide +kernel
theorem dX3_offOfPart_81 : decode cX3_offOfPart 81 = .ok (.iload_n 1, 1) := by decide +kernel
theorem dX3_offOfPart_82 : decode cX3_offOfPart 82 = .ok (.ireturn, 1) := by decide +kernel
set_option maxRecDepth 20000 in
theorem ggX3_tune_X3_in : GoodIn wsX3_tune wsX3_in := goodIn_r _ [5] (by decide +kernel) (by decide +kernel)
set_option maxRecDepth 20000 in
theorem gX3_tune_X3_in : GoodIn wsX3_tune (va_wsS RX3 33 yX3_in wsX3_in) := goodIn_app (goodIn_of _ (by decide +kernel)) ggX3_tune_X3_in
set_option maxRecDepth 20000 in
theorem ggX3_tune_X3_offOfPart : GoodIn wsX3_tune wsX3_offOfPart := goodIn_r _ [9, 1, 10, 11, 12, 4, 13, 14, 15, 16, 17, 18, 19, 20, 21, 22, 23, 24, 25, 26, 27, 28, 29, 30, 31, 32, 33] (by decide +kernel) (by decide +kernel)
set_option maxRecDepth 20000 in
theorem gX3_tune_X3_offOfPart : GoodIn wsX3_tune (wsV RX3 117 RX3 yX3_offOfPart wsX3_offOfPart) := goodIn_app (goodIn_of _ (by decide +kernel)) ggX3_tune_X3_offOfPart
theorem dX3_tune_0 : decode cX3_tune 0 = .ok (.iload_n 1, 1) := by decide +kernel
theorem dX3_tune_1 : decode cX3_tune 1 = .ok (.iconst 0, 1) := by decide +kernel
theorem dX3_tune_2 : decode cX3_tune 2 = .ok (.iconst 2, 1) := by decide +kernel
theorem dX3_tune_3 : decode cX3_tune 3 = .ok (.invokestatic 33, 3) := by decide +kernel
theorem dX3_tune_6 : decode cX3_tune 6 = .ok (.ifCond .ne 5, 3) := by decide +kernel
theorem dX3_tune_9 : decode cX3_tune 9 = .ok (.iconst (-1), 1) := by decide +kernel
theorem dX3_tune_10 : decode cX3_tune 10 = .ok (.ireturn, 1) := by decide +kernel
theorem dX3_tune_11 : decode cX3_tune 11 = .ok (.iload_n 2, 1) := by decide +kernel
theorem dX3_tune_12 : decode cX3_tune 12 = .ok (.iconst 0, 1) := by decide +kernel
theorem dX3_tune_13 : decode cX3_tune 13 = .ok (.iconst 1, 1) := by decide +kernel
theorem dX3_tune_14 : decode cX3_tune 14 = .ok (.invokestatic 33, 3) := by decide +kernel
theorem dX3_tune_17 : decode cX3_tune 17 = .ok (.ifCond .ne 6, 3) := by decide +kernel
theorem dX3_tune_20 : decode cX3_tune 20 = .ok (.bipush (-2), 2) := by decide +kernel
theorem dX3_tune_22 : decode cX3_tune 22 = .ok (.ireturn, 1) := by decide +kernel
theorem dX3_tune_23 : decode cX3_tune 23 = .ok (.aload_n 0, 1) := by decide +kernel
theorem dX3_tune_24 : decode cX3_tune 24 = .ok (.getfield 7, 3) := by decide +kernel
theorem dX3_tune_27 : decode cX3_tune 27 = .ok (.iconst 0, 1) := by decide +kernel
theorem dX3_tune_28 : decode cX3_tune 28 = .ok (.iaload, 1) := by decide +kernel
theorem dX3_tune_29 : decode cX3_tune 29 = .ok (.iconst 1, 1) := by decide +kernel
theorem dX3_tune_30 : decode cX3_tune 30 = .ok (.if_icmp .ne 6, 3) := by decide +kernel
theorem dX3_tune_33 : decode cX3_tune 33 = .ok (.bipush (-3), 2) := by decide +kernel
theorem dX3_tune_35 : decode cX3_tune 35 = .ok (.ireturn, 1) := by decide +kernel
theorem dX3_tune_36 : decode cX3_tune 36 = .ok (.aload_n 0, 1) := by decide +kernel
theorem dX3_tune_37 : decode cX3_tune 37 = .ok (.getfield 7, 3) := by decide +kernel
theorem dX3_tune_40 : decode cX3_tune 40 = .ok (.iconst 1, 1) := by decide +kernel
theorem dX3_tune_41 : decode cX3_tune 41 = .ok (.iload_n 1, 1) := by decide +kernel
theorem dX3_tune_42 : decode cX3_tune 42 = .ok (.iadd, 1) := by decide +kernel
theorem dX3_tune_43 : decode cX3_tune 43 = .ok (.iaload, 1) := by decide +kernel
theorem dX3_tune_44 : decode cX3_tune 44 = .ok (.istore_n 3, 1) := by decide +kernel
theorem dX3_tune_45 : decode cX3_tune 45 = .ok (.bipush (-6), 2) := by decide +kernel
theorem dX3_tune_47 : decode cX3_tune 47 = .ok (.istore 4, 2) := by decide +kernel
theorem dX3_tune_49 : decode cX3_tune 49 = .ok (.iconst 0, 1) := by decide +kernel
theorem dX3_tune_50 : decode cX3_tune 50 = .ok (.istore 5, 2) := by decide +kernel
theorem dX3_tune_52 : decode cX3_tune 52 = .ok (.iconst 0, 1) := by decide +kernel
theorem dX3_tune_53 : decode cX3_tune 53 = .ok (.istore 6, 2) := by decide +kernel
theorem dX3_tune_55 : decode cX3_tune 55 = .ok (.iload 6, 2) := by decide +kernel
theorem dX3_tune_57 : decode cX3_tune 57 = .ok (.sipush 400, 3) := by decide +kernel
theorem dX3_tune_60 : decode cX3_tune 60 = .ok (.if_icmp .gt 45, 3) := by decide +kernel
theorem dX3_tune_63 : decode cX3_tune 63 = .ok (.aload_n 0, 1) := by decide +kernel
theorem dX3_tune_64 : decode cX3_tune 64 = .ok (.getfield 7, 3) := by decide +kernel
theorem dX3_tune_67 : decode cX3_tune 67 = .ok (.iconst 1, 1) := by decide +kernel
theorem dX3_tune_68 : decode cX3_tune 68 = .ok (.iload_n 1, 1) := by decide +kernel
theorem dX3_tune_69 : decode cX3_tune 69 = .ok (.iadd, 1) := by decide +kernel
theorem dX3_tune_70 : decode cX3_tune 70 = .ok (.iload 6, 2) := by decide +kernel
theorem dX3_tune_72 : decode cX3_tune 72 = .ok (.iastore, 1) := by decide +kernel
theorem dX3_tune_73 : decode cX3_tune 73 = .ok (.aload_n 0, 1) := by decide +kernel
theorem dX3_tune_74 : decode cX3_tune 74 = .ok (.invokevirtual 117, 3) := by decide +kernel
theorem dX3_tune_77 : decode cX3_tune 77 = .ok (.istore 7, 2) := by decide +kernel
theorem dX3_tune_79 : decode cX3_tune 79 = .ok (.iload 4, 2) := by decide +kernel
theorem dX3_tune_81 : decode cX3_tune 81 = .ok (.ifCond .lt 10, 3) := by decide +kernel
theorem dX3_tune_84 : decode cX3_tune 84 = .ok (.iload 7, 2) := by decide +kernel
theorem dX3_tune_86 : decode cX3_tune 86 = .ok (.iload 5, 2) := by decide +kernel
theorem dX3_tune_88 : decode cX3_tune 88 = .ok (.if_icmp .ge 11, 3) := by decide +kernel
theorem dX3_tune_91 : decode cX3_tune 91 = .ok (.iload 6, 2) := by decide +kernel
theorem dX3_tune_93 : decode cX3_tune 93 = .ok (.istore 4, 2) := by decide +kernel
theorem dX3_tune_95 : decode cX3_tune 95 = .ok (.iload 7, 2) := by decide +kernel
theorem dX3_tune_97 : decode cX3_tune 97 = .ok (.istore 5, 2) := by decide +kernel
theorem dX3_tune_99 : decode cX3_tune 99 = .ok (.iinc 6 5, 3) := by decide +kernel
theorem dX3_tune_102 : decode cX3_tune 102 = .ok (.goto (-47), 3) := by decide +kernel
theorem dX3_tune_105 : decode cX3_tune 105 = .ok (.aload_n 0, 1) := by decide +kernel
theorem dX3_tune_106 : decode cX3_tune 106 = .ok (.getfield 7, 3) := by decide +kernel
theorem dX3_tune_109 : decode cX3_tune 109 = .ok (.iconst 1, 1) := by decide +kernel
theorem dX3_tune_110 : decode cX3_tune 110 = .ok (.iload_n 1, 1) := by decide +kernel
theorem dX3_tune_111 : decode cX3_tune 111 = .ok (.iadd, 1) := by decide +kernel
theorem dX3_tune_112 : decode cX3_tune 112 = .ok (.iload_n 3, 1) := by decide +kernel
theorem dX3_tune_113 : decode cX3_tune 113 = .ok (.iastore, 1) := by decide +kernel
theorem dX3_tune_114 : decode cX3_tune 114 = .ok (.iload_n 2, 1) := by decide +kernel
theorem dX3_tune_115 : decode cX3_tune 115 = .ok (.ifCond .ne 8, 3) := by decide +kernel
theorem dX3_tune_118 : decode cX3_tune 118 = .ok (.iload 4, 2) := by decide +kernel
theorem dX3_tune_120 : decode cX3_tune 120 = .ok (.goto 5, 3) := by decide +kernel
theorem dX3_tune_123 : decode cX3_tune 123 = .ok (.iload 5, 2) := by decide +kernel
theorem dX3_tune_125 : decode cX3_tune 125 = .ok (.ireturn, 1) := by decide +kernel
set_option maxRecDepth 20000 in
theorem ggX3_image_X3_in : GoodIn wsX3_image wsX3_in := goodIn_r _ [7] (by decide +kernel) (by decide +kernel)
set_option maxRecDepth 20000 in
theorem gX3_image_X3_in : GoodIn wsX3_image (va_wsS RX3 33 yX3_in wsX3_in) := goodIn_app (goodIn_of _ (by decide +kernel)) ggX3_image_X3_in
theorem dX3_image_0 : decode cX3_image 0 = .ok (.iload_n 1, 1) := by decide +kernel
theorem dX3_image_1 : decode cX3_image 1 = .ok (.iconst 0, 1) := by decide +kernel
theorem dX3_image_2 : decode cX3_image 2 = .ok (.iconst 1, 1) := by decide +kernel
theorem dX3_image_3 : decode cX3_image 3 = .ok (.invokestatic 33, 3) := by decide +kernel
theorem dX3_image_6 : decode cX3_image 6 = .ok (.ifCond .ne 6, 3) := by decide +kernel
theorem dX3_image_9 : decode cX3_image 9 = .ok (.bipush (-2), 2) := by decide +kernel
theorem dX3_image_11 : decode cX3_image 11 = .ok (.ireturn, 1) := by decide +kernel
theorem dX3_image_12 : decode cX3_image 12 = .ok (.iconst 0, 1) := by decide +kernel
theorem dX3_image_13 : decode cX3_image 13 = .ok (.istore_n 2, 1) := by decide +kernel
theorem dX3_image_14 : decode cX3_image 14 = .ok (.iload_n 2, 1) := by decide +kernel
theorem dX3_image_15 : decode cX3_image 15 = .ok (.bipush 22, 2) := by decide +kernel
theorem dX3_image_17 : decode cX3_image 17 = .ok (.if_icmp .ge 26, 3) := by decide +kernel
theorem dX3_image_20 : decode cX3_image 20 = .ok (.aload_n 0, 1) := by decide +kernel
theorem dX3_image_21 : decode cX3_image 21 = .ok (.getfield 13, 3) := by decide +kernel
theorem dX3_image_24 : decode cX3_image 24 = .ok (.bipush 22, 2) := by decide +kernel
theorem dX3_image_26 : decode cX3_image 26 = .ok (.iload_n 1, 1) := by decide +kernel
theorem dX3_image_27 : decode cX3_image 27 = .ok (.imul, 1) := by decide +kernel
theorem dX3_image_28 : decode cX3_image 28 = .ok (.iload_n 2, 1) := by decide +kernel
theorem dX3_image_29 : decode cX3_image 29 = .ok (.iadd, 1) := by decide +kernel
theorem dX3_image_30 : decode cX3_image 30 = .ok (.aload_n 0, 1) := by decide +kernel
theorem dX3_image_31 : decode cX3_image 31 = .ok (.getfield 7, 3) := by decide +kernel
theorem dX3_image_34 : decode cX3_image 34 = .ok (.iload_n 2, 1) := by decide +kernel
theorem dX3_image_35 : decode cX3_image 35 = .ok (.iaload, 1) := by decide +kernel
theorem dX3_image_36 : decode cX3_image 36 = .ok (.iastore, 1) := by decide +kernel
theorem dX3_image_37 : decode cX3_image 37 = .ok (.iinc 2 1, 3) := by decide +kernel
theorem dX3_image_40 : decode cX3_image 40 = .ok (.goto (-26), 3) := by decide +kernel
theorem dX3_image_43 : decode cX3_image 43 = .ok (.aload_n 0, 1) := by decide +kernel
theorem dX3_image_44 : decode cX3_image 44 = .ok (.getfield 16, 3) := by decide +kernel
theorem dX3_image_47 : decode cX3_image 47 = .ok (.iload_n 1, 1) := by decide +kernel
theorem dX3_image_48 : decode cX3_image 48 = .ok (.iconst 1, 1) := by decide +kernel
theorem dX3_image_49 : decode cX3_image 49 = .ok (.bastore, 1) := by decide +kernel
theorem dX3_image_50 : decode cX3_image 50 = .ok (.iconst 1, 1) := by decide +kernel
theorem dX3_image_51 : decode cX3_image 51 = .ok (.ireturn, 1) := by decide +kernel
set_option maxRecDepth 20000 in
theorem ggX3_restore_X3_in : GoodIn wsX3_restore wsX3_in := goodIn_r _ [7] (by decide +kernel) (by decide +kernel)
set_option maxRecDepth 20000 in
theorem gX3_restore_X3_in : GoodIn wsX3_restore (va_wsS RX3 33 yX3_in wsX3_in) := goodIn_app (goodIn_of _ (by decide +kernel)) ggX3_restore_X3_in
theorem dX3_restore_0 : decode cX3_restore 0 = .ok (.iload_n 1, 1) := by decide +kernel
theorem dX3_restore_1 : decode cX3_restore 1 = .ok (.iconst 0, 1) := by decide +kernel
theorem dX3_restore_2 : decode cX3_restore 2 = .ok (.iconst 1, 1) := by decide +kernel
theorem dX3_restore_3 : decode cX3_restore 3 = .ok (.invokestatic 33, 3) := by decide +kernel
theorem dX3_restore_6 : decode cX3_restore 6 = .ok (.ifCond .ne 6, 3) := by decide +kernel
theorem dX3_restore_9 : decode cX3_restore 9 = .ok (.bipush (-2), 2) := by decide +kernel
theorem dX3_restore_11 : decode cX3_restore 11 = .ok (.ireturn, 1) := by decide +kernel
theorem dX3_restore_12 : decode cX3_restore 12 = .ok (.aload_n 0, 1) := by decide +kernel
theorem dX3_restore_13 : decode cX3_restore 13 = .ok (.getfield 16, 3) := by decide +kernel
theorem dX3_restore_16 : decode cX3_restore 16 = .ok (.iload_n 1, 1) := by decide +kernel
theorem dX3_restore_17 : decode cX3_restore 17 = .ok (.baload, 1) := by decide +kernel
theorem dX3_restore_18 : decode cX3_restore 18 = .ok (.ifCond .ne 6, 3) := by decide +kernel
theorem dX3_restore_21 : decode cX3_restore 21 = .ok (.bipush (-3), 2) := by decide +kernel
theorem dX3_restore_23 : decode cX3_restore 23 = .ok (.ireturn, 1) := by decide +kernel
theorem dX3_restore_24 : decode cX3_restore 24 = .ok (.iconst 0, 1) := by decide +kernel
theorem dX3_restore_25 : decode cX3_restore 25 = .ok (.istore_n 2, 1) := by decide +kernel
theorem dX3_restore_26 : decode cX3_restore 26 = .ok (.iload_n 2, 1) := by decide +kernel
theorem dX3_restore_27 : decode cX3_restore 27 = .ok (.bipush 22, 2) := by decide +kernel
theorem dX3_restore_29 : decode cX3_restore 29 = .ok (.if_icmp .ge 26, 3) := by decide +kernel
theorem dX3_restore_32 : decode cX3_restore 32 = .ok (.aload_n 0, 1) := by decide +kernel
theorem dX3_restore_33 : decode cX3_restore 33 = .ok (.getfield 7, 3) := by decide +kernel
theorem dX3_restore_36 : decode cX3_restore 36 = .ok (.iload_n 2, 1) := by decide +kernel
theorem dX3_restore_37 : decode cX3_restore 37 = .ok (.aload_n 0, 1) := by decide +kernel
theorem dX3_restore_38 : decode cX3_restore 38 = .ok (.getfield 13, 3) := by decide +kernel
theorem dX3_restore_41 : decode cX3_restore 41 = .ok (.bipush 22, 2) := by decide +kernel
theorem dX3_restore_43 : decode cX3_restore 43 = .ok (.iload_n 1, 1) := by decide +kernel
theorem dX3_restore_44 : decode cX3_restore 44 = .ok (.imul, 1) := by decide +kernel
theorem dX3_restore_45 : decode cX3_restore 45 = .ok (.iload_n 2, 1) := by decide +kernel
theorem dX3_restore_46 : decode cX3_restore 46 = .ok (.iadd, 1) := by decide +kernel
theorem dX3_restore_47 : decode cX3_restore 47 = .ok (.iaload, 1) := by decide +kernel
theorem dX3_restore_48 : decode cX3_restore 48 = .ok (.iastore, 1) := by decide +kernel
theorem dX3_restore_49 : decode cX3_restore 49 = .ok (.iinc 2 1, 3) := by decide +kernel
theorem dX3_restore_52 : decode cX3_restore 52 = .ok (.goto (-26), 3) := by decide +kernel
theorem dX3_restore_55 : decode cX3_restore 55 = .ok (.iconst 1, 1) := by decide +kernel
theorem dX3_restore_56 : decode cX3_restore 56 = .ok (.ireturn, 1) := by decide +kernel
set_option maxRecDepth 20000 in
theorem ggX3_count_X3_in : GoodIn wsX3_count wsX3_in := goodIn_r _ [6] (by decide +kernel) (by decide +kernel)
set_option maxRecDepth 20000 in
theorem gX3_count_X3_in : GoodIn wsX3_count (va_wsS RX3 33 yX3_in wsX3_in) := goodIn_app (goodIn_of _ (by decide +kernel)) ggX3_count_X3_in
set_option maxRecDepth 20000 in
theorem ggX3_count_X3_isPlace : GoodIn wsX3_count wsX3_isPlace := goodIn_r _ [10, 1, 3, 4, 5, 6, 11, 12, 13, 14, 15, 16, 17] (by decide +kernel) (by decide +kernel)
set_option maxRecDepth 20000 in
theorem gX3_count_X3_isPlace : GoodIn wsX3_count (wsV RX3 71 RX3 yX3_isPlace wsX3_isPlace) := goodIn_app (goodIn_of _ (by decide +kernel)) ggX3_count_X3_isPlace
theorem dX3_count_0 : decode cX3_count 0 = .ok (.iload_n 1, 1) := by decide +kernel
theorem dX3_count_1 : decode cX3_count 1 = .ok (.bipush 10, 2) := by decide +kernel
theorem dX3_count_3 : decode cX3_count 3 = .ok (.bipush 14, 2) := by decide +kernel
theorem dX3_count_5 : decode cX3_count 5 = .ok (.invokestatic 33, 3) := by decide +kernel
theorem dX3_count_8 : decode cX3_count 8 = .ok (.ifCond .eq 15, 3) := by decide +kernel
theorem dX3_count_11 : decode cX3_count 11 = .ok (.aload_n 0, 1) := by decide +kernel
theorem dX3_count_12 : decode cX3_count 12 = .ok (.getfield 7, 3) := by decide +kernel
theorem dX3_count_15 : decode cX3_count 15 = .ok (.iconst 4, 1) := by decide +kernel
theorem dX3_count_16 : decode cX3_count 16 = .ok (.iload_n 1, 1) := by decide +kernel
theorem dX3_count_17 : decode cX3_count 17 = .ok (.iadd, 1) := by decide +kernel
theorem dX3_count_18 : decode cX3_count 18 = .ok (.bipush 10, 2) := by decide +kernel
theorem dX3_count_20 : decode cX3_count 20 = .ok (.isub, 1) := by decide +kernel
theorem dX3_count_21 : decode cX3_count 21 = .ok (.iaload, 1) := by decide +kernel
theorem dX3_count_22 : decode cX3_count 22 = .ok (.ireturn, 1) := by decide +kernel
theorem dX3_count_23 : decode cX3_count 23 = .ok (.iload_n 1, 1) := by decide +kernel
theorem dX3_count_24 : decode cX3_count 24 = .ok (.bipush 20, 2) := by decide +kernel
theorem dX3_count_26 : decode cX3_count 26 = .ok (.bipush 22, 2) := by decide +kernel
theorem dX3_count_28 : decode cX3_count 28 = .ok (.invokestatic 33, 3) := by decide +kernel
theorem dX3_count_31 : decode cX3_count 31 = .ok (.ifCond .eq 15, 3) := by decide +kernel
theorem dX3_count_34 : decode cX3_count 34 = .ok (.aload_n 0, 1) := by decide +kernel
theorem dX3_count_35 : decode cX3_count 35 = .ok (.getfield 7, 3) := by decide +kernel
theorem dX3_count_38 : decode cX3_count 38 = .ok (.iconst 1, 1) := by decide +kernel
theorem dX3_count_39 : decode cX3_count 39 = .ok (.iload_n 1, 1) := by decide +kernel
theorem dX3_count_40 : decode cX3_count 40 = .ok (.iadd, 1) := by decide +kernel
theorem dX3_count_41 : decode cX3_count 41 = .ok (.bipush 20, 2) := by decide +kernel
theorem dX3_count_43 : decode cX3_count 43 = .ok (.isub, 1) := by decide +kernel
theorem dX3_count_44 : decode cX3_count 44 = .ok (.iaload, 1) := by decide +kernel
theorem dX3_count_45 : decode cX3_count 45 = .ok (.ireturn, 1) := by decide +kernel
theorem dX3_count_46 : decode cX3_count 46 = .ok (.iload_n 1, 1) := by decide +kernel
theorem dX3_count_47 : decode cX3_count 47 = .ok (.bipush 30, 2) := by decide +kernel
theorem dX3_count_49 : decode cX3_count 49 = .ok (.bipush 41, 2) := by decide +kernel
theorem dX3_count_51 : decode cX3_count 51 = .ok (.invokestatic 33, 3) := by decide +kernel
theorem dX3_count_54 : decode cX3_count 54 = .ok (.ifCond .eq 32, 3) := by decide +kernel
theorem dX3_count_57 : decode cX3_count 57 = .ok (.aload_n 0, 1) := by decide +kernel
theorem dX3_count_58 : decode cX3_count 58 = .ok (.iload_n 1, 1) := by decide +kernel
theorem dX3_count_59 : decode cX3_count 59 = .ok (.bipush 30, 2) := by decide +kernel
theorem dX3_count_61 : decode cX3_count 61 = .ok (.isub, 1) := by decide +kernel
theorem dX3_count_62 : decode cX3_count 62 = .ok (.invokevirtual 71, 3) := by decide +kernel
theorem dX3_count_65 : decode cX3_count 65 = .ok (.ifCond .eq 18, 3) := by decide +kernel
theorem dX3_count_68 : decode cX3_count 68 = .ok (.aload_n 0, 1) := by decide +kernel
theorem dX3_count_69 : decode cX3_count 69 = .ok (.getfield 7, 3) := by decide +kernel
theorem dX3_count_72 : decode cX3_count 72 = .ok (.bipush 10, 2) := by decide +kernel
theorem dX3_count_74 : decode cX3_count 74 = .ok (.iload_n 1, 1) := by decide +kernel
theorem dX3_count_75 : decode cX3_count 75 = .ok (.iadd, 1) := by decide +kernel
theorem dX3_count_76 : decode cX3_count 76 = .ok (.bipush 30, 2) := by decide +kernel
theorem dX3_count_78 : decode cX3_count 78 = .ok (.isub, 1) := by decide +kernel
theorem dX3_count_79 : decode cX3_count 79 = .ok (.iaload, 1) := by decide +kernel
theorem dX3_count_80 : decode cX3_count 80 = .ok (.goto 5, 3) := by decide +kernel
theorem dX3_count_83 : decode cX3_count 83 = .ok (.bipush (-6), 2) := by decide +kernel
theorem dX3_count_85 : decode cX3_count 85 = .ok (.ireturn, 1) := by decide +kernel
theorem dX3_count_86 : decode cX3_count 86 = .ok (.iload_n 1, 1) := by decide +kernel
theorem dX3_count_87 : decode cX3_count 87 = .ok (.tableswitch 70 0 2 #[25, 32, 40], 25) := by decide +kernel
theorem dX3_count_112 : decode cX3_count 112 = .ok (.aload_n 0, 1) := by decide +kernel
theorem dX3_count_113 : decode cX3_count 113 = .ok (.getfield 7, 3) := by decide +kernel
theorem dX3_count_116 : decode cX3_count 116 = .ok (.iconst 0, 1) := by decide +kernel
theorem dX3_count_117 : decode cX3_count 117 = .ok (.iaload, 1) := by decide +kernel
theorem dX3_count_118 : decode cX3_count 118 = .ok (.ireturn, 1) := by decide +kernel
theorem dX3_count_119 : decode cX3_count 119 = .ok (.aload_n 0, 1) := by decide +kernel
theorem dX3_count_120 : decode cX3_count 120 = .ok (.getfield 7, 3) := by decide +kernel
theorem dX3_count_123 : decode cX3_count 123 = .ok (.bipush 9, 2) := by decide +kernel
theorem dX3_count_125 : decode cX3_count 125 = .ok (.iaload, 1) := by decide +kernel
theorem dX3_count_126 : decode cX3_count 126 = .ok (.ireturn, 1) := by decide +kernel
theorem dX3_count_127 : decode cX3_count 127 = .ok (.aload_n 0, 1) := by decide +kernel
theorem dX3_count_128 : decode cX3_count 128 = .ok (.getfield 16, 3) := by decide +kernel
theorem dX3_count_131 : decode cX3_count 131 = .ok (.iconst 0, 1) := by decide +kernel
theorem dX3_count_132 : decode cX3_count 132 = .ok (.baload, 1) := by decide +kernel
theorem dX3_count_133 : decode cX3_count 133 = .ok (.ifCond .eq 7, 3) := by decide +kernel
theorem dX3_count_136 : decode cX3_count 136 = .ok (.iconst 1, 1) := by decide +kernel
theorem dX3_count_137 : decode cX3_count 137 = .ok (.goto 4, 3) := by decide +kernel
theorem dX3_count_140 : decode cX3_count 140 = .ok (.iconst 0, 1) := by decide +kernel
theorem dX3_count_141 : decode cX3_count 141 = .ok (.aload_n 0, 1) := by decide +kernel
theorem dX3_count_142 : decode cX3_count 142 = .ok (.getfield 16, 3) := by decide +kernel
theorem dX3_count_145 : decode cX3_count 145 = .ok (.iconst 1, 1) := by decide +kernel
theorem dX3_count_146 : decode cX3_count 146 = .ok (.baload, 1) := by decide +kernel
theorem dX3_count_147 : decode cX3_count 147 = .ok (.ifCond .eq 7, 3) := by decide +kernel
theorem dX3_count_150 : decode cX3_count 150 = .ok (.iconst 2, 1) := by decide +kernel
theorem dX3_count_151 : decode cX3_count 151 = .ok (.goto 4, 3) := by decide +kernel
theorem dX3_count_154 : decode cX3_count 154 = .ok (.iconst 0, 1) := by decide +kernel
theorem dX3_count_155 : decode cX3_count 155 = .ok (.iadd, 1) := by decide +kernel
theorem dX3_count_156 : decode cX3_count 156 = .ok (.ireturn, 1) := by decide +kernel
theorem dX3_count_157 : decode cX3_count 157 = .ok (.bipush (-2), 2) := by decide +kernel
theorem dX3_count_159 : decode cX3_count 159 = .ok (.ireturn, 1) := by decide +kernel
theorem dJ6_bitCount_0f7a4_0 : decode cJ6_bitCount_0f7a4 0 = .ok (.iload_n 0, 1) := by decide +kernel
theorem dJ6_bitCount_0f7a4_1 : decode cJ6_bitCount_0f7a4 1 = .ok (.iload_n 0, 1) := by decide +kernel
theorem dJ6_bitCount_0f7a4_2 : decode cJ6_bitCount_0f7a4 2 = .ok (.iconst 1, 1) := by decide +kernel
theorem dJ6_bitCount_0f7a4_3 : decode cJ6_bitCount_0f7a4 3 = .ok (.iushr, 1) := by decide +kernel
theorem dJ6_bitCount_0f7a4_4 : decode cJ6_bitCount_0f7a4 4 = .ok (.ldc_w 265, 3) := by decide +kernel
theorem dJ6_bitCount_0f7a4_7 : decode cJ6_bitCount_0f7a4 7 = .ok (.iand, 1) := by decide +kernel
theorem dJ6_bitCount_0f7a4_8 : decode cJ6_bitCount_0f7a4 8 = .ok (.isub, 1) := by decide +kernel
theorem dJ6_bitCount_0f7a4_9 : decode cJ6_bitCount_0f7a4 9 = .ok (.istore_n 0, 1) := by decide +kernel
theorem dJ6_bitCount_0f7a4_10 : decode cJ6_bitCount_0f7a4 10 = .ok (.iload_n 0, 1) := by decide +kernel
theorem dJ6_bitCount_0f7a4_11 : decode cJ6_bitCount_0f7a4 11 = .ok (.ldc_w 266, 3) := by decide +kernel
theorem dJ6_bitCount_0f7a4_14 : decode cJ6_bitCount_0f7a4 14 = .ok (.iand, 1) := by decide +kernel
theorem dJ6_bitCount_0f7a4_15 : decode cJ6_bitCount_0f7a4 15 = .ok (.iload_n 0, 1) := by decide +kernel
theorem dJ6_bitCount_0f7a4_16 : decode cJ6_bitCount_0f7a4 16 = .ok (.iconst 2, 1) := by decide +kernel
theorem dJ6_bitCount_0f7a4_17 : decode cJ6_bitCount_0f7a4 17 = .ok (.iushr, 1) := by decide +kernel
theorem dJ6_bitCount_0f7a4_18 : decode cJ6_bitCount_0f7a4 18 = .ok (.ldc_w 266, 3) := by decide +kernel
theorem dJ6_bitCount_0f7a4_21 : decode cJ6_bitCount_0f7a4 21 = .ok (.iand, 1) := by decide +kernel
theorem dJ6_bitCount_0f7a4_22 : decode cJ6_bitCount_0f7a4 22 = .ok (.iadd, 1) := by decide +kernel
theorem dJ6_bitCount_0f7a4_23 : decode cJ6_bitCount_0f7a4 23 = .ok (.istore_n 0, 1) := by decide +kernel
theorem dJ6_bitCount_0f7a4_24 : decode cJ6_bitCount_0f7a4 24 = .ok (.iload_n 0, 1) := by decide +kernel
theorem dJ6_bitCount_0f7a4_25 : decode cJ6_bitCount_0f7a4 25 = .ok (.iload_n 0, 1) := by decide +kernel
theorem dJ6_bitCount_0f7a4_26 : decode cJ6_bitCount_0f7a4 26 = .ok (.iconst 4, 1) := by decide +kernel
theorem dJ6_bitCount_0f7a4_27 : decode cJ6_bitCount_0f7a4 27 = .ok (.iushr, 1) := by decide +kernel
theorem dJ6_bitCount_0f7a4_28 : decode cJ6_bitCount_0f7a4 28 = .ok (.iadd, 1) := by decide +kernel
theorem dJ6_bitCount_0f7a4_29 : decode cJ6_bitCount_0f7a4 29 = .ok (.ldc_w 267, 3) := by decide +kernel
theorem dJ6_bitCount_0f7a4_32 : decode cJ6_bitCount_0f7a4 32 = .ok (.iand, 1) := by decide +kernel
theorem dJ6_bitCount_0f7a4_33 : decode cJ6_bitCount_0f7a4 33 = .ok (.istore_n 0, 1) := by decide +kernel
theorem dJ6_bitCount_0f7a4_34 : decode cJ6_bitCount_0f7a4 34 = .ok (.iload_n 0, 1) := by decide +kernel
theorem dJ6_bitCount_0f7a4_35 : decode cJ6_bitCount_0f7a4 35 = .ok (.iload_n 0, 1) := by decide +kernel
theorem dJ6_bitCount_0f7a4_36 : decode cJ6_bitCount_0f7a4 36 = .ok (.bipush 8, 2) := by decide +kernel
theorem dJ6_bitCount_0f7a4_38 : decode cJ6_bitCount_0f7a4 38 = .ok (.iushr, 1) := by decide +kernel
theorem dJ6_bitCount_0f7a4_39 : decode cJ6_bitCount_0f7a4 39 = .ok (.iadd, 1) := by decide +kernel
theorem dJ6_bitCount_0f7a4_40 : decode cJ6_bitCount_0f7a4 40 = .ok (.istore_n 0, 1) := by decide +kernel
theorem dJ6_bitCount_0f7a4_41 : decode cJ6_bitCount_0f7a4 41 = .ok (.iload_n 0, 1) := by decide +kernel
theorem dJ6_bitCount_0f7a4_42 : decode cJ6_bitCount_0f7a4 42 = .ok (.iload_n 0, 1) := by decide +kernel
theorem dJ6_bitCount_0f7a4_43 : decode cJ6_bitCount_0f7a4 43 = .ok (.bipush 16, 2) := by decide +kernel
theorem dJ6_bitCount_0f7a4_45 : decode cJ6_bitCount_0f7a4 45 = .ok (.iushr, 1) := by decide +kernel
theorem dJ6_bitCount_0f7a4_46 : decode cJ6_bitCount_0f7a4 46 = .ok (.iadd, 1) := by decide +kernel
theorem dJ6_bitCount_0f7a4_47 : decode cJ6_bitCount_0f7a4 47 = .ok (.istore_n 0, 1) := by decide +kernel
theorem dJ6_bitCount_0f7a4_48 : decode cJ6_bitCount_0f7a4 48 = .ok (.iload_n 0, 1) := by decide +kernel
theorem dJ6_bitCount_0f7a4_49 : decode cJ6_bitCount_0f7a4 49 = .ok (.bipush 63, 2) := by decide +kernel
theorem dJ6_bitCount_0f7a4_51 : decode cJ6_bitCount_0f7a4 51 = .ok (.iand, 1) := by decide +kernel
theorem dJ6_bitCount_0f7a4_52 : decode cJ6_bitCount_0f7a4 52 = .ok (.ireturn, 1) := by decide +kernel
theorem dJ9_abs_0f7a4_0 : decode cJ9_abs_0f7a4 0 = .ok (.iload_n 0, 1) := by decide +kernel
theorem dJ9_abs_0f7a4_1 : decode cJ9_abs_0f7a4 1 = .ok (.ifCond .ge 8, 3) := by decide +kernel
theorem dJ9_abs_0f7a4_4 : decode cJ9_abs_0f7a4 4 = .ok (.iload_n 0, 1) := by decide +kernel
theorem dJ9_abs_0f7a4_5 : decode cJ9_abs_0f7a4 5 = .ok (.ineg, 1) := by decide +kernel
theorem dJ9_abs_0f7a4_6 : decode cJ9_abs_0f7a4 6 = .ok (.goto 4, 3) := by decide +kernel
theorem dJ9_abs_0f7a4_9 : decode cJ9_abs_0f7a4 9 = .ok (.iload_n 0, 1) := by decide +kernel
theorem dJ9_abs_0f7a4_10 : decode cJ9_abs_0f7a4 10 = .ok (.ireturn, 1) := by decide +kernel
theorem dJ9_min_7cf53_0 : decode cJ9_min_7cf53 0 = .ok (.iload_n 0, 1) := by decide +kernel
theorem dJ9_min_7cf53_1 : decode cJ9_min_7cf53 1 = .ok (.iload_n 1, 1) := by decide +kernel
theorem dJ9_min_7cf53_2 : decode cJ9_min_7cf53 2 = .ok (.if_icmp .gt 7, 3) := by decide +kernel
theorem dJ9_min_7cf53_5 : decode cJ9_min_7cf53 5 = .ok (.iload_n 0, 1) := by decide +kernel
theorem dJ9_min_7cf53_6 : decode cJ9_min_7cf53 6 = .ok (.goto 4, 3) := by decide +kernel
theorem dJ9_min_7cf53_9 : decode cJ9_min_7cf53 9 = .ok (.iload_n 1, 1) := by decide +kernel
theorem dJ9_min_7cf53_10 : decode cJ9_min_7cf53 10 = .ok (.ireturn, 1) := by decide +kernel
end
section
/-! numbers: a machine int is zI of an integer -/
def zI (z : Int) : Int32 := Int32.ofInt z
theorem zI_add (a b : Int) : zI a + zI b = zI (a + b) := (Int32.ofInt_add a b).symm
theorem zI_sub (a b : Int) : zI a - zI b = zI (a - b) := (Int32.ofInt_sub a b).symm
theorem zI_mul (a b : Int) : zI a * zI b = zI (a * b) := (Int32.ofInt_mul a b).symm
theorem zI_neg (a : Int) : -zI a = zI (-a) := (Int32.ofInt_neg a).symm
theorem zI_zero : zI 0 = 0 := by decide +kernel
theorem zI_toInt {a : Int} (h : -2147483648 ≤ a ∧ a < 2147483648) : (zI a).toInt = a := Int32.toInt_ofInt_of_le (by omega) (by omega)
theorem zI_of (x : Int32) : (-2147483648 ≤ x.toInt ∧ x.toInt < 2147483648) ∧ x = zI x.toInt := by
  have h1 := x.le_toInt
  have h2 := x.toInt_lt
  exact ⟨⟨by omega, by omega⟩, (Int32.ofInt_toInt x).symm⟩
theorem zI_lt {a b : Int} (ha : -2147483648 ≤ a ∧ a < 2147483648) (hb : -2147483648 ≤ b ∧ b < 2147483648) : zI a < zI b ↔ a < b := by
  rw [Int32.lt_iff_toInt_lt, zI_toInt ha, zI_toInt hb]
theorem zI_le {a b : Int} (ha : -2147483648 ≤ a ∧ a < 2147483648) (hb : -2147483648 ≤ b ∧ b < 2147483648) : zI a ≤ zI b ↔ a ≤ b := by
  rw [Int32.le_iff_toInt_le, zI_toInt ha, zI_toInt hb]
theorem zI_eq {a b : Int} (ha : -2147483648 ≤ a ∧ a < 2147483648) (hb : -2147483648 ≤ b ∧ b < 2147483648) : zI a = zI b ↔ a = b := by
  rw [← Int32.toInt_inj, zI_toInt ha, zI_toInt hb]
theorem zI_clamp {a : Int} (h0 : 0 ≤ a) (h1 : a < 2147483648) : (zI a).toNatClampNeg = a.toNat := by
  rw [← Int32.toNat_toInt, zI_toInt ⟨by omega, h1⟩]
theorem zI_clampI {a : Int} (h0 : 0 ≤ a) (h1 : a < 2147483648) : (((zI a).toNatClampNeg : Nat) : Int) = a := by
  rw [zI_clamp h0 h1]; omega
theorem zI_in {a : Int} {n : Nat} (h0 : 0 ≤ a) (h1 : a < (n : Int)) (hn : n ≤ 2147483647) : vp_in (zI a) n := by
  rw [vp_in_iff, zI_toInt ⟨by omega, by omega⟩]; exact ⟨h0, h1⟩
theorem zI_neM1 {b : Int} (hb0 : 0 < b) (hb1 : b < 2147483648) : zI b ≠ -1 := by
  intro h
  have h2 := congrArg Int32.toInt h
  rw [zI_toInt ⟨by omega, hb1⟩] at h2
  have h3 : (-1 : Int32).toInt = -1 := by decide
  omega
theorem zI_ne0 {b : Int} (hb0 : b ≠ 0) (hb : -2147483648 ≤ b ∧ b < 2147483648) : ¬ zI b = 0 := by
  intro h
  rw [← zI_zero, zI_eq hb (by omega)] at h
  exact hb0 h
theorem zI_div {a b : Int} (h0 : 0 ≤ a) (h1 : a < 2147483648) (hb0 : 0 < b) (hb1 : b < 2147483648) : zI a / zI b = zI (a / b) := by
  have k1 : 0 ≤ a / b := Int.ediv_nonneg h0 (by omega)
  have k2 : a / b ≤ a := Int.ediv_le_self b h0
  apply Int32.toInt_inj.mp
  rw [Int32.toInt_div_of_ne_right _ _ (zI_neM1 hb0 hb1), zI_toInt ⟨by omega, h1⟩, zI_toInt ⟨by omega, hb1⟩, zI_toInt ⟨by omega, by omega⟩, Int.tdiv_eq_ediv_of_nonneg h0]
theorem zI_rem {a b : Int} (h0 : 0 ≤ a) (h1 : a < 2147483648) (hb0 : 0 < b) (hb1 : b < 2147483648) : zI a - zI a / zI b * zI b = zI (a % b) := by
  rw [zI_div h0 h1 hb0 hb1, zI_mul, zI_sub, Int.emod_def, Int.mul_comm b]
def zB (P : Prop) [Decidable P] : Int := if P then 1 else 0
theorem zB_t {P : Prop} [Decidable P] (h : P) : zB P = 1 := if_pos h
theorem zB_f {P : Prop} [Decidable P] (h : ¬ P) : zB P = 0 := if_neg h
theorem zB_le {P : Prop} [Decidable P] : 0 ≤ zB P ∧ zB P ≤ 1 := by unfold zB; split <;> omega
theorem zB_eq0 {P : Prop} [Decidable P] : zI (zB P) = 0 ↔ ¬ P := by
  by_cases h : P
  · rw [zB_t h]; exact ⟨fun q => absurd q (by decide), fun q => absurd h q⟩
  · rw [zB_f h]; exact ⟨fun _ => h, fun _ => by decide⟩
theorem zB_nar {P : Prop} [Decidable P] : narrow .boolean (.int (zI (zB P))) = .int (zI (zB P)) := by
  by_cases h : P
  · rw [zB_t h]; rfl
  · rw [zB_f h]; rfl
theorem zB_congr {P P' : Prop} [Decidable P] [Decidable P'] (h : P ↔ P') : zB P = zB P' := by
  by_cases q : P
  · rw [zB_t q, zB_t (h.mp q)]
  · rw [zB_f q, zB_f (fun z => q (h.mpr z))]
/-! rows of ints as functions of an integer place -/
def zF (g : Int → Int) : Nat → Int32 := fun j => zI (g (j : Int))
def upI {α : Type} (g : Int → α) (i : Int) (x : α) : Int → α := fun j => if j = i then x else g j
def zL (g : Int → Int64) : Nat → Int64 := fun j => g (j : Int)
theorem upI_s {α : Type} {g : Int → α} {i : Int} {x : α} : upI g i x i = x := if_pos rfl
theorem upI_n {α : Type} {g : Int → α} {i j : Int} {x : α} (h : j ≠ i) : upI g i x j = g j := if_neg h
theorem zF_at {g : Int → Int} {k : Int} (h0 : 0 ≤ k) (h1 : k < 2147483648) : zF g (zI k).toNatClampNeg = zI (g k) := by
  show zI (g (((zI k).toNatClampNeg : Nat) : Int)) = _
  rw [zI_clampI h0 h1]
theorem zL_at {g : Int → Int64} {k : Int} (h0 : 0 ≤ k) (h1 : k < 2147483648) : zL g (zI k).toNatClampNeg = g k := by
  show g (((zI k).toNatClampNeg : Nat) : Int) = _
  rw [zI_clampI h0 h1]
theorem zF_up {g : Int → Int} {k x : Int} (h0 : 0 ≤ k) (h1 : k < 2147483648) : upd (zF g) (zI k).toNatClampNeg (zI x) = zF (upI g k x) := by
  funext j
  have e := zI_clampI h0 h1
  unfold upd zF upI
  by_cases h : j = (zI k).toNatClampNeg
  · rw [if_pos h, if_pos (by rw [h]; exact e)]
  · rw [if_neg h, if_neg (by intro q; apply h; omega)]
theorem zL_up {g : Int → Int64} {k : Int} {x : Int64} (h0 : 0 ≤ k) (h1 : k < 2147483648) : vp_updL (zL g) (zI k).toNatClampNeg x = zL (upI g k x) := by
  funext j
  have e := zI_clampI h0 h1
  unfold vp_updL zL upI
  by_cases h : j = (zI k).toNatClampNeg
  · rw [if_pos h, if_pos (by rw [h]; exact e)]
  · rw [if_neg h, if_neg (by intro q; apply h; omega)]
/-! instruction rows -/
section ZR
variable {p : Program} {l : Launch} {e : Env} {R : Room} {s : State} {m : MethodId} {args : Array Value} {below : List Frame} {meth : Method} {c : Code} {H : Heap} {locs : List Loc} {cells slots : Nat} {Q : State → Prop}
variable {cc : ByteArray} {pc : Nat} {ls : Array Slot} {rest : List Value}
theorem z_top {x y : Int32} (h : x = y) (k : W p l e R s m args below meth c H locs cells slots Q (F0 m pc ls (.int y :: rest))) : W p l e R s m args below meth c H locs cells slots Q (F0 m pc ls (.int x :: rest)) := h ▸ k
theorem z_topl {x y : Int64} (h : x = y) (k : W p l e R s m args below meth c H locs cells slots Q (F0 m pc ls (.long y :: rest))) : W p l e R s m args below meth c H locs cells slots Q (F0 m pc ls (.long x :: rest)) := h ▸ k
theorem z_iadd (hx : p.tables.exec = Jvm.exec) (hb : c.code = cc) {a b : Int} (hdg : decode cc pc = .ok (.iadd, 1)) (k : W p l e R s m args below meth c H locs cells slots Q (F0 m (pc + 1) ls (.int (zI (a + b)) :: rest))) : W p l e R s m args below meth c H locs cells slots Q (F0 m pc ls (.int (zI b) :: .int (zI a) :: rest)) := lv_iadd hx hb hdg (by rw [zI_add]; exact k)
theorem z_isub (hx : p.tables.exec = Jvm.exec) (hb : c.code = cc) {a b : Int} (hdg : decode cc pc = .ok (.isub, 1)) (k : W p l e R s m args below meth c H locs cells slots Q (F0 m (pc + 1) ls (.int (zI (a - b)) :: rest))) : W p l e R s m args below meth c H locs cells slots Q (F0 m pc ls (.int (zI b) :: .int (zI a) :: rest)) := lv_isub hx hb hdg (by rw [zI_sub]; exact k)
theorem z_imul (hx : p.tables.exec = Jvm.exec) (hb : c.code = cc) {a b : Int} (hdg : decode cc pc = .ok (.imul, 1)) (k : W p l e R s m args below meth c H locs cells slots Q (F0 m (pc + 1) ls (.int (zI (a * b)) :: rest))) : W p l e R s m args below meth c H locs cells slots Q (F0 m pc ls (.int (zI b) :: .int (zI a) :: rest)) := lv_imul hx hb hdg (by rw [zI_mul]; exact k)
theorem z_idiv (hx : p.tables.exec = Jvm.exec) (hb : c.code = cc) {a b : Int} (hr : (0 ≤ a ∧ a < 2147483648) ∧ 0 < b ∧ b < 2147483648) (hdg : decode cc pc = .ok (.idiv, 1)) (k : W p l e R s m args below meth c H locs cells slots Q (F0 m (pc + 1) ls (.int (zI (a / b)) :: rest))) : W p l e R s m args below meth c H locs cells slots Q (F0 m pc ls (.int (zI b) :: .int (zI a) :: rest)) := lv_idiv hx hb hdg (zI_ne0 (by omega) (by omega)) (by rw [zI_div hr.1.1 hr.1.2 hr.2.1 hr.2.2]; exact k)
theorem z_irem (hx : p.tables.exec = Jvm.exec) (hb : c.code = cc) {a b : Int} (hr : (0 ≤ a ∧ a < 2147483648) ∧ 0 < b ∧ b < 2147483648) (hdg : decode cc pc = .ok (.irem, 1)) (k : W p l e R s m args below meth c H locs cells slots Q (F0 m (pc + 1) ls (.int (zI (a % b)) :: rest))) : W p l e R s m args below meth c H locs cells slots Q (F0 m pc ls (.int (zI b) :: .int (zI a) :: rest)) := lv_irem hx hb hdg (zI_ne0 (by omega) (by omega)) (by rw [zI_rem hr.1.1 hr.1.2 hr.2.1 hr.2.2]; exact k)
theorem z_ineg (hx : p.tables.exec = Jvm.exec) (hb : c.code = cc) {a : Int} (hdg : decode cc pc = .ok (.ineg, 1)) (k : W p l e R s m args below meth c H locs cells slots Q (F0 m (pc + 1) ls (.int (zI (-a)) :: rest))) : W p l e R s m args below meth c H locs cells slots Q (F0 m pc ls (.int (zI a) :: rest)) := lv_ineg hx hb hdg (by first | (rw [zI_neg]; exact k) | (rw [show (0 : Int32) - zI a = zI (-a) from by rw [← zI_zero, zI_sub]; congr 1; omega]; exact k))
theorem z_icmp_lt (hx : p.tables.exec = Jvm.exec) (hb : c.code = cc) {a b : Int} (hr : (-2147483648 ≤ a ∧ a < 2147483648) ∧ -2147483648 ≤ b ∧ b < 2147483648) {off : Int} {tgt : Nat} (hdg : decode cc pc = .ok (.if_icmp .lt off, 3)) (ht : (pc : Int) + off = (tgt : Int)) (kt : a < b → W p l e R s m args below meth c H locs cells slots Q (F0 m tgt ls rest)) (kf : b ≤ a → W p l e R s m args below meth c H locs cells slots Q (F0 m (pc + 3) ls rest)) : W p l e R s m args below meth c H locs cells slots Q (F0 m pc ls (.int (zI b) :: .int (zI a) :: rest)) := lv_icmp_lt hx hb hdg ht (fun h => kt ((zI_lt hr.1 hr.2).mp h)) (fun h => kf (by have h2 := mt (zI_lt hr.1 hr.2).mpr h; omega))
theorem z_icmp_ge (hx : p.tables.exec = Jvm.exec) (hb : c.code = cc) {a b : Int} (hr : (-2147483648 ≤ a ∧ a < 2147483648) ∧ -2147483648 ≤ b ∧ b < 2147483648) {off : Int} {tgt : Nat} (hdg : decode cc pc = .ok (.if_icmp .ge off, 3)) (ht : (pc : Int) + off = (tgt : Int)) (kt : b ≤ a → W p l e R s m args below meth c H locs cells slots Q (F0 m tgt ls rest)) (kf : a < b → W p l e R s m args below meth c H locs cells slots Q (F0 m (pc + 3) ls rest)) : W p l e R s m args below meth c H locs cells slots Q (F0 m pc ls (.int (zI b) :: .int (zI a) :: rest)) := lv_icmp_ge hx hb hdg ht (fun h => kt ((zI_le hr.2 hr.1).mp h)) (fun h => kf (by have h2 := mt (zI_le hr.2 hr.1).mpr h; omega))
theorem z_icmp_gt (hx : p.tables.exec = Jvm.exec) (hb : c.code = cc) {a b : Int} (hr : (-2147483648 ≤ a ∧ a < 2147483648) ∧ -2147483648 ≤ b ∧ b < 2147483648) {off : Int} {tgt : Nat} (hdg : decode cc pc = .ok (.if_icmp .gt off, 3)) (ht : (pc : Int) + off = (tgt : Int)) (kt : b < a → W p l e R s m args below meth c H locs cells slots Q (F0 m tgt ls rest)) (kf : a ≤ b → W p l e R s m args below meth c H locs cells slots Q (F0 m (pc + 3) ls rest)) : W p l e R s m args below meth c H locs cells slots Q (F0 m pc ls (.int (zI b) :: .int (zI a) :: rest)) := lv_icmp_gt hx hb hdg ht (fun h => kt ((zI_lt hr.2 hr.1).mp h)) (fun h => kf (by have h2 := mt (zI_lt hr.2 hr.1).mpr h; omega))
theorem z_icmp_le (hx : p.tables.exec = Jvm.exec) (hb : c.code = cc) {a b : Int} (hr : (-2147483648 ≤ a ∧ a < 2147483648) ∧ -2147483648 ≤ b ∧ b < 2147483648) {off : Int} {tgt : Nat} (hdg : decode cc pc = .ok (.if_icmp .le off, 3)) (ht : (pc : Int) + off = (tgt : Int)) (kt : a ≤ b → W p l e R s m args below meth c H locs cells slots Q (F0 m tgt ls rest)) (kf : b < a → W p l e R s m args below meth c H locs cells slots Q (F0 m (pc + 3) ls rest)) : W p l e R s m args below meth c H locs cells slots Q (F0 m pc ls (.int (zI b) :: .int (zI a) :: rest)) := lv_icmp_le hx hb hdg ht (fun h => kt ((zI_le hr.1 hr.2).mp h)) (fun h => kf (by have h2 := mt (zI_le hr.1 hr.2).mpr h; omega))
theorem z_icmp_eq (hx : p.tables.exec = Jvm.exec) (hb : c.code = cc) {a b : Int} (hr : (-2147483648 ≤ a ∧ a < 2147483648) ∧ -2147483648 ≤ b ∧ b < 2147483648) {off : Int} {tgt : Nat} (hdg : decode cc pc = .ok (.if_icmp .eq off, 3)) (ht : (pc : Int) + off = (tgt : Int)) (kt : a = b → W p l e R s m args below meth c H locs cells slots Q (F0 m tgt ls rest)) (kf : a ≠ b → W p l e R s m args below meth c H locs cells slots Q (F0 m (pc + 3) ls rest)) : W p l e R s m args below meth c H locs cells slots Q (F0 m pc ls (.int (zI b) :: .int (zI a) :: rest)) := lv_icmp_eq hx hb hdg ht (fun h => kt ((zI_eq hr.1 hr.2).mp h)) (fun h => kf (fun q => h ((zI_eq hr.1 hr.2).mpr q)))
theorem z_icmp_ne (hx : p.tables.exec = Jvm.exec) (hb : c.code = cc) {a b : Int} (hr : (-2147483648 ≤ a ∧ a < 2147483648) ∧ -2147483648 ≤ b ∧ b < 2147483648) {off : Int} {tgt : Nat} (hdg : decode cc pc = .ok (.if_icmp .ne off, 3)) (ht : (pc : Int) + off = (tgt : Int)) (kt : a ≠ b → W p l e R s m args below meth c H locs cells slots Q (F0 m tgt ls rest)) (kf : a = b → W p l e R s m args below meth c H locs cells slots Q (F0 m (pc + 3) ls rest)) : W p l e R s m args below meth c H locs cells slots Q (F0 m pc ls (.int (zI b) :: .int (zI a) :: rest)) := lv_icmp_ne hx hb hdg ht (fun h => kt (fun q => h ((zI_eq hr.1 hr.2).mpr q))) (fun h => kf ((zI_eq hr.1 hr.2).mp h))
theorem z_if_lt (hx : p.tables.exec = Jvm.exec) (hb : c.code = cc) {a : Int} (hr : -2147483648 ≤ a ∧ a < 2147483648) {off : Int} {tgt : Nat} (hdg : decode cc pc = .ok (.ifCond .lt off, 3)) (ht : (pc : Int) + off = (tgt : Int)) (kt : a < 0 → W p l e R s m args below meth c H locs cells slots Q (F0 m tgt ls rest)) (kf : 0 ≤ a → W p l e R s m args below meth c H locs cells slots Q (F0 m (pc + 3) ls rest)) : W p l e R s m args below meth c H locs cells slots Q (F0 m pc ls (.int (zI a) :: rest)) := by
  have hz : -2147483648 ≤ (0 : Int) ∧ (0 : Int) < 2147483648 := by omega
  exact lv_if_lt hx hb hdg ht (fun h => kt (by rw [← zI_zero] at h; exact (zI_lt hr hz).mp h)) (fun h => kf (by rw [← zI_zero] at h; have h2 := mt (zI_lt hr hz).mpr h; omega))
theorem z_if_ge (hx : p.tables.exec = Jvm.exec) (hb : c.code = cc) {a : Int} (hr : -2147483648 ≤ a ∧ a < 2147483648) {off : Int} {tgt : Nat} (hdg : decode cc pc = .ok (.ifCond .ge off, 3)) (ht : (pc : Int) + off = (tgt : Int)) (kt : 0 ≤ a → W p l e R s m args below meth c H locs cells slots Q (F0 m tgt ls rest)) (kf : a < 0 → W p l e R s m args below meth c H locs cells slots Q (F0 m (pc + 3) ls rest)) : W p l e R s m args below meth c H locs cells slots Q (F0 m pc ls (.int (zI a) :: rest)) := by
  have hz : -2147483648 ≤ (0 : Int) ∧ (0 : Int) < 2147483648 := by omega
  exact lv_if_ge hx hb hdg ht (fun h => kt (by rw [← zI_zero] at h; exact (zI_le hz hr).mp h)) (fun h => kf (by rw [← zI_zero] at h; have h2 := mt (zI_le hz hr).mpr h; omega))
theorem z_if_gt (hx : p.tables.exec = Jvm.exec) (hb : c.code = cc) {a : Int} (hr : -2147483648 ≤ a ∧ a < 2147483648) {off : Int} {tgt : Nat} (hdg : decode cc pc = .ok (.ifCond .gt off, 3)) (ht : (pc : Int) + off = (tgt : Int)) (kt : 0 < a → W p l e R s m args below meth c H locs cells slots Q (F0 m tgt ls rest)) (kf : a ≤ 0 → W p l e R s m args below meth c H locs cells slots Q (F0 m (pc + 3) ls rest)) : W p l e R s m args below meth c H locs cells slots Q (F0 m pc ls (.int (zI a) :: rest)) := by
  have hz : -2147483648 ≤ (0 : Int) ∧ (0 : Int) < 2147483648 := by omega
  exact lv_if_gt hx hb hdg ht (fun h => kt (by rw [← zI_zero] at h; exact (zI_lt hz hr).mp h)) (fun h => kf (by rw [← zI_zero] at h; have h2 := mt (zI_lt hz hr).mpr h; omega))
theorem z_if_le (hx : p.tables.exec = Jvm.exec) (hb : c.code = cc) {a : Int} (hr : -2147483648 ≤ a ∧ a < 2147483648) {off : Int} {tgt : Nat} (hdg : decode cc pc = .ok (.ifCond .le off, 3)) (ht : (pc : Int) + off = (tgt : Int)) (kt : a ≤ 0 → W p l e R s m args below meth c H locs cells slots Q (F0 m tgt ls rest)) (kf : 0 < a → W p l e R s m args below meth c H locs cells slots Q (F0 m (pc + 3) ls rest)) : W p l e R s m args below meth c H locs cells slots Q (F0 m pc ls (.int (zI a) :: rest)) := by
  have hz : -2147483648 ≤ (0 : Int) ∧ (0 : Int) < 2147483648 := by omega
  exact lv_if_le hx hb hdg ht (fun h => kt (by rw [← zI_zero] at h; exact (zI_le hr hz).mp h)) (fun h => kf (by rw [← zI_zero] at h; have h2 := mt (zI_le hr hz).mpr h; omega))
theorem z_if_eq (hx : p.tables.exec = Jvm.exec) (hb : c.code = cc) {a : Int} (hr : -2147483648 ≤ a ∧ a < 2147483648) {off : Int} {tgt : Nat} (hdg : decode cc pc = .ok (.ifCond .eq off, 3)) (ht : (pc : Int) + off = (tgt : Int)) (kt : a = 0 → W p l e R s m args below meth c H locs cells slots Q (F0 m tgt ls rest)) (kf : a ≠ 0 → W p l e R s m args below meth c H locs cells slots Q (F0 m (pc + 3) ls rest)) : W p l e R s m args below meth c H locs cells slots Q (F0 m pc ls (.int (zI a) :: rest)) := by
  have hz : -2147483648 ≤ (0 : Int) ∧ (0 : Int) < 2147483648 := by omega
  exact lv_if_eq hx hb hdg ht (fun h => kt (by rw [← zI_zero] at h; exact (zI_eq hr hz).mp h)) (fun h => kf (fun q => h (by rw [← zI_zero]; exact (zI_eq hr hz).mpr q)))
theorem z_if_ne (hx : p.tables.exec = Jvm.exec) (hb : c.code = cc) {a : Int} (hr : -2147483648 ≤ a ∧ a < 2147483648) {off : Int} {tgt : Nat} (hdg : decode cc pc = .ok (.ifCond .ne off, 3)) (ht : (pc : Int) + off = (tgt : Int)) (kt : a ≠ 0 → W p l e R s m args below meth c H locs cells slots Q (F0 m tgt ls rest)) (kf : a = 0 → W p l e R s m args below meth c H locs cells slots Q (F0 m (pc + 3) ls rest)) : W p l e R s m args below meth c H locs cells slots Q (F0 m pc ls (.int (zI a) :: rest)) := by
  have hz : -2147483648 ≤ (0 : Int) ∧ (0 : Int) < 2147483648 := by omega
  exact lv_if_ne hx hb hdg ht (fun h => kt (fun q => h (by rw [← zI_zero]; exact (zI_eq hr hz).mpr q))) (fun h => kf (by rw [← zI_zero] at h; exact (zI_eq hr hz).mp h))
theorem z_ifB_eq (hx : p.tables.exec = Jvm.exec) (hb : c.code = cc) {P : Prop} [Decidable P] {off : Int} {tgt : Nat} (hdg : decode cc pc = .ok (.ifCond .eq off, 3)) (ht : (pc : Int) + off = (tgt : Int)) (kt : ¬ P → W p l e R s m args below meth c H locs cells slots Q (F0 m tgt ls rest)) (kf : P → W p l e R s m args below meth c H locs cells slots Q (F0 m (pc + 3) ls rest)) : W p l e R s m args below meth c H locs cells slots Q (F0 m pc ls (.int (zI (zB P)) :: rest)) := lv_if_eq hx hb hdg ht (fun h => kt (zB_eq0.mp h)) (fun h => kf (Decidable.byContradiction fun q => h (zB_eq0.mpr q)))
theorem z_ifB_ne (hx : p.tables.exec = Jvm.exec) (hb : c.code = cc) {P : Prop} [Decidable P] {off : Int} {tgt : Nat} (hdg : decode cc pc = .ok (.ifCond .ne off, 3)) (ht : (pc : Int) + off = (tgt : Int)) (kt : P → W p l e R s m args below meth c H locs cells slots Q (F0 m tgt ls rest)) (kf : ¬ P → W p l e R s m args below meth c H locs cells slots Q (F0 m (pc + 3) ls rest)) : W p l e R s m args below meth c H locs cells slots Q (F0 m pc ls (.int (zI (zB P)) :: rest)) := lv_if_ne hx hb hdg ht (fun h => kt (Decidable.byContradiction fun q => h (zB_eq0.mpr q))) (fun h => kf (zB_eq0.mp h))
theorem z_lcmp_le (hx : p.tables.exec = Jvm.exec) (hb : c.code = cc) {x y : Int64} {off : Int} {tgt : Nat} (hdg : decode cc pc = .ok (.lcmp, 1)) (hdg2 : decode cc (pc + 1) = .ok (.ifCond .le off, 3)) (ht : ((pc + 1 : Nat) : Int) + off = (tgt : Int)) (kt : x ≤ y → W p l e R s m args below meth c H locs cells slots Q (F0 m tgt ls rest)) (kf : y < x → W p l e R s m args below meth c H locs cells slots Q (F0 m (pc + 1 + 3) ls rest)) : W p l e R s m args below meth c H locs cells slots Q (F0 m pc ls (.long y :: .long x :: rest)) := by
  refine W.lcmp hx hb hdg (lv_if_le hx hb hdg2 ht (fun h => kt ?_) (fun h => kf ?_))
  · revert h; unfold lg_cmp; simp only [gt_iff_lt, Int64.lt_iff_toInt_lt, Int64.le_iff_toInt_le, ← Int64.toInt_inj, ne_eq]; split
    · intro h; first | omega | (exact absurd h (by decide))
    · split
      · intro h; first | omega | (exact absurd h (by decide))
      · intro h; first | omega | (exact absurd h (by decide))
  · revert h; unfold lg_cmp; simp only [gt_iff_lt, Int64.lt_iff_toInt_lt, Int64.le_iff_toInt_le, ← Int64.toInt_inj, ne_eq]; split
    · intro h; first | omega | (exact absurd h (by decide))
    · split
      · intro h; first | omega | (exact absurd h (by decide))
      · intro h; first | omega | (exact absurd h (by decide))
theorem z_lcmp_gt (hx : p.tables.exec = Jvm.exec) (hb : c.code = cc) {x y : Int64} {off : Int} {tgt : Nat} (hdg : decode cc pc = .ok (.lcmp, 1)) (hdg2 : decode cc (pc + 1) = .ok (.ifCond .gt off, 3)) (ht : ((pc + 1 : Nat) : Int) + off = (tgt : Int)) (kt : y < x → W p l e R s m args below meth c H locs cells slots Q (F0 m tgt ls rest)) (kf : x ≤ y → W p l e R s m args below meth c H locs cells slots Q (F0 m (pc + 1 + 3) ls rest)) : W p l e R s m args below meth c H locs cells slots Q (F0 m pc ls (.long y :: .long x :: rest)) := by
  refine W.lcmp hx hb hdg (lv_if_gt hx hb hdg2 ht (fun h => kt ?_) (fun h => kf ?_))
  · revert h; unfold lg_cmp; simp only [gt_iff_lt, Int64.lt_iff_toInt_lt, Int64.le_iff_toInt_le, ← Int64.toInt_inj, ne_eq]; split
    · intro h; first | omega | (exact absurd h (by decide))
    · split
      · intro h; first | omega | (exact absurd h (by decide))
      · intro h; first | omega | (exact absurd h (by decide))
  · revert h; unfold lg_cmp; simp only [gt_iff_lt, Int64.lt_iff_toInt_lt, Int64.le_iff_toInt_le, ← Int64.toInt_inj, ne_eq]; split
    · intro h; first | omega | (exact absurd h (by decide))
    · split
      · intro h; first | omega | (exact absurd h (by decide))
      · intro h; first | omega | (exact absurd h (by decide))
theorem z_lcmp_eq (hx : p.tables.exec = Jvm.exec) (hb : c.code = cc) {x y : Int64} {off : Int} {tgt : Nat} (hdg : decode cc pc = .ok (.lcmp, 1)) (hdg2 : decode cc (pc + 1) = .ok (.ifCond .eq off, 3)) (ht : ((pc + 1 : Nat) : Int) + off = (tgt : Int)) (kt : x = y → W p l e R s m args below meth c H locs cells slots Q (F0 m tgt ls rest)) (kf : x ≠ y → W p l e R s m args below meth c H locs cells slots Q (F0 m (pc + 1 + 3) ls rest)) : W p l e R s m args below meth c H locs cells slots Q (F0 m pc ls (.long y :: .long x :: rest)) := by
  refine W.lcmp hx hb hdg (lv_if_eq hx hb hdg2 ht (fun h => kt ?_) (fun h => kf ?_))
  · revert h; unfold lg_cmp; simp only [gt_iff_lt, Int64.lt_iff_toInt_lt, Int64.le_iff_toInt_le, ← Int64.toInt_inj, ne_eq]; split
    · intro h; first | omega | (exact absurd h (by decide))
    · split
      · intro h; first | omega | (exact absurd h (by decide))
      · intro h; first | omega | (exact absurd h (by decide))
  · revert h; unfold lg_cmp; simp only [gt_iff_lt, Int64.lt_iff_toInt_lt, Int64.le_iff_toInt_le, ← Int64.toInt_inj, ne_eq]; split
    · intro h; first | omega | (exact absurd h (by decide))
    · split
      · intro h; first | omega | (exact absurd h (by decide))
      · intro h; first | omega | (exact absurd h (by decide))
theorem z_lcmp_ne (hx : p.tables.exec = Jvm.exec) (hb : c.code = cc) {x y : Int64} {off : Int} {tgt : Nat} (hdg : decode cc pc = .ok (.lcmp, 1)) (hdg2 : decode cc (pc + 1) = .ok (.ifCond .ne off, 3)) (ht : ((pc + 1 : Nat) : Int) + off = (tgt : Int)) (kt : x ≠ y → W p l e R s m args below meth c H locs cells slots Q (F0 m tgt ls rest)) (kf : x = y → W p l e R s m args below meth c H locs cells slots Q (F0 m (pc + 1 + 3) ls rest)) : W p l e R s m args below meth c H locs cells slots Q (F0 m pc ls (.long y :: .long x :: rest)) := by
  refine W.lcmp hx hb hdg (lv_if_ne hx hb hdg2 ht (fun h => kt ?_) (fun h => kf ?_))
  · revert h; unfold lg_cmp; simp only [gt_iff_lt, Int64.lt_iff_toInt_lt, Int64.le_iff_toInt_le, ← Int64.toInt_inj, ne_eq]; split
    · intro h; first | omega | (exact absurd h (by decide))
    · split
      · intro h; first | omega | (exact absurd h (by decide))
      · intro h; first | omega | (exact absurd h (by decide))
  · revert h; unfold lg_cmp; simp only [gt_iff_lt, Int64.lt_iff_toInt_lt, Int64.le_iff_toInt_le, ← Int64.toInt_inj, ne_eq]; split
    · intro h; first | omega | (exact absurd h (by decide))
    · split
      · intro h; first | omega | (exact absurd h (by decide))
      · intro h; first | omega | (exact absurd h (by decide))
variable {D : va_G} {cl : List vw_C} {A : Nat → Prop} {a : Nat} {tys : List (ClassId × FieldType)} {ws : va_W} {H0 : Heap}
theorem z_iald (hx : p.tables.exec = Jvm.exec) (hb : c.code = cc) (hK : va_K D cl tys s) (hP : va_P D cl ws H) (q0 t0 : Nat) {cA : ClassId} {n : Nat} {g : Int → Int} {k : Int} (ha : ws[q0]? = some (a, .inl (cA, n, .inl (zF g)))) (ht : tys[t0]? = some (cA, .int)) (hk : (0 ≤ k ∧ k < (n : Int)) ∧ n ≤ 2147483647) (hdg : decode cc pc = .ok (.iaload, 1)) (kk : W p l e R s m args below meth c H locs cells slots Q (F0 m (pc + 1) ls (.int (zI (g k)) :: rest))) : W p l e R s m args below meth c H locs cells slots Q (F0 m pc ls (.int (zI k) :: .ref a :: rest)) := va_iald hx hb hK hP q0 t0 ha ht (zI_in hk.1.1 hk.1.2 hk.2) hdg (by rw [zF_at hk.1.1 (by omega)]; exact kk)
theorem z_zald (hx : p.tables.exec = Jvm.exec) (hb : c.code = cc) (hK : va_K D cl tys s) (hP : va_P D cl ws H) (q0 t0 : Nat) {cA : ClassId} {n : Nat} {g : Int → Int} {k : Int} (ha : ws[q0]? = some (a, .inl (cA, n, .inl (zF g)))) (ht : tys[t0]? = some (cA, .boolean)) (hk : (0 ≤ k ∧ k < (n : Int)) ∧ n ≤ 2147483647) (hdg : decode cc pc = .ok (.baload, 1)) (kk : W p l e R s m args below meth c H locs cells slots Q (F0 m (pc + 1) ls (.int (zI (g k)) :: rest))) : W p l e R s m args below meth c H locs cells slots Q (F0 m pc ls (.int (zI k) :: .ref a :: rest)) := va_zald hx hb hK hP q0 t0 ha ht (zI_in hk.1.1 hk.1.2 hk.2) hdg (by rw [zF_at hk.1.1 (by omega)]; exact kk)
theorem z_lald (hx : p.tables.exec = Jvm.exec) (hb : c.code = cc) (hK : va_K D cl tys s) (hP : va_P D cl ws H) (q0 t0 : Nat) {cA : ClassId} {n : Nat} {g : Int → Int64} {k : Int} (ha : ws[q0]? = some (a, .inl (cA, n, .inr (.inl (zL g))))) (ht : tys[t0]? = some (cA, .long)) (hk : (0 ≤ k ∧ k < (n : Int)) ∧ n ≤ 2147483647) (hdg : decode cc pc = .ok (.laload, 1)) (kk : W p l e R s m args below meth c H locs cells slots Q (F0 m (pc + 1) ls (.long (g k) :: rest))) : W p l e R s m args below meth c H locs cells slots Q (F0 m pc ls (.int (zI k) :: .ref a :: rest)) := va_lald hx hb hK hP q0 t0 ha ht (zI_in hk.1.1 hk.1.2 hk.2) hdg (by rw [zL_at hk.1.1 (by omega)]; exact kk)
theorem z_iast (hx : p.tables.exec = Jvm.exec) (hb : c.code = cc) (hK : va_K D cl tys s) (hP : va_P D cl ws H) (hD : va_D A ws) (hS : va_S A H0 H locs) (q0 t0 : Nat) {cA : ClassId} {n : Nat} {g : Int → Int} {k x : Int} (ha : ws[q0]? = some (a, .inl (cA, n, .inl (zF g)))) (ht : tys[t0]? = some (cA, .int)) (hk : (0 ≤ k ∧ k < (n : Int)) ∧ n ≤ 2147483647) (hdg : decode cc pc = .ok (.iastore, 1)) (kk : ∀ (H1 : Heap) (locs1 : List Loc), va_P D cl (ws.set q0 (a, .inl (cA, n, .inl (zF (upI g k x))))) H1 → va_D A (ws.set q0 (a, .inl (cA, n, .inl (zF (upI g k x))))) → va_S A H0 H1 locs1 → W p l e R s m args below meth c H1 locs1 cells slots Q (F0 m (pc + 1) ls rest)) : W p l e R s m args below meth c H locs cells slots Q (F0 m pc ls (.int (zI x) :: .int (zI k) :: .ref a :: rest)) := va_iast hx hb hK hP hD hS q0 t0 ha ht (zI_in hk.1.1 hk.1.2 hk.2) hdg (by rw [zF_up hk.1.1 (by omega)]; exact kk)
theorem z_last (hx : p.tables.exec = Jvm.exec) (hb : c.code = cc) (hK : va_K D cl tys s) (hP : va_P D cl ws H) (hD : va_D A ws) (hS : va_S A H0 H locs) (q0 t0 : Nat) {cA : ClassId} {n : Nat} {g : Int → Int64} {k : Int} {x : Int64} (ha : ws[q0]? = some (a, .inl (cA, n, .inr (.inl (zL g))))) (ht : tys[t0]? = some (cA, .long)) (hk : (0 ≤ k ∧ k < (n : Int)) ∧ n ≤ 2147483647) (hdg : decode cc pc = .ok (.lastore, 1)) (kk : ∀ (H1 : Heap) (locs1 : List Loc), va_P D cl (ws.set q0 (a, .inl (cA, n, .inr (.inl (zL (upI g k x)))))) H1 → va_D A (ws.set q0 (a, .inl (cA, n, .inr (.inl (zL (upI g k x)))))) → va_S A H0 H1 locs1 → W p l e R s m args below meth c H1 locs1 cells slots Q (F0 m (pc + 1) ls rest)) : W p l e R s m args below meth c H locs cells slots Q (F0 m pc ls (.long x :: .int (zI k) :: .ref a :: rest)) := va_last hx hb hK hP hD hS q0 t0 ha ht (zI_in hk.1.1 hk.1.2 hk.2) hdg (by rw [zL_up hk.1.1 (by omega)]; exact kk)
def aI (a : Int) : Int := if a < 0 then -a else a
def mI (a b : Int) : Int := if b < a then b else a
theorem z_mabs (hx : p.tables.exec = Jvm.exec) (hb : c.code = cc) (hml : c.maxLocals = ls.size) {own : String} {index : Nat} (hown : s.vm.findClass own = some m.cls) (hlink : (Cond.methodLink own index Lib.Math.abs.name).before args s = true) (hstat : (Cond.static Lib.Math.abs.name).before args s = true) (hini : (Cond.initialized "java/lang/Math").before args s = true) (hcode : (Cond.code Lib.Math.abs.name Lib.Math.abs.code 1 (some .int)).before args s = true) (hframes : 1 ≤ R.frames) (hlocals : (rest.map fun v => v.category).sum + 13 ≤ R.locals) (hc : cells ≤ R.cells) (hs : slots ≤ R.slots) {a : Int} (hr : -2147483647 ≤ a ∧ a < 2147483648) (hdg : decode cc pc = .ok (.invokestatic index, 3)) (kk : W p l e R s m args below meth c H locs cells slots Q (F0 m (pc + 3) ls (.int (zI (aI a)) :: rest))) : W p l e R s m args below meth c H locs cells slots Q (F0 m pc ls (.int (zI a) :: rest)) := by
  refine va_mabs hx hb hml hown hlink hstat hini hcode hframes hlocals hc hs hdg ?_
  have e0 : (if (0 : Int32) ≤ zI a then zI a else 0 - zI a) = zI (aI a) := by
    rw [← zI_zero]
    unfold aI
    by_cases h : a < 0
    · rw [if_neg (fun q => by have q2 := (zI_le (by omega) (by omega)).mp q; omega), if_pos h, zI_sub]; congr 1; omega
    · rw [if_pos ((zI_le (by omega) (by omega)).mpr (by omega)), if_neg h]
  rw [e0]
  exact kk
theorem z_mmin (hx : p.tables.exec = Jvm.exec) (hb : c.code = cc) (hml : c.maxLocals = ls.size) {own : String} {index : Nat} (hown : s.vm.findClass own = some m.cls) (hlink : (Cond.methodLink own index Lib.Math.min.name).before args s = true) (hstat : (Cond.static Lib.Math.min.name).before args s = true) (hini : (Cond.initialized "java/lang/Math").before args s = true) (hcode : (Cond.code Lib.Math.min.name Lib.Math.min.code 2 (some .int)).before args s = true) (hframes : 1 ≤ R.frames) (hlocals : (rest.map fun v => v.category).sum + 13 ≤ R.locals) (hc : cells ≤ R.cells) (hs : slots ≤ R.slots) {a b : Int} (hr : (-2147483648 ≤ a ∧ a < 2147483648) ∧ -2147483648 ≤ b ∧ b < 2147483648) (hdg : decode cc pc = .ok (.invokestatic index, 3)) (kk : W p l e R s m args below meth c H locs cells slots Q (F0 m (pc + 3) ls (.int (zI (mI a b)) :: rest))) : W p l e R s m args below meth c H locs cells slots Q (F0 m pc ls (.int (zI b) :: .int (zI a) :: rest)) := by
  refine va_mmin hx hb hml hown hlink hstat hini hcode hframes hlocals hc hs hdg ?_
  have e0 : (if zI b < zI a then zI b else zI a) = zI (mI a b) := by
    unfold mI
    by_cases h : b < a
    · rw [if_pos ((zI_lt hr.2 hr.1).mpr h), if_pos h]
    · rw [if_neg (fun q => h ((zI_lt hr.2 hr.1).mp q)), if_neg h]
  rw [e0]
  exact kk
theorem z_tswIn (hx : p.tables.exec = Jvm.exec) (hb : c.code = cc) {a v : Int} (h : a = v) (hr : -2147483648 ≤ v ∧ v < 2147483648) {dflt lo hi : Int} {offs : Array Int} {len : Nat} {off : Int} {tgt : Nat} (hdg : decode cc pc = .ok (.tableswitch dflt lo hi offs, len)) (h1 : lo ≤ v ∧ v ≤ hi) (ho : offs[(v - lo).toNat]? = some off) (ht : (pc : Int) + off = (tgt : Int)) (k : W p l e R s m args below meth c H locs cells slots Q (F0 m tgt ls rest)) : W p l e R s m args below meth c H locs cells slots Q (F0 m pc ls (.int (zI a) :: rest)) := by
  subst h
  exact lv_tableIn hx hb hdg (by rw [zI_toInt hr]; omega) (by rw [zI_toInt hr]; omega) (by rw [zI_toInt hr]; exact ho) ht k
theorem z_tswOut (hx : p.tables.exec = Jvm.exec) (hb : c.code = cc) {a : Int} (hr : -2147483648 ≤ a ∧ a < 2147483648) {dflt lo hi : Int} {offs : Array Int} {len : Nat} {tgt : Nat} (hdg : decode cc pc = .ok (.tableswitch dflt lo hi offs, len)) (h1 : a < lo ∨ hi < a) (ht : (pc : Int) + dflt = (tgt : Int)) (k : W p l e R s m args below meth c H locs cells slots Q (F0 m tgt ls rest)) : W p l e R s m args below meth c H locs cells slots Q (F0 m pc ls (.int (zI a) :: rest)) := lv_tableOut hx hb hdg (by rw [zI_toInt hr]; exact h1) ht k
end ZR
end
section
def hi (j : Int) : Int := if j ≤ 0 then 0 else if j = 1 then 1200 else if j = 2 then 1902 else if j = 3 then 2400 else if j = 4 then 2786 else if j = 5 then 3102 else if j = 6 then 3369 else 3600
def tp (j : Int) : Int := if j ≤ 0 then 50 else if j = 1 then 99 else 9
abbrev zT (cI cJ cZ cO : ClassId) : List (ClassId × FieldType) := [(cI, .int), (cJ, .long), (cZ, .boolean), (cO, .object "BrassWays$Setup")]
/-- what holds of statics and nest links, at every method's start -/
def zSt (A : Nat → Prop) (U : State) (H : Heap) : Prop :=
  (∃ t : Nat, va_Z "BrassWays" "HIGH" "[I" (.ref t) A U H ∧ va_T .int t 8 (fun j => .int (zI (hi (j : Int)))) A U H) ∧
  (∃ t : Nat, va_Z "BrassWays" "RULE_TOP" "[I" (.ref t) A U H ∧ va_T .int t 5 (fun j => .int (zI (tp (j : Int)))) A U H) ∧
  va_Nw (.fieldLinkNest RX1 42 "BrassWays" "HIGH" "[I" "BrassWays") U ∧ va_Nw (.methodLinkNest RX1 38 yX2_valveDrop "BrassWays") U ∧
  va_Nw (.methodLinkNest RX2 11 yX1_init "BrassWays") U ∧ va_Nw (.methodLinkNest RX2 26 yX0_init "BrassWays") U ∧ va_AO RX1 U
theorem zSt.calling {A : Nat → Prop} {U : State} {g : JFrame} {mk : MethodId} {a : Array Value} (h : zSt A U U.heap) : zSt A (U.calling g mk a) (U.calling g mk a).heap := by
  obtain ⟨⟨t, a1, a2⟩, ⟨u, b1, b2⟩, n1, n2, n3, n4, o⟩ := h
  have hv : U.vm.Alike (U.calling g mk a).vm := Vm.Alike.refl U.vm
  exact ⟨⟨t, va_Z.moved hv a1, va_T.moved hv a2⟩, ⟨u, va_Z.moved hv b1, va_T.moved hv b2⟩, va_Nw.same rfl (u := U) rfl n1, va_Nw.same rfl (u := U) rfl n2, va_Nw.same rfl (u := U) rfl n3, va_Nw.same rfl (u := U) rfl n4, va_AO.moved hv o⟩
theorem zSt.go {A A1 : Nat → Prop} {s U : State} {H : Heap} {locs : List Loc} (h : zSt A s s.heap) (hS : va_S A s.heap H locs) (hF : ∀ q, A1 q → A q) (hU : U.heap = H) (hW : s.WarmedH U.vm) : zSt A1 U U.heap := by
  obtain ⟨⟨t, a1, a2⟩, ⟨u, b1, b2⟩, n1, n2, n3, n4, o⟩ := h
  have k : ∀ a : Nat, a < s.heap.size → ¬ A a → U.heap[a]? = s.heap[a]? := fun a h1 h2 => by rw [hU]; exact hS.2.1 a h1 h2
  exact ⟨⟨t, va_Z.moved hW.alike ((a1.kept k).narrow hF), va_T.moved hW.alike ((a2.kept k).narrow hF)⟩, ⟨u, va_Z.moved hW.alike ((b1.kept k).narrow hF), va_T.moved hW.alike ((b2.kept k).narrow hF)⟩, va_Nw.warmF hW n1, va_Nw.warmM hW n2, va_Nw.warmM hW n3, va_Nw.warmM hW n4, va_AO.moved hW.alike o⟩
def zPc (D : va_G) (cI cJ cZ cO : ClassId) (ws : va_W) (sz : Nat) (av : List Value) : Array Value → State → Prop := va_Pc av (fun U => U.heap.size = sz ∧ va_P D vwCl ws U.heap ∧ va_K D vwCl (zT cI cJ cZ cO) U ∧ va_D (fun _ => True) ws ∧ zSt (va_A ws sz) U U.heap)
theorem zPc_blind {D : va_G} {cI cJ cZ cO : ClassId} {ws : va_W} {sz : Nat} {av : List Value} : FrameBlind (zPc D cI cJ cZ cO ws sz av) := fun a U g mk q => by
  obtain ⟨q0, q1, qP, qK, qD, qZ⟩ := q
  exact ⟨q0, q1, qP, va_K.moved (u := U) (U := U.calling g mk a) (Vm.Alike.refl U.vm) qK, qD, zSt.calling qZ⟩
abbrev zQi {S : Type} (D : va_G) (post : Int32 → S → Prop) (w1 : S → va_W) (ws : va_W) (sz : Nat) : Array Value → State → Outcome → State → Prop := va_Qi post (fun u t => va_P D vwCl (w1 u) t.heap) (va_A ws sz)
abbrev zQl {S : Type} (D : va_G) (post : Int64 → S → Prop) (w1 : S → va_W) (ws : va_W) (sz : Nat) : Array Value → State → Outcome → State → Prop := va_Ql post (fun u t => va_P D vwCl (w1 u) t.heap) (va_A ws sz)
abbrev zQv {S : Type} (D : va_G) (post : S → Prop) (w1 : S → va_W) (ws : va_W) (sz : Nat) : Array Value → State → Outcome → State → Prop := va_Qv post (fun u t => va_P D vwCl (w1 u) t.heap) (va_A ws sz)
theorem z_meti {S : Type} {l : Launch} {y : MethodName} {wy wy' : List Cond} {rm : Room} {cc : ByteArray} {maxL : Nat} {D : va_G} {cI cJ cZ cO : ClassId} {ws : va_W} {sz : Nat} {av : List Value} {post : Int32 → S → Prop} {w1 : S → va_W}
    (hy : plainName y.cls = true) (hw : wy = Cond.code y cc maxL (some .int) :: wy') (hav : (lg_sl av).length ≤ maxL)
    (body : ∀ (p : Program) (e : Env) (s : State) (m : MethodId) (args : Array Value) (below : List Frame) (meth : Method) (c : Code) (A : Nat → Prop) (Q : State → Prop) (ls : Array Slot),
      p.tables.exec = Jvm.exec → c.code = cc → c.maxLocals = maxL → s.vm.findClass y.cls = some m.cls → (∀ w ∈ wy, w.before args s = true) → (∀ q : Nat, s.heap.size ≤ q → A q) → va_S A s.heap s.heap [] → va_P D vwCl ws s.heap → va_D A ws → va_K D vwCl (zT cI cJ cZ cO) s → zSt A s s.heap → lv_has ls maxL (lv_args 0 av) →
      (∀ (H : Heap) (locs : List Loc) (ls : Array Slot) (pc : Nat) (r : Int32) (u : S), decode cc pc = .ok (.ireturn, 1) → post r u → va_P D vwCl (w1 u) H → va_S A s.heap H locs → W p l e rm s m args below meth c H locs 0 0 Q (F0 m pc ls [.int r])) →
      W p l e rm s m args below meth c s.heap [] 0 0 Q (F0 m 0 ls [])) :
    Met l y wy rm (zPc D cI cJ cZ cO ws sz av) (zQi D post w1 ws sz) 0 0 (va_A ws sz) := by
  refine Met.ofW (cc := cc) (maxL := maxL) (ret := (some .int)) hy hw ?_
  intro p e s m args below meth c s₁ B hml hv
  obtain ⟨rfl, hsz, hP, hK, hD0, hZ⟩ := hv
  have hts := atoms_spec (ws := wy) B.pre
  have hown : s.vm.findClass y.cls = some m.cls := findClass_of_methodNamed B.named
  have hlocks := B.notSynchronized
  have hr := B.returns
  subst hsz
  have hl := lv_entry av (n := maxL) hav
  rw [lg_entry_eq]
  refine body p e s m av.toArray below meth c (va_A ws s.heap.size) _ _ B.exec B.bytes hml hown hts (fun q h => Or.inr h) va_S.rf hP hD0.self hK hZ hl ?_
  intro H locs ls pc r u hdg hpost hP1 hS
  exact W.iret B.exec B.bytes hr (fun t ht hW => ⟨⟨r, u, rfl, hpost, by show va_P D vwCl (w1 u) t.heap; rw [ht]; exact hP1⟩, hS.F ht⟩) hS.2.2 hdg
theorem z_metz {S : Type} {l : Launch} {y : MethodName} {wy wy' : List Cond} {rm : Room} {cc : ByteArray} {maxL : Nat} {D : va_G} {cI cJ cZ cO : ClassId} {ws : va_W} {sz : Nat} {av : List Value} {post : Int32 → S → Prop} {w1 : S → va_W}
    (hy : plainName y.cls = true) (hw : wy = Cond.code y cc maxL (some .boolean) :: wy') (hav : (lg_sl av).length ≤ maxL)
    (body : ∀ (p : Program) (e : Env) (s : State) (m : MethodId) (args : Array Value) (below : List Frame) (meth : Method) (c : Code) (A : Nat → Prop) (Q : State → Prop) (ls : Array Slot),
      p.tables.exec = Jvm.exec → c.code = cc → c.maxLocals = maxL → s.vm.findClass y.cls = some m.cls → (∀ w ∈ wy, w.before args s = true) → (∀ q : Nat, s.heap.size ≤ q → A q) → va_S A s.heap s.heap [] → va_P D vwCl ws s.heap → va_D A ws → va_K D vwCl (zT cI cJ cZ cO) s → zSt A s s.heap → lv_has ls maxL (lv_args 0 av) →
      (∀ (H : Heap) (locs : List Loc) (ls : Array Slot) (pc : Nat) (r : Int32) (u : S), decode cc pc = .ok (.ireturn, 1) → narrow .boolean (.int r) = .int r → post r u → va_P D vwCl (w1 u) H → va_S A s.heap H locs → W p l e rm s m args below meth c H locs 0 0 Q (F0 m pc ls [.int r])) →
      W p l e rm s m args below meth c s.heap [] 0 0 Q (F0 m 0 ls [])) :
    Met l y wy rm (zPc D cI cJ cZ cO ws sz av) (zQi D post w1 ws sz) 0 0 (va_A ws sz) := by
  refine Met.ofW (cc := cc) (maxL := maxL) (ret := (some .boolean)) hy hw ?_
  intro p e s m args below meth c s₁ B hml hv
  obtain ⟨rfl, hsz, hP, hK, hD0, hZ⟩ := hv
  have hts := atoms_spec (ws := wy) B.pre
  have hown : s.vm.findClass y.cls = some m.cls := findClass_of_methodNamed B.named
  have hlocks := B.notSynchronized
  have hr := B.returns
  subst hsz
  have hl := lv_entry av (n := maxL) hav
  rw [lg_entry_eq]
  refine body p e s m av.toArray below meth c (va_A ws s.heap.size) _ _ B.exec B.bytes hml hown hts (fun q h => Or.inr h) va_S.rf hP hD0.self hK hZ hl ?_
  intro H locs ls pc r u hdg hnar hpost hP1 hS
  exact W.zret B.exec B.bytes hr hnar (fun t ht hW => ⟨⟨r, u, rfl, hpost, by show va_P D vwCl (w1 u) t.heap; rw [ht]; exact hP1⟩, hS.F ht⟩) hS.2.2 hdg
theorem z_metl {S : Type} {l : Launch} {y : MethodName} {wy wy' : List Cond} {rm : Room} {cc : ByteArray} {maxL : Nat} {D : va_G} {cI cJ cZ cO : ClassId} {ws : va_W} {sz : Nat} {av : List Value} {post : Int64 → S → Prop} {w1 : S → va_W}
    (hy : plainName y.cls = true) (hw : wy = Cond.code y cc maxL (some .long) :: wy') (hav : (lg_sl av).length ≤ maxL)
    (body : ∀ (p : Program) (e : Env) (s : State) (m : MethodId) (args : Array Value) (below : List Frame) (meth : Method) (c : Code) (A : Nat → Prop) (Q : State → Prop) (ls : Array Slot),
      p.tables.exec = Jvm.exec → c.code = cc → c.maxLocals = maxL → s.vm.findClass y.cls = some m.cls → (∀ w ∈ wy, w.before args s = true) → (∀ q : Nat, s.heap.size ≤ q → A q) → va_S A s.heap s.heap [] → va_P D vwCl ws s.heap → va_D A ws → va_K D vwCl (zT cI cJ cZ cO) s → zSt A s s.heap → lv_has ls maxL (lv_args 0 av) →
      (∀ (H : Heap) (locs : List Loc) (ls : Array Slot) (pc : Nat) (r : Int64) (u : S), decode cc pc = .ok (.lreturn, 1) → post r u → va_P D vwCl (w1 u) H → va_S A s.heap H locs → W p l e rm s m args below meth c H locs 0 0 Q (F0 m pc ls [.long r])) →
      W p l e rm s m args below meth c s.heap [] 0 0 Q (F0 m 0 ls [])) :
    Met l y wy rm (zPc D cI cJ cZ cO ws sz av) (zQl D post w1 ws sz) 0 0 (va_A ws sz) := by
  refine Met.ofW (cc := cc) (maxL := maxL) (ret := (some .long)) hy hw ?_
  intro p e s m args below meth c s₁ B hml hv
  obtain ⟨rfl, hsz, hP, hK, hD0, hZ⟩ := hv
  have hts := atoms_spec (ws := wy) B.pre
  have hown : s.vm.findClass y.cls = some m.cls := findClass_of_methodNamed B.named
  have hlocks := B.notSynchronized
  have hr := B.returns
  subst hsz
  have hl := lv_entry av (n := maxL) hav
  rw [lg_entry_eq]
  refine body p e s m av.toArray below meth c (va_A ws s.heap.size) _ _ B.exec B.bytes hml hown hts (fun q h => Or.inr h) va_S.rf hP hD0.self hK hZ hl ?_
  intro H locs ls pc r u hdg hpost hP1 hS
  exact W.lret B.exec B.bytes hr (fun t ht hW => ⟨⟨r, u, rfl, hpost, by show va_P D vwCl (w1 u) t.heap; rw [ht]; exact hP1⟩, hS.F ht⟩) hS.2.2 hdg
theorem z_metv {S : Type} {l : Launch} {y : MethodName} {wy wy' : List Cond} {rm : Room} {cc : ByteArray} {maxL : Nat} {D : va_G} {cI cJ cZ cO : ClassId} {ws : va_W} {sz : Nat} {av : List Value} {post : S → Prop} {w1 : S → va_W}
    (hy : plainName y.cls = true) (hw : wy = Cond.code y cc maxL none :: wy') (hav : (lg_sl av).length ≤ maxL)
    (body : ∀ (p : Program) (e : Env) (s : State) (m : MethodId) (args : Array Value) (below : List Frame) (meth : Method) (c : Code) (A : Nat → Prop) (Q : State → Prop) (ls : Array Slot),
      p.tables.exec = Jvm.exec → c.code = cc → c.maxLocals = maxL → s.vm.findClass y.cls = some m.cls → (∀ w ∈ wy, w.before args s = true) → (∀ q : Nat, s.heap.size ≤ q → A q) → va_S A s.heap s.heap [] → va_P D vwCl ws s.heap → va_D A ws → va_K D vwCl (zT cI cJ cZ cO) s → zSt A s s.heap → lv_has ls maxL (lv_args 0 av) →
      (∀ (H : Heap) (locs : List Loc) (ls : Array Slot) (pc : Nat) (u : S), decode cc pc = .ok (.return_, 1) → post u → va_P D vwCl (w1 u) H → va_S A s.heap H locs → W p l e rm s m args below meth c H locs 0 0 Q (F0 m pc ls [])) →
      W p l e rm s m args below meth c s.heap [] 0 0 Q (F0 m 0 ls [])) :
    Met l y wy rm (zPc D cI cJ cZ cO ws sz av) (zQv D post w1 ws sz) 0 0 (va_A ws sz) := by
  refine Met.ofW (cc := cc) (maxL := maxL) (ret := none) hy hw ?_
  intro p e s m args below meth c s₁ B hml hv
  obtain ⟨rfl, hsz, hP, hK, hD0, hZ⟩ := hv
  have hts := atoms_spec (ws := wy) B.pre
  have hown : s.vm.findClass y.cls = some m.cls := findClass_of_methodNamed B.named
  have hlocks := B.notSynchronized
  have hr := B.returns
  subst hsz
  have hl := lv_entry av (n := maxL) hav
  rw [lg_entry_eq]
  refine body p e s m av.toArray below meth c (va_A ws s.heap.size) _ _ B.exec B.bytes hml hown hts (fun q h => Or.inr h) va_S.rf hP hD0.self hK hZ hl ?_
  intro H locs ls pc u hdg hpost hP1 hS
  exact W.vret B.exec B.bytes hr (fun t ht hW => ⟨⟨u, rfl, hpost, by show va_P D vwCl (w1 u) t.heap; rw [ht]; exact hP1⟩, hS.F ht⟩) hS.2.2 hdg
/-! worlds behind a call, in their places -/
def zmerge : va_W → List Nat → va_W → va_W
  | ws, i :: is, x :: xs => zmerge (ws.set i x) is xs
  | ws, _, _ => ws
theorem zmerge_at (is : List Nat) : ∀ (xs ws : va_W) (k : Nat) (q : Nat × va_E), is.length = xs.length → (zmerge ws is xs)[k]? = some q → (∃ j : Nat, is[j]? = some k ∧ xs[j]? = some q) ∨ (k ∉ is ∧ ws[k]? = some q) := by
  induction is with
  | nil =>
    intro xs ws k q hl h
    cases xs with
    | nil => exact Or.inr ⟨List.not_mem_nil, h⟩
    | cons x xs => cases hl
  | cons i is ih =>
    intro xs ws k q hl h
    cases xs with
    | nil => cases hl
    | cons x xs =>
      have h' : (zmerge (ws.set i x) is xs)[k]? = some q := h
      rcases ih xs (ws.set i x) k q (Nat.succ.inj hl) h' with ⟨j, h1, h2⟩ | ⟨h1, h2⟩
      · exact Or.inl ⟨j + 1, by simpa using h1, by simpa using h2⟩
      · by_cases hk : i = k
        · subst hk
          have hi : i < ws.length := by
            have h3 := (List.getElem?_eq_some_iff.mp h2).1
            simpa using h3
          rw [List.getElem?_set_self hi] at h2
          exact Or.inl ⟨0, rfl, h2⟩
        · rw [List.getElem?_set_ne hk] at h2
          exact Or.inr ⟨fun hm => by
            rcases List.mem_cons.mp hm with q1 | q1
            · exact hk q1.symm
            · exact h1 q1, h2⟩
theorem z_cut {ws wc : va_W} {isC : List Nat} (hC : isC.map (fun i => ws[i]?) = wc.map some) {j i : Nat} {q : Nat × va_E} (h1 : isC[j]? = some i) (h2 : wc[j]? = some q) : ws[i]? = some q := by
  have h := congrArg (fun l => l[j]?) hC
  simp only [List.getElem?_map, h1, h2, Option.map_some] at h
  exact Option.some.inj h
theorem z_cutj {ws wc : va_W} {isC : List Nat} (hC : isC.map (fun i => ws[i]?) = wc.map some) {j : Nat} {q : Nat × va_E} (h2 : wc[j]? = some q) : ∃ i, isC[j]? = some i ∧ ws[i]? = some q := by
  have hl : isC.length = wc.length := by have h := congrArg List.length hC; simpa using h
  have hj : j < isC.length := by rw [hl]; exact (List.getElem?_eq_some_iff.mp h2).1
  exact ⟨isC[j], List.getElem?_eq_getElem hj, z_cut hC (List.getElem?_eq_getElem hj) h2⟩
theorem z_off {A : Nat → Prop} {D : va_G} {cl : List vw_C} {ws wc : va_W} {H : Heap} (hP : va_P D cl ws H) (hD : va_D A ws) {isC : List Nat} (hC : isC.map (fun i => ws[i]?) = wc.map some) {k : Nat} {q : Nat × va_E} (hq : ws[k]? = some q) (hk : k ∉ isC) : ¬ va_A wc H.size q.1 := by
  rintro (⟨j, e, hj⟩ | hge)
  · obtain ⟨i, h1, h2⟩ := z_cutj hC hj
    have hik := hD.1 i k (q.1, e) q h2 hq rfl
    subst hik
    exact hk (List.mem_of_getElem? h1)
  · have hlt := (hP k q hq).lt
    omega
theorem z_join {A : Nat → Prop} {D : va_G} {cl : List vw_C} {ws wc w1 : va_W} {H H1 : Heap} (hP : va_P D cl ws H) (hD : va_D A ws) (isC : List Nat) (hC : isC.map (fun i => ws[i]?) = wc.map some) (hn : w1.map Prod.fst = wc.map Prod.fst)
    (hk : ∀ q : Nat, q < H.size → ¬ va_A wc H.size q → H1[q]? = H[q]?) (hP1 : va_P D cl w1 H1) : va_P D cl (zmerge ws isC w1) H1 ∧ va_D A (zmerge ws isC w1) := by
  have hl1 : isC.length = wc.length := by have h := congrArg List.length hC; simpa using h
  have hl2 : w1.length = wc.length := by have h := congrArg List.length hn; simpa using h
  have hl3 : isC.length = w1.length := by omega
  have key : ∀ (k : Nat) (q : Nat × va_E), (zmerge ws isC w1)[k]? = some q → ∃ q' : Nat × va_E, ws[k]? = some q' ∧ q'.1 = q.1 := by
    intro k q hq
    rcases zmerge_at isC w1 ws k q hl3 hq with ⟨j, h1, h2⟩ | ⟨h1, h2⟩
    · have hj : j < wc.length := by rw [← hl2]; exact (List.getElem?_eq_some_iff.mp h2).1
      have h3 := congrArg (fun l => l[j]?) hn
      simp only [List.getElem?_map, h2, List.getElem?_eq_getElem hj, Option.map_some] at h3
      exact ⟨wc[j], z_cut hC h1 (List.getElem?_eq_getElem hj), (Option.some.inj h3).symm⟩
    · exact ⟨q, h2, rfl⟩
  refine ⟨fun k q hq => ?_, fun i j x y hx hy hxy => ?_, fun k q hq => ?_⟩
  · rcases zmerge_at isC w1 ws k q hl3 hq with ⟨j, h1, h2⟩ | ⟨h1, h2⟩
    · exact hP1 j q h2
    · exact (hP k q h2).kept (hk q.1 ((hP k q h2).lt) (z_off hP hD hC h2 h1))
  · obtain ⟨x', h1, h2⟩ := key i x hx
    obtain ⟨y', h3, h4⟩ := key j y hy
    exact hD.1 i j x' y' h1 h3 (by rw [h2, h4]; exact hxy)
  · obtain ⟨q', h1, h2⟩ := key k q hq
    rw [← h2]
    exact hD.2 k q' h1
theorem z_keep {A : Nat → Prop} {D : va_G} {cl : List vw_C} {ws wc : va_W} {H H1 : Heap} (hP : va_P D cl ws H) (hD : va_D A ws) (isC : List Nat) (hC : isC.map (fun i => ws[i]?) = wc.map some)
    (hk : ∀ q : Nat, q < H.size → ¬ va_A wc H.size q → H1[q]? = H[q]?) (hP1 : va_P D cl wc H1) : va_P D cl ws H1 := by
  have hl1 : isC.length = wc.length := by have h := congrArg List.length hC; simpa using h
  intro k q hq
  by_cases hm : k ∈ isC
  · obtain ⟨j, hj⟩ := List.getElem?_of_mem hm
    have hj2 : j < wc.length := by rw [← hl1]; exact (List.getElem?_eq_some_iff.mp hj).1
    have h2 := z_cut hC hj (List.getElem?_eq_getElem hj2)
    rw [hq] at h2
    have e := Option.some.inj h2
    rw [e]
    exact hP1 j _ (List.getElem?_eq_getElem hj2)
  · exact (hP k q hq).kept (hk q.1 ((hP k q hq).lt) (z_off hP hD hC hq hm))
theorem z_sub {D : va_G} {cl : List vw_C} {ws wc : va_W} {H : Heap} (hP : va_P D cl ws H) {isC : List Nat} (hC : isC.map (fun i => ws[i]?) = wc.map some) : va_P D cl wc H := fun k q hq => by
  obtain ⟨i, -, h2⟩ := z_cutj hC hq
  exact hP i q h2
section ZC
variable {p : Program} {l : Launch} {e : Env} {R : Room} {s : State} {m : MethodId} {args : Array Value} {below : List Frame} {meth : Method} {c : Code} {H : Heap} {locs : List Loc} {cells slots : Nat} {Q : State → Prop}
variable {cc : ByteArray} {pc : Nat} {ls : Array Slot} {rest st0 As : List Value} {D : va_G} {cI cJ cZ cO : ClassId} {A : Nat → Prop} {b : Nat} {ws wc : va_W} {nL n index maxL : Nat} {own C host : String} {y : MethodName} {wy Ts : List Cond} {rm : Room} {bytes : ByteArray} {ret : Option FieldType} {fs : List Value} {T : u_T} {N : Nat}
theorem z_pre (hP : va_P D vwCl ws H) (hD : va_D A ws) (hS : va_S A s.heap H locs) (hA : ∀ q : Nat, s.heap.size ≤ q → A q) (hK : va_K D vwCl (zT cI cJ cZ cO) s) (hZ : zSt A s s.heap) {isC : List Nat} (hC : isC.map (fun i => ws[i]?) = wc.map some) (hnd : va_nd isC = true) {av : List Value} : ∀ U : State, U.heap = H → s.WarmedH U.vm → zPc D cI cJ cZ cO wc H.size av av.toArray U :=
  fun U hU hW => ⟨rfl, by rw [hU], by rw [hU]; exact z_sub hP hC, va_K.moved hW.alike hK, (hD.sub isC hnd hC).weaken (fun _ _ _ _ => trivial), hZ.go hS (va_free (wc := wc) hD hS hA isC hC) hU hW⟩
theorem z_Vir {S : Type} {post : Int32 → S → Prop} (hx : p.tables.exec = Jvm.exec) (hb : c.code = cc) (hml : c.maxLocals = nL) (hown : s.vm.findClass own = some m.cls) (hts : ∀ w ∈ Ts, w.before args s = true) (hA : ∀ q : Nat, s.heap.size ≤ q → A q) (hS : va_S A s.heap H locs) (hP : va_P D vwCl ws H) (hD : va_D A ws) (hK : va_K D vwCl (zT cI cJ cZ cO) s) (hZ : zSt A s s.heap) (hls : ls.size = nL)
    (hM : Met l y wy rm (zPc D cI cJ cZ cO wc H.size (.ref b :: As)) (zQi D post (fun _ => wc) wc H.size) 0 0 (va_A wc H.size)) (cw : CallW R s args own C index y bytes maxL ret wy rm 0 0 n) (isC : List Nat) (hC : isC.map (fun i => ws[i]?) = wc.map some) (hnd : va_nd isC = true) (q0 ci : Nat) (hq : ws[q0]? = some (b, .inr (ci, fs))) (hci : vwCl[ci]? = some (C, T, N)) (hlen : As.length = n) (hst : st0 = As.reverse ++ .ref b :: rest) (hroom : (rest.map fun v => v.category).sum ≤ 8) (hf : cells ≤ R.cells ∧ slots ≤ R.slots) (hdg : decode cc pc = .ok (.invokevirtual index, 3))
    (kk : ∀ (r : Int32) (u : S) (H1 : Heap) (locs1 : List Loc), post r u → va_P D vwCl ws H1 → va_S A s.heap H1 locs1 → W p l e R s m args below meth c H1 locs1 cells slots Q (F0 m (pc + 3) ls (.int r :: rest))) : W p l e R s m args below meth c H locs cells slots Q (F0 m pc ls st0) := by
  have hFc := va_free (wc := wc) hD hS hA isC hC
  refine va_calli (va_runV (As := As) (rest := rest) ⟨hx, hb, hml, hown, hts⟩ hM cw ⟨zPc_blind, va_recv hK hP (ci := ci) (q0 := q0) hci hq, z_pre hP hD hS hA hK hZ hC hnd⟩ rfl hlen hls hst (lv_room hroom) hdg hf) hS (fun q _ h => hFc q h) hFc (fun r u t H1 locs1 ht hvm hw hB hz1 hk1 hS1 => ?_)
  rw [ht] at hB
  exact kk r u H1 locs1 hw (z_keep hP hD isC hC hk1 hB) hS1
theorem z_Viw {S : Type} {post : Int32 → S → Prop} {w1 : S → va_W} (hx : p.tables.exec = Jvm.exec) (hb : c.code = cc) (hml : c.maxLocals = nL) (hown : s.vm.findClass own = some m.cls) (hts : ∀ w ∈ Ts, w.before args s = true) (hA : ∀ q : Nat, s.heap.size ≤ q → A q) (hS : va_S A s.heap H locs) (hP : va_P D vwCl ws H) (hD : va_D A ws) (hK : va_K D vwCl (zT cI cJ cZ cO) s) (hZ : zSt A s s.heap) (hls : ls.size = nL)
    (hM : Met l y wy rm (zPc D cI cJ cZ cO wc H.size (.ref b :: As)) (zQi D post w1 wc H.size) 0 0 (va_A wc H.size)) (cw : CallW R s args own C index y bytes maxL ret wy rm 0 0 n) (isC : List Nat) (hC : isC.map (fun i => ws[i]?) = wc.map some) (hnd : va_nd isC = true) (hn : ∀ u, (w1 u).map Prod.fst = wc.map Prod.fst) (q0 ci : Nat) (hq : ws[q0]? = some (b, .inr (ci, fs))) (hci : vwCl[ci]? = some (C, T, N)) (hlen : As.length = n) (hst : st0 = As.reverse ++ .ref b :: rest) (hroom : (rest.map fun v => v.category).sum ≤ 8) (hf : cells ≤ R.cells ∧ slots ≤ R.slots) (hdg : decode cc pc = .ok (.invokevirtual index, 3))
    (kk : ∀ (r : Int32) (u : S) (H1 : Heap) (locs1 : List Loc), post r u → va_P D vwCl (zmerge ws isC (w1 u)) H1 → va_D A (zmerge ws isC (w1 u)) → va_S A s.heap H1 locs1 → W p l e R s m args below meth c H1 locs1 cells slots Q (F0 m (pc + 3) ls (.int r :: rest))) : W p l e R s m args below meth c H locs cells slots Q (F0 m pc ls st0) := by
  have hFc := va_free (wc := wc) hD hS hA isC hC
  refine va_calli (va_runV (As := As) (rest := rest) ⟨hx, hb, hml, hown, hts⟩ hM cw ⟨zPc_blind, va_recv hK hP (ci := ci) (q0 := q0) hci hq, z_pre hP hD hS hA hK hZ hC hnd⟩ rfl hlen hls hst (lv_room hroom) hdg hf) hS (fun q _ h => hFc q h) hFc (fun r u t H1 locs1 ht hvm hw hB hz1 hk1 hS1 => ?_)
  rw [ht] at hB
  exact kk r u H1 locs1 hw (z_join hP hD isC hC (hn u) hk1 hB).1 (z_join hP hD isC hC (hn u) hk1 hB).2 hS1
theorem z_Vlr {S : Type} {post : Int64 → S → Prop} (hx : p.tables.exec = Jvm.exec) (hb : c.code = cc) (hml : c.maxLocals = nL) (hown : s.vm.findClass own = some m.cls) (hts : ∀ w ∈ Ts, w.before args s = true) (hA : ∀ q : Nat, s.heap.size ≤ q → A q) (hS : va_S A s.heap H locs) (hP : va_P D vwCl ws H) (hD : va_D A ws) (hK : va_K D vwCl (zT cI cJ cZ cO) s) (hZ : zSt A s s.heap) (hls : ls.size = nL)
    (hM : Met l y wy rm (zPc D cI cJ cZ cO wc H.size (.ref b :: As)) (zQl D post (fun _ => wc) wc H.size) 0 0 (va_A wc H.size)) (cw : CallW R s args own C index y bytes maxL ret wy rm 0 0 n) (isC : List Nat) (hC : isC.map (fun i => ws[i]?) = wc.map some) (hnd : va_nd isC = true) (q0 ci : Nat) (hq : ws[q0]? = some (b, .inr (ci, fs))) (hci : vwCl[ci]? = some (C, T, N)) (hlen : As.length = n) (hst : st0 = As.reverse ++ .ref b :: rest) (hroom : (rest.map fun v => v.category).sum ≤ 8) (hf : cells ≤ R.cells ∧ slots ≤ R.slots) (hdg : decode cc pc = .ok (.invokevirtual index, 3))
    (kk : ∀ (r : Int64) (u : S) (H1 : Heap) (locs1 : List Loc), post r u → va_P D vwCl ws H1 → va_S A s.heap H1 locs1 → W p l e R s m args below meth c H1 locs1 cells slots Q (F0 m (pc + 3) ls (.long r :: rest))) : W p l e R s m args below meth c H locs cells slots Q (F0 m pc ls st0) := by
  have hFc := va_free (wc := wc) hD hS hA isC hC
  refine va_calll (va_runV (As := As) (rest := rest) ⟨hx, hb, hml, hown, hts⟩ hM cw ⟨zPc_blind, va_recv hK hP (ci := ci) (q0 := q0) hci hq, z_pre hP hD hS hA hK hZ hC hnd⟩ rfl hlen hls hst (lv_room hroom) hdg hf) hS (fun q _ h => hFc q h) hFc (fun r u t H1 locs1 ht hvm hw hB hz1 hk1 hS1 => ?_)
  rw [ht] at hB
  exact kk r u H1 locs1 hw (z_keep hP hD isC hC hk1 hB) hS1
theorem z_Vlw {S : Type} {post : Int64 → S → Prop} {w1 : S → va_W} (hx : p.tables.exec = Jvm.exec) (hb : c.code = cc) (hml : c.maxLocals = nL) (hown : s.vm.findClass own = some m.cls) (hts : ∀ w ∈ Ts, w.before args s = true) (hA : ∀ q : Nat, s.heap.size ≤ q → A q) (hS : va_S A s.heap H locs) (hP : va_P D vwCl ws H) (hD : va_D A ws) (hK : va_K D vwCl (zT cI cJ cZ cO) s) (hZ : zSt A s s.heap) (hls : ls.size = nL)
    (hM : Met l y wy rm (zPc D cI cJ cZ cO wc H.size (.ref b :: As)) (zQl D post w1 wc H.size) 0 0 (va_A wc H.size)) (cw : CallW R s args own C index y bytes maxL ret wy rm 0 0 n) (isC : List Nat) (hC : isC.map (fun i => ws[i]?) = wc.map some) (hnd : va_nd isC = true) (hn : ∀ u, (w1 u).map Prod.fst = wc.map Prod.fst) (q0 ci : Nat) (hq : ws[q0]? = some (b, .inr (ci, fs))) (hci : vwCl[ci]? = some (C, T, N)) (hlen : As.length = n) (hst : st0 = As.reverse ++ .ref b :: rest) (hroom : (rest.map fun v => v.category).sum ≤ 8) (hf : cells ≤ R.cells ∧ slots ≤ R.slots) (hdg : decode cc pc = .ok (.invokevirtual index, 3))
    (kk : ∀ (r : Int64) (u : S) (H1 : Heap) (locs1 : List Loc), post r u → va_P D vwCl (zmerge ws isC (w1 u)) H1 → va_D A (zmerge ws isC (w1 u)) → va_S A s.heap H1 locs1 → W p l e R s m args below meth c H1 locs1 cells slots Q (F0 m (pc + 3) ls (.long r :: rest))) : W p l e R s m args below meth c H locs cells slots Q (F0 m pc ls st0) := by
  have hFc := va_free (wc := wc) hD hS hA isC hC
  refine va_calll (va_runV (As := As) (rest := rest) ⟨hx, hb, hml, hown, hts⟩ hM cw ⟨zPc_blind, va_recv hK hP (ci := ci) (q0 := q0) hci hq, z_pre hP hD hS hA hK hZ hC hnd⟩ rfl hlen hls hst (lv_room hroom) hdg hf) hS (fun q _ h => hFc q h) hFc (fun r u t H1 locs1 ht hvm hw hB hz1 hk1 hS1 => ?_)
  rw [ht] at hB
  exact kk r u H1 locs1 hw (z_join hP hD isC hC (hn u) hk1 hB).1 (z_join hP hD isC hC (hn u) hk1 hB).2 hS1
theorem z_Vvr {S : Type} {post : S → Prop} (hx : p.tables.exec = Jvm.exec) (hb : c.code = cc) (hml : c.maxLocals = nL) (hown : s.vm.findClass own = some m.cls) (hts : ∀ w ∈ Ts, w.before args s = true) (hA : ∀ q : Nat, s.heap.size ≤ q → A q) (hS : va_S A s.heap H locs) (hP : va_P D vwCl ws H) (hD : va_D A ws) (hK : va_K D vwCl (zT cI cJ cZ cO) s) (hZ : zSt A s s.heap) (hls : ls.size = nL)
    (hM : Met l y wy rm (zPc D cI cJ cZ cO wc H.size (.ref b :: As)) (zQv D post (fun _ => wc) wc H.size) 0 0 (va_A wc H.size)) (cw : CallW R s args own C index y bytes maxL ret wy rm 0 0 n) (isC : List Nat) (hC : isC.map (fun i => ws[i]?) = wc.map some) (hnd : va_nd isC = true) (q0 ci : Nat) (hq : ws[q0]? = some (b, .inr (ci, fs))) (hci : vwCl[ci]? = some (C, T, N)) (hlen : As.length = n) (hst : st0 = As.reverse ++ .ref b :: rest) (hroom : (rest.map fun v => v.category).sum ≤ 8) (hf : cells ≤ R.cells ∧ slots ≤ R.slots) (hdg : decode cc pc = .ok (.invokevirtual index, 3))
    (kk : ∀ (u : S) (H1 : Heap) (locs1 : List Loc), post u → va_P D vwCl ws H1 → va_S A s.heap H1 locs1 → W p l e R s m args below meth c H1 locs1 cells slots Q (F0 m (pc + 3) ls (rest))) : W p l e R s m args below meth c H locs cells slots Q (F0 m pc ls st0) := by
  have hFc := va_free (wc := wc) hD hS hA isC hC
  refine va_callv (va_runV (As := As) (rest := rest) ⟨hx, hb, hml, hown, hts⟩ hM cw ⟨zPc_blind, va_recv hK hP (ci := ci) (q0 := q0) hci hq, z_pre hP hD hS hA hK hZ hC hnd⟩ rfl hlen hls hst (lv_room hroom) hdg hf) hS (fun q _ h => hFc q h) hFc (fun u t H1 locs1 ht hvm hw hB hz1 hk1 hS1 => ?_)
  rw [ht] at hB
  exact kk u H1 locs1 hw (z_keep hP hD isC hC hk1 hB) hS1
theorem z_Vvw {S : Type} {post : S → Prop} {w1 : S → va_W} (hx : p.tables.exec = Jvm.exec) (hb : c.code = cc) (hml : c.maxLocals = nL) (hown : s.vm.findClass own = some m.cls) (hts : ∀ w ∈ Ts, w.before args s = true) (hA : ∀ q : Nat, s.heap.size ≤ q → A q) (hS : va_S A s.heap H locs) (hP : va_P D vwCl ws H) (hD : va_D A ws) (hK : va_K D vwCl (zT cI cJ cZ cO) s) (hZ : zSt A s s.heap) (hls : ls.size = nL)
    (hM : Met l y wy rm (zPc D cI cJ cZ cO wc H.size (.ref b :: As)) (zQv D post w1 wc H.size) 0 0 (va_A wc H.size)) (cw : CallW R s args own C index y bytes maxL ret wy rm 0 0 n) (isC : List Nat) (hC : isC.map (fun i => ws[i]?) = wc.map some) (hnd : va_nd isC = true) (hn : ∀ u, (w1 u).map Prod.fst = wc.map Prod.fst) (q0 ci : Nat) (hq : ws[q0]? = some (b, .inr (ci, fs))) (hci : vwCl[ci]? = some (C, T, N)) (hlen : As.length = n) (hst : st0 = As.reverse ++ .ref b :: rest) (hroom : (rest.map fun v => v.category).sum ≤ 8) (hf : cells ≤ R.cells ∧ slots ≤ R.slots) (hdg : decode cc pc = .ok (.invokevirtual index, 3))
    (kk : ∀ (u : S) (H1 : Heap) (locs1 : List Loc), post u → va_P D vwCl (zmerge ws isC (w1 u)) H1 → va_D A (zmerge ws isC (w1 u)) → va_S A s.heap H1 locs1 → W p l e R s m args below meth c H1 locs1 cells slots Q (F0 m (pc + 3) ls (rest))) : W p l e R s m args below meth c H locs cells slots Q (F0 m pc ls st0) := by
  have hFc := va_free (wc := wc) hD hS hA isC hC
  refine va_callv (va_runV (As := As) (rest := rest) ⟨hx, hb, hml, hown, hts⟩ hM cw ⟨zPc_blind, va_recv hK hP (ci := ci) (q0 := q0) hci hq, z_pre hP hD hS hA hK hZ hC hnd⟩ rfl hlen hls hst (lv_room hroom) hdg hf) hS (fun q _ h => hFc q h) hFc (fun u t H1 locs1 ht hvm hw hB hz1 hk1 hS1 => ?_)
  rw [ht] at hB
  exact kk u H1 locs1 hw (z_join hP hD isC hC (hn u) hk1 hB).1 (z_join hP hD isC hC (hn u) hk1 hB).2 hS1
theorem z_Sir {S : Type} {post : Int32 → S → Prop} (hx : p.tables.exec = Jvm.exec) (hb : c.code = cc) (hml : c.maxLocals = nL) (hown : s.vm.findClass own = some m.cls) (hts : ∀ w ∈ Ts, w.before args s = true) (hA : ∀ q : Nat, s.heap.size ≤ q → A q) (hS : va_S A s.heap H locs) (hP : va_P D vwCl ws H) (hD : va_D A ws) (hK : va_K D vwCl (zT cI cJ cZ cO) s) (hZ : zSt A s s.heap) (hls : ls.size = nL)
    (hM : Met l y wy rm (zPc D cI cJ cZ cO wc H.size As) (zQi D post (fun _ => wc) wc H.size) 0 0 (va_A wc H.size)) (cw : CallB R s args own index y bytes maxL ret wy rm 0 0 n ∧ (Cond.static y).before args s = true) (isC : List Nat) (hC : isC.map (fun i => ws[i]?) = wc.map some) (hnd : va_nd isC = true) (hlen : As.length = n) (hst : st0 = As.reverse ++ rest) (hroom : (rest.map fun v => v.category).sum ≤ 8) (hf : cells ≤ R.cells ∧ slots ≤ R.slots) (hdg : decode cc pc = .ok (.invokestatic index, 3))
    (kk : ∀ (r : Int32) (u : S) (H1 : Heap) (locs1 : List Loc), post r u → va_P D vwCl ws H1 → va_S A s.heap H1 locs1 → W p l e R s m args below meth c H1 locs1 cells slots Q (F0 m (pc + 3) ls (.int r :: rest))) : W p l e R s m args below meth c H locs cells slots Q (F0 m pc ls st0) := by
  have hFc := va_free (wc := wc) hD hS hA isC hC
  refine va_calli (va_runS (As := As) (rest := rest) ⟨hx, hb, hml, hown, hts⟩ hM cw ⟨zPc_blind, z_pre hP hD hS hA hK hZ hC hnd⟩ rfl hlen hls hst (lv_room hroom) hdg hf) hS (fun q _ h => hFc q h) hFc (fun r u t H1 locs1 ht hvm hw hB hz1 hk1 hS1 => ?_)
  rw [ht] at hB
  exact kk r u H1 locs1 hw (z_keep hP hD isC hC hk1 hB) hS1
theorem z_SNir {S : Type} {post : Int32 → S → Prop} (hx : p.tables.exec = Jvm.exec) (hb : c.code = cc) (hml : c.maxLocals = nL) (hown : s.vm.findClass own = some m.cls) (hts : ∀ w ∈ Ts, w.before args s = true) (hA : ∀ q : Nat, s.heap.size ≤ q → A q) (hS : va_S A s.heap H locs) (hP : va_P D vwCl ws H) (hD : va_D A ws) (hK : va_K D vwCl (zT cI cJ cZ cO) s) (hZ : zSt A s s.heap) (hls : ls.size = nL)
    (hM : Met l y wy rm (zPc D cI cJ cZ cO wc H.size As) (zQi D post (fun _ => wc) wc H.size) 0 0 (va_A wc H.size)) (cw : va_CN R s args own index y host bytes maxL ret wy rm 0 0 n ∧ (Cond.static y).before args s = true ∧ True) (isC : List Nat) (hC : isC.map (fun i => ws[i]?) = wc.map some) (hnd : va_nd isC = true) (hlen : As.length = n) (hst : st0 = As.reverse ++ rest) (hroom : (rest.map fun v => v.category).sum ≤ 8) (hf : cells ≤ R.cells ∧ slots ≤ R.slots) (hdg : decode cc pc = .ok (.invokestatic index, 3))
    (kk : ∀ (r : Int32) (u : S) (H1 : Heap) (locs1 : List Loc), post r u → va_P D vwCl ws H1 → va_S A s.heap H1 locs1 → W p l e R s m args below meth c H1 locs1 cells slots Q (F0 m (pc + 3) ls (.int r :: rest))) : W p l e R s m args below meth c H locs cells slots Q (F0 m pc ls st0) := by
  have hFc := va_free (wc := wc) hD hS hA isC hC
  refine va_calli (va_runSN (As := As) (rest := rest) ⟨hx, hb, hml, hown, hts⟩ hM cw ⟨zPc_blind, z_pre hP hD hS hA hK hZ hC hnd⟩ rfl hlen hls hst (lv_room hroom) hdg hf) hS (fun q _ h => hFc q h) hFc (fun r u t H1 locs1 ht hvm hw hB hz1 hk1 hS1 => ?_)
  rw [ht] at hB
  exact kk r u H1 locs1 hw (z_keep hP hD isC hC hk1 hB) hS1
end ZC
end
section
/-! the picture: a state is σ : Int → Int (the reference's row of 22 numbers); what the calls answer of it -/
theorem zc_cast (k : Nat) : ((k + 1 : Nat) : Int) = (k : Int) + 1 := rfl
theorem z_bit0 {s : Int} (h : 0 ≤ s ∧ s < 8) : (zI s >>> (zI 0 &&& 31)) &&& zI 1 = zI (s % 2) := by
  rcases (show s = 0 ∨ s = 1 ∨ s = 2 ∨ s = 3 ∨ s = 4 ∨ s = 5 ∨ s = 6 ∨ s = 7 by omega) with rfl | rfl | rfl | rfl | rfl | rfl | rfl | rfl <;> decide +kernel
theorem z_bit1 {s : Int} (h : 0 ≤ s ∧ s < 8) : (zI s >>> (zI 1 &&& 31)) &&& zI 1 = zI (s / 2 % 2) := by
  rcases (show s = 0 ∨ s = 1 ∨ s = 2 ∨ s = 3 ∨ s = 4 ∨ s = 5 ∨ s = 6 ∨ s = 7 by omega) with rfl | rfl | rfl | rfl | rfl | rfl | rfl | rfl <;> decide +kernel
theorem z_bit2 {s : Int} (h : 0 ≤ s ∧ s < 8) : (zI s >>> (zI 2 &&& 31)) &&& zI 1 = zI (s / 4 % 2) := by
  rcases (show s = 0 ∨ s = 1 ∨ s = 2 ∨ s = 3 ∨ s = 4 ∨ s = 5 ∨ s = 6 ∨ s = 7 by omega) with rfl | rfl | rfl | rfl | rfl | rfl | rfl | rfl <;> decide +kernel
theorem z_and1 {s : Int} (h : 0 ≤ s ∧ s < 8) : zI s &&& zI 1 = zI (s % 2) := by
  rcases (show s = 0 ∨ s = 1 ∨ s = 2 ∨ s = 3 ∨ s = 4 ∨ s = 5 ∨ s = 6 ∨ s = 7 by omega) with rfl | rfl | rfl | rfl | rfl | rfl | rfl | rfl <;> decide +kernel
def bitsI (s : Int) : Int := s % 2 + s / 2 % 2 + s / 4 % 2
def xorI (a b : Int) : Int := ((a.toNat ^^^ b.toNat : Nat) : Int)
theorem xorI_in {a b : Int} (ha : 0 ≤ a ∧ a < 8) (hb : 0 ≤ b ∧ b < 8) : 0 ≤ xorI a b ∧ xorI a b < 8 := by
  unfold xorI
  have h := Nat.xor_lt_two_pow (x := a.toNat) (y := b.toNat) (n := 3) (by omega) (by omega)
  omega
theorem z_xor {a b : Int} (ha : 0 ≤ a ∧ a < 8) (hb : 0 ≤ b ∧ b < 8) : zI a ^^^ zI b = zI (xorI a b) := by
  rcases (show a = 0 ∨ a = 1 ∨ a = 2 ∨ a = 3 ∨ a = 4 ∨ a = 5 ∨ a = 6 ∨ a = 7 by omega) with rfl | rfl | rfl | rfl | rfl | rfl | rfl | rfl <;>
  rcases (show b = 0 ∨ b = 1 ∨ b = 2 ∨ b = 3 ∨ b = 4 ∨ b = 5 ∨ b = 6 ∨ b = 7 by omega) with rfl | rfl | rfl | rfl | rfl | rfl | rfl | rfl <;> decide +kernel
theorem bitsI_in (s : Int) : 0 ≤ bitsI s ∧ bitsI s ≤ 3 := by unfold bitsI; omega
theorem aI_in {a b : Int} (h : -b ≤ a ∧ a ≤ b) : 0 ≤ aI a ∧ aI a ≤ b := by unfold aI; split <;> omega
theorem aI_nn (a : Int) : 0 ≤ aI a := by unfold aI; split <;> omega
theorem hi_in (j : Int) : 0 ≤ hi j ∧ hi j ≤ 3600 := by unfold hi; (repeat' split) <;> omega
/-- by how much a setting lowers -/
def low (σ : Int → Int) (s : Int) : Int := if σ 0 = 1 then 100 * s else s % 2 * σ 1 + s / 2 % 2 * σ 2 + s / 4 % 2 * σ 3 - σ 4 * (bitsI s * (bitsI s - 1) / 2)
def off (σ : Int → Int) (w n : Int) : Int := hi (w / 8) - low σ (w % 8) - 100 * n
abbrev okS (σ : Int → Int) (s : Int) : Prop := 0 ≤ s ∧ s ≤ (if σ 0 = 0 then 7 else 6)
abbrev okW (σ : Int → Int) (w : Int) : Prop := (0 ≤ w ∧ w ≤ 63) ∧ okS σ (w % 8)
def sd (σ : Int → Int) (w n : Int) : Bool := decide (okW σ w ∧ aI (off σ w n) ≤ σ 5)
/-- what every state that is reached keeps to -/
def Ok (σ : Int → Int) : Prop := (0 ≤ σ 0 ∧ σ 0 ≤ 1) ∧ (0 ≤ σ 1 ∧ σ 1 ≤ 400) ∧ (0 ≤ σ 2 ∧ σ 2 ≤ 400) ∧ (0 ≤ σ 3 ∧ σ 3 ≤ 400) ∧ (0 ≤ σ 4 ∧ σ 4 ≤ 50) ∧ (0 ≤ σ 5 ∧ σ 5 ≤ 99) ∧ (0 ≤ σ 6 ∧ σ 6 ≤ 9) ∧ (0 ≤ σ 7 ∧ σ 7 ≤ 9) ∧ (0 ≤ σ 8 ∧ σ 8 ≤ 9) ∧ (0 ≤ σ 9 ∧ σ 9 ≤ 12) ∧ ∀ j : Int, 0 ≤ j → j < 12 → 0 ≤ σ (10 + j) ∧ σ (10 + j) ≤ 36
theorem low_in {σ : Int → Int} (h : Ok σ) {s : Int} (hs : 0 ≤ s ∧ s < 8) : -150 ≤ low σ s ∧ low σ s ≤ 1200 := by
  obtain ⟨h0, h1, h2, h3, h4, -⟩ := h
  unfold low
  split
  · omega
  · rcases (show s = 0 ∨ s = 1 ∨ s = 2 ∨ s = 3 ∨ s = 4 ∨ s = 5 ∨ s = 6 ∨ s = 7 by omega) with rfl | rfl | rfl | rfl | rfl | rfl | rfl | rfl <;> simp [bitsI] <;> omega
theorem off_in {σ : Int → Int} (h : Ok σ) {w n : Int} (hw : 0 ≤ w ∧ w < 64) (hn : 0 ≤ n ∧ n ≤ 36) : -4800 ≤ off σ w n ∧ off σ w n ≤ 3750 := by
  have h1 := low_in h (s := w % 8) (by omega)
  have h2 := hi_in (w / 8)
  unfold off
  omega
/-- how many of the first k -/
def cnt (q : Int → Bool) : Nat → Int
  | 0 => 0
  | k + 1 => cnt q k + (if q (k : Int) then 1 else 0)
theorem cnt_in (q : Int → Bool) (k : Nat) : 0 ≤ cnt q k ∧ cnt q k ≤ k := by
  induction k with
  | zero => simp [cnt]
  | succ k ih => simp only [cnt]; split <;> omega
theorem cnt_y {q : Int → Bool} {k : Nat} (h : q (k : Int) = true) : cnt q (k + 1) = cnt q k + 1 := by simp [cnt, h]
theorem cnt_n {q : Int → Bool} {k : Nat} (h : ¬ q (k : Int) = true) : cnt q (k + 1) = cnt q k := by simp [cnt, h]
/-- the first below k, or -6 -/
def fnd (q : Int → Bool) : Nat → Int
  | 0 => -6
  | k + 1 => if 0 ≤ fnd q k then fnd q k else if q (k : Int) then (k : Int) else -6
theorem fnd_n {q : Int → Bool} {k : Nat} (h0 : fnd q k = -6) (h : ¬ q (k : Int) = true) : fnd q (k + 1) = -6 := by simp [fnd, h0, h]
theorem fnd_y {q : Int → Bool} {k : Nat} (h0 : fnd q k = -6) (h : q (k : Int) = true) : ∀ N : Nat, k < N → fnd q N = (k : Int) := by
  intro N
  induction N with
  | zero => intro h; omega
  | succ N ih =>
    intro hN
    by_cases hk : k = N
    · subst hk; simp [fnd, h0, h]
    · simp [fnd, ih (by omega)]
/-- which of the first k has the least f, or -6 -/
def amn (q : Int → Bool) (f : Int → Int) : Nat → Int
  | 0 => -6
  | k + 1 => if q (k : Int) = true ∧ (amn q f k < 0 ∨ f (k : Int) < f (amn q f k)) then (k : Int) else amn q f k
theorem amn_in (q : Int → Bool) (f : Int → Int) (k : Nat) : amn q f k = -6 ∨ (0 ≤ amn q f k ∧ amn q f k < k) := by
  induction k with
  | zero => exact Or.inl rfl
  | succ k ih => simp only [amn]; split <;> omega
/-- the least f of the first k that count, from b on (below 0: none yet) -/
def mbs (q : Int → Bool) (f : Int → Int) (b : Int) : Nat → Int
  | 0 => b
  | k + 1 => if q (k : Int) = true then (if mbs q f b k < 0 ∨ f (k : Int) < mbs q f b k then f (k : Int) else mbs q f b k) else mbs q f b k
theorem mbs_in {q : Int → Bool} {f : Int → Int} {b M : Int} (hb : -6 ≤ b ∧ b ≤ M) (N : Nat) (hf : ∀ k : Nat, k < N → q (k : Int) = true → 0 ≤ f (k : Int) ∧ f (k : Int) ≤ M) : ∀ k : Nat, k ≤ N → -6 ≤ mbs q f b k ∧ mbs q f b k ≤ M := by
  intro k
  induction k with
  | zero => intro _; exact hb
  | succ k ih =>
    intro hk
    have h1 := ih (by omega)
    simp only [mbs]
    split
    · rename_i hq
      have h2 := hf k (by omega) hq
      split <;> omega
    · exact h1
/-! what the calls answer (A_) and what they leave (S_) -/
def eff (σ : Int → Int) (a b : Int) : Int := σ 6 * (if σ 0 = 0 then bitsI (xorI (a % 8) (b % 8)) else aI (a % 8 - b % 8)) + σ 7 * aI (a / 8 - b / 8)
def flt (σ : Int → Int) (w n : Int) : Int := σ 8 * aI (off σ w n) / 10
theorem mul_in {a b A B : Int} (ha : 0 ≤ a ∧ a ≤ A) (hb : 0 ≤ b ∧ b ≤ B) : 0 ≤ a * b ∧ a * b ≤ A * B :=
  ⟨Int.mul_nonneg ha.1 hb.1, Int.le_trans (Int.mul_le_mul_of_nonneg_right ha.2 hb.1) (Int.mul_le_mul_of_nonneg_left hb.2 (by omega))⟩
theorem eff_in {σ : Int → Int} (h : Ok σ) {a b : Int} (ha : 0 ≤ a ∧ a < 64) (hb : 0 ≤ b ∧ b < 64) : 0 ≤ eff σ a b ∧ eff σ a b ≤ 126 := by
  obtain ⟨h0, h1, h2, h3, h4, h5, h6, h7, -⟩ := h
  unfold eff
  have k1 : 0 ≤ aI (a / 8 - b / 8) ∧ aI (a / 8 - b / 8) ≤ 7 := aI_in (by omega)
  have k2 := mul_in h7 k1
  have k3 : 0 ≤ (if σ 0 = 0 then bitsI (xorI (a % 8) (b % 8)) else aI (a % 8 - b % 8)) ∧ (if σ 0 = 0 then bitsI (xorI (a % 8) (b % 8)) else aI (a % 8 - b % 8)) ≤ 7 := by
    split
    · have := bitsI_in (xorI (a % 8) (b % 8)); omega
    · exact aI_in (by omega)
  have k4 := mul_in h6 k3
  omega
theorem flt_in {σ : Int → Int} (h : Ok σ) {w n : Int} (hw : 0 ≤ w ∧ w < 64) (hn : 0 ≤ n ∧ n ≤ 36) : 0 ≤ flt σ w n ∧ flt σ w n ≤ 4320 := by
  have h1 := off_in h hw hn
  have h2 : 0 ≤ aI (off σ w n) ∧ aI (off σ w n) ≤ 4800 := aI_in (by omega)
  have h3 := mul_in h.2.2.2.2.2.2.2.2.1 h2
  unfold flt
  omega
def A_horn (σ : Int → Int) (v : Int) : Int := if 0 ≤ v ∧ v ≤ 1 then σ 0 else -2
def S_horn (σ : Int → Int) (v : Int) : Int → Int := if 0 ≤ v ∧ v ≤ 1 then upI σ 0 v else σ
def A_valve (σ : Int → Int) (q v : Int) : Int := if 0 ≤ q ∧ q ≤ 2 then (if 0 ≤ v ∧ v ≤ 400 then σ (1 + q) else -2) else -1
def S_valve (σ : Int → Int) (q v : Int) : Int → Int := if 0 ≤ q ∧ q ≤ 2 then (if 0 ≤ v ∧ v ≤ 400 then upI σ (1 + q) v else σ) else σ
def A_rule (σ : Int → Int) (q v : Int) : Int := if 0 ≤ q ∧ q ≤ 4 then (if 0 ≤ v ∧ v ≤ tp q then σ (4 + q) else -2) else -2
def S_rule (σ : Int → Int) (q v : Int) : Int → Int := if 0 ≤ q ∧ q ≤ 4 then (if 0 ≤ v ∧ v ≤ tp q then upI σ (4 + q) v else σ) else σ
def A_lowers (σ : Int → Int) (t : Int) : Int := if okS σ t then low σ t + 1000 else -2
def A_off (σ : Int → Int) (w n : Int) : Int := if okW σ w then (if 0 ≤ n ∧ n ≤ 36 then off σ w n + 10000 else -2) else -2
def A_note (σ : Int → Int) (n : Int) : Int := if 0 ≤ n ∧ n ≤ 36 then (if σ 9 = 12 then -4 else σ 9) else -2
def S_note (σ : Int → Int) (n : Int) : Int → Int := if 0 ≤ n ∧ n ≤ 36 then (if σ 9 = 12 then σ else upI (upI σ (10 + σ 9) n) 9 (σ 9 + 1)) else σ
def A_set (σ : Int → Int) (q n : Int) : Int := if 0 ≤ q ∧ q ≤ σ 9 - 1 then (if 0 ≤ n ∧ n ≤ 36 then σ (10 + q) else -2) else -1
def S_set (σ : Int → Int) (q n : Int) : Int → Int := if 0 ≤ q ∧ q ≤ σ 9 - 1 then (if 0 ≤ n ∧ n ≤ 36 then upI σ (10 + q) n else σ) else σ
def A_effort (σ : Int → Int) (a b : Int) : Int := if okW σ a then (if okW σ b then eff σ a b else -2) else -2
end
section
/-! scans, one step on -/
theorem cnt_s {q : Int → Bool} {k : Nat} {x : Int} (e : x = cnt q k) : cnt q (k + 1) = x + (if q (k : Int) = true then 1 else 0) := by subst e; rfl
theorem amn_s {q : Int → Bool} {f : Int → Int} {k : Nat} {x : Int} (e : x = amn q f k) : amn q f (k + 1) = if q (k : Int) = true ∧ (x < 0 ∨ f (k : Int) < f x) then (k : Int) else x := by subst e; rfl
theorem mbs_s {q : Int → Bool} {f : Int → Int} {b y : Int} {k : Nat} (e : y = mbs q f b k) : mbs q f b (k + 1) = if q (k : Int) = true then (if y < 0 ∨ f (k : Int) < y then f (k : Int) else y) else y := by subst e; rfl
def A_ways (σ : Int → Int) (n i : Int) : Int := if 0 ≤ n ∧ n ≤ 36 then (if i < -1 then -2 else if i = -1 then cnt (fun w => sd σ w n) 64 else fnd (fun w => sd σ w n && decide (cnt (fun v => sd σ v n) w.toNat = i)) 64) else -2
def A_truest (σ : Int → Int) (n : Int) : Int := if 0 ≤ n ∧ n ≤ 36 then amn (fun w => sd σ w n) (fun w => aI (off σ w n)) 64 else -2
def A_range (σ : Int → Int) (q : Int) : Int := if -1 ≤ q ∧ q ≤ 64 then cnt (fun n => decide (if q = -1 then 0 < cnt (fun w => sd σ w n) 64 else cnt (fun w => sd σ w n) 64 = q)) 37 else -2
def tro (σ : Int → Int) (a b : Int) : Nat → Int
  | 0 => -6
  | k + 1 => if sd σ (k : Int) a = true then mbs (fun v => sd σ v b) (fun v => eff σ (k : Int) v) (tro σ a b k) 64 else tro σ a b k
theorem tro_s {σ : Int → Int} {a b x : Int} {k : Nat} (e : x = tro σ a b k) : tro σ a b (k + 1) = if sd σ (k : Int) a = true then mbs (fun v => sd σ v b) (fun v => eff σ (k : Int) v) x 64 else x := by subst e; rfl
theorem tro_in {σ : Int → Int} (h : Ok σ) (a b : Int) : ∀ k : Nat, k ≤ 64 → -6 ≤ tro σ a b k ∧ tro σ a b k ≤ 126 := by
  intro k
  induction k with
  | zero => intro _; simp [tro]
  | succ k ih =>
    intro hk
    have h1 := ih (by omega)
    simp only [tro]
    split
    · exact mbs_in (M := 126) h1 64 (fun j hj _ => eff_in h (by omega) (by omega)) 64 (by omega)
    · exact h1
def A_trill (σ : Int → Int) (a b : Int) : Int := if 0 ≤ a ∧ a ≤ 36 then (if 0 ≤ b ∧ b ≤ 36 then tro σ a b 64 else -2) else -2
def A_awk (σ : Int → Int) (d t : Int) : Int := if 1 ≤ d ∧ d ≤ 12 then (if 0 ≤ t ∧ t ≤ 99 then cnt (fun n => decide (t < tro σ n (n + d) 64)) (37 - d).toNat else -2) else -2
def nrm (σ : Int → Int) (n : Int) : Int := mbs (fun _ => true) (fun w => aI (off σ w n)) (-6) 64
def ofp (σ : Int → Int) : Nat → Int
  | 0 => 0
  | k + 1 => ofp σ k + nrm σ (σ (10 + (k : Int)))
theorem ofp_s {σ : Int → Int} {x : Int} {k : Nat} (e : x = ofp σ k) : ofp σ (k + 1) = x + nrm σ (σ (10 + (k : Int))) := by subst e; rfl
theorem nrm_in {σ : Int → Int} (h : Ok σ) {n : Int} (hn : 0 ≤ n ∧ n ≤ 36) : -6 ≤ nrm σ n ∧ nrm σ n ≤ 4800 := by
  have k := mbs_in (q := fun _ => true) (f := fun w => aI (off σ w n)) (b := -6) (M := 4800) (by omega) 64 (fun j hj _ => aI_in (by have := off_in h (w := (j : Int)) (n := n) (by omega) hn; omega)) 64 (by omega)
  exact k
theorem ofp_in {σ : Int → Int} (h : Ok σ) : ∀ k : Nat, k ≤ 12 → -72 ≤ ofp σ k ∧ ofp σ k ≤ 57600 := by
  have key : ∀ k : Nat, k ≤ 12 → -6 * (k : Int) ≤ ofp σ k ∧ ofp σ k ≤ 4800 * (k : Int) := by
    intro k
    induction k with
    | zero => intro _; simp [ofp]
    | succ k ih =>
      intro hk
      have h1 := ih (by omega)
      have h2 := nrm_in h (h.2.2.2.2.2.2.2.2.2.2 (k : Int) (by omega) (by omega))
      simp only [ofp]
      omega
  intro k hk
  have := key k hk
  omega
def A_ofp (σ : Int → Int) : Int := ofp σ (σ 9).toNat
theorem A_ofp_in {σ : Int → Int} (h : Ok σ) : -72 ≤ A_ofp σ ∧ A_ofp σ ≤ 57600 := ofp_in h _ (by have := h.2.2.2.2.2.2.2.2.2.1; omega)
theorem upI_uu {α : Type} (g : Int → α) (i : Int) (x y : α) : upI (upI g i x) i y = upI g i y := by
  funext j; unfold upI; by_cases h : j = i <;> simp [h]
theorem upI_self {α : Type} (g : Int → α) (i : Int) : upI g i (g i) = g := by
  funext j; unfold upI; by_cases h : j = i <;> simp [h]
theorem Ok_valve {σ : Int → Int} (h : Ok σ) {q v : Int} (hq : 0 ≤ q ∧ q ≤ 2) (hv : 0 ≤ v ∧ v ≤ 400) : Ok (upI σ (1 + q) v) := by
  obtain ⟨h0, h1, h2, h3, h4, h5, h6, h7, h8, h9, h10⟩ := h
  unfold Ok upI
  refine ⟨?_, ?_, ?_, ?_, ?_, ?_, ?_, ?_, ?_, ?_, ?_⟩
  · rw [if_neg (by omega)]; exact h0
  · split <;> assumption
  · split <;> assumption
  · split <;> assumption
  · rw [if_neg (by omega)]; exact h4
  · rw [if_neg (by omega)]; exact h5
  · rw [if_neg (by omega)]; exact h6
  · rw [if_neg (by omega)]; exact h7
  · rw [if_neg (by omega)]; exact h8
  · rw [if_neg (by omega)]; exact h9
  · intro j a b; rw [if_neg (by omega)]; exact h10 j a b
def tuB (F : Int → Int) : Nat → Int × Int
  | 0 => (-6, 0)
  | k + 1 => if (tuB F k).1 < 0 ∨ F (5 * (k : Int)) < (tuB F k).2 then (5 * (k : Int), F (5 * (k : Int))) else tuB F k
theorem tuB_s {F : Int → Int} {k : Nat} {b t : Int} (e : (b, t) = tuB F k) : tuB F (k + 1) = if b < 0 ∨ F (5 * (k : Int)) < t then (5 * (k : Int), F (5 * (k : Int))) else (b, t) := by
  simp only [tuB, ← e]
abbrev tuF (σ : Int → Int) (q : Int) : Int → Int := fun v => A_ofp (upI σ (1 + q) v)
def A_tune (σ : Int → Int) (q v : Int) : Int := if 0 ≤ q ∧ q ≤ 2 then (if 0 ≤ v ∧ v ≤ 1 then (if σ 0 = 1 then -3 else if v = 0 then (tuB (tuF σ q) 81).1 else (tuB (tuF σ q) 81).2) else -2) else -1
def A_dumb (σ : Int → Int) : Int := fnd (fun p => decide (cnt (fun w => sd σ w (σ (10 + p))) 64 = 0)) (σ 9).toNat
def cpI (g f : Int → Int) (b n : Int) : Int → Int := fun c => if b ≤ c ∧ c < b + n then f (c - b) else g c
theorem cpI_0 (g f : Int → Int) (b : Int) : cpI g f b 0 = g := by funext c; unfold cpI; rw [if_neg (by omega)]
theorem cpI_s (g f : Int → Int) (b n : Int) (h : 0 ≤ n) : upI (cpI g f b n) (b + n) (f n) = cpI g f b (n + 1) := by
  funext c; unfold upI cpI
  by_cases h1 : c = b + n
  · rw [if_pos h1, if_pos (by omega)]; congr 1; omega
  · rw [if_neg h1]
    by_cases h2 : b ≤ c ∧ c < b + n
    · rw [if_pos h2, if_pos (by omega)]
    · rw [if_neg h2, if_neg (by omega)]
def rsI (g f : Int → Int) (b n : Int) : Int → Int := fun c => if 0 ≤ c ∧ c < n then f (b + c) else g c
theorem rsI_0 (g f : Int → Int) (b : Int) : rsI g f b 0 = g := by funext c; unfold rsI; rw [if_neg (by omega)]
theorem rsI_s (g f : Int → Int) (b n : Int) (h : 0 ≤ n) : upI (rsI g f b n) n (f (b + n)) = rsI g f b (n + 1) := by
  funext c; unfold upI rsI
  by_cases h1 : c = n
  · rw [if_pos h1, if_pos (by omega), h1]
  · rw [if_neg h1]
    by_cases h2 : 0 ≤ c ∧ c < n
    · rw [if_pos h2, if_pos (by omega)]
    · rw [if_neg h2, if_neg (by omega)]
def A_image (q : Int) : Int := if 0 ≤ q ∧ q ≤ 1 then 1 else -2
def S_imi (gi σ : Int → Int) (q : Int) : Int → Int := if 0 ≤ q ∧ q ≤ 1 then cpI gi σ (22 * q) 22 else gi
def S_imk (gk : Int → Int) (q : Int) : Int → Int := if 0 ≤ q ∧ q ≤ 1 then upI gk q 1 else gk
def A_restore (gk : Int → Int) (q : Int) : Int := if 0 ≤ q ∧ q ≤ 1 then (if gk q = 0 then -3 else 1) else -2
def S_restore (σ gi gk : Int → Int) (q : Int) : Int → Int := if 0 ≤ q ∧ q ≤ 1 then (if gk q = 0 then σ else rsI σ gi (22 * q) 22) else σ
def A_count (σ gk : Int → Int) (q : Int) : Int := if 10 ≤ q ∧ q ≤ 14 then σ (4 + q - 10) else if 20 ≤ q ∧ q ≤ 22 then σ (1 + q - 20) else if 30 ≤ q ∧ q ≤ 41 then (if 0 ≤ q - 30 ∧ q - 30 ≤ σ 9 - 1 then σ (10 + q - 30) else -6) else if q = 0 then σ 0 else if q = 1 then σ 9 else if q = 2 then (if gk 0 = 0 then 0 else 1) + (if gk 1 = 0 then 0 else 2) else -2
section ZZ
variable {p : Program} {l : Launch} {e : Env} {R : Room} {s : State} {m : MethodId} {args : Array Value} {below : List Frame} {meth : Method} {c : Code} {H : Heap} {locs : List Loc} {cells slots : Nat} {Q : State → Prop}
variable {cc : ByteArray} {pc : Nat} {ls : Array Slot} {rest : List Value} {D : va_G} {cl : List vw_C} {A : Nat → Prop} {a : Nat} {tys : List (ClassId × FieldType)} {ws : va_W} {H0 : Heap}
theorem z_zast (hx : p.tables.exec = Jvm.exec) (hb : c.code = cc) (hK : va_K D cl tys s) (hP : va_P D cl ws H) (hD : va_D A ws) (hS : va_S A H0 H locs) (q0 t0 : Nat) {cA : ClassId} {n : Nat} {g : Int → Int} {k x : Int} (ha : ws[q0]? = some (a, .inl (cA, n, .inl (zF g)))) (ht : tys[t0]? = some (cA, .boolean)) (hk : (0 ≤ k ∧ k < (n : Int)) ∧ n ≤ 2147483647) (hnar : vp_nar .boolean (zI x) = zI x) (hdg : decode cc pc = .ok (.bastore, 1)) (kk : ∀ (H1 : Heap) (locs1 : List Loc), va_P D cl (ws.set q0 (a, .inl (cA, n, .inl (zF (upI g k x))))) H1 → va_D A (ws.set q0 (a, .inl (cA, n, .inl (zF (upI g k x))))) → va_S A H0 H1 locs1 → W p l e R s m args below meth c H1 locs1 cells slots Q (F0 m (pc + 1) ls rest)) : W p l e R s m args below meth c H locs cells slots Q (F0 m pc ls (.int (zI x) :: .int (zI k) :: .ref a :: rest)) := va_zast hx hb hK hP hD hS q0 t0 ha ht (zI_in hk.1.1 hk.1.2 hk.2) hdg (by rw [hnar, zF_up hk.1.1 (by omega)]; exact kk)
end ZZ
end
section
/-! plans: what is to come behind a place, laid from the last place back -/
def lW (z : Int) : Int64 := Int64.ofInt z
theorem lW_add (a b : Int) : lW a + lW b = lW (a + b) := (Int64.ofInt_add a b).symm
theorem lW_mul (a b : Int) : lW a * lW b = lW (a * b) := (Int64.ofInt_mul a b).symm
theorem lW_toInt {a : Int} (h : -9223372036854775808 ≤ a ∧ a < 9223372036854775808) : (lW a).toInt = a := Int64.toInt_ofInt_of_le (by omega) (by omega)
theorem lW_0 : lW 0 = 0 := by decide +kernel
theorem lW_1 : lW 1 = 1 := by decide +kernel
theorem lW_le0 {a : Int} (h : -9223372036854775808 ≤ a ∧ a < 9223372036854775808) : lW a ≤ 0 ↔ a ≤ 0 := by
  rw [← lW_0, Int64.le_iff_toInt_le, lW_toInt h, lW_toInt (by omega)]
theorem lW_gt0 {a : Int} (h : -9223372036854775808 ≤ a ∧ a < 9223372036854775808) : 0 < lW a ↔ 0 < a := by
  rw [← lW_0, Int64.lt_iff_toInt_lt, lW_toInt h, lW_toInt (by omega)]
theorem zI_toL {a : Int} (h : -2147483648 ≤ a ∧ a < 2147483648) : (zI a).toInt64 = lW a := by
  apply Int64.toInt_inj.mp
  rw [Int32.toInt_toInt64, zI_toInt h, lW_toInt (by omega)]
theorem mbs_char {q : Int → Bool} {f : Int → Int} (N : Nat) (hf : ∀ k : Nat, k < N → q (k : Int) = true → 0 ≤ f (k : Int)) :
    ((∀ k : Nat, k < N → ¬ q (k : Int) = true) ∧ mbs q f (-6) N = -6) ∨ ((∃ k : Nat, k < N ∧ q (k : Int) = true ∧ mbs q f (-6) N = f (k : Int)) ∧ ∀ k : Nat, k < N → q (k : Int) = true → mbs q f (-6) N ≤ f (k : Int)) := by
  induction N with
  | zero => exact Or.inl ⟨fun k h => by omega, rfl⟩
  | succ N ih =>
    have ih := ih (fun k hk => hf k (by omega))
    by_cases hq : q (N : Int) = true
    · right
      have h0 := hf N (by omega) hq
      rcases ih with ⟨h1, h2⟩ | ⟨⟨k, hk, hqk, he⟩, h2⟩
      · have e : mbs q f (-6) (N + 1) = f (N : Int) := by simp only [mbs]; rw [if_pos hq, if_pos (Or.inl (by omega))]
        refine ⟨⟨N, by omega, hq, e⟩, fun k hk hqk => ?_⟩
        by_cases hkN : k = N
        · subst hkN; omega
        · exact absurd hqk (h1 k (by omega))
      · have hm := hf k (by omega) hqk
        by_cases hlt : f (N : Int) < mbs q f (-6) N
        · have e : mbs q f (-6) (N + 1) = f (N : Int) := by simp only [mbs]; rw [if_pos hq, if_pos (Or.inr hlt)]
          refine ⟨⟨N, by omega, hq, e⟩, fun j hj hqj => ?_⟩
          by_cases hkN : j = N
          · subst hkN; omega
          · have := h2 j (by omega) hqj; omega
        · have e : mbs q f (-6) (N + 1) = mbs q f (-6) N := by simp only [mbs]; rw [if_pos hq, if_neg (by omega)]
          refine ⟨⟨k, by omega, hqk, by rw [e]; exact he⟩, fun j hj hqj => ?_⟩
          by_cases hkN : j = N
          · subst hkN; omega
          · have := h2 j (by omega) hqj; omega
    · have e : mbs q f (-6) (N + 1) = mbs q f (-6) N := by simp only [mbs]; rw [if_neg hq]
      rcases ih with ⟨h1, h2⟩ | ⟨⟨k, hk, hqk, he⟩, h2⟩
      · left
        refine ⟨fun j hj => ?_, by rw [e]; exact h2⟩
        by_cases hkN : j = N
        · subst hkN; exact hq
        · exact h1 j (by omega)
      · right
        refine ⟨⟨k, by omega, hqk, by rw [e]; exact he⟩, fun j hj hqj => ?_⟩
        by_cases hkN : j = N
        · subst hkN; exact absurd hqj hq
        · rw [e]; exact h2 j (by omega) hqj
/-! no note has more than eight ways -/
theorem hi_gap {a b : Int} (ha : 0 ≤ a ∧ a < 8) (hb : 0 ≤ b ∧ b < 8) (h : -198 ≤ hi a - hi b ∧ hi a - hi b ≤ 198) : a = b := by
  rcases (show a = 0 ∨ a = 1 ∨ a = 2 ∨ a = 3 ∨ a = 4 ∨ a = 5 ∨ a = 6 ∨ a = 7 by omega) with rfl | rfl | rfl | rfl | rfl | rfl | rfl | rfl <;>
  rcases (show b = 0 ∨ b = 1 ∨ b = 2 ∨ b = 3 ∨ b = 4 ∨ b = 5 ∨ b = 6 ∨ b = 7 by omega) with rfl | rfl | rfl | rfl | rfl | rfl | rfl | rfl <;>
  first | rfl | (exfalso; revert h; decide)
theorem sd_ok {σ : Int → Int} {w n : Int} (h : sd σ w n = true) : okW σ w ∧ aI (off σ w n) ≤ σ 5 := by
  unfold sd at h
  exact of_decide_eq_true h
theorem sd_in {σ : Int → Int} {w n : Int} (h : sd σ w n = true) : 0 ≤ w ∧ w < 64 := by
  have := (sd_ok h).1.1
  omega
theorem sd_one {σ : Int → Int} (hO : Ok σ) {v w n : Int} (hv : sd σ v n = true) (hw : sd σ w n = true) (h : v % 8 = w % 8) : v = w := by
  have h5 := hO.2.2.2.2.2.1
  have k1 := sd_in hv
  have k2 := sd_in hw
  have a1 := (sd_ok hv).2
  have a2 := (sd_ok hw).2
  unfold off at a1 a2
  rw [h] at a1
  have b1 : -99 ≤ hi (v / 8) - low σ (w % 8) - 100 * n ∧ hi (v / 8) - low σ (w % 8) - 100 * n ≤ 99 := by unfold aI at a1; split at a1 <;> omega
  have b2 : -99 ≤ hi (w / 8) - low σ (w % 8) - 100 * n ∧ hi (w / 8) - low σ (w % 8) - 100 * n ≤ 99 := by unfold aI at a2; split at a2 <;> omega
  have e := hi_gap (a := v / 8) (b := w / 8) (by omega) (by omega) (by omega)
  omega
theorem cnt_le1 {q : Int → Bool} : ∀ N : Nat, (∀ i j : Nat, i < N → j < N → q (i : Int) = true → q (j : Int) = true → i = j) → cnt q N ≤ 1 := by
  intro N
  induction N with
  | zero => intro _; simp [cnt]
  | succ N ih =>
    intro h
    by_cases hq : q (N : Int) = true
    · have z : ∀ M : Nat, M ≤ N → cnt q M = 0 := by
        intro M
        induction M with
        | zero => intro _; rfl
        | succ M ihM =>
          intro hM
          rw [cnt_n (fun hqM => by have := h M N (by omega) (by omega) hqM hq; omega)]
          exact ihM (by omega)
      rw [cnt_y hq, z N (by omega)]
      omega
    · rw [cnt_n hq]
      exact ih (fun i j hi hj => h i j (by omega) (by omega))
theorem cnt_cong {q r : Int → Bool} : ∀ N : Nat, (∀ i : Nat, i < N → q (i : Int) = r (i : Int)) → cnt q N = cnt r N := by
  intro N
  induction N with
  | zero => intro _; rfl
  | succ N ih =>
    intro h
    simp only [cnt]
    rw [ih (fun i hi => h i (by omega)), h N (by omega)]
abbrev md (q : Int → Bool) (r : Int) : Int → Bool := fun w => q w && decide (w % 8 = r)
theorem md_s (q : Int → Bool) (r : Int) (k : Nat) : cnt (md q r) (k + 1) = cnt (md q r) k + (if q (k : Int) = true ∧ (k : Int) % 8 = r then 1 else 0) := by
  simp [cnt, md]
theorem cnt_md (q : Int → Bool) (N : Nat) : cnt q N = cnt (md q 0) N + cnt (md q 1) N + cnt (md q 2) N + cnt (md q 3) N + cnt (md q 4) N + cnt (md q 5) N + cnt (md q 6) N + cnt (md q 7) N := by
  induction N with
  | zero => rfl
  | succ N ih =>
    rw [md_s, md_s, md_s, md_s, md_s, md_s, md_s, md_s, cnt_s rfl]
    by_cases hq : q (N : Int) = true
    · simp only [hq, true_and, if_true]
      rcases (show (N : Int) % 8 = 0 ∨ (N : Int) % 8 = 1 ∨ (N : Int) % 8 = 2 ∨ (N : Int) % 8 = 3 ∨ (N : Int) % 8 = 4 ∨ (N : Int) % 8 = 5 ∨ (N : Int) % 8 = 6 ∨ (N : Int) % 8 = 7 by omega) with h | h | h | h | h | h | h | h <;> simp only [h] <;> simp <;> omega
    · have hq2 : q (N : Int) = false := by simpa using hq
      simp [hq2]
      omega
theorem cnt8 {σ : Int → Int} (hO : Ok σ) (n : Int) (N : Nat) : cnt (fun w => sd σ w n) N ≤ 8 := by
  rw [cnt_md]
  have k : ∀ r : Int, cnt (md (fun w => sd σ w n) r) N ≤ 1 := by
    intro r
    apply cnt_le1
    intro i j _ _ h1 h2
    simp only [md, Bool.and_eq_true, decide_eq_true_eq] at h1 h2
    have := sd_one hO h1.1 h2.1 (by omega)
    omega
  have k0 := k 0; have k1 := k 1; have k2 := k 2; have k3 := k 3; have k4 := k 4; have k5 := k 5; have k6 := k 6; have k7 := k 7
  omega
/-! the tables -/
def ntj (σ : Int → Int) (j : Nat) : Int := σ (10 + (σ 9 - 1 - (j : Int)))
def cj (σ : Int → Int) (j : Nat) : Int := cnt (fun w => sd σ w (ntj σ j)) 64
def PR (σ : Int → Int) : Nat → Int
  | 0 => 1
  | j + 1 => cj σ j * PR σ j
def WW (σ : Int → Int) (j : Nat) (w : Int) : Int := if sd σ w (ntj σ j) = true then PR σ j else 0
abbrev qW (σ : Int → Int) (j : Nat) : Int → Bool := fun v => decide (0 < WW σ j v)
def RR (σ : Int → Int) : Nat → Int → Int
  | 0, w => flt σ w (ntj σ 0)
  | j + 1, w => mbs (qW σ j) (fun v => flt σ w (ntj σ (j + 1)) + eff σ w v + RR σ j v) (-6) 64
def tie (q : Int → Bool) (f : Int → Int) (T : Int → Int64) : Nat → Int64
  | 0 => 0
  | k + 1 => if q (k : Int) = true then (if mbs q f (-6) k < 0 ∨ f (k : Int) < mbs q f (-6) k then T (k : Int) else if f (k : Int) = mbs q f (-6) k then tie q f T k + T (k : Int) else tie q f T k) else tie q f T k
theorem tie_s {q : Int → Bool} {f : Int → Int} {T : Int → Int64} {k : Nat} {y : Int} {z : Int64} (ey : y = mbs q f (-6) k) (ez : z = tie q f T k) : tie q f T (k + 1) = if q (k : Int) = true then (if y < 0 ∨ f (k : Int) < y then T (k : Int) else if f (k : Int) = y then z + T (k : Int) else z) else z := by
  subst ey; subst ez; rfl
def TT (σ : Int → Int) : Nat → Int → Int64
  | 0, _ => 1
  | j + 1, w => tie (qW σ j) (fun v => flt σ w (ntj σ (j + 1)) + eff σ w v + RR σ j v) (TT σ j) 64
theorem cj_in {σ : Int → Int} (hO : Ok σ) (j : Nat) : 0 ≤ cj σ j ∧ cj σ j ≤ 8 := ⟨(cnt_in _ 64).1, cnt8 hO _ 64⟩
theorem PR_in {σ : Int → Int} (hO : Ok σ) (j : Nat) : 0 ≤ PR σ j ∧ PR σ j ≤ ((8 ^ j : Nat) : Int) := by
  induction j with
  | zero => simp [PR]
  | succ j ih =>
    have h := mul_in (cj_in hO j) ih
    simp only [PR]
    rw [Nat.pow_succ]
    omega
theorem PR_lt {σ : Int → Int} (hO : Ok σ) {j : Nat} (hj : j ≤ 12) : 0 ≤ PR σ j ∧ PR σ j ≤ 68719476736 := by
  have h := PR_in hO j
  have h2 : 8 ^ j ≤ 8 ^ 12 := Nat.pow_le_pow_right (by omega) hj
  have h3 : 8 ^ 12 = 68719476736 := by decide +kernel
  omega
theorem WW_in {σ : Int → Int} (hO : Ok σ) {j : Nat} (hj : j ≤ 12) (w : Int) : 0 ≤ WW σ j w ∧ WW σ j w ≤ 68719476736 := by
  have h := PR_lt hO hj
  unfold WW
  split <;> omega
theorem WW_sd {σ : Int → Int} {j : Nat} {w : Int} (h : 0 < WW σ j w) : sd σ w (ntj σ j) = true ∧ WW σ j w = PR σ j := by
  unfold WW at h ⊢
  split at h
  · rename_i hs; exact ⟨hs, by rw [if_pos hs]⟩
  · omega
theorem WW_step {σ : Int → Int} (hO : Ok σ) {j k : Nat} (h : ¬ 0 < WW σ j (k : Int)) : cnt (fun v => sd σ v (ntj σ j)) (k + 1) * PR σ j = cnt (fun v => sd σ v (ntj σ j)) k * PR σ j := by
  by_cases hs : sd σ (k : Int) (ntj σ j) = true
  · unfold WW at h
    rw [if_pos hs] at h
    have := (PR_in hO j).1
    rw [show PR σ j = 0 by omega]
    simp
  · rw [cnt_n (q := fun v => sd σ v (ntj σ j)) hs]
theorem WW_stepy {σ : Int → Int} {j k : Nat} (h : 0 < WW σ j (k : Int)) : cnt (fun v => sd σ v (ntj σ j)) (k + 1) * PR σ j = cnt (fun v => sd σ v (ntj σ j)) k * PR σ j + WW σ j (k : Int) := by
  obtain ⟨hs, e⟩ := WW_sd h
  rw [cnt_y (q := fun v => sd σ v (ntj σ j)) hs, e, Int.add_mul, Int.one_mul]
theorem ntj_in {σ : Int → Int} (hO : Ok σ) {j : Nat} (hj : (j : Int) < σ 9) : 0 ≤ ntj σ j ∧ ntj σ j ≤ 36 := by
  have h9 := hO.2.2.2.2.2.2.2.2.2.1
  exact hO.2.2.2.2.2.2.2.2.2.2 (σ 9 - 1 - (j : Int)) (by omega) (by omega)
theorem RR_in {σ : Int → Int} (hO : Ok σ) : ∀ (j : Nat), (j : Int) < σ 9 → ∀ w : Int, 0 ≤ w ∧ w < 64 → (-6 ≤ RR σ j w ∧ RR σ j w ≤ 4446 * ((j : Int) + 1)) ∧ (0 < WW σ j w → 0 ≤ RR σ j w) := by
  intro j
  induction j with
  | zero =>
    intro hj w hw
    have h := flt_in hO (w := w) (n := ntj σ 0) hw (ntj_in hO hj)
    simp only [RR]
    constructor
    · omega
    · intro _; omega
  | succ j ih =>
    intro hj w hw
    have ih := ih (by omega)
    have h1 := flt_in hO (w := w) (n := ntj σ (j + 1)) hw (ntj_in hO hj)
    have hf : ∀ k : Nat, k < 64 → qW σ j (k : Int) = true → 0 ≤ flt σ w (ntj σ (j + 1)) + eff σ w (k : Int) + RR σ j (k : Int) ∧ flt σ w (ntj σ (j + 1)) + eff σ w (k : Int) + RR σ j (k : Int) ≤ 4446 * (((j + 1 : Nat) : Int) + 1) := by
      intro k hk hq
      have h2 := ih (k : Int) (by omega)
      have h3 := h2.2 (of_decide_eq_true hq)
      have h4 := eff_in hO (a := w) (b := (k : Int)) hw (by omega)
      omega
    have hM := mbs_in (q := qW σ j) (f := fun v => flt σ w (ntj σ (j + 1)) + eff σ w v + RR σ j v) (b := -6) (M := 4446 * (((j + 1 : Nat) : Int) + 1)) (by omega) 64 hf 64 (by omega)
    refine ⟨hM, fun hW => ?_⟩
    rcases mbs_char (q := qW σ j) (f := fun v => flt σ w (ntj σ (j + 1)) + eff σ w v + RR σ j v) 64 (fun k hk hq => (hf k hk hq).1) with ⟨h5, _⟩ | ⟨⟨k, hk, hq, he⟩, _⟩
    · exfalso
      have e := (WW_sd hW).2
      have hz : ∀ N : Nat, N ≤ 64 → cnt (fun v => sd σ v (ntj σ j)) N * PR σ j = 0 := by
        intro N
        induction N with
        | zero => intro _; simp [cnt]
        | succ N ihN =>
          intro hN
          rw [WW_step hO (fun hh => h5 N (by omega) (decide_eq_true hh))]
          exact ihN (by omega)
      have := hz 64 (by omega)
      have e2 : PR σ (j + 1) = 0 := this
      omega
    · have := (hf k hk hq).1
      show 0 ≤ mbs (qW σ j) (fun v => flt σ w (ntj σ (j + 1)) + eff σ w v + RR σ j v) (-6) 64
      rw [he]
      exact this
/-- what the three rows hold of a place: the j-th from the last -/
def LAY (σ gr : Int → Int) (gw gl : Int → Int64) (j : Nat) : Prop := ∀ v : Int, 0 ≤ v → v < 64 → gw (64 * (σ 9 - 1 - (j : Int)) + v) = lW (WW σ j v) ∧ (sd σ v (ntj σ j) = true → gr (64 * (σ 9 - 1 - (j : Int)) + v) = RR σ j v ∧ gl (64 * (σ 9 - 1 - (j : Int)) + v) = TT σ j v)
def LEAST (σ : Int → Int) : Int := if σ 9 = 0 then 0 else mbs (qW σ (σ 9 - 1).toNat) (RR σ (σ 9 - 1).toNat) (-6) 64
end
section
theorem LAY_keep {σ r r' : Int → Int} {w l w' l' : Int → Int64} {i : Nat} {c : Int} (h : LAY σ r w l i) (hc : ∀ x : Int, x ≠ c → r' x = r x ∧ w' x = w x ∧ l' x = l x) (hne : ∀ v : Int, 0 ≤ v → v < 64 → 64 * (σ 9 - 1 - (i : Int)) + v ≠ c) : LAY σ r' w' l' i := by
  intro v h1 h2
  have k := hc _ (hne v h1 h2)
  rw [k.1, k.2.1, k.2.2]
  exact h v h1 h2
def LAYK (σ r : Int → Int) (w l : Int → Int64) (j : Nat) (b : Int) (k : Nat) : Prop := ∀ v : Int, 0 ≤ v → v < (k : Int) → w (64 * b + v) = lW (WW σ j v) ∧ (sd σ v (ntj σ j) = true → r (64 * b + v) = RR σ j v ∧ l (64 * b + v) = TT σ j v)
theorem LAYK_0 {σ r : Int → Int} {w l : Int → Int64} {j : Nat} {b : Int} : LAYK σ r w l j b 0 := fun v h1 h2 => by omega
theorem LAYK_n {σ r : Int → Int} {w l : Int → Int64} {j : Nat} {b : Int} {k : Nat} (h : LAYK σ r w l j b k) (hs : ¬ sd σ (k : Int) (ntj σ j) = true) : LAYK σ r (upI w (64 * b + (k : Int)) 0) l j b (k + 1) := by
  intro v h1 h2
  by_cases hv : v = (k : Int)
  · subst hv
    rw [upI_s]
    refine ⟨?_, fun q => absurd q hs⟩
    unfold WW
    rw [if_neg hs, lW_0]
  · rw [upI_n (by omega)]
    exact h v h1 (by omega)
theorem LAYK_y {σ r r' : Int → Int} {w l w' l' : Int → Int64} {j : Nat} {b : Int} {k : Nat} (h : LAYK σ r w l j b k) (hs : sd σ (k : Int) (ntj σ j) = true) (hc : ∀ x : Int, x ≠ 64 * b + (k : Int) → r' x = r x ∧ w' x = w x ∧ l' x = l x) (e1 : r' (64 * b + (k : Int)) = RR σ j (k : Int)) (e2 : w' (64 * b + (k : Int)) = lW (PR σ j)) (e3 : l' (64 * b + (k : Int)) = TT σ j (k : Int)) : LAYK σ r' w' l' j b (k + 1) := by
  intro v h1 h2
  by_cases hv : v = (k : Int)
  · subst hv
    refine ⟨?_, fun _ => ⟨e1, e3⟩⟩
    rw [e2]
    unfold WW
    rw [if_pos hs]
  · have q := hc (64 * b + v) (by omega)
    rw [q.1, q.2.1, q.2.2]
    exact h v h1 (by omega)
theorem LAY_of {σ r : Int → Int} {w l : Int → Int64} {j : Nat} {b : Int} (hb : b = σ 9 - 1 - (j : Int)) (h : LAYK σ r w l j b 64) : LAY σ r w l j := by
  intro v h1 h2
  rw [← hb]
  exact h v h1 h2
theorem fnd_char (q : Int → Bool) (N : Nat) : ((∀ k : Nat, k < N → ¬ q (k : Int) = true) ∧ fnd q N = -6) ∨ (∃ k : Nat, k < N ∧ q (k : Int) = true ∧ fnd q N = (k : Int) ∧ ∀ i : Nat, i < k → ¬ q (i : Int) = true) := by
  induction N with
  | zero => exact Or.inl ⟨fun k h => by omega, rfl⟩
  | succ N ih =>
    rcases ih with ⟨h1, h2⟩ | ⟨k, hk, hq, he, hm⟩
    · by_cases hN : q (N : Int) = true
      · exact Or.inr ⟨N, by omega, hN, fnd_y h2 hN _ (by omega), h1⟩
      · refine Or.inl ⟨fun k hk => ?_, fnd_n h2 hN⟩
        by_cases hkN : k = N
        · subst hkN; exact hN
        · exact h1 k (by omega)
    · exact Or.inr ⟨k, by omega, hq, by simp [fnd, he], hm⟩
abbrev qN (σ : Int → Int) (j : Nat) (q a d : Int) : Int → Bool := fun v => decide (0 < WW σ j v) && decide ((if q = 0 then 0 else eff σ a v) + RR σ j v = d)
abbrev jP (σ : Int → Int) (p : Nat) : Nat := (σ 9 - 1 - (p : Int)).toNat
def wayAt (σ : Int → Int) : Nat → Int
  | 0 => fnd (qN σ (jP σ 0) 0 0 (LEAST σ)) 64
  | p + 1 => fnd (qN σ (jP σ (p + 1)) ((p : Int) + 1) (wayAt σ p) (RR σ (jP σ p) (wayAt σ p) - flt σ (wayAt σ p) (σ (10 + (p : Int))))) 64
def A_least (σ : Int → Int) (i : Int) : Int := if i < -1 then -2 else if i = -1 then LEAST σ else if LEAST σ < 0 ∨ σ 9 ≤ i then -6 else wayAt σ i.toNat
theorem LEAST_in {σ : Int → Int} (hO : Ok σ) : -6 ≤ LEAST σ ∧ LEAST σ ≤ 53352 := by
  have o9 := hO.2.2.2.2.2.2.2.2.2.1
  unfold LEAST
  split
  · omega
  · exact mbs_in (M := 53352) (by omega) 64 (fun k hk hq => by
      have h := RR_in hO (σ 9 - 1).toNat (by omega) (k : Int) (by omega)
      have h2 := h.2 (of_decide_eq_true hq)
      omega) 64 (by omega)
theorem RR_s (σ : Int → Int) (j : Nat) (w : Int) : RR σ (j + 1) w = mbs (qW σ j) (fun v => flt σ w (ntj σ (j + 1)) + eff σ w v + RR σ j v) (-6) 64 := rfl
theorem wayAt_0 (σ : Int → Int) : wayAt σ 0 = fnd (qN σ (jP σ 0) 0 0 (LEAST σ)) 64 := rfl
theorem wayAt_s (σ : Int → Int) (p : Nat) : wayAt σ (p + 1) = fnd (qN σ (jP σ (p + 1)) ((p : Int) + 1) (wayAt σ p) (RR σ (jP σ p) (wayAt σ p) - flt σ (wayAt σ p) (σ (10 + (p : Int))))) 64 := rfl
theorem wayAt_ok {σ : Int → Int} (hO : Ok σ) (hL : 0 ≤ LEAST σ) : ∀ p : Nat, (p : Int) < σ 9 → (0 ≤ wayAt σ p ∧ wayAt σ p < 64) ∧ 0 < WW σ (jP σ p) (wayAt σ p) := by
  intro p
  induction p with
  | zero =>
    intro hp
    have hj : (σ 9 - 1).toNat = jP σ 0 := by unfold jP; congr 1; omega
    rcases fnd_char (qN σ (jP σ 0) 0 0 (LEAST σ)) 64 with ⟨h1, h2⟩ | ⟨k, hk, hq, he, _⟩
    · exfalso
      have hlt : ((jP σ 0 : Nat) : Int) < σ 9 := by unfold jP; omega
      have e : LEAST σ = mbs (qW σ (jP σ 0)) (RR σ (jP σ 0)) (-6) 64 := by unfold LEAST; rw [if_neg (by omega), hj]
      rcases mbs_char (q := qW σ (jP σ 0)) (f := RR σ (jP σ 0)) 64 (fun k hk hq => (RR_in hO _ hlt (k : Int) (by omega)).2 (of_decide_eq_true hq)) with ⟨_, h4⟩ | ⟨⟨k, hk, hq, h4⟩, _⟩
      · omega
      · apply h1 k hk
        simp only [qN, Bool.and_eq_true]
        exact ⟨hq, decide_eq_true (by rw [if_pos trivial]; omega)⟩
    · simp only [qN, Bool.and_eq_true] at hq
      rw [wayAt_0]
      rw [he]
      exact ⟨by omega, of_decide_eq_true hq.1⟩
  | succ p ih =>
    intro hp
    have ih := ih (by omega)
    have hj : jP σ p = jP σ (p + 1) + 1 := by unfold jP; omega
    have hlt : ((jP σ (p + 1) : Nat) : Int) < σ 9 := by unfold jP; omega
    rcases fnd_char (qN σ (jP σ (p + 1)) ((p : Int) + 1) (wayAt σ p) (RR σ (jP σ p) (wayAt σ p) - flt σ (wayAt σ p) (σ (10 + (p : Int))))) 64 with ⟨h1, h2⟩ | ⟨k, hk, hq, he, _⟩
    · exfalso
      have hn : ntj σ (jP σ p) = σ (10 + (p : Int)) := by unfold ntj; rw [show 10 + (σ 9 - 1 - ((jP σ p : Nat) : Int)) = 10 + (p : Int) by unfold jP; omega]
      have hW := ih.2
      have hR0 := (RR_in hO (jP σ p) (by unfold jP; omega) (wayAt σ p) ih.1).2 hW
      have e : RR σ (jP σ p) (wayAt σ p) = mbs (qW σ (jP σ (p + 1))) (fun v => flt σ (wayAt σ p) (ntj σ (jP σ p)) + eff σ (wayAt σ p) v + RR σ (jP σ (p + 1)) v) (-6) 64 := by
        rw [hj, RR_s]
      have hf := flt_in hO (w := wayAt σ p) (n := ntj σ (jP σ p)) ih.1 (ntj_in hO (by unfold jP; omega))
      rcases mbs_char (q := qW σ (jP σ (p + 1))) (f := fun v => flt σ (wayAt σ p) (ntj σ (jP σ p)) + eff σ (wayAt σ p) v + RR σ (jP σ (p + 1)) v) 64 (fun k hk hq => by
          have a1 := (RR_in hO _ hlt (k : Int) (by omega)).2 (of_decide_eq_true hq)
          have a2 := eff_in hO (a := wayAt σ p) (b := (k : Int)) ih.1 (by omega)
          show 0 ≤ flt σ (wayAt σ p) (ntj σ (jP σ p)) + eff σ (wayAt σ p) (k : Int) + RR σ (jP σ (p + 1)) (k : Int)
          omega) with ⟨_, h4⟩ | ⟨⟨k, hk, hq, h4⟩, _⟩
      · omega
      · apply h1 k hk
        simp only [qN, Bool.and_eq_true]
        refine ⟨hq, decide_eq_true ?_⟩
        rw [if_neg (by omega), e, h4, hn]
        omega
    · simp only [qN, Bool.and_eq_true] at hq
      rw [wayAt_s]
      rw [he]
      exact ⟨by omega, of_decide_eq_true hq.1⟩
/-! what goes ahead of a way -/
def AH (σ : Int → Int) : Nat → Int → Int
  | 0, w => if sd σ w (σ (10 + ((0 : Nat) : Int))) = true then 0 else -6
  | p + 1, w => if sd σ w (σ (10 + ((p + 1 : Nat) : Int))) = true then mbs (fun v => decide (0 ≤ AH σ p v)) (fun v => AH σ p v + flt σ v (σ (10 + (p : Int))) + eff σ v w) (-6) 64 else -6
theorem AH_in {σ : Int → Int} (hO : Ok σ) : ∀ p : Nat, (p : Int) < σ 9 → ∀ w : Int, 0 ≤ w ∧ w < 64 → -6 ≤ AH σ p w ∧ AH σ p w ≤ 4446 * (p : Int) := by
  have o9 := hO.2.2.2.2.2.2.2.2.2.1
  intro p
  induction p with
  | zero => intro _ w _; simp only [AH]; split <;> omega
  | succ p ih =>
    intro hp w hw
    have ih := ih (by omega)
    simp only [AH]
    split
    · exact mbs_in (M := 4446 * ((p + 1 : Nat) : Int)) (by omega) 64 (fun k hk hq => by
        have a1 := ih (k : Int) (by omega)
        have a2 := flt_in hO (w := (k : Int)) (n := σ (10 + (p : Int))) (by omega) (hO.2.2.2.2.2.2.2.2.2.2 (p : Int) (by omega) (by omega))
        have a3 := eff_in hO (a := (k : Int)) (b := w) (by omega) hw
        have a4 := of_decide_eq_true hq
        omega) 64 (by omega)
    · omega
def cntAt (σ : Int → Int) (p : Nat) (d : Int) : Int := cnt (fun v => decide (0 ≤ AH σ p v) && (decide (0 < WW σ (jP σ p) v) && decide (AH σ p v + RR σ (jP σ p) v = d))) 64
def sumL (q : Int → Bool) (g : Int → Int64) : Nat → Int64
  | 0 => 0
  | k + 1 => if q (k : Int) = true then sumL q g k + g (k : Int) else sumL q g k
theorem sumL_s {q : Int → Bool} {g : Int → Int64} {k : Nat} {z : Int64} (e : z = sumL q g k) : sumL q g (k + 1) = if q (k : Int) = true then z + g (k : Int) else z := by subst e; rfl
def A_plans (σ : Int → Int) (q : Int) : Int64 := if 0 ≤ q ∧ q ≤ 1 then (if σ 9 = 0 then 1 else sumL (qW σ (jP σ 0)) (fun v => if q = 0 then lW (WW σ (jP σ 0) v) else if RR σ (jP σ 0) v = LEAST σ then TT σ (jP σ 0) v else 0) 64) else if 10 ≤ q ∧ q ≤ 21 then (if LEAST σ < 0 then -6 else if 0 ≤ q - 10 ∧ q - 10 ≤ σ 9 - 1 then lW (cntAt σ (q - 10).toNat (LEAST σ)) else -6) else -2
end
section
abbrev rmX3_in : Room := { frames := 0, cells := 0, slots := 0, locals := 0 }
set_option maxHeartbeats 4000000 in
set_option maxRecDepth 100000 in
theorem c_X3_in (l : Launch) (D : va_G) (cI cJ cZ cO : ClassId) (sz : Nat) (v : Int) (lo : Int) (hh : Int) (h1 : (-2147483648 ≤ v ∧ v < 2147483648) ∧ (-2147483648 ≤ lo ∧ lo < 2147483648) ∧ -2147483648 ≤ hh ∧ hh < 2147483648) : Met l yX3_in wsX3_in rmX3_in (zPc D cI cJ cZ cO [] sz [.int (zI (v)), .int (zI (lo)), .int (zI (hh))]) (zQi D (fun (r : Int32) (_ : Unit) => r = zI (zB (lo ≤ v ∧ v ≤ hh))) (fun (_ : Unit) => []) [] sz) 0 0 (va_A [] sz) := by
  refine z_metz (by decide) rfl (Nat.le_of_ble_eq_true rfl) ?_
  intro p e s m args below meth c A Q ls hx hb hml hown hts hA hS hP hD hK hZ hl hret
  have hl : lv_has ls 3 [(0, .int (zI (v))), (1, .int (zI (lo))), (2, .int (zI (hh)))] := hl
  refine lv_iload_n hx hb dX3_in_0 rfl (lv_at hl 0 rfl) ?_
  refine lv_iload_n hx hb dX3_in_1 rfl (lv_at hl 1 rfl) ?_
  refine z_icmp_lt (a := v) (b := lo) (tgt := 14) hx hb (by omega) dX3_in_2 (by decide) (fun c_2 => ?_) (fun c_2 => ?_)
  · refine lv_iconst (v := zI (0)) hx hb dX3_in_14 rfl ?_
    exact hret _ _ _ _ _ () dX3_in_15 rfl (by rw [zB_f (by omega)]) hP hS
  · refine lv_iload_n hx hb dX3_in_5 rfl (lv_at hl 0 rfl) ?_
    refine lv_iload_n hx hb dX3_in_6 rfl (lv_at hl 2 rfl) ?_
    refine z_icmp_gt (a := v) (b := hh) (tgt := 14) hx hb (by omega) dX3_in_7 (by decide) (fun c_7 => ?_) (fun c_7 => ?_)
    · refine lv_iconst (v := zI (0)) hx hb dX3_in_14 rfl ?_
      exact hret _ _ _ _ _ () dX3_in_15 rfl (by rw [zB_f (by omega)]) hP hS
    · refine lv_iconst (v := zI (1)) hx hb dX3_in_10 rfl ?_
      refine lv_goto (tgt := 15) hx hb dX3_in_11 (by decide) ?_
      exact hret _ _ _ _ _ () dX3_in_15 rfl (by rw [zB_t (by omega)]) hP hS
abbrev rmX3_size : Room := { frames := 0, cells := 0, slots := 0, locals := 0 }
set_option maxHeartbeats 4000000 in
set_option maxRecDepth 100000 in
theorem c_X3_size (l : Launch) (D : va_G) (cI cJ cZ cO : ClassId) (sz : Nat) (v : Int) (h1 : -2147483647 ≤ v ∧ v < 2147483648) : Met l yX3_size wsX3_size rmX3_size (zPc D cI cJ cZ cO [] sz [.int (zI (v))]) (zQi D (fun (r : Int32) (_ : Unit) => r = zI (aI v)) (fun (_ : Unit) => []) [] sz) 0 0 (va_A [] sz) := by
  refine z_meti (by decide) rfl (Nat.le_of_ble_eq_true rfl) ?_
  intro p e s m args below meth c A Q ls hx hb hml hown hts hA hS hP hD hK hZ hl hret
  have hl : lv_has ls 1 [(0, .int (zI (v)))] := hl
  refine lv_iload_n hx hb dX3_size_0 rfl (lv_at hl 0 rfl) ?_
  refine z_if_ge (a := v) (tgt := 9) hx hb (by omega) dX3_size_1 (by decide) (fun c_1 => ?_) (fun c_1 => ?_)
  · refine lv_iload_n hx hb dX3_size_9 rfl (lv_at hl 0 rfl) ?_
    exact hret _ _ _ _ _ () dX3_size_10 (by unfold aI; first | rw [if_pos (by omega)] | rw [if_neg (by omega)]) hP hS
  · refine lv_iload_n hx hb dX3_size_4 rfl (lv_at hl 0 rfl) ?_
    refine z_ineg hx hb dX3_size_5 ?_
    refine lv_goto (tgt := 10) hx hb dX3_size_6 (by decide) ?_
    exact hret _ _ _ _ _ () dX3_size_10 (by unfold aI; first | rw [if_pos (by omega)] | rw [if_neg (by omega)]) hP hS
abbrev rmX3_isSetting : Room := { frames := 1, cells := 0, slots := 0, locals := 22 }
theorem in_X3_isSetting_X3 : ∀ w ∈ wsX30, w ∈ wsX3_isSetting := fun _ h => List.mem_cons_of_mem _ (List.mem_append_right _ h)
theorem m_X3_isSetting_0 : (.fieldLink RX3 7 "BrassWaysModel" "state" "[I" : Cond) ∈ wsX3_isSetting := List.mem_of_getElem? (i := 1) rfl
set_option maxHeartbeats 4000000 in
set_option maxRecDepth 100000 in
theorem c_X3_isSetting (l : Launch) (D : va_G) (cI cJ cZ cO : ClassId) (sz : Nat) (h0 : Nat) (a0 : Nat) (a1 : Nat) (a2 : Nat) (a3 : Nat) (a4 : Nat) (a5 : Nat) (a6 : Nat) (σ : Int → Int) (t : Int) (h1 : -2147483648 ≤ t ∧ t < 2147483648) (hO : Ok σ) : Met l yX3_isSetting wsX3_isSetting rmX3_isSetting (zPc D cI cJ cZ cO [(h0, .inr (3, [.ref a0, .ref a1, .ref a2, .ref a3, .ref a4, .ref a5, .ref a6])), (a0, .inl (cI, 22, .inl (zF (σ))))] sz [.ref h0, .int (zI (t))]) (zQi D (fun (r : Int32) (_ : Unit) => r = zI (zB (okS σ t))) (fun (_ : Unit) => [(h0, .inr (3, [.ref a0, .ref a1, .ref a2, .ref a3, .ref a4, .ref a5, .ref a6])), (a0, .inl (cI, 22, .inl (zF (σ))))]) [(h0, .inr (3, [.ref a0, .ref a1, .ref a2, .ref a3, .ref a4, .ref a5, .ref a6])), (a0, .inl (cI, 22, .inl (zF (σ))))] sz) 0 0 (va_A [(h0, .inr (3, [.ref a0, .ref a1, .ref a2, .ref a3, .ref a4, .ref a5, .ref a6])), (a0, .inl (cI, 22, .inl (zF (σ))))] sz) := by
  refine z_metz (by decide) rfl (Nat.le_of_ble_eq_true rfl) ?_
  intro p e s m args below meth c A Q ls hx hb hml hown hts hA hS hP hD hK hZ hl hret
  have hl : lv_has ls 2 [(0, .ref h0), (1, .int (zI (t)))] := hl
  have o0 := hO.1
  refine lv_iload_n hx hb dX3_isSetting_0 rfl (lv_at hl 1 rfl) ?_
  refine lv_iconst (v := zI (0)) hx hb dX3_isSetting_1 rfl ?_
  refine lv_aload_n hx hb dX3_isSetting_2 rfl (lv_at hl 0 rfl) ?_
  refine va_get (D := D) (ci := 3) (v := .ref a0) (C := RX3) (T := TX3) (N := 7) hx hb hts in_X3_isSetting_X3 hown hK hP 0 rfl rfl 0 (by decide) (hts _ m_X3_isSetting_0) (fun _ h9 => h9) rfl dX3_isSetting_3 ?_
  refine lv_iconst (v := zI (0)) hx hb dX3_isSetting_6 rfl ?_
  refine z_iald (k := 0) (g := σ) hx hb hK hP 1 0 rfl rfl (by omega) dX3_isSetting_7 ?_
  try dsimp only
  refine z_if_ne (a := σ 0) (tgt := 16) hx hb (by omega) dX3_isSetting_8 (by decide) (fun c_8 => ?_) (fun c_8 => ?_)
  · refine lv_bipush (v := zI (6)) hx hb dX3_isSetting_16 (by decide +kernel) ?_
    refine z_Sir (As := [.int (zI (t)), .int (zI (0)), .int (zI (6))]) (rest := []) hx hb hml hown hts hA hS hP hD hK hZ hl.1 (c_X3_in l D cI cJ cZ cO _ (t) (0) (6) (by omega)) (va_cwS 3 hts gX3_isSetting_X3_in rfl rfl rfl (by decide +kernel) ⟨Nat.le_of_ble_eq_true rfl, Nat.le_of_ble_eq_true rfl⟩) [] rfl rfl rfl rfl (Nat.le_of_ble_eq_true rfl) ⟨Nat.zero_le _, Nat.zero_le _⟩ dX3_isSetting_18 (fun r u H locs hw hP hS => ?_)
    subst hw
    exact hret _ _ _ _ _ () dX3_isSetting_21 zB_nar (congrArg zI (zB_congr (by unfold okS; first | rw [if_pos c_8] | rw [if_neg c_8]))) hP hS
  · refine lv_bipush (v := zI (7)) hx hb dX3_isSetting_11 (by decide +kernel) ?_
    refine lv_goto (tgt := 18) hx hb dX3_isSetting_13 (by decide) ?_
    refine z_Sir (As := [.int (zI (t)), .int (zI (0)), .int (zI (7))]) (rest := []) hx hb hml hown hts hA hS hP hD hK hZ hl.1 (c_X3_in l D cI cJ cZ cO _ (t) (0) (7) (by omega)) (va_cwS 3 hts gX3_isSetting_X3_in rfl rfl rfl (by decide +kernel) ⟨Nat.le_of_ble_eq_true rfl, Nat.le_of_ble_eq_true rfl⟩) [] rfl rfl rfl rfl (Nat.le_of_ble_eq_true rfl) ⟨Nat.zero_le _, Nat.zero_le _⟩ dX3_isSetting_18 (fun r u H locs hw hP hS => ?_)
    subst hw
    exact hret _ _ _ _ _ () dX3_isSetting_21 zB_nar (congrArg zI (zB_congr (by unfold okS; first | rw [if_pos c_8] | rw [if_neg c_8]))) hP hS
abbrev rmX3_isWay : Room := { frames := 2, cells := 0, slots := 0, locals := 43 }
set_option maxHeartbeats 4000000 in
set_option maxRecDepth 100000 in
theorem c_X3_isWay (l : Launch) (D : va_G) (cI cJ cZ cO : ClassId) (sz : Nat) (h0 : Nat) (a0 : Nat) (a1 : Nat) (a2 : Nat) (a3 : Nat) (a4 : Nat) (a5 : Nat) (a6 : Nat) (σ : Int → Int) (w : Int) (h1 : -2147483648 ≤ w ∧ w < 2147483648) (hO : Ok σ) : Met l yX3_isWay wsX3_isWay rmX3_isWay (zPc D cI cJ cZ cO [(h0, .inr (3, [.ref a0, .ref a1, .ref a2, .ref a3, .ref a4, .ref a5, .ref a6])), (a0, .inl (cI, 22, .inl (zF (σ))))] sz [.ref h0, .int (zI (w))]) (zQi D (fun (r : Int32) (_ : Unit) => r = zI (zB (okW σ w))) (fun (_ : Unit) => [(h0, .inr (3, [.ref a0, .ref a1, .ref a2, .ref a3, .ref a4, .ref a5, .ref a6])), (a0, .inl (cI, 22, .inl (zF (σ))))]) [(h0, .inr (3, [.ref a0, .ref a1, .ref a2, .ref a3, .ref a4, .ref a5, .ref a6])), (a0, .inl (cI, 22, .inl (zF (σ))))] sz) 0 0 (va_A [(h0, .inr (3, [.ref a0, .ref a1, .ref a2, .ref a3, .ref a4, .ref a5, .ref a6])), (a0, .inl (cI, 22, .inl (zF (σ))))] sz) := by
  refine z_metz (by decide) rfl (Nat.le_of_ble_eq_true rfl) ?_
  intro p e s m args below meth c A Q ls hx hb hml hown hts hA hS hP hD hK hZ hl hret
  have hl : lv_has ls 2 [(0, .ref h0), (1, .int (zI (w)))] := hl
  refine lv_iload_n hx hb dX3_isWay_0 rfl (lv_at hl 1 rfl) ?_
  refine lv_iconst (v := zI (0)) hx hb dX3_isWay_1 rfl ?_
  refine lv_bipush (v := zI (63)) hx hb dX3_isWay_2 (by decide +kernel) ?_
  refine z_Sir (As := [.int (zI (w)), .int (zI (0)), .int (zI (63))]) (rest := []) hx hb hml hown hts hA hS hP hD hK hZ hl.1 (c_X3_in l D cI cJ cZ cO _ (w) (0) (63) (by omega)) (va_cwS 3 hts gX3_isWay_X3_in rfl rfl rfl (by decide +kernel) ⟨Nat.le_of_ble_eq_true rfl, Nat.le_of_ble_eq_true rfl⟩) [] rfl rfl rfl rfl (Nat.le_of_ble_eq_true rfl) ⟨Nat.zero_le _, Nat.zero_le _⟩ dX3_isWay_4 (fun r u H locs hw hP hS => ?_)
  subst hw
  refine z_ifB_eq (P := 0 ≤ w ∧ w ≤ 63) (tgt := 25) hx hb dX3_isWay_7 (by decide) (fun c_7 => ?_) (fun c_7 => ?_)
  · refine lv_iconst (v := zI (0)) hx hb dX3_isWay_25 rfl ?_
    exact hret _ _ _ _ _ () dX3_isWay_26 rfl (by rw [zB_f (by first | exact fun q => c_7 q.1 | exact fun q => c_18 q.2)]) hP hS
  · refine lv_aload_n hx hb dX3_isWay_10 rfl (lv_at hl 0 rfl) ?_
    refine lv_iload_n hx hb dX3_isWay_11 rfl (lv_at hl 1 rfl) ?_
    refine lv_bipush (v := zI (8)) hx hb dX3_isWay_12 (by decide +kernel) ?_
    refine z_irem (a := w) (b := 8) hx hb (by omega) dX3_isWay_14 ?_
    refine z_Vir (As := [.int (zI (w % 8))]) (rest := []) hx hb hml hown hts hA hS hP hD hK hZ hl.1 (c_X3_isSetting l D cI cJ cZ cO _ (h0) (a0) (a1) (a2) (a3) (a4) (a5) (a6) (σ) (w % 8) (by omega) hO) (cwV 1 hts gX3_isWay_X3_isSetting rfl rfl rfl (by decide +kernel) ⟨Nat.le_of_ble_eq_true rfl, Nat.le_of_ble_eq_true rfl⟩) [0, 1] rfl rfl 0 3 rfl rfl rfl rfl (Nat.le_of_ble_eq_true rfl) ⟨Nat.zero_le _, Nat.zero_le _⟩ dX3_isWay_15 (fun r u H locs hw hP hS => ?_)
    subst hw
    refine z_ifB_eq (P := okS σ (w % 8)) (tgt := 25) hx hb dX3_isWay_18 (by decide) (fun c_18 => ?_) (fun c_18 => ?_)
    · refine lv_iconst (v := zI (0)) hx hb dX3_isWay_25 rfl ?_
      exact hret _ _ _ _ _ () dX3_isWay_26 rfl (by rw [zB_f (by first | exact fun q => c_7 q.1 | exact fun q => c_18 q.2)]) hP hS
    · refine lv_iconst (v := zI (1)) hx hb dX3_isWay_21 rfl ?_
      refine lv_goto (tgt := 26) hx hb dX3_isWay_22 (by decide) ?_
      exact hret _ _ _ _ _ () dX3_isWay_26 rfl (by rw [zB_t (by exact ⟨c_7, c_18⟩)]) hP hS
abbrev rmX3_isNote : Room := { frames := 1, cells := 0, slots := 0, locals := 22 }
set_option maxHeartbeats 4000000 in
set_option maxRecDepth 100000 in
theorem c_X3_isNote (l : Launch) (D : va_G) (cI cJ cZ cO : ClassId) (sz : Nat) (n : Int) (h1 : -2147483648 ≤ n ∧ n < 2147483648) : Met l yX3_isNote wsX3_isNote rmX3_isNote (zPc D cI cJ cZ cO [] sz [.int (zI (n))]) (zQi D (fun (r : Int32) (_ : Unit) => r = zI (zB (0 ≤ n ∧ n ≤ 36))) (fun (_ : Unit) => []) [] sz) 0 0 (va_A [] sz) := by
  refine z_metz (by decide) rfl (Nat.le_of_ble_eq_true rfl) ?_
  intro p e s m args below meth c A Q ls hx hb hml hown hts hA hS hP hD hK hZ hl hret
  have hl : lv_has ls 1 [(0, .int (zI (n)))] := hl
  refine lv_iload_n hx hb dX3_isNote_0 rfl (lv_at hl 0 rfl) ?_
  refine lv_iconst (v := zI (0)) hx hb dX3_isNote_1 rfl ?_
  refine lv_bipush (v := zI (36)) hx hb dX3_isNote_2 (by decide +kernel) ?_
  refine z_Sir (As := [.int (zI (n)), .int (zI (0)), .int (zI (36))]) (rest := []) hx hb hml hown hts hA hS hP hD hK hZ hl.1 (c_X3_in l D cI cJ cZ cO _ (n) (0) (36) (by omega)) (va_cwS 3 hts gX3_isNote_X3_in rfl rfl rfl (by decide +kernel) ⟨Nat.le_of_ble_eq_true rfl, Nat.le_of_ble_eq_true rfl⟩) [] rfl rfl rfl rfl (Nat.le_of_ble_eq_true rfl) ⟨Nat.zero_le _, Nat.zero_le _⟩ dX3_isNote_4 (fun r u H locs hw hP hS => ?_)
  subst hw
  exact hret _ _ _ _ _ () dX3_isNote_7 zB_nar rfl hP hS
abbrev rmX3_isPlace : Room := { frames := 1, cells := 0, slots := 0, locals := 22 }
theorem in_X3_isPlace_X3 : ∀ w ∈ wsX30, w ∈ wsX3_isPlace := fun _ h => List.mem_cons_of_mem _ (List.mem_append_right _ h)
theorem m_X3_isPlace_0 : (.fieldLink RX3 7 "BrassWaysModel" "state" "[I" : Cond) ∈ wsX3_isPlace := List.mem_of_getElem? (i := 1) rfl
set_option maxHeartbeats 4000000 in
set_option maxRecDepth 100000 in
theorem c_X3_isPlace (l : Launch) (D : va_G) (cI cJ cZ cO : ClassId) (sz : Nat) (h0 : Nat) (a0 : Nat) (a1 : Nat) (a2 : Nat) (a3 : Nat) (a4 : Nat) (a5 : Nat) (a6 : Nat) (σ : Int → Int) (q : Int) (h1 : -2147483648 ≤ q ∧ q < 2147483648) (hO : Ok σ) : Met l yX3_isPlace wsX3_isPlace rmX3_isPlace (zPc D cI cJ cZ cO [(h0, .inr (3, [.ref a0, .ref a1, .ref a2, .ref a3, .ref a4, .ref a5, .ref a6])), (a0, .inl (cI, 22, .inl (zF (σ))))] sz [.ref h0, .int (zI (q))]) (zQi D (fun (r : Int32) (_ : Unit) => r = zI (zB (0 ≤ q ∧ q ≤ σ 9 - 1))) (fun (_ : Unit) => [(h0, .inr (3, [.ref a0, .ref a1, .ref a2, .ref a3, .ref a4, .ref a5, .ref a6])), (a0, .inl (cI, 22, .inl (zF (σ))))]) [(h0, .inr (3, [.ref a0, .ref a1, .ref a2, .ref a3, .ref a4, .ref a5, .ref a6])), (a0, .inl (cI, 22, .inl (zF (σ))))] sz) 0 0 (va_A [(h0, .inr (3, [.ref a0, .ref a1, .ref a2, .ref a3, .ref a4, .ref a5, .ref a6])), (a0, .inl (cI, 22, .inl (zF (σ))))] sz) := by
  refine z_metz (by decide) rfl (Nat.le_of_ble_eq_true rfl) ?_
  intro p e s m args below meth c A Q ls hx hb hml hown hts hA hS hP hD hK hZ hl hret
  have hl : lv_has ls 2 [(0, .ref h0), (1, .int (zI (q)))] := hl
  have o9 := hO.2.2.2.2.2.2.2.2.2.1
  refine lv_iload_n hx hb dX3_isPlace_0 rfl (lv_at hl 1 rfl) ?_
  refine lv_iconst (v := zI (0)) hx hb dX3_isPlace_1 rfl ?_
  refine lv_aload_n hx hb dX3_isPlace_2 rfl (lv_at hl 0 rfl) ?_
  refine va_get (D := D) (ci := 3) (v := .ref a0) (C := RX3) (T := TX3) (N := 7) hx hb hts in_X3_isPlace_X3 hown hK hP 0 rfl rfl 0 (by decide) (hts _ m_X3_isPlace_0) (fun _ h9 => h9) rfl dX3_isPlace_3 ?_
  refine lv_bipush (v := zI (9)) hx hb dX3_isPlace_6 (by decide +kernel) ?_
  refine z_iald (k := 9) (g := σ) hx hb hK hP 1 0 rfl rfl (by omega) dX3_isPlace_8 ?_
  try dsimp only
  refine lv_iconst (v := zI (1)) hx hb dX3_isPlace_9 rfl ?_
  refine z_isub (a := σ 9) (b := 1) hx hb dX3_isPlace_10 ?_
  refine z_Sir (As := [.int (zI (q)), .int (zI (0)), .int (zI ((σ 9) - 1))]) (rest := []) hx hb hml hown hts hA hS hP hD hK hZ hl.1 (c_X3_in l D cI cJ cZ cO _ (q) (0) ((σ 9) - 1) (by omega)) (va_cwS 3 hts gX3_isPlace_X3_in rfl rfl rfl (by decide +kernel) ⟨Nat.le_of_ble_eq_true rfl, Nat.le_of_ble_eq_true rfl⟩) [] rfl rfl rfl rfl (Nat.le_of_ble_eq_true rfl) ⟨Nat.zero_le _, Nat.zero_le _⟩ dX3_isPlace_11 (fun r u H locs hw hP hS => ?_)
  subst hw
  exact hret _ _ _ _ _ () dX3_isPlace_14 zB_nar rfl hP hS
abbrev rmX3_bits : Room := { frames := 0, cells := 0, slots := 0, locals := 0 }
set_option maxHeartbeats 4000000 in
set_option maxRecDepth 100000 in
theorem c_X3_bits (l : Launch) (D : va_G) (cI cJ cZ cO : ClassId) (sz : Nat) (t : Int) (h1 : 0 ≤ t ∧ t < 8) : Met l yX3_bits wsX3_bits rmX3_bits (zPc D cI cJ cZ cO [] sz [.int (zI (t))]) (zQi D (fun (r : Int32) (_ : Unit) => r = zI (bitsI t)) (fun (_ : Unit) => []) [] sz) 0 0 (va_A [] sz) := by
  refine z_meti (by decide) rfl (Nat.le_of_ble_eq_true rfl) ?_
  intro p e s m args below meth c A Q ls hx hb hml hown hts hA hS hP hD hK hZ hl hret
  have hl : lv_has ls 1 [(0, .int (zI (t)))] := hl
  refine lv_iload_n hx hb dX3_bits_0 rfl (lv_at hl 0 rfl) ?_
  refine lv_iconst (v := zI (1)) hx hb dX3_bits_1 rfl ?_
  refine lv_iand hx hb dX3_bits_2 ?_
  refine z_top (y := zI (t % 2)) (z_and1 h1) ?_
  refine lv_iload_n hx hb dX3_bits_3 rfl (lv_at hl 0 rfl) ?_
  refine lv_iconst (v := zI (1)) hx hb dX3_bits_4 rfl ?_
  refine lv_ishr hx hb dX3_bits_5 ?_
  refine lv_iconst (v := zI (1)) hx hb dX3_bits_6 rfl ?_
  refine lv_iand hx hb dX3_bits_7 ?_
  refine z_top (y := zI (t / 2 % 2)) (z_bit1 h1) ?_
  refine z_iadd (a := t % 2) (b := t / 2 % 2) hx hb dX3_bits_8 ?_
  refine lv_iload_n hx hb dX3_bits_9 rfl (lv_at hl 0 rfl) ?_
  refine lv_iconst (v := zI (2)) hx hb dX3_bits_10 rfl ?_
  refine lv_ishr hx hb dX3_bits_11 ?_
  refine lv_iconst (v := zI (1)) hx hb dX3_bits_12 rfl ?_
  refine lv_iand hx hb dX3_bits_13 ?_
  refine z_top (y := zI (t / 4 % 2)) (z_bit2 h1) ?_
  refine z_iadd (a := (t % 2) + (t / 2 % 2)) (b := t / 4 % 2) hx hb dX3_bits_14 ?_
  exact hret _ _ _ _ _ () dX3_bits_15 rfl hP hS
abbrev rmX3_lowersBy : Room := { frames := 1, cells := 0, slots := 0, locals := 20 }
theorem in_X3_lowersBy_X3 : ∀ w ∈ wsX30, w ∈ wsX3_lowersBy := fun _ h => List.mem_cons_of_mem _ (List.mem_append_right _ h)
theorem m_X3_lowersBy_0 : (.fieldLink RX3 7 "BrassWaysModel" "state" "[I" : Cond) ∈ wsX3_lowersBy := List.mem_of_getElem? (i := 1) rfl
set_option maxHeartbeats 4000000 in
set_option maxRecDepth 100000 in
theorem c_X3_lowersBy (l : Launch) (D : va_G) (cI cJ cZ cO : ClassId) (sz : Nat) (h0 : Nat) (a0 : Nat) (a1 : Nat) (a2 : Nat) (a3 : Nat) (a4 : Nat) (a5 : Nat) (a6 : Nat) (σ : Int → Int) (t : Int) (h1 : 0 ≤ t ∧ t < 8) (hO : Ok σ) : Met l yX3_lowersBy wsX3_lowersBy rmX3_lowersBy (zPc D cI cJ cZ cO [(h0, .inr (3, [.ref a0, .ref a1, .ref a2, .ref a3, .ref a4, .ref a5, .ref a6])), (a0, .inl (cI, 22, .inl (zF (σ))))] sz [.ref h0, .int (zI (t))]) (zQi D (fun (r : Int32) (_ : Unit) => r = zI (low σ t)) (fun (_ : Unit) => [(h0, .inr (3, [.ref a0, .ref a1, .ref a2, .ref a3, .ref a4, .ref a5, .ref a6])), (a0, .inl (cI, 22, .inl (zF (σ))))]) [(h0, .inr (3, [.ref a0, .ref a1, .ref a2, .ref a3, .ref a4, .ref a5, .ref a6])), (a0, .inl (cI, 22, .inl (zF (σ))))] sz) 0 0 (va_A [(h0, .inr (3, [.ref a0, .ref a1, .ref a2, .ref a3, .ref a4, .ref a5, .ref a6])), (a0, .inl (cI, 22, .inl (zF (σ))))] sz) := by
  refine z_meti (by decide) rfl (Nat.le_of_ble_eq_true rfl) ?_
  intro p e s m args below meth c A Q ls hx hb hml hown hts hA hS hP hD hK hZ hl hret
  have hl : lv_has ls 4 [(0, .ref h0), (1, .int (zI (t)))] := hl
  have o0 := hO.1
  have hb3 := bitsI_in t
  refine lv_aload_n hx hb dX3_lowersBy_0 rfl (lv_at hl 0 rfl) ?_
  refine va_get (D := D) (ci := 3) (v := .ref a0) (C := RX3) (T := TX3) (N := 7) hx hb hts in_X3_lowersBy_X3 hown hK hP 0 rfl rfl 0 (by decide) (hts _ m_X3_lowersBy_0) (fun _ h9 => h9) rfl dX3_lowersBy_1 ?_
  refine lv_iconst (v := zI (0)) hx hb dX3_lowersBy_4 rfl ?_
  refine z_iald (k := 0) (g := σ) hx hb hK hP 1 0 rfl rfl (by omega) dX3_lowersBy_5 ?_
  try dsimp only
  refine lv_iconst (v := zI (1)) hx hb dX3_lowersBy_6 rfl ?_
  refine z_icmp_ne (a := σ 0) (b := 1) (tgt := 15) hx hb (by omega) dX3_lowersBy_7 (by decide) (fun c_7 => ?_) (fun c_7 => ?_)
  · refine lv_iconst (v := zI (0)) hx hb dX3_lowersBy_15 rfl ?_
    refine lv_istore_n (lv' := [(2, .int (zI (0))), (0, .ref h0), (1, .int (zI (t)))]) hx hb dX3_lowersBy_16 rfl hl (by decide) rfl (fun ls hl => ?_)
    refine lv_iconst (v := zI (0)) hx hb dX3_lowersBy_17 rfl ?_
    refine lv_istore_n (lv' := [(3, .int (zI (0))), (2, .int (zI (0))), (0, .ref h0), (1, .int (zI (t)))]) hx hb dX3_lowersBy_18 rfl hl (by decide) rfl (fun ls hl => ?_)
    refine lv_iload_n hx hb dX3_lowersBy_19 rfl (lv_at hl 0 rfl) ?_
    refine lv_iconst (v := zI (3)) hx hb dX3_lowersBy_20 rfl ?_
    refine z_icmp_ge (a := 0) (b := 3) (tgt := 47) hx hb (by omega) dX3_lowersBy_21 (by decide) (fun c_21 => ?_) (fun c_21 => ?_)
    · exfalso; omega
    · refine lv_iload_n hx hb dX3_lowersBy_24 rfl (lv_at hl 1 rfl) ?_
      refine lv_iload_n hx hb dX3_lowersBy_25 rfl (lv_at hl 3 rfl) ?_
      refine lv_iload_n hx hb dX3_lowersBy_26 rfl (lv_at hl 0 rfl) ?_
      refine lv_ishr hx hb dX3_lowersBy_27 ?_
      refine lv_iconst (v := zI (1)) hx hb dX3_lowersBy_28 rfl ?_
      refine lv_iand hx hb dX3_lowersBy_29 ?_
      refine z_top (y := zI (t % 2)) (z_bit0 h1) ?_
      refine lv_aload_n hx hb dX3_lowersBy_30 rfl (lv_at hl 2 rfl) ?_
      refine va_get (D := D) (ci := 3) (v := .ref a0) (C := RX3) (T := TX3) (N := 7) hx hb hts in_X3_lowersBy_X3 hown hK hP 0 rfl rfl 0 (by decide) (hts _ m_X3_lowersBy_0) (fun _ h9 => h9) rfl dX3_lowersBy_31 ?_
      refine lv_iconst (v := zI (1)) hx hb dX3_lowersBy_34 rfl ?_
      refine lv_iload_n hx hb dX3_lowersBy_35 rfl (lv_at hl 0 rfl) ?_
      refine z_iadd (a := 1) (b := 0) hx hb dX3_lowersBy_36 ?_
      refine z_top (y := zI (1)) rfl ?_
      refine z_iald (k := 1) (g := σ) hx hb hK hP 1 0 rfl rfl (by omega) dX3_lowersBy_37 ?_
      try dsimp only
      refine z_imul (a := t % 2) (b := σ 1) hx hb dX3_lowersBy_38 ?_
      refine z_iadd (a := 0) (b := (t % 2) * (σ 1)) hx hb dX3_lowersBy_39 ?_
      refine lv_istore_n (lv' := [(2, .int (zI (0 + ((t % 2) * (σ 1))))), (3, .int (zI (0))), (0, .ref h0), (1, .int (zI (t)))]) hx hb dX3_lowersBy_40 rfl hl (by decide) rfl (fun ls hl => ?_)
      refine lv_iinc (v := zI (1)) (lv' := [(3, .int (zI (1))), (2, .int (zI (0 + ((t % 2) * (σ 1))))), (0, .ref h0), (1, .int (zI (t)))]) hx hb dX3_lowersBy_41 hl (k := 1) rfl (by decide +kernel) (by decide) rfl (fun ls hl => ?_)
      refine lv_goto (tgt := 19) hx hb dX3_lowersBy_44 (by decide) ?_
      refine lv_iload_n hx hb dX3_lowersBy_19 rfl (lv_at hl 0 rfl) ?_
      refine lv_iconst (v := zI (3)) hx hb dX3_lowersBy_20 rfl ?_
      refine z_icmp_ge (a := 1) (b := 3) (tgt := 47) hx hb (by omega) dX3_lowersBy_21 (by decide) (fun c_21 => ?_) (fun c_21 => ?_)
      · exfalso; omega
      · refine lv_iload_n hx hb dX3_lowersBy_24 rfl (lv_at hl 1 rfl) ?_
        refine lv_iload_n hx hb dX3_lowersBy_25 rfl (lv_at hl 3 rfl) ?_
        refine lv_iload_n hx hb dX3_lowersBy_26 rfl (lv_at hl 0 rfl) ?_
        refine lv_ishr hx hb dX3_lowersBy_27 ?_
        refine lv_iconst (v := zI (1)) hx hb dX3_lowersBy_28 rfl ?_
        refine lv_iand hx hb dX3_lowersBy_29 ?_
        refine z_top (y := zI (t / 2 % 2)) (z_bit1 h1) ?_
        refine lv_aload_n hx hb dX3_lowersBy_30 rfl (lv_at hl 2 rfl) ?_
        refine va_get (D := D) (ci := 3) (v := .ref a0) (C := RX3) (T := TX3) (N := 7) hx hb hts in_X3_lowersBy_X3 hown hK hP 0 rfl rfl 0 (by decide) (hts _ m_X3_lowersBy_0) (fun _ h9 => h9) rfl dX3_lowersBy_31 ?_
        refine lv_iconst (v := zI (1)) hx hb dX3_lowersBy_34 rfl ?_
        refine lv_iload_n hx hb dX3_lowersBy_35 rfl (lv_at hl 0 rfl) ?_
        refine z_iadd (a := 1) (b := 1) hx hb dX3_lowersBy_36 ?_
        refine z_top (y := zI (2)) rfl ?_
        refine z_iald (k := 2) (g := σ) hx hb hK hP 1 0 rfl rfl (by omega) dX3_lowersBy_37 ?_
        try dsimp only
        refine z_imul (a := t / 2 % 2) (b := σ 2) hx hb dX3_lowersBy_38 ?_
        refine z_iadd (a := 0 + ((t % 2) * (σ 1))) (b := (t / 2 % 2) * (σ 2)) hx hb dX3_lowersBy_39 ?_
        refine lv_istore_n (lv' := [(2, .int (zI ((0 + ((t % 2) * (σ 1))) + ((t / 2 % 2) * (σ 2))))), (3, .int (zI (1))), (0, .ref h0), (1, .int (zI (t)))]) hx hb dX3_lowersBy_40 rfl hl (by decide) rfl (fun ls hl => ?_)
        refine lv_iinc (v := zI (2)) (lv' := [(3, .int (zI (2))), (2, .int (zI ((0 + ((t % 2) * (σ 1))) + ((t / 2 % 2) * (σ 2))))), (0, .ref h0), (1, .int (zI (t)))]) hx hb dX3_lowersBy_41 hl (k := 1) rfl (by decide +kernel) (by decide) rfl (fun ls hl => ?_)
        refine lv_goto (tgt := 19) hx hb dX3_lowersBy_44 (by decide) ?_
        refine lv_iload_n hx hb dX3_lowersBy_19 rfl (lv_at hl 0 rfl) ?_
        refine lv_iconst (v := zI (3)) hx hb dX3_lowersBy_20 rfl ?_
        refine z_icmp_ge (a := 2) (b := 3) (tgt := 47) hx hb (by omega) dX3_lowersBy_21 (by decide) (fun c_21 => ?_) (fun c_21 => ?_)
        · exfalso; omega
        · refine lv_iload_n hx hb dX3_lowersBy_24 rfl (lv_at hl 1 rfl) ?_
          refine lv_iload_n hx hb dX3_lowersBy_25 rfl (lv_at hl 3 rfl) ?_
          refine lv_iload_n hx hb dX3_lowersBy_26 rfl (lv_at hl 0 rfl) ?_
          refine lv_ishr hx hb dX3_lowersBy_27 ?_
          refine lv_iconst (v := zI (1)) hx hb dX3_lowersBy_28 rfl ?_
          refine lv_iand hx hb dX3_lowersBy_29 ?_
          refine z_top (y := zI (t / 4 % 2)) (z_bit2 h1) ?_
          refine lv_aload_n hx hb dX3_lowersBy_30 rfl (lv_at hl 2 rfl) ?_
          refine va_get (D := D) (ci := 3) (v := .ref a0) (C := RX3) (T := TX3) (N := 7) hx hb hts in_X3_lowersBy_X3 hown hK hP 0 rfl rfl 0 (by decide) (hts _ m_X3_lowersBy_0) (fun _ h9 => h9) rfl dX3_lowersBy_31 ?_
          refine lv_iconst (v := zI (1)) hx hb dX3_lowersBy_34 rfl ?_
          refine lv_iload_n hx hb dX3_lowersBy_35 rfl (lv_at hl 0 rfl) ?_
          refine z_iadd (a := 1) (b := 2) hx hb dX3_lowersBy_36 ?_
          refine z_top (y := zI (3)) rfl ?_
          refine z_iald (k := 3) (g := σ) hx hb hK hP 1 0 rfl rfl (by omega) dX3_lowersBy_37 ?_
          try dsimp only
          refine z_imul (a := t / 4 % 2) (b := σ 3) hx hb dX3_lowersBy_38 ?_
          refine z_iadd (a := (0 + ((t % 2) * (σ 1))) + ((t / 2 % 2) * (σ 2))) (b := (t / 4 % 2) * (σ 3)) hx hb dX3_lowersBy_39 ?_
          refine lv_istore_n (lv' := [(2, .int (zI (((0 + ((t % 2) * (σ 1))) + ((t / 2 % 2) * (σ 2))) + ((t / 4 % 2) * (σ 3))))), (3, .int (zI (2))), (0, .ref h0), (1, .int (zI (t)))]) hx hb dX3_lowersBy_40 rfl hl (by decide) rfl (fun ls hl => ?_)
          refine lv_iinc (v := zI (3)) (lv' := [(3, .int (zI (3))), (2, .int (zI (((0 + ((t % 2) * (σ 1))) + ((t / 2 % 2) * (σ 2))) + ((t / 4 % 2) * (σ 3))))), (0, .ref h0), (1, .int (zI (t)))]) hx hb dX3_lowersBy_41 hl (k := 1) rfl (by decide +kernel) (by decide) rfl (fun ls hl => ?_)
          refine lv_goto (tgt := 19) hx hb dX3_lowersBy_44 (by decide) ?_
          refine lv_iload_n hx hb dX3_lowersBy_19 rfl (lv_at hl 0 rfl) ?_
          refine lv_iconst (v := zI (3)) hx hb dX3_lowersBy_20 rfl ?_
          refine z_icmp_ge (a := 3) (b := 3) (tgt := 47) hx hb (by omega) dX3_lowersBy_21 (by decide) (fun c_21 => ?_) (fun c_21 => ?_)
          · refine lv_iload_n hx hb dX3_lowersBy_47 rfl (lv_at hl 3 rfl) ?_
            refine z_Sir (As := [.int (zI (t))]) (rest := []) hx hb hml hown hts hA hS hP hD hK hZ hl.1 (c_X3_bits l D cI cJ cZ cO _ (t) (by omega)) (va_cwS 1 hts gX3_lowersBy_X3_bits rfl rfl rfl (by decide +kernel) ⟨Nat.le_of_ble_eq_true rfl, Nat.le_of_ble_eq_true rfl⟩) [] rfl rfl rfl rfl (Nat.le_of_ble_eq_true rfl) ⟨Nat.zero_le _, Nat.zero_le _⟩ dX3_lowersBy_48 (fun r u H locs hw hP hS => ?_)
            subst hw
            refine lv_istore_n (lv' := [(3, .int (zI (bitsI t))), (2, .int (zI (((0 + ((t % 2) * (σ 1))) + ((t / 2 % 2) * (σ 2))) + ((t / 4 % 2) * (σ 3))))), (0, .ref h0), (1, .int (zI (t)))]) hx hb dX3_lowersBy_51 rfl hl (by decide) rfl (fun ls hl => ?_)
            refine lv_iload_n hx hb dX3_lowersBy_52 rfl (lv_at hl 1 rfl) ?_
            refine lv_aload_n hx hb dX3_lowersBy_53 rfl (lv_at hl 2 rfl) ?_
            refine va_get (D := D) (ci := 3) (v := .ref a0) (C := RX3) (T := TX3) (N := 7) hx hb hts in_X3_lowersBy_X3 hown hK hP 0 rfl rfl 0 (by decide) (hts _ m_X3_lowersBy_0) (fun _ h9 => h9) rfl dX3_lowersBy_54 ?_
            refine lv_iconst (v := zI (4)) hx hb dX3_lowersBy_57 rfl ?_
            refine z_iald (k := 4) (g := σ) hx hb hK hP 1 0 rfl rfl (by omega) dX3_lowersBy_58 ?_
            try dsimp only
            refine lv_iload_n hx hb dX3_lowersBy_59 rfl (lv_at hl 0 rfl) ?_
            refine lv_iload_n hx hb dX3_lowersBy_60 rfl (lv_at hl 0 rfl) ?_
            refine lv_iconst (v := zI (1)) hx hb dX3_lowersBy_61 rfl ?_
            refine z_isub (a := bitsI t) (b := 1) hx hb dX3_lowersBy_62 ?_
            refine z_imul (a := bitsI t) (b := (bitsI t) - 1) hx hb dX3_lowersBy_63 ?_
            refine lv_iconst (v := zI (2)) hx hb dX3_lowersBy_64 rfl ?_
            refine z_idiv (a := (bitsI t) * ((bitsI t) - 1)) (b := 2) hx hb (by rcases (show bitsI t = 0 ∨ bitsI t = 1 ∨ bitsI t = 2 ∨ bitsI t = 3 by omega) with q | q | q | q <;> rw [q] <;> decide) dX3_lowersBy_65 ?_
            refine z_imul (a := σ 4) (b := ((bitsI t) * ((bitsI t) - 1)) / 2) hx hb dX3_lowersBy_66 ?_
            refine z_isub (a := ((0 + ((t % 2) * (σ 1))) + ((t / 2 % 2) * (σ 2))) + ((t / 4 % 2) * (σ 3))) (b := (σ 4) * (((bitsI t) * ((bitsI t) - 1)) / 2)) hx hb dX3_lowersBy_67 ?_
            exact hret _ _ _ _ _ () dX3_lowersBy_68 (by unfold low; rw [if_neg c_7]; congr 1; omega) hP hS
          · exfalso; omega
  · refine lv_bipush (v := zI (100)) hx hb dX3_lowersBy_10 (by decide +kernel) ?_
    refine lv_iload_n hx hb dX3_lowersBy_12 rfl (lv_at hl 1 rfl) ?_
    refine z_imul (a := 100) (b := t) hx hb dX3_lowersBy_13 ?_
    exact hret _ _ _ _ _ () dX3_lowersBy_14 (by unfold low; rw [if_pos c_7]) hP hS
abbrev rmX3_highOf : Room := { frames := 0, cells := 0, slots := 0, locals := 0 }
set_option maxHeartbeats 4000000 in
set_option maxRecDepth 100000 in
theorem c_X3_highOf (l : Launch) (D : va_G) (cI cJ cZ cO : ClassId) (sz : Nat) (q : Int) (h1 : 0 ≤ q ∧ q < 8) : Met l yX3_highOf wsX3_highOf rmX3_highOf (zPc D cI cJ cZ cO [] sz [.int (zI (q))]) (zQi D (fun (r : Int32) (_ : Unit) => r = zI (hi q)) (fun (_ : Unit) => []) [] sz) 0 0 (va_A [] sz) := by
  refine z_meti (by decide) rfl (Nat.le_of_ble_eq_true rfl) ?_
  intro p e s m args below meth c A Q ls hx hb hml hown hts hA hS hP hD hK hZ hl hret
  have hl : lv_has ls 1 [(0, .int (zI (q)))] := hl
  refine lv_iload_n hx hb dX3_highOf_0 rfl (lv_at hl 0 rfl) ?_
  rcases (show q = 0 ∨ q = 1 ∨ q = 2 ∨ q = 3 ∨ q = 4 ∨ q = 5 ∨ q = 6 ∨ (q < 0 ∨ 6 < q) by omega) with c_1 | c_1 | c_1 | c_1 | c_1 | c_1 | c_1 | c_1
  · refine z_tswIn (v := 0) (tgt := 44) hx hb c_1 (by decide) dX3_highOf_1 (by decide) rfl (by decide) ?_
    refine lv_iconst (v := zI (0)) hx hb dX3_highOf_44 rfl ?_
    exact hret _ _ _ _ _ () dX3_highOf_45 (by first | (rw [c_1]; decide +kernel) | (rw [show q = 7 by omega]; decide +kernel)) hP hS
  · refine z_tswIn (v := 1) (tgt := 46) hx hb c_1 (by decide) dX3_highOf_1 (by decide) rfl (by decide) ?_
    refine lv_sipush (v := zI (1200)) hx hb dX3_highOf_46 (by decide +kernel) ?_
    exact hret _ _ _ _ _ () dX3_highOf_49 (by first | (rw [c_1]; decide +kernel) | (rw [show q = 7 by omega]; decide +kernel)) hP hS
  · refine z_tswIn (v := 2) (tgt := 50) hx hb c_1 (by decide) dX3_highOf_1 (by decide) rfl (by decide) ?_
    refine lv_sipush (v := zI (1902)) hx hb dX3_highOf_50 (by decide +kernel) ?_
    exact hret _ _ _ _ _ () dX3_highOf_53 (by first | (rw [c_1]; decide +kernel) | (rw [show q = 7 by omega]; decide +kernel)) hP hS
  · refine z_tswIn (v := 3) (tgt := 54) hx hb c_1 (by decide) dX3_highOf_1 (by decide) rfl (by decide) ?_
    refine lv_sipush (v := zI (2400)) hx hb dX3_highOf_54 (by decide +kernel) ?_
    exact hret _ _ _ _ _ () dX3_highOf_57 (by first | (rw [c_1]; decide +kernel) | (rw [show q = 7 by omega]; decide +kernel)) hP hS
  · refine z_tswIn (v := 4) (tgt := 58) hx hb c_1 (by decide) dX3_highOf_1 (by decide) rfl (by decide) ?_
    refine lv_sipush (v := zI (2786)) hx hb dX3_highOf_58 (by decide +kernel) ?_
    exact hret _ _ _ _ _ () dX3_highOf_61 (by first | (rw [c_1]; decide +kernel) | (rw [show q = 7 by omega]; decide +kernel)) hP hS
  · refine z_tswIn (v := 5) (tgt := 62) hx hb c_1 (by decide) dX3_highOf_1 (by decide) rfl (by decide) ?_
    refine lv_sipush (v := zI (3102)) hx hb dX3_highOf_62 (by decide +kernel) ?_
    exact hret _ _ _ _ _ () dX3_highOf_65 (by first | (rw [c_1]; decide +kernel) | (rw [show q = 7 by omega]; decide +kernel)) hP hS
  · refine z_tswIn (v := 6) (tgt := 66) hx hb c_1 (by decide) dX3_highOf_1 (by decide) rfl (by decide) ?_
    refine lv_sipush (v := zI (3369)) hx hb dX3_highOf_66 (by decide +kernel) ?_
    exact hret _ _ _ _ _ () dX3_highOf_69 (by first | (rw [c_1]; decide +kernel) | (rw [show q = 7 by omega]; decide +kernel)) hP hS
  · refine z_tswOut (tgt := 70) hx hb (by omega) dX3_highOf_1 (by omega) (by decide) ?_
    refine lv_sipush (v := zI (3600)) hx hb dX3_highOf_70 (by decide +kernel) ?_
    exact hret _ _ _ _ _ () dX3_highOf_73 (by first | (rw [c_1]; decide +kernel) | (rw [show q = 7 by omega]; decide +kernel)) hP hS
abbrev rmX3_offOf : Room := { frames := 2, cells := 0, slots := 0, locals := 43 }
set_option maxHeartbeats 4000000 in
set_option maxRecDepth 100000 in
theorem c_X3_offOf (l : Launch) (D : va_G) (cI cJ cZ cO : ClassId) (sz : Nat) (h0 : Nat) (a0 : Nat) (a1 : Nat) (a2 : Nat) (a3 : Nat) (a4 : Nat) (a5 : Nat) (a6 : Nat) (σ : Int → Int) (w : Int) (n : Int) (h1 : 0 ≤ w ∧ w < 64) (hO : Ok σ) : Met l yX3_offOf wsX3_offOf rmX3_offOf (zPc D cI cJ cZ cO [(h0, .inr (3, [.ref a0, .ref a1, .ref a2, .ref a3, .ref a4, .ref a5, .ref a6])), (a0, .inl (cI, 22, .inl (zF (σ))))] sz [.ref h0, .int (zI (w)), .int (zI (n))]) (zQi D (fun (r : Int32) (_ : Unit) => r = zI (off σ w n)) (fun (_ : Unit) => [(h0, .inr (3, [.ref a0, .ref a1, .ref a2, .ref a3, .ref a4, .ref a5, .ref a6])), (a0, .inl (cI, 22, .inl (zF (σ))))]) [(h0, .inr (3, [.ref a0, .ref a1, .ref a2, .ref a3, .ref a4, .ref a5, .ref a6])), (a0, .inl (cI, 22, .inl (zF (σ))))] sz) 0 0 (va_A [(h0, .inr (3, [.ref a0, .ref a1, .ref a2, .ref a3, .ref a4, .ref a5, .ref a6])), (a0, .inl (cI, 22, .inl (zF (σ))))] sz) := by
  refine z_meti (by decide) rfl (Nat.le_of_ble_eq_true rfl) ?_
  intro p e s m args below meth c A Q ls hx hb hml hown hts hA hS hP hD hK hZ hl hret
  have hl : lv_has ls 3 [(0, .ref h0), (1, .int (zI (w))), (2, .int (zI (n)))] := hl
  refine lv_iload_n hx hb dX3_offOf_0 rfl (lv_at hl 1 rfl) ?_
  refine lv_bipush (v := zI (8)) hx hb dX3_offOf_1 (by decide +kernel) ?_
  refine z_idiv (a := w) (b := 8) hx hb (by omega) dX3_offOf_3 ?_
  refine z_Sir (As := [.int (zI (w / 8))]) (rest := []) hx hb hml hown hts hA hS hP hD hK hZ hl.1 (c_X3_highOf l D cI cJ cZ cO _ (w / 8) (by omega)) (va_cwS 1 hts gX3_offOf_X3_highOf rfl rfl rfl (by decide +kernel) ⟨Nat.le_of_ble_eq_true rfl, Nat.le_of_ble_eq_true rfl⟩) [] rfl rfl rfl rfl (Nat.le_of_ble_eq_true rfl) ⟨Nat.zero_le _, Nat.zero_le _⟩ dX3_offOf_4 (fun r u H locs hw hP hS => ?_)
  subst hw
  refine lv_aload_n hx hb dX3_offOf_7 rfl (lv_at hl 0 rfl) ?_
  refine lv_iload_n hx hb dX3_offOf_8 rfl (lv_at hl 1 rfl) ?_
  refine lv_bipush (v := zI (8)) hx hb dX3_offOf_9 (by decide +kernel) ?_
  refine z_irem (a := w) (b := 8) hx hb (by omega) dX3_offOf_11 ?_
  refine z_Vir (As := [.int (zI (w % 8))]) (rest := [.int (zI (hi (w / 8)))]) hx hb hml hown hts hA hS hP hD hK hZ hl.1 (c_X3_lowersBy l D cI cJ cZ cO _ (h0) (a0) (a1) (a2) (a3) (a4) (a5) (a6) (σ) (w % 8) (by omega) hO) (cwV 1 hts gX3_offOf_X3_lowersBy rfl rfl rfl (by decide +kernel) ⟨Nat.le_of_ble_eq_true rfl, Nat.le_of_ble_eq_true rfl⟩) [0, 1] rfl rfl 0 3 rfl rfl rfl rfl (Nat.le_of_ble_eq_true rfl) ⟨Nat.zero_le _, Nat.zero_le _⟩ dX3_offOf_12 (fun r u H locs hw hP hS => ?_)
  subst hw
  refine z_isub (a := hi (w / 8)) (b := low σ (w % 8)) hx hb dX3_offOf_15 ?_
  refine lv_bipush (v := zI (100)) hx hb dX3_offOf_16 (by decide +kernel) ?_
  refine lv_iload_n hx hb dX3_offOf_18 rfl (lv_at hl 2 rfl) ?_
  refine z_imul (a := 100) (b := n) hx hb dX3_offOf_19 ?_
  refine z_isub (a := (hi (w / 8)) - (low σ (w % 8))) (b := 100 * n) hx hb dX3_offOf_20 ?_
  exact hret _ _ _ _ _ () dX3_offOf_21 rfl hP hS
abbrev rmX3_sounds : Room := { frames := 3, cells := 0, slots := 0, locals := 65 }
theorem in_X3_sounds_X3 : ∀ w ∈ wsX30, w ∈ wsX3_sounds := fun _ h => List.mem_cons_of_mem _ (List.mem_append_right _ h)
theorem m_X3_sounds_0 : (.fieldLink RX3 7 "BrassWaysModel" "state" "[I" : Cond) ∈ wsX3_sounds := List.mem_of_getElem? (i := 1) rfl
set_option maxHeartbeats 4000000 in
set_option maxRecDepth 100000 in
theorem c_X3_sounds (l : Launch) (D : va_G) (cI cJ cZ cO : ClassId) (sz : Nat) (h0 : Nat) (a0 : Nat) (a1 : Nat) (a2 : Nat) (a3 : Nat) (a4 : Nat) (a5 : Nat) (a6 : Nat) (σ : Int → Int) (w : Int) (n : Int) (h1 : -2147483648 ≤ w ∧ w < 2147483648) (h2 : 0 ≤ n ∧ n ≤ 36) (hO : Ok σ) : Met l yX3_sounds wsX3_sounds rmX3_sounds (zPc D cI cJ cZ cO [(h0, .inr (3, [.ref a0, .ref a1, .ref a2, .ref a3, .ref a4, .ref a5, .ref a6])), (a0, .inl (cI, 22, .inl (zF (σ))))] sz [.ref h0, .int (zI (w)), .int (zI (n))]) (zQi D (fun (r : Int32) (_ : Unit) => r = zI (zB (sd σ w n = true))) (fun (_ : Unit) => [(h0, .inr (3, [.ref a0, .ref a1, .ref a2, .ref a3, .ref a4, .ref a5, .ref a6])), (a0, .inl (cI, 22, .inl (zF (σ))))]) [(h0, .inr (3, [.ref a0, .ref a1, .ref a2, .ref a3, .ref a4, .ref a5, .ref a6])), (a0, .inl (cI, 22, .inl (zF (σ))))] sz) 0 0 (va_A [(h0, .inr (3, [.ref a0, .ref a1, .ref a2, .ref a3, .ref a4, .ref a5, .ref a6])), (a0, .inl (cI, 22, .inl (zF (σ))))] sz) := by
  refine z_metz (by decide) rfl (Nat.le_of_ble_eq_true rfl) ?_
  intro p e s m args below meth c A Q ls hx hb hml hown hts hA hS hP hD hK hZ hl hret
  have hl : lv_has ls 3 [(0, .ref h0), (1, .int (zI (w))), (2, .int (zI (n)))] := hl
  have o5 := hO.2.2.2.2.2.1
  refine lv_aload_n hx hb dX3_sounds_0 rfl (lv_at hl 0 rfl) ?_
  refine lv_iload_n hx hb dX3_sounds_1 rfl (lv_at hl 1 rfl) ?_
  refine z_Vir (As := [.int (zI (w))]) (rest := []) hx hb hml hown hts hA hS hP hD hK hZ hl.1 (c_X3_isWay l D cI cJ cZ cO _ (h0) (a0) (a1) (a2) (a3) (a4) (a5) (a6) (σ) (w) (by omega) hO) (cwV 1 hts gX3_sounds_X3_isWay rfl rfl rfl (by decide +kernel) ⟨Nat.le_of_ble_eq_true rfl, Nat.le_of_ble_eq_true rfl⟩) [0, 1] rfl rfl 0 3 rfl rfl rfl rfl (Nat.le_of_ble_eq_true rfl) ⟨Nat.zero_le _, Nat.zero_le _⟩ dX3_sounds_2 (fun r u H locs hw hP hS => ?_)
  subst hw
  refine z_ifB_eq (P := okW σ w) (tgt := 30) hx hb dX3_sounds_5 (by decide) (fun c_5 => ?_) (fun c_5 => ?_)
  · refine lv_iconst (v := zI (0)) hx hb dX3_sounds_30 rfl ?_
    exact hret _ _ _ _ _ () dX3_sounds_31 rfl (by rw [zB_f (by simp only [sd, decide_eq_true_eq]; first | exact fun q => c_5 q.1 | (intro q; have := q.2; omega))]) hP hS
  · have hw6 := c_5.1
    have ho := off_in hO (w := w) (n := n) (by omega) h2
    have ha := aI_in (a := off σ w n) (b := 4800) (by omega)
    refine lv_aload_n hx hb dX3_sounds_8 rfl (lv_at hl 0 rfl) ?_
    refine lv_iload_n hx hb dX3_sounds_9 rfl (lv_at hl 1 rfl) ?_
    refine lv_iload_n hx hb dX3_sounds_10 rfl (lv_at hl 2 rfl) ?_
    refine z_Vir (As := [.int (zI (w)), .int (zI (n))]) (rest := []) hx hb hml hown hts hA hS hP hD hK hZ hl.1 (c_X3_offOf l D cI cJ cZ cO _ (h0) (a0) (a1) (a2) (a3) (a4) (a5) (a6) (σ) (w) (n) (by omega) hO) (cwV 2 hts gX3_sounds_X3_offOf rfl rfl rfl (by decide +kernel) ⟨Nat.le_of_ble_eq_true rfl, Nat.le_of_ble_eq_true rfl⟩) [0, 1] rfl rfl 0 3 rfl rfl rfl rfl (Nat.le_of_ble_eq_true rfl) ⟨Nat.zero_le _, Nat.zero_le _⟩ dX3_sounds_11 (fun r u H locs hw hP hS => ?_)
    subst hw
    refine z_Sir (As := [.int (zI (off σ w n))]) (rest := []) hx hb hml hown hts hA hS hP hD hK hZ hl.1 (c_X3_size l D cI cJ cZ cO _ (off σ w n) (by omega)) (va_cwS 1 hts gX3_sounds_X3_size rfl rfl rfl (by decide +kernel) ⟨Nat.le_of_ble_eq_true rfl, Nat.le_of_ble_eq_true rfl⟩) [] rfl rfl rfl rfl (Nat.le_of_ble_eq_true rfl) ⟨Nat.zero_le _, Nat.zero_le _⟩ dX3_sounds_14 (fun r u H locs hw hP hS => ?_)
    subst hw
    refine lv_aload_n hx hb dX3_sounds_17 rfl (lv_at hl 0 rfl) ?_
    refine va_get (D := D) (ci := 3) (v := .ref a0) (C := RX3) (T := TX3) (N := 7) hx hb hts in_X3_sounds_X3 hown hK hP 0 rfl rfl 0 (by decide) (hts _ m_X3_sounds_0) (fun _ h9 => h9) rfl dX3_sounds_18 ?_
    refine lv_iconst (v := zI (5)) hx hb dX3_sounds_21 rfl ?_
    refine z_iald (k := 5) (g := σ) hx hb hK hP 1 0 rfl rfl (by omega) dX3_sounds_22 ?_
    try dsimp only
    refine z_icmp_gt (a := aI (off σ w n)) (b := σ 5) (tgt := 30) hx hb (by omega) dX3_sounds_23 (by decide) (fun c_23 => ?_) (fun c_23 => ?_)
    · refine lv_iconst (v := zI (0)) hx hb dX3_sounds_30 rfl ?_
      exact hret _ _ _ _ _ () dX3_sounds_31 rfl (by rw [zB_f (by simp only [sd, decide_eq_true_eq]; first | exact fun q => c_5 q.1 | (intro q; have := q.2; omega))]) hP hS
    · refine lv_iconst (v := zI (1)) hx hb dX3_sounds_26 rfl ?_
      refine lv_goto (tgt := 31) hx hb dX3_sounds_27 (by decide) ?_
      exact hret _ _ _ _ _ () dX3_sounds_31 rfl (by rw [zB_t (by simp only [sd, decide_eq_true_eq]; exact ⟨c_5, c_23⟩)]) hP hS
abbrev rmX3_waysOf : Room := { frames := 4, cells := 0, slots := 0, locals := 87 }
set_option maxHeartbeats 4000000 in
set_option maxRecDepth 100000 in
theorem c_X3_waysOf (l : Launch) (D : va_G) (cI cJ cZ cO : ClassId) (sz : Nat) (h0 : Nat) (a0 : Nat) (a1 : Nat) (a2 : Nat) (a3 : Nat) (a4 : Nat) (a5 : Nat) (a6 : Nat) (σ : Int → Int) (n : Int) (h2 : 0 ≤ n ∧ n ≤ 36) (hO : Ok σ) : Met l yX3_waysOf wsX3_waysOf rmX3_waysOf (zPc D cI cJ cZ cO [(h0, .inr (3, [.ref a0, .ref a1, .ref a2, .ref a3, .ref a4, .ref a5, .ref a6])), (a0, .inl (cI, 22, .inl (zF (σ))))] sz [.ref h0, .int (zI (n))]) (zQi D (fun (r : Int32) (_ : Unit) => r = zI (cnt (fun w => sd σ w n) 64)) (fun (_ : Unit) => [(h0, .inr (3, [.ref a0, .ref a1, .ref a2, .ref a3, .ref a4, .ref a5, .ref a6])), (a0, .inl (cI, 22, .inl (zF (σ))))]) [(h0, .inr (3, [.ref a0, .ref a1, .ref a2, .ref a3, .ref a4, .ref a5, .ref a6])), (a0, .inl (cI, 22, .inl (zF (σ))))] sz) 0 0 (va_A [(h0, .inr (3, [.ref a0, .ref a1, .ref a2, .ref a3, .ref a4, .ref a5, .ref a6])), (a0, .inl (cI, 22, .inl (zF (σ))))] sz) := by
  refine z_meti (by decide) rfl (Nat.le_of_ble_eq_true rfl) ?_
  intro p e s m args below meth c A Q ls hx hb hml hown hts hA hS hP hD hK hZ hl hret
  have hl : lv_has ls 4 [(0, .ref h0), (1, .int (zI (n)))] := hl
  refine lv_iconst (v := zI (0)) hx hb dX3_waysOf_0 rfl ?_
  refine lv_istore_n (lv' := [(2, .int (zI (0))), (0, .ref h0), (1, .int (zI (n)))]) hx hb dX3_waysOf_1 rfl hl (by decide) rfl (fun ls hl => ?_)
  refine lv_iconst (v := zI (0)) hx hb dX3_waysOf_2 rfl ?_
  refine lv_istore_n (lv' := [(3, .int (zI (0))), (2, .int (zI (0))), (0, .ref h0), (1, .int (zI (n)))]) hx hb dX3_waysOf_3 rfl hl (by decide) rfl (fun ls hl => ?_)
  have loop_a : ∀ (f_a : Nat) (k : Nat) (x : Int) (H : Heap) (locs : List Loc) (ls : Array Slot), (k ≤ 64) → (x = cnt (fun w => sd σ w n) k) → (64 - (k : Int) < (f_a : Int)) → va_P D vwCl [(h0, .inr (3, [.ref a0, .ref a1, .ref a2, .ref a3, .ref a4, .ref a5, .ref a6])), (a0, .inl (cI, 22, .inl (zF (σ))))] H → va_D A [(h0, .inr (3, [.ref a0, .ref a1, .ref a2, .ref a3, .ref a4, .ref a5, .ref a6])), (a0, .inl (cI, 22, .inl (zF (σ))))] → va_S A s.heap H locs → lv_has ls 4 [(0, .ref h0), (1, .int (zI (n))), (2, .int (zI (x))), (3, .int (zI ((k : Int))))] → W p l e rmX3_waysOf s m args below meth c H locs 0 0 Q (F0 m 4 ls []) := by
    intro f_a
    induction f_a with
    | zero =>
      intros
      exfalso; omega
    | succ f_a ih_a =>
      intro k x H locs ls e_k e_x hfu_a hP hD hS hl
      refine lv_iload_n hx hb dX3_waysOf_4 rfl (lv_at hl 3 rfl) ?_
      refine lv_bipush (v := zI (64)) hx hb dX3_waysOf_5 (by decide +kernel) ?_
      refine z_icmp_ge (a := (k : Int)) (b := 64) (tgt := 33) hx hb (by omega) dX3_waysOf_7 (by decide) (fun c_7 => ?_) (fun c_7 => ?_)
      · refine lv_iload_n hx hb dX3_waysOf_33 rfl (lv_at hl 2 rfl) ?_
        exact hret _ _ _ _ _ () dX3_waysOf_34 (by rw [e_x, show k = 64 by omega]) hP hS
      · refine lv_iload_n hx hb dX3_waysOf_10 rfl (lv_at hl 2 rfl) ?_
        refine lv_aload_n hx hb dX3_waysOf_11 rfl (lv_at hl 0 rfl) ?_
        refine lv_iload_n hx hb dX3_waysOf_12 rfl (lv_at hl 3 rfl) ?_
        refine lv_iload_n hx hb dX3_waysOf_13 rfl (lv_at hl 1 rfl) ?_
        refine z_Vir (As := [.int (zI ((k : Int))), .int (zI (n))]) (rest := [.int (zI (x))]) hx hb hml hown hts hA hS hP hD hK hZ hl.1 (c_X3_sounds l D cI cJ cZ cO _ (h0) (a0) (a1) (a2) (a3) (a4) (a5) (a6) (σ) ((k : Int)) (n) (by omega) (by omega) hO) (cwV 2 hts gX3_waysOf_X3_sounds rfl rfl rfl (by decide +kernel) ⟨Nat.le_of_ble_eq_true rfl, Nat.le_of_ble_eq_true rfl⟩) [0, 1] rfl rfl 0 3 rfl rfl rfl rfl (Nat.le_of_ble_eq_true rfl) ⟨Nat.zero_le _, Nat.zero_le _⟩ dX3_waysOf_14 (fun r u H locs hw hP hS => ?_)
        subst hw
        refine z_ifB_eq (P := sd σ (k : Int) n = true) (tgt := 24) hx hb dX3_waysOf_17 (by decide) (fun c_17 => ?_) (fun c_17 => ?_)
        · refine lv_iconst (v := zI (0)) hx hb dX3_waysOf_24 rfl ?_
          refine z_iadd (a := x) (b := 0) hx hb dX3_waysOf_25 ?_
          refine lv_istore_n (lv' := [(2, .int (zI (x + 0))), (0, .ref h0), (1, .int (zI (n))), (3, .int (zI ((k : Int))))]) hx hb dX3_waysOf_26 rfl hl (by decide) rfl (fun ls hl => ?_)
          refine lv_iinc (v := zI ((k : Int) + 1)) (lv' := [(3, .int (zI ((k : Int) + 1))), (2, .int (zI (x + 0))), (0, .ref h0), (1, .int (zI (n)))]) hx hb dX3_waysOf_27 hl (k := 3) rfl (zI_add _ _) (by decide) rfl (fun ls hl => ?_)
          refine lv_goto (tgt := 4) hx hb dX3_waysOf_30 (by decide) ?_
          exact ih_a (k + 1) (x + 0) _ _ _ (by omega) (by first | (rw [cnt_y (q := fun w => sd σ w n) c_17]; omega) | (rw [cnt_n (q := fun w => sd σ w n) c_17]; omega)) (by omega) hP hD hS (lv_sub hl [2, 3, 1, 0] rfl)
        · refine lv_iconst (v := zI (1)) hx hb dX3_waysOf_20 rfl ?_
          refine lv_goto (tgt := 25) hx hb dX3_waysOf_21 (by decide) ?_
          refine z_iadd (a := x) (b := 1) hx hb dX3_waysOf_25 ?_
          refine lv_istore_n (lv' := [(2, .int (zI (x + 1))), (0, .ref h0), (1, .int (zI (n))), (3, .int (zI ((k : Int))))]) hx hb dX3_waysOf_26 rfl hl (by decide) rfl (fun ls hl => ?_)
          refine lv_iinc (v := zI ((k : Int) + 1)) (lv' := [(3, .int (zI ((k : Int) + 1))), (2, .int (zI (x + 1))), (0, .ref h0), (1, .int (zI (n)))]) hx hb dX3_waysOf_27 hl (k := 3) rfl (zI_add _ _) (by decide) rfl (fun ls hl => ?_)
          refine lv_goto (tgt := 4) hx hb dX3_waysOf_30 (by decide) ?_
          exact ih_a (k + 1) (x + 1) _ _ _ (by omega) (by first | (rw [cnt_y (q := fun w => sd σ w n) c_17]; omega) | (rw [cnt_n (q := fun w => sd σ w n) c_17]; omega)) (by omega) hP hD hS (lv_sub hl [2, 3, 1, 0] rfl)
  exact loop_a 70 (0) (0) _ _ _ (by omega) (rfl) (by omega) hP hD hS (lv_sub hl [2, 3, 1, 0] rfl)
end
section
abbrev rmX3_horn : Room := { frames := 1, cells := 0, slots := 0, locals := 22 }
theorem in_X3_horn_X3 : ∀ w ∈ wsX30, w ∈ wsX3_horn := fun _ h => List.mem_cons_of_mem _ (List.mem_append_right _ h)
theorem m_X3_horn_0 : (.fieldLink RX3 7 "BrassWaysModel" "state" "[I" : Cond) ∈ wsX3_horn := List.mem_of_getElem? (i := 1) rfl
set_option maxHeartbeats 4000000 in
set_option maxRecDepth 100000 in
theorem c_X3_horn (l : Launch) (D : va_G) (cI cJ cZ cO : ClassId) (sz : Nat) (h0 : Nat) (a0 : Nat) (a1 : Nat) (a2 : Nat) (a3 : Nat) (a4 : Nat) (a5 : Nat) (a6 : Nat) (σ : Int → Int) (v : Int) (h_v : -2147483648 ≤ v ∧ v < 2147483648) : Met l yX3_horn wsX3_horn rmX3_horn (zPc D cI cJ cZ cO [(h0, .inr (3, [.ref a0, .ref a1, .ref a2, .ref a3, .ref a4, .ref a5, .ref a6])), (a0, .inl (cI, 22, .inl (zF (σ))))] sz [.ref h0, .int (zI (v))]) (zQi D (fun (r : Int32) (_ : Unit) => r = zI (A_horn σ v)) (fun (_ : Unit) => [(h0, .inr (3, [.ref a0, .ref a1, .ref a2, .ref a3, .ref a4, .ref a5, .ref a6])), (a0, .inl (cI, 22, .inl (zF (S_horn σ v))))]) [(h0, .inr (3, [.ref a0, .ref a1, .ref a2, .ref a3, .ref a4, .ref a5, .ref a6])), (a0, .inl (cI, 22, .inl (zF (σ))))] sz) 0 0 (va_A [(h0, .inr (3, [.ref a0, .ref a1, .ref a2, .ref a3, .ref a4, .ref a5, .ref a6])), (a0, .inl (cI, 22, .inl (zF (σ))))] sz) := by
  refine z_meti (by decide) rfl (Nat.le_of_ble_eq_true rfl) ?_
  intro p e s m args below meth c A Q ls hx hb hml hown hts hA hS hP hD hK hZ hl hret
  have hl : lv_has ls 3 [(0, .ref h0), (1, .int (zI (v)))] := hl
  refine lv_iload_n hx hb dX3_horn_0 rfl (lv_at hl 1 rfl) ?_
  refine lv_iconst (v := zI (0)) hx hb dX3_horn_1 rfl ?_
  refine lv_iconst (v := zI (1)) hx hb dX3_horn_2 rfl ?_
  refine z_Sir (As := [.int (zI (v)), .int (zI (0)), .int (zI (1))]) (rest := []) hx hb hml hown hts hA hS hP hD hK hZ hl.1 (c_X3_in l D cI cJ cZ cO _ (v) (0) (1) (by omega)) (va_cwS 3 hts gX3_horn_X3_in rfl rfl rfl (by decide +kernel) ⟨Nat.le_of_ble_eq_true rfl, Nat.le_of_ble_eq_true rfl⟩) [] rfl rfl rfl rfl (Nat.le_of_ble_eq_true rfl) ⟨Nat.zero_le _, Nat.zero_le _⟩ dX3_horn_3 (fun r u H locs hw hP hS => ?_)
  subst hw
  refine z_ifB_ne (P := 0 ≤ v ∧ v ≤ 1) (tgt := 12) hx hb dX3_horn_6 (by decide) (fun c_6 => ?_) (fun c_6 => ?_)
  · refine lv_aload_n hx hb dX3_horn_12 rfl (lv_at hl 0 rfl) ?_
    refine va_get (D := D) (ci := 3) (v := .ref a0) (C := RX3) (T := TX3) (N := 7) hx hb hts in_X3_horn_X3 hown hK hP 0 rfl rfl 0 (by decide) (hts _ m_X3_horn_0) (fun _ h9 => h9) rfl dX3_horn_13 ?_
    refine lv_iconst (v := zI (0)) hx hb dX3_horn_16 rfl ?_
    refine z_iald (k := 0) (g := σ) hx hb hK hP 1 0 rfl rfl (by omega) dX3_horn_17 ?_
    try dsimp only
    refine lv_istore_n (lv' := [(2, .int (zI (σ 0))), (0, .ref h0), (1, .int (zI (v)))]) hx hb dX3_horn_18 rfl hl (by decide) rfl (fun ls hl => ?_)
    refine lv_aload_n hx hb dX3_horn_19 rfl (lv_at hl 1 rfl) ?_
    refine va_get (D := D) (ci := 3) (v := .ref a0) (C := RX3) (T := TX3) (N := 7) hx hb hts in_X3_horn_X3 hown hK hP 0 rfl rfl 0 (by decide) (hts _ m_X3_horn_0) (fun _ h9 => h9) rfl dX3_horn_20 ?_
    refine lv_iconst (v := zI (0)) hx hb dX3_horn_23 rfl ?_
    refine lv_iload_n hx hb dX3_horn_24 rfl (lv_at hl 2 rfl) ?_
    refine z_iast (k := 0) (x := v) (g := σ) hx hb hK hP hD hS 1 0 rfl rfl (by omega) dX3_horn_25 (fun H locs hP hD hS => ?_)
    have hP : va_P D vwCl [(h0, .inr (3, [.ref a0, .ref a1, .ref a2, .ref a3, .ref a4, .ref a5, .ref a6])), (a0, .inl (cI, 22, .inl (zF (upI σ 0 v))))] H := hP
    have hD : va_D A [(h0, .inr (3, [.ref a0, .ref a1, .ref a2, .ref a3, .ref a4, .ref a5, .ref a6])), (a0, .inl (cI, 22, .inl (zF (upI σ 0 v))))] := hD
    refine lv_iload_n hx hb dX3_horn_26 rfl (lv_at hl 0 rfl) ?_
    exact hret _ _ _ _ _ () dX3_horn_27 (by unfold A_horn; first | rw [if_pos c_6]) (by simp only [S_horn]; first | (rw [if_pos c_6]; exact hP)) hS
  · refine lv_bipush (v := zI (-2)) hx hb dX3_horn_9 (by decide +kernel) ?_
    exact hret _ _ _ _ _ () dX3_horn_11 (by unfold A_horn; first | rw [if_neg c_6]) (by simp only [S_horn]; first | (rw [if_neg c_6]; exact hP)) hS
abbrev rmX3_valve : Room := { frames := 1, cells := 0, slots := 0, locals := 22 }
theorem in_X3_valve_X3 : ∀ w ∈ wsX30, w ∈ wsX3_valve := fun _ h => List.mem_cons_of_mem _ (List.mem_append_right _ h)
theorem m_X3_valve_0 : (.fieldLink RX3 7 "BrassWaysModel" "state" "[I" : Cond) ∈ wsX3_valve := List.mem_of_getElem? (i := 1) rfl
set_option maxHeartbeats 4000000 in
set_option maxRecDepth 100000 in
theorem c_X3_valve (l : Launch) (D : va_G) (cI cJ cZ cO : ClassId) (sz : Nat) (h0 : Nat) (a0 : Nat) (a1 : Nat) (a2 : Nat) (a3 : Nat) (a4 : Nat) (a5 : Nat) (a6 : Nat) (σ : Int → Int) (q : Int) (v : Int) (h_q : -2147483648 ≤ q ∧ q < 2147483648) (h_v : -2147483648 ≤ v ∧ v < 2147483648) : Met l yX3_valve wsX3_valve rmX3_valve (zPc D cI cJ cZ cO [(h0, .inr (3, [.ref a0, .ref a1, .ref a2, .ref a3, .ref a4, .ref a5, .ref a6])), (a0, .inl (cI, 22, .inl (zF (σ))))] sz [.ref h0, .int (zI (q)), .int (zI (v))]) (zQi D (fun (r : Int32) (_ : Unit) => r = zI (A_valve σ q v)) (fun (_ : Unit) => [(h0, .inr (3, [.ref a0, .ref a1, .ref a2, .ref a3, .ref a4, .ref a5, .ref a6])), (a0, .inl (cI, 22, .inl (zF (S_valve σ q v))))]) [(h0, .inr (3, [.ref a0, .ref a1, .ref a2, .ref a3, .ref a4, .ref a5, .ref a6])), (a0, .inl (cI, 22, .inl (zF (σ))))] sz) 0 0 (va_A [(h0, .inr (3, [.ref a0, .ref a1, .ref a2, .ref a3, .ref a4, .ref a5, .ref a6])), (a0, .inl (cI, 22, .inl (zF (σ))))] sz) := by
  refine z_meti (by decide) rfl (Nat.le_of_ble_eq_true rfl) ?_
  intro p e s m args below meth c A Q ls hx hb hml hown hts hA hS hP hD hK hZ hl hret
  have hl : lv_has ls 4 [(0, .ref h0), (1, .int (zI (q))), (2, .int (zI (v)))] := hl
  refine lv_iload_n hx hb dX3_valve_0 rfl (lv_at hl 1 rfl) ?_
  refine lv_iconst (v := zI (0)) hx hb dX3_valve_1 rfl ?_
  refine lv_iconst (v := zI (2)) hx hb dX3_valve_2 rfl ?_
  refine z_Sir (As := [.int (zI (q)), .int (zI (0)), .int (zI (2))]) (rest := []) hx hb hml hown hts hA hS hP hD hK hZ hl.1 (c_X3_in l D cI cJ cZ cO _ (q) (0) (2) (by omega)) (va_cwS 3 hts gX3_valve_X3_in rfl rfl rfl (by decide +kernel) ⟨Nat.le_of_ble_eq_true rfl, Nat.le_of_ble_eq_true rfl⟩) [] rfl rfl rfl rfl (Nat.le_of_ble_eq_true rfl) ⟨Nat.zero_le _, Nat.zero_le _⟩ dX3_valve_3 (fun r u H locs hw hP hS => ?_)
  subst hw
  refine z_ifB_ne (P := 0 ≤ q ∧ q ≤ 2) (tgt := 11) hx hb dX3_valve_6 (by decide) (fun c_6 => ?_) (fun c_6 => ?_)
  · refine lv_iload_n hx hb dX3_valve_11 rfl (lv_at hl 2 rfl) ?_
    refine lv_iconst (v := zI (0)) hx hb dX3_valve_12 rfl ?_
    refine lv_sipush (v := zI (400)) hx hb dX3_valve_13 (by decide +kernel) ?_
    refine z_Sir (As := [.int (zI (v)), .int (zI (0)), .int (zI (400))]) (rest := []) hx hb hml hown hts hA hS hP hD hK hZ hl.1 (c_X3_in l D cI cJ cZ cO _ (v) (0) (400) (by omega)) (va_cwS 3 hts gX3_valve_X3_in rfl rfl rfl (by decide +kernel) ⟨Nat.le_of_ble_eq_true rfl, Nat.le_of_ble_eq_true rfl⟩) [] rfl rfl rfl rfl (Nat.le_of_ble_eq_true rfl) ⟨Nat.zero_le _, Nat.zero_le _⟩ dX3_valve_16 (fun r u H locs hw hP hS => ?_)
    subst hw
    refine z_ifB_ne (P := 0 ≤ v ∧ v ≤ 400) (tgt := 25) hx hb dX3_valve_19 (by decide) (fun c_19 => ?_) (fun c_19 => ?_)
    · refine lv_aload_n hx hb dX3_valve_25 rfl (lv_at hl 0 rfl) ?_
      refine va_get (D := D) (ci := 3) (v := .ref a0) (C := RX3) (T := TX3) (N := 7) hx hb hts in_X3_valve_X3 hown hK hP 0 rfl rfl 0 (by decide) (hts _ m_X3_valve_0) (fun _ h9 => h9) rfl dX3_valve_26 ?_
      refine lv_iconst (v := zI (1)) hx hb dX3_valve_29 rfl ?_
      refine lv_iload_n hx hb dX3_valve_30 rfl (lv_at hl 1 rfl) ?_
      refine z_iadd (a := 1) (b := q) hx hb dX3_valve_31 ?_
      refine z_iald (k := 1 + q) (g := σ) hx hb hK hP 1 0 rfl rfl (by omega) dX3_valve_32 ?_
      try dsimp only
      refine lv_istore_n (lv' := [(3, .int (zI (σ (1 + q)))), (0, .ref h0), (1, .int (zI (q))), (2, .int (zI (v)))]) hx hb dX3_valve_33 rfl hl (by decide) rfl (fun ls hl => ?_)
      refine lv_aload_n hx hb dX3_valve_34 rfl (lv_at hl 1 rfl) ?_
      refine va_get (D := D) (ci := 3) (v := .ref a0) (C := RX3) (T := TX3) (N := 7) hx hb hts in_X3_valve_X3 hown hK hP 0 rfl rfl 0 (by decide) (hts _ m_X3_valve_0) (fun _ h9 => h9) rfl dX3_valve_35 ?_
      refine lv_iconst (v := zI (1)) hx hb dX3_valve_38 rfl ?_
      refine lv_iload_n hx hb dX3_valve_39 rfl (lv_at hl 2 rfl) ?_
      refine z_iadd (a := 1) (b := q) hx hb dX3_valve_40 ?_
      refine lv_iload_n hx hb dX3_valve_41 rfl (lv_at hl 3 rfl) ?_
      refine z_iast (k := 1 + q) (x := v) (g := σ) hx hb hK hP hD hS 1 0 rfl rfl (by omega) dX3_valve_42 (fun H locs hP hD hS => ?_)
      have hP : va_P D vwCl [(h0, .inr (3, [.ref a0, .ref a1, .ref a2, .ref a3, .ref a4, .ref a5, .ref a6])), (a0, .inl (cI, 22, .inl (zF (upI σ (1 + q) v))))] H := hP
      have hD : va_D A [(h0, .inr (3, [.ref a0, .ref a1, .ref a2, .ref a3, .ref a4, .ref a5, .ref a6])), (a0, .inl (cI, 22, .inl (zF (upI σ (1 + q) v))))] := hD
      refine lv_iload_n hx hb dX3_valve_43 rfl (lv_at hl 0 rfl) ?_
      exact hret _ _ _ _ _ () dX3_valve_44 (by unfold A_valve; first | rw [if_pos c_6, if_pos c_19]) (by simp only [S_valve]; first | (rw [if_pos c_6, if_pos c_19]; exact hP)) hS
    · refine lv_bipush (v := zI (-2)) hx hb dX3_valve_22 (by decide +kernel) ?_
      exact hret _ _ _ _ _ () dX3_valve_24 (by unfold A_valve; first | rw [if_pos c_6, if_neg c_19]) (by simp only [S_valve]; first | (rw [if_pos c_6, if_neg c_19]; exact hP)) hS
  · refine lv_iconst (v := zI (-1)) hx hb dX3_valve_9 rfl ?_
    exact hret _ _ _ _ _ () dX3_valve_10 (by unfold A_valve; first | rw [if_neg c_6]) (by simp only [S_valve]; first | (rw [if_neg c_6]; exact hP)) hS
abbrev rmX3_rule : Room := { frames := 1, cells := 0, slots := 0, locals := 22 }
theorem in_X3_rule_X3 : ∀ w ∈ wsX30, w ∈ wsX3_rule := fun _ h => List.mem_cons_of_mem _ (List.mem_append_right _ h)
theorem m_X3_rule_0 : (.fieldLink RX3 7 "BrassWaysModel" "state" "[I" : Cond) ∈ wsX3_rule := List.mem_of_getElem? (i := 1) rfl
set_option maxHeartbeats 4000000 in
set_option maxRecDepth 100000 in
theorem c_X3_rule (l : Launch) (D : va_G) (cI cJ cZ cO : ClassId) (sz : Nat) (h0 : Nat) (a0 : Nat) (a1 : Nat) (a2 : Nat) (a3 : Nat) (a4 : Nat) (a5 : Nat) (a6 : Nat) (σ : Int → Int) (q : Int) (v : Int) (h_q : -2147483648 ≤ q ∧ q < 2147483648) (h_v : -2147483648 ≤ v ∧ v < 2147483648) : Met l yX3_rule wsX3_rule rmX3_rule (zPc D cI cJ cZ cO [(h0, .inr (3, [.ref a0, .ref a1, .ref a2, .ref a3, .ref a4, .ref a5, .ref a6])), (a0, .inl (cI, 22, .inl (zF (σ))))] sz [.ref h0, .int (zI (q)), .int (zI (v))]) (zQi D (fun (r : Int32) (_ : Unit) => r = zI (A_rule σ q v)) (fun (_ : Unit) => [(h0, .inr (3, [.ref a0, .ref a1, .ref a2, .ref a3, .ref a4, .ref a5, .ref a6])), (a0, .inl (cI, 22, .inl (zF (S_rule σ q v))))]) [(h0, .inr (3, [.ref a0, .ref a1, .ref a2, .ref a3, .ref a4, .ref a5, .ref a6])), (a0, .inl (cI, 22, .inl (zF (σ))))] sz) 0 0 (va_A [(h0, .inr (3, [.ref a0, .ref a1, .ref a2, .ref a3, .ref a4, .ref a5, .ref a6])), (a0, .inl (cI, 22, .inl (zF (σ))))] sz) := by
  refine z_meti (by decide) rfl (Nat.le_of_ble_eq_true rfl) ?_
  intro p e s m args below meth c A Q ls hx hb hml hown hts hA hS hP hD hK hZ hl hret
  have hl : lv_has ls 4 [(0, .ref h0), (1, .int (zI (q))), (2, .int (zI (v)))] := hl
  refine lv_iload_n hx hb dX3_rule_0 rfl (lv_at hl 1 rfl) ?_
  refine lv_iconst (v := zI (0)) hx hb dX3_rule_1 rfl ?_
  refine lv_iconst (v := zI (4)) hx hb dX3_rule_2 rfl ?_
  refine z_Sir (As := [.int (zI (q)), .int (zI (0)), .int (zI (4))]) (rest := []) hx hb hml hown hts hA hS hP hD hK hZ hl.1 (c_X3_in l D cI cJ cZ cO _ (q) (0) (4) (by omega)) (va_cwS 3 hts gX3_rule_X3_in rfl rfl rfl (by decide +kernel) ⟨Nat.le_of_ble_eq_true rfl, Nat.le_of_ble_eq_true rfl⟩) [] rfl rfl rfl rfl (Nat.le_of_ble_eq_true rfl) ⟨Nat.zero_le _, Nat.zero_le _⟩ dX3_rule_3 (fun r u H locs hw hP hS => ?_)
  subst hw
  refine z_ifB_eq (P := 0 ≤ q ∧ q ≤ 4) (tgt := 38) hx hb dX3_rule_6 (by decide) (fun c_6 => ?_) (fun c_6 => ?_)
  · refine lv_bipush (v := zI (-2)) hx hb dX3_rule_38 (by decide +kernel) ?_
    exact hret _ _ _ _ _ () dX3_rule_40 (by unfold A_rule; first | (rw [if_neg c_6]; done) | (rw [if_pos c_6, hT, if_neg c_35]; done)) (by simp only [S_rule]; first | (rw [if_neg c_6]; exact hP) | (rw [if_pos c_6, hT, if_neg c_35]; exact hP)) hS
  · refine lv_iload_n hx hb dX3_rule_9 rfl (lv_at hl 2 rfl) ?_
    refine lv_iconst (v := zI (0)) hx hb dX3_rule_10 rfl ?_
    refine lv_iload_n hx hb dX3_rule_11 rfl (lv_at hl 1 rfl) ?_
    refine z_if_ne (a := q) (tgt := 20) hx hb (by omega) dX3_rule_12 (by decide) (fun c_12 => ?_) (fun c_12 => ?_)
    · refine lv_iload_n hx hb dX3_rule_20 rfl (lv_at hl 1 rfl) ?_
      refine lv_iconst (v := zI (1)) hx hb dX3_rule_21 rfl ?_
      refine z_icmp_ne (a := q) (b := 1) (tgt := 30) hx hb (by omega) dX3_rule_22 (by decide) (fun c_22 => ?_) (fun c_22 => ?_)
      · have hT : tp q = 9 := by unfold tp; first | (rw [if_pos (by omega)]; done) | (rw [if_neg (by omega), if_pos (by omega)]; done) | (rw [if_neg (by omega), if_neg (by omega)]; done)
        refine lv_bipush (v := zI (9)) hx hb dX3_rule_30 (by decide +kernel) ?_
        refine z_Sir (As := [.int (zI (v)), .int (zI (0)), .int (zI (9))]) (rest := []) hx hb hml hown hts hA hS hP hD hK hZ hl.1 (c_X3_in l D cI cJ cZ cO _ (v) (0) (9) (by omega)) (va_cwS 3 hts gX3_rule_X3_in rfl rfl rfl (by decide +kernel) ⟨Nat.le_of_ble_eq_true rfl, Nat.le_of_ble_eq_true rfl⟩) [] rfl rfl rfl rfl (Nat.le_of_ble_eq_true rfl) ⟨Nat.zero_le _, Nat.zero_le _⟩ dX3_rule_32 (fun r u H locs hw hP hS => ?_)
        subst hw
        refine z_ifB_ne (P := 0 ≤ v ∧ v ≤ 9) (tgt := 41) hx hb dX3_rule_35 (by decide) (fun c_35 => ?_) (fun c_35 => ?_)
        · refine lv_aload_n hx hb dX3_rule_41 rfl (lv_at hl 0 rfl) ?_
          refine va_get (D := D) (ci := 3) (v := .ref a0) (C := RX3) (T := TX3) (N := 7) hx hb hts in_X3_rule_X3 hown hK hP 0 rfl rfl 0 (by decide) (hts _ m_X3_rule_0) (fun _ h9 => h9) rfl dX3_rule_42 ?_
          refine lv_iconst (v := zI (4)) hx hb dX3_rule_45 rfl ?_
          refine lv_iload_n hx hb dX3_rule_46 rfl (lv_at hl 1 rfl) ?_
          refine z_iadd (a := 4) (b := q) hx hb dX3_rule_47 ?_
          refine z_iald (k := 4 + q) (g := σ) hx hb hK hP 1 0 rfl rfl (by omega) dX3_rule_48 ?_
          try dsimp only
          refine lv_istore_n (lv' := [(3, .int (zI (σ (4 + q)))), (0, .ref h0), (1, .int (zI (q))), (2, .int (zI (v)))]) hx hb dX3_rule_49 rfl hl (by decide) rfl (fun ls hl => ?_)
          refine lv_aload_n hx hb dX3_rule_50 rfl (lv_at hl 1 rfl) ?_
          refine va_get (D := D) (ci := 3) (v := .ref a0) (C := RX3) (T := TX3) (N := 7) hx hb hts in_X3_rule_X3 hown hK hP 0 rfl rfl 0 (by decide) (hts _ m_X3_rule_0) (fun _ h9 => h9) rfl dX3_rule_51 ?_
          refine lv_iconst (v := zI (4)) hx hb dX3_rule_54 rfl ?_
          refine lv_iload_n hx hb dX3_rule_55 rfl (lv_at hl 2 rfl) ?_
          refine z_iadd (a := 4) (b := q) hx hb dX3_rule_56 ?_
          refine lv_iload_n hx hb dX3_rule_57 rfl (lv_at hl 3 rfl) ?_
          refine z_iast (k := 4 + q) (x := v) (g := σ) hx hb hK hP hD hS 1 0 rfl rfl (by omega) dX3_rule_58 (fun H locs hP hD hS => ?_)
          have hP : va_P D vwCl [(h0, .inr (3, [.ref a0, .ref a1, .ref a2, .ref a3, .ref a4, .ref a5, .ref a6])), (a0, .inl (cI, 22, .inl (zF (upI σ (4 + q) v))))] H := hP
          have hD : va_D A [(h0, .inr (3, [.ref a0, .ref a1, .ref a2, .ref a3, .ref a4, .ref a5, .ref a6])), (a0, .inl (cI, 22, .inl (zF (upI σ (4 + q) v))))] := hD
          refine lv_iload_n hx hb dX3_rule_59 rfl (lv_at hl 0 rfl) ?_
          exact hret _ _ _ _ _ () dX3_rule_60 (by unfold A_rule; rw [if_pos c_6, hT, if_pos c_35]) (by simp only [S_rule]; rw [if_pos c_6, hT, if_pos c_35]; exact hP) hS
        · refine lv_bipush (v := zI (-2)) hx hb dX3_rule_38 (by decide +kernel) ?_
          exact hret _ _ _ _ _ () dX3_rule_40 (by unfold A_rule; first | (rw [if_neg c_6]; done) | (rw [if_pos c_6, hT, if_neg c_35]; done)) (by simp only [S_rule]; first | (rw [if_neg c_6]; exact hP) | (rw [if_pos c_6, hT, if_neg c_35]; exact hP)) hS
      · refine lv_bipush (v := zI (99)) hx hb dX3_rule_25 (by decide +kernel) ?_
        have hT : tp q = 99 := by unfold tp; first | (rw [if_pos (by omega)]; done) | (rw [if_neg (by omega), if_pos (by omega)]; done) | (rw [if_neg (by omega), if_neg (by omega)]; done)
        refine lv_goto (tgt := 32) hx hb dX3_rule_27 (by decide) ?_
        refine z_Sir (As := [.int (zI (v)), .int (zI (0)), .int (zI (99))]) (rest := []) hx hb hml hown hts hA hS hP hD hK hZ hl.1 (c_X3_in l D cI cJ cZ cO _ (v) (0) (99) (by omega)) (va_cwS 3 hts gX3_rule_X3_in rfl rfl rfl (by decide +kernel) ⟨Nat.le_of_ble_eq_true rfl, Nat.le_of_ble_eq_true rfl⟩) [] rfl rfl rfl rfl (Nat.le_of_ble_eq_true rfl) ⟨Nat.zero_le _, Nat.zero_le _⟩ dX3_rule_32 (fun r u H locs hw hP hS => ?_)
        subst hw
        refine z_ifB_ne (P := 0 ≤ v ∧ v ≤ 99) (tgt := 41) hx hb dX3_rule_35 (by decide) (fun c_35 => ?_) (fun c_35 => ?_)
        · refine lv_aload_n hx hb dX3_rule_41 rfl (lv_at hl 0 rfl) ?_
          refine va_get (D := D) (ci := 3) (v := .ref a0) (C := RX3) (T := TX3) (N := 7) hx hb hts in_X3_rule_X3 hown hK hP 0 rfl rfl 0 (by decide) (hts _ m_X3_rule_0) (fun _ h9 => h9) rfl dX3_rule_42 ?_
          refine lv_iconst (v := zI (4)) hx hb dX3_rule_45 rfl ?_
          refine lv_iload_n hx hb dX3_rule_46 rfl (lv_at hl 1 rfl) ?_
          refine z_iadd (a := 4) (b := q) hx hb dX3_rule_47 ?_
          refine z_iald (k := 4 + q) (g := σ) hx hb hK hP 1 0 rfl rfl (by omega) dX3_rule_48 ?_
          try dsimp only
          refine lv_istore_n (lv' := [(3, .int (zI (σ (4 + q)))), (0, .ref h0), (1, .int (zI (q))), (2, .int (zI (v)))]) hx hb dX3_rule_49 rfl hl (by decide) rfl (fun ls hl => ?_)
          refine lv_aload_n hx hb dX3_rule_50 rfl (lv_at hl 1 rfl) ?_
          refine va_get (D := D) (ci := 3) (v := .ref a0) (C := RX3) (T := TX3) (N := 7) hx hb hts in_X3_rule_X3 hown hK hP 0 rfl rfl 0 (by decide) (hts _ m_X3_rule_0) (fun _ h9 => h9) rfl dX3_rule_51 ?_
          refine lv_iconst (v := zI (4)) hx hb dX3_rule_54 rfl ?_
          refine lv_iload_n hx hb dX3_rule_55 rfl (lv_at hl 2 rfl) ?_
          refine z_iadd (a := 4) (b := q) hx hb dX3_rule_56 ?_
          refine lv_iload_n hx hb dX3_rule_57 rfl (lv_at hl 3 rfl) ?_
          refine z_iast (k := 4 + q) (x := v) (g := σ) hx hb hK hP hD hS 1 0 rfl rfl (by omega) dX3_rule_58 (fun H locs hP hD hS => ?_)
          have hP : va_P D vwCl [(h0, .inr (3, [.ref a0, .ref a1, .ref a2, .ref a3, .ref a4, .ref a5, .ref a6])), (a0, .inl (cI, 22, .inl (zF (upI σ (4 + q) v))))] H := hP
          have hD : va_D A [(h0, .inr (3, [.ref a0, .ref a1, .ref a2, .ref a3, .ref a4, .ref a5, .ref a6])), (a0, .inl (cI, 22, .inl (zF (upI σ (4 + q) v))))] := hD
          refine lv_iload_n hx hb dX3_rule_59 rfl (lv_at hl 0 rfl) ?_
          exact hret _ _ _ _ _ () dX3_rule_60 (by unfold A_rule; rw [if_pos c_6, hT, if_pos c_35]) (by simp only [S_rule]; rw [if_pos c_6, hT, if_pos c_35]; exact hP) hS
        · refine lv_bipush (v := zI (-2)) hx hb dX3_rule_38 (by decide +kernel) ?_
          exact hret _ _ _ _ _ () dX3_rule_40 (by unfold A_rule; first | (rw [if_neg c_6]; done) | (rw [if_pos c_6, hT, if_neg c_35]; done)) (by simp only [S_rule]; first | (rw [if_neg c_6]; exact hP) | (rw [if_pos c_6, hT, if_neg c_35]; exact hP)) hS
    · refine lv_bipush (v := zI (50)) hx hb dX3_rule_15 (by decide +kernel) ?_
      have hT : tp q = 50 := by unfold tp; first | (rw [if_pos (by omega)]; done) | (rw [if_neg (by omega), if_pos (by omega)]; done) | (rw [if_neg (by omega), if_neg (by omega)]; done)
      refine lv_goto (tgt := 32) hx hb dX3_rule_17 (by decide) ?_
      refine z_Sir (As := [.int (zI (v)), .int (zI (0)), .int (zI (50))]) (rest := []) hx hb hml hown hts hA hS hP hD hK hZ hl.1 (c_X3_in l D cI cJ cZ cO _ (v) (0) (50) (by omega)) (va_cwS 3 hts gX3_rule_X3_in rfl rfl rfl (by decide +kernel) ⟨Nat.le_of_ble_eq_true rfl, Nat.le_of_ble_eq_true rfl⟩) [] rfl rfl rfl rfl (Nat.le_of_ble_eq_true rfl) ⟨Nat.zero_le _, Nat.zero_le _⟩ dX3_rule_32 (fun r u H locs hw hP hS => ?_)
      subst hw
      refine z_ifB_ne (P := 0 ≤ v ∧ v ≤ 50) (tgt := 41) hx hb dX3_rule_35 (by decide) (fun c_35 => ?_) (fun c_35 => ?_)
      · refine lv_aload_n hx hb dX3_rule_41 rfl (lv_at hl 0 rfl) ?_
        refine va_get (D := D) (ci := 3) (v := .ref a0) (C := RX3) (T := TX3) (N := 7) hx hb hts in_X3_rule_X3 hown hK hP 0 rfl rfl 0 (by decide) (hts _ m_X3_rule_0) (fun _ h9 => h9) rfl dX3_rule_42 ?_
        refine lv_iconst (v := zI (4)) hx hb dX3_rule_45 rfl ?_
        refine lv_iload_n hx hb dX3_rule_46 rfl (lv_at hl 1 rfl) ?_
        refine z_iadd (a := 4) (b := q) hx hb dX3_rule_47 ?_
        refine z_iald (k := 4 + q) (g := σ) hx hb hK hP 1 0 rfl rfl (by omega) dX3_rule_48 ?_
        try dsimp only
        refine lv_istore_n (lv' := [(3, .int (zI (σ (4 + q)))), (0, .ref h0), (1, .int (zI (q))), (2, .int (zI (v)))]) hx hb dX3_rule_49 rfl hl (by decide) rfl (fun ls hl => ?_)
        refine lv_aload_n hx hb dX3_rule_50 rfl (lv_at hl 1 rfl) ?_
        refine va_get (D := D) (ci := 3) (v := .ref a0) (C := RX3) (T := TX3) (N := 7) hx hb hts in_X3_rule_X3 hown hK hP 0 rfl rfl 0 (by decide) (hts _ m_X3_rule_0) (fun _ h9 => h9) rfl dX3_rule_51 ?_
        refine lv_iconst (v := zI (4)) hx hb dX3_rule_54 rfl ?_
        refine lv_iload_n hx hb dX3_rule_55 rfl (lv_at hl 2 rfl) ?_
        refine z_iadd (a := 4) (b := q) hx hb dX3_rule_56 ?_
        refine lv_iload_n hx hb dX3_rule_57 rfl (lv_at hl 3 rfl) ?_
        refine z_iast (k := 4 + q) (x := v) (g := σ) hx hb hK hP hD hS 1 0 rfl rfl (by omega) dX3_rule_58 (fun H locs hP hD hS => ?_)
        have hP : va_P D vwCl [(h0, .inr (3, [.ref a0, .ref a1, .ref a2, .ref a3, .ref a4, .ref a5, .ref a6])), (a0, .inl (cI, 22, .inl (zF (upI σ (4 + q) v))))] H := hP
        have hD : va_D A [(h0, .inr (3, [.ref a0, .ref a1, .ref a2, .ref a3, .ref a4, .ref a5, .ref a6])), (a0, .inl (cI, 22, .inl (zF (upI σ (4 + q) v))))] := hD
        refine lv_iload_n hx hb dX3_rule_59 rfl (lv_at hl 0 rfl) ?_
        exact hret _ _ _ _ _ () dX3_rule_60 (by unfold A_rule; rw [if_pos c_6, hT, if_pos c_35]) (by simp only [S_rule]; rw [if_pos c_6, hT, if_pos c_35]; exact hP) hS
      · refine lv_bipush (v := zI (-2)) hx hb dX3_rule_38 (by decide +kernel) ?_
        exact hret _ _ _ _ _ () dX3_rule_40 (by unfold A_rule; first | (rw [if_neg c_6]; done) | (rw [if_pos c_6, hT, if_neg c_35]; done)) (by simp only [S_rule]; first | (rw [if_neg c_6]; exact hP) | (rw [if_pos c_6, hT, if_neg c_35]; exact hP)) hS
abbrev rmX3_lowers : Room := { frames := 2, cells := 0, slots := 0, locals := 43 }
set_option maxHeartbeats 4000000 in
set_option maxRecDepth 100000 in
theorem c_X3_lowers (l : Launch) (D : va_G) (cI cJ cZ cO : ClassId) (sz : Nat) (h0 : Nat) (a0 : Nat) (a1 : Nat) (a2 : Nat) (a3 : Nat) (a4 : Nat) (a5 : Nat) (a6 : Nat) (σ : Int → Int) (t : Int) (h_t : -2147483648 ≤ t ∧ t < 2147483648) (hO : Ok σ) : Met l yX3_lowers wsX3_lowers rmX3_lowers (zPc D cI cJ cZ cO [(h0, .inr (3, [.ref a0, .ref a1, .ref a2, .ref a3, .ref a4, .ref a5, .ref a6])), (a0, .inl (cI, 22, .inl (zF (σ))))] sz [.ref h0, .int (zI (t))]) (zQi D (fun (r : Int32) (_ : Unit) => r = zI (A_lowers σ t)) (fun (_ : Unit) => [(h0, .inr (3, [.ref a0, .ref a1, .ref a2, .ref a3, .ref a4, .ref a5, .ref a6])), (a0, .inl (cI, 22, .inl (zF (σ))))]) [(h0, .inr (3, [.ref a0, .ref a1, .ref a2, .ref a3, .ref a4, .ref a5, .ref a6])), (a0, .inl (cI, 22, .inl (zF (σ))))] sz) 0 0 (va_A [(h0, .inr (3, [.ref a0, .ref a1, .ref a2, .ref a3, .ref a4, .ref a5, .ref a6])), (a0, .inl (cI, 22, .inl (zF (σ))))] sz) := by
  refine z_meti (by decide) rfl (Nat.le_of_ble_eq_true rfl) ?_
  intro p e s m args below meth c A Q ls hx hb hml hown hts hA hS hP hD hK hZ hl hret
  have hl : lv_has ls 2 [(0, .ref h0), (1, .int (zI (t)))] := hl
  refine lv_aload_n hx hb dX3_lowers_0 rfl (lv_at hl 0 rfl) ?_
  refine lv_iload_n hx hb dX3_lowers_1 rfl (lv_at hl 1 rfl) ?_
  refine z_Vir (As := [.int (zI (t))]) (rest := []) hx hb hml hown hts hA hS hP hD hK hZ hl.1 (c_X3_isSetting l D cI cJ cZ cO _ (h0) (a0) (a1) (a2) (a3) (a4) (a5) (a6) (σ) (t) (by omega) hO) (cwV 1 hts gX3_lowers_X3_isSetting rfl rfl rfl (by decide +kernel) ⟨Nat.le_of_ble_eq_true rfl, Nat.le_of_ble_eq_true rfl⟩) [0, 1] rfl rfl 0 3 rfl rfl rfl rfl (Nat.le_of_ble_eq_true rfl) ⟨Nat.zero_le _, Nat.zero_le _⟩ dX3_lowers_2 (fun r u H locs hw hP hS => ?_)
  subst hw
  refine z_ifB_eq (P := okS σ t) (tgt := 20) hx hb dX3_lowers_5 (by decide) (fun c_5 => ?_) (fun c_5 => ?_)
  · refine lv_bipush (v := zI (-2)) hx hb dX3_lowers_20 (by decide +kernel) ?_
    exact hret _ _ _ _ _ () dX3_lowers_22 (by unfold A_lowers; first | rw [if_neg c_5] | rw [if_pos c_5]) hP hS
  · have ht8 : 0 ≤ t ∧ t < 8 := by have q := c_5; unfold okS at q; split at q <;> omega
    refine lv_aload_n hx hb dX3_lowers_8 rfl (lv_at hl 0 rfl) ?_
    refine lv_iload_n hx hb dX3_lowers_9 rfl (lv_at hl 1 rfl) ?_
    refine z_Vir (As := [.int (zI (t))]) (rest := []) hx hb hml hown hts hA hS hP hD hK hZ hl.1 (c_X3_lowersBy l D cI cJ cZ cO _ (h0) (a0) (a1) (a2) (a3) (a4) (a5) (a6) (σ) (t) (by omega) hO) (cwV 1 hts gX3_lowers_X3_lowersBy rfl rfl rfl (by decide +kernel) ⟨Nat.le_of_ble_eq_true rfl, Nat.le_of_ble_eq_true rfl⟩) [0, 1] rfl rfl 0 3 rfl rfl rfl rfl (Nat.le_of_ble_eq_true rfl) ⟨Nat.zero_le _, Nat.zero_le _⟩ dX3_lowers_10 (fun r u H locs hw hP hS => ?_)
    subst hw
    refine lv_sipush (v := zI (1000)) hx hb dX3_lowers_13 (by decide +kernel) ?_
    refine z_iadd (a := low σ t) (b := 1000) hx hb dX3_lowers_16 ?_
    refine lv_goto (tgt := 22) hx hb dX3_lowers_17 (by decide) ?_
    exact hret _ _ _ _ _ () dX3_lowers_22 (by unfold A_lowers; first | rw [if_neg c_5] | rw [if_pos c_5]) hP hS
abbrev rmX3_off : Room := { frames := 3, cells := 0, slots := 0, locals := 65 }
set_option maxHeartbeats 4000000 in
set_option maxRecDepth 100000 in
theorem c_X3_off (l : Launch) (D : va_G) (cI cJ cZ cO : ClassId) (sz : Nat) (h0 : Nat) (a0 : Nat) (a1 : Nat) (a2 : Nat) (a3 : Nat) (a4 : Nat) (a5 : Nat) (a6 : Nat) (σ : Int → Int) (w : Int) (n : Int) (h_w : -2147483648 ≤ w ∧ w < 2147483648) (h_n : -2147483648 ≤ n ∧ n < 2147483648) (hO : Ok σ) : Met l yX3_off wsX3_off rmX3_off (zPc D cI cJ cZ cO [(h0, .inr (3, [.ref a0, .ref a1, .ref a2, .ref a3, .ref a4, .ref a5, .ref a6])), (a0, .inl (cI, 22, .inl (zF (σ))))] sz [.ref h0, .int (zI (w)), .int (zI (n))]) (zQi D (fun (r : Int32) (_ : Unit) => r = zI (A_off σ w n)) (fun (_ : Unit) => [(h0, .inr (3, [.ref a0, .ref a1, .ref a2, .ref a3, .ref a4, .ref a5, .ref a6])), (a0, .inl (cI, 22, .inl (zF (σ))))]) [(h0, .inr (3, [.ref a0, .ref a1, .ref a2, .ref a3, .ref a4, .ref a5, .ref a6])), (a0, .inl (cI, 22, .inl (zF (σ))))] sz) 0 0 (va_A [(h0, .inr (3, [.ref a0, .ref a1, .ref a2, .ref a3, .ref a4, .ref a5, .ref a6])), (a0, .inl (cI, 22, .inl (zF (σ))))] sz) := by
  refine z_meti (by decide) rfl (Nat.le_of_ble_eq_true rfl) ?_
  intro p e s m args below meth c A Q ls hx hb hml hown hts hA hS hP hD hK hZ hl hret
  have hl : lv_has ls 3 [(0, .ref h0), (1, .int (zI (w))), (2, .int (zI (n)))] := hl
  refine lv_aload_n hx hb dX3_off_0 rfl (lv_at hl 0 rfl) ?_
  refine lv_iload_n hx hb dX3_off_1 rfl (lv_at hl 1 rfl) ?_
  refine z_Vir (As := [.int (zI (w))]) (rest := []) hx hb hml hown hts hA hS hP hD hK hZ hl.1 (c_X3_isWay l D cI cJ cZ cO _ (h0) (a0) (a1) (a2) (a3) (a4) (a5) (a6) (σ) (w) (by omega) hO) (cwV 1 hts gX3_off_X3_isWay rfl rfl rfl (by decide +kernel) ⟨Nat.le_of_ble_eq_true rfl, Nat.le_of_ble_eq_true rfl⟩) [0, 1] rfl rfl 0 3 rfl rfl rfl rfl (Nat.le_of_ble_eq_true rfl) ⟨Nat.zero_le _, Nat.zero_le _⟩ dX3_off_2 (fun r u H locs hw hP hS => ?_)
  subst hw
  refine z_ifB_eq (P := okW σ w) (tgt := 28) hx hb dX3_off_5 (by decide) (fun c_5 => ?_) (fun c_5 => ?_)
  · refine lv_bipush (v := zI (-2)) hx hb dX3_off_28 (by decide +kernel) ?_
    exact hret _ _ _ _ _ () dX3_off_30 (by unfold A_off; first | rw [if_neg c_5] | rw [if_pos c_5, if_neg c_12] | rw [if_pos c_5, if_pos c_12]) hP hS
  · have hw6 := c_5.1
    refine lv_iload_n hx hb dX3_off_8 rfl (lv_at hl 2 rfl) ?_
    refine z_Sir (As := [.int (zI (n))]) (rest := []) hx hb hml hown hts hA hS hP hD hK hZ hl.1 (c_X3_isNote l D cI cJ cZ cO _ (n) (by omega)) (va_cwS 1 hts gX3_off_X3_isNote rfl rfl rfl (by decide +kernel) ⟨Nat.le_of_ble_eq_true rfl, Nat.le_of_ble_eq_true rfl⟩) [] rfl rfl rfl rfl (Nat.le_of_ble_eq_true rfl) ⟨Nat.zero_le _, Nat.zero_le _⟩ dX3_off_9 (fun r u H locs hw hP hS => ?_)
    subst hw
    refine z_ifB_eq (P := 0 ≤ n ∧ n ≤ 36) (tgt := 28) hx hb dX3_off_12 (by decide) (fun c_12 => ?_) (fun c_12 => ?_)
    · refine lv_bipush (v := zI (-2)) hx hb dX3_off_28 (by decide +kernel) ?_
      exact hret _ _ _ _ _ () dX3_off_30 (by unfold A_off; first | rw [if_neg c_5] | rw [if_pos c_5, if_neg c_12] | rw [if_pos c_5, if_pos c_12]) hP hS
    · refine lv_aload_n hx hb dX3_off_15 rfl (lv_at hl 0 rfl) ?_
      refine lv_iload_n hx hb dX3_off_16 rfl (lv_at hl 1 rfl) ?_
      refine lv_iload_n hx hb dX3_off_17 rfl (lv_at hl 2 rfl) ?_
      refine z_Vir (As := [.int (zI (w)), .int (zI (n))]) (rest := []) hx hb hml hown hts hA hS hP hD hK hZ hl.1 (c_X3_offOf l D cI cJ cZ cO _ (h0) (a0) (a1) (a2) (a3) (a4) (a5) (a6) (σ) (w) (n) (by omega) hO) (cwV 2 hts gX3_off_X3_offOf rfl rfl rfl (by decide +kernel) ⟨Nat.le_of_ble_eq_true rfl, Nat.le_of_ble_eq_true rfl⟩) [0, 1] rfl rfl 0 3 rfl rfl rfl rfl (Nat.le_of_ble_eq_true rfl) ⟨Nat.zero_le _, Nat.zero_le _⟩ dX3_off_18 (fun r u H locs hw hP hS => ?_)
      subst hw
      refine lv_sipush (v := zI (10000)) hx hb dX3_off_21 (by decide +kernel) ?_
      refine z_iadd (a := off σ w n) (b := 10000) hx hb dX3_off_24 ?_
      refine lv_goto (tgt := 30) hx hb dX3_off_25 (by decide) ?_
      exact hret _ _ _ _ _ () dX3_off_30 (by unfold A_off; first | rw [if_neg c_5] | rw [if_pos c_5, if_neg c_12] | rw [if_pos c_5, if_pos c_12]) hP hS
abbrev rmX3_note : Room := { frames := 2, cells := 0, slots := 0, locals := 42 }
theorem in_X3_note_X3 : ∀ w ∈ wsX30, w ∈ wsX3_note := fun _ h => List.mem_cons_of_mem _ (List.mem_append_right _ h)
theorem m_X3_note_0 : (.fieldLink RX3 7 "BrassWaysModel" "state" "[I" : Cond) ∈ wsX3_note := List.mem_of_getElem? (i := 1) rfl
set_option maxHeartbeats 4000000 in
set_option maxRecDepth 100000 in
theorem c_X3_note (l : Launch) (D : va_G) (cI cJ cZ cO : ClassId) (sz : Nat) (h0 : Nat) (a0 : Nat) (a1 : Nat) (a2 : Nat) (a3 : Nat) (a4 : Nat) (a5 : Nat) (a6 : Nat) (σ : Int → Int) (n : Int) (h_n : -2147483648 ≤ n ∧ n < 2147483648) (hO : Ok σ) : Met l yX3_note wsX3_note rmX3_note (zPc D cI cJ cZ cO [(h0, .inr (3, [.ref a0, .ref a1, .ref a2, .ref a3, .ref a4, .ref a5, .ref a6])), (a0, .inl (cI, 22, .inl (zF (σ))))] sz [.ref h0, .int (zI (n))]) (zQi D (fun (r : Int32) (_ : Unit) => r = zI (A_note σ n)) (fun (_ : Unit) => [(h0, .inr (3, [.ref a0, .ref a1, .ref a2, .ref a3, .ref a4, .ref a5, .ref a6])), (a0, .inl (cI, 22, .inl (zF (S_note σ n))))]) [(h0, .inr (3, [.ref a0, .ref a1, .ref a2, .ref a3, .ref a4, .ref a5, .ref a6])), (a0, .inl (cI, 22, .inl (zF (σ))))] sz) 0 0 (va_A [(h0, .inr (3, [.ref a0, .ref a1, .ref a2, .ref a3, .ref a4, .ref a5, .ref a6])), (a0, .inl (cI, 22, .inl (zF (σ))))] sz) := by
  refine z_meti (by decide) rfl (Nat.le_of_ble_eq_true rfl) ?_
  intro p e s m args below meth c A Q ls hx hb hml hown hts hA hS hP hD hK hZ hl hret
  have hl : lv_has ls 2 [(0, .ref h0), (1, .int (zI (n)))] := hl
  have o9 := hO.2.2.2.2.2.2.2.2.2.1
  refine lv_iload_n hx hb dX3_note_0 rfl (lv_at hl 1 rfl) ?_
  refine z_Sir (As := [.int (zI (n))]) (rest := []) hx hb hml hown hts hA hS hP hD hK hZ hl.1 (c_X3_isNote l D cI cJ cZ cO _ (n) (by omega)) (va_cwS 1 hts gX3_note_X3_isNote rfl rfl rfl (by decide +kernel) ⟨Nat.le_of_ble_eq_true rfl, Nat.le_of_ble_eq_true rfl⟩) [] rfl rfl rfl rfl (Nat.le_of_ble_eq_true rfl) ⟨Nat.zero_le _, Nat.zero_le _⟩ dX3_note_1 (fun r u H locs hw hP hS => ?_)
  subst hw
  refine z_ifB_ne (P := 0 ≤ n ∧ n ≤ 36) (tgt := 10) hx hb dX3_note_4 (by decide) (fun c_4 => ?_) (fun c_4 => ?_)
  · refine lv_aload_n hx hb dX3_note_10 rfl (lv_at hl 0 rfl) ?_
    refine va_get (D := D) (ci := 3) (v := .ref a0) (C := RX3) (T := TX3) (N := 7) hx hb hts in_X3_note_X3 hown hK hP 0 rfl rfl 0 (by decide) (hts _ m_X3_note_0) (fun _ h9 => h9) rfl dX3_note_11 ?_
    refine lv_bipush (v := zI (9)) hx hb dX3_note_14 (by decide +kernel) ?_
    refine z_iald (k := 9) (g := σ) hx hb hK hP 1 0 rfl rfl (by omega) dX3_note_16 ?_
    try dsimp only
    refine lv_bipush (v := zI (12)) hx hb dX3_note_17 (by decide +kernel) ?_
    refine z_icmp_ne (a := σ 9) (b := 12) (tgt := 25) hx hb (by omega) dX3_note_19 (by decide) (fun c_19 => ?_) (fun c_19 => ?_)
    · refine lv_aload_n hx hb dX3_note_25 rfl (lv_at hl 0 rfl) ?_
      refine va_get (D := D) (ci := 3) (v := .ref a0) (C := RX3) (T := TX3) (N := 7) hx hb hts in_X3_note_X3 hown hK hP 0 rfl rfl 0 (by decide) (hts _ m_X3_note_0) (fun _ h9 => h9) rfl dX3_note_26 ?_
      refine lv_bipush (v := zI (10)) hx hb dX3_note_29 (by decide +kernel) ?_
      refine lv_aload_n hx hb dX3_note_31 rfl (lv_at hl 0 rfl) ?_
      refine va_get (D := D) (ci := 3) (v := .ref a0) (C := RX3) (T := TX3) (N := 7) hx hb hts in_X3_note_X3 hown hK hP 0 rfl rfl 0 (by decide) (hts _ m_X3_note_0) (fun _ h9 => h9) rfl dX3_note_32 ?_
      refine lv_bipush (v := zI (9)) hx hb dX3_note_35 (by decide +kernel) ?_
      refine z_iald (k := 9) (g := σ) hx hb hK hP 1 0 rfl rfl (by omega) dX3_note_37 ?_
      try dsimp only
      refine z_iadd (a := 10) (b := σ 9) hx hb dX3_note_38 ?_
      refine lv_iload_n hx hb dX3_note_39 rfl (lv_at hl 1 rfl) ?_
      refine z_iast (k := 10 + (σ 9)) (x := n) (g := σ) hx hb hK hP hD hS 1 0 rfl rfl (by omega) dX3_note_40 (fun H locs hP hD hS => ?_)
      have hP : va_P D vwCl [(h0, .inr (3, [.ref a0, .ref a1, .ref a2, .ref a3, .ref a4, .ref a5, .ref a6])), (a0, .inl (cI, 22, .inl (zF (upI σ (10 + (σ 9)) n))))] H := hP
      have hD : va_D A [(h0, .inr (3, [.ref a0, .ref a1, .ref a2, .ref a3, .ref a4, .ref a5, .ref a6])), (a0, .inl (cI, 22, .inl (zF (upI σ (10 + (σ 9)) n))))] := hD
      have e9 : upI σ (10 + σ 9) n 9 = σ 9 := upI_n (by omega)
      refine lv_aload_n hx hb dX3_note_41 rfl (lv_at hl 0 rfl) ?_
      refine va_get (D := D) (ci := 3) (v := .ref a0) (C := RX3) (T := TX3) (N := 7) hx hb hts in_X3_note_X3 hown hK hP 0 rfl rfl 0 (by decide) (hts _ m_X3_note_0) (fun _ h9 => h9) rfl dX3_note_42 ?_
      refine lv_bipush (v := zI (9)) hx hb dX3_note_45 (by decide +kernel) ?_
      refine lv_dup2_11 hx hb dX3_note_47 rfl rfl ?_
      refine z_iald (k := 9) (g := upI σ (10 + (σ 9)) n) hx hb hK hP 1 0 rfl rfl (by omega) dX3_note_48 ?_
      try dsimp only
      refine z_top (y := zI (σ 9)) (by rw [e9]) ?_
      refine lv_iconst (v := zI (1)) hx hb dX3_note_49 rfl ?_
      refine z_iadd (a := σ 9) (b := 1) hx hb dX3_note_50 ?_
      refine z_iast (k := 9) (x := (σ 9) + 1) (g := upI σ (10 + (σ 9)) n) hx hb hK hP hD hS 1 0 rfl rfl (by omega) dX3_note_51 (fun H locs hP hD hS => ?_)
      have hP : va_P D vwCl [(h0, .inr (3, [.ref a0, .ref a1, .ref a2, .ref a3, .ref a4, .ref a5, .ref a6])), (a0, .inl (cI, 22, .inl (zF (upI (upI σ (10 + (σ 9)) n) 9 ((σ 9) + 1)))))] H := hP
      have hD : va_D A [(h0, .inr (3, [.ref a0, .ref a1, .ref a2, .ref a3, .ref a4, .ref a5, .ref a6])), (a0, .inl (cI, 22, .inl (zF (upI (upI σ (10 + (σ 9)) n) 9 ((σ 9) + 1)))))] := hD
      refine lv_aload_n hx hb dX3_note_52 rfl (lv_at hl 0 rfl) ?_
      refine va_get (D := D) (ci := 3) (v := .ref a0) (C := RX3) (T := TX3) (N := 7) hx hb hts in_X3_note_X3 hown hK hP 0 rfl rfl 0 (by decide) (hts _ m_X3_note_0) (fun _ h9 => h9) rfl dX3_note_53 ?_
      refine lv_bipush (v := zI (9)) hx hb dX3_note_56 (by decide +kernel) ?_
      refine z_iald (k := 9) (g := upI (upI σ (10 + (σ 9)) n) 9 ((σ 9) + 1)) hx hb hK hP 1 0 rfl rfl (by omega) dX3_note_58 ?_
      try dsimp only
      refine z_top (y := zI (σ 9 + 1)) (by rw [upI_s]) ?_
      refine lv_iconst (v := zI (1)) hx hb dX3_note_59 rfl ?_
      refine z_isub (a := σ 9 + 1) (b := 1) hx hb dX3_note_60 ?_
      exact hret _ _ _ _ _ () dX3_note_61 (by unfold A_note; rw [if_pos c_4, if_neg c_19]; congr 1; omega) (by simp only [S_note]; first | (rw [if_pos c_4, if_neg c_19]; exact hP)) hS
    · refine lv_bipush (v := zI (-4)) hx hb dX3_note_22 (by decide +kernel) ?_
      exact hret _ _ _ _ _ () dX3_note_24 (by unfold A_note; first | rw [if_pos c_4, if_pos c_19]) (by simp only [S_note]; first | (rw [if_pos c_4, if_pos c_19]; exact hP)) hS
  · refine lv_bipush (v := zI (-2)) hx hb dX3_note_7 (by decide +kernel) ?_
    exact hret _ _ _ _ _ () dX3_note_9 (by unfold A_note; first | rw [if_neg c_4]) (by simp only [S_note]; first | (rw [if_neg c_4]; exact hP)) hS
abbrev rmX3_set : Room := { frames := 2, cells := 0, slots := 0, locals := 43 }
theorem in_X3_set_X3 : ∀ w ∈ wsX30, w ∈ wsX3_set := fun _ h => List.mem_cons_of_mem _ (List.mem_append_right _ h)
theorem m_X3_set_0 : (.fieldLink RX3 7 "BrassWaysModel" "state" "[I" : Cond) ∈ wsX3_set := List.mem_of_getElem? (i := 1) rfl
set_option maxHeartbeats 4000000 in
set_option maxRecDepth 100000 in
theorem c_X3_set (l : Launch) (D : va_G) (cI cJ cZ cO : ClassId) (sz : Nat) (h0 : Nat) (a0 : Nat) (a1 : Nat) (a2 : Nat) (a3 : Nat) (a4 : Nat) (a5 : Nat) (a6 : Nat) (σ : Int → Int) (q : Int) (n : Int) (h_q : -2147483648 ≤ q ∧ q < 2147483648) (h_n : -2147483648 ≤ n ∧ n < 2147483648) (hO : Ok σ) : Met l yX3_set wsX3_set rmX3_set (zPc D cI cJ cZ cO [(h0, .inr (3, [.ref a0, .ref a1, .ref a2, .ref a3, .ref a4, .ref a5, .ref a6])), (a0, .inl (cI, 22, .inl (zF (σ))))] sz [.ref h0, .int (zI (q)), .int (zI (n))]) (zQi D (fun (r : Int32) (_ : Unit) => r = zI (A_set σ q n)) (fun (_ : Unit) => [(h0, .inr (3, [.ref a0, .ref a1, .ref a2, .ref a3, .ref a4, .ref a5, .ref a6])), (a0, .inl (cI, 22, .inl (zF (S_set σ q n))))]) [(h0, .inr (3, [.ref a0, .ref a1, .ref a2, .ref a3, .ref a4, .ref a5, .ref a6])), (a0, .inl (cI, 22, .inl (zF (σ))))] sz) 0 0 (va_A [(h0, .inr (3, [.ref a0, .ref a1, .ref a2, .ref a3, .ref a4, .ref a5, .ref a6])), (a0, .inl (cI, 22, .inl (zF (σ))))] sz) := by
  refine z_meti (by decide) rfl (Nat.le_of_ble_eq_true rfl) ?_
  intro p e s m args below meth c A Q ls hx hb hml hown hts hA hS hP hD hK hZ hl hret
  have hl : lv_has ls 4 [(0, .ref h0), (1, .int (zI (q))), (2, .int (zI (n)))] := hl
  have o9 := hO.2.2.2.2.2.2.2.2.2.1
  refine lv_aload_n hx hb dX3_set_0 rfl (lv_at hl 0 rfl) ?_
  refine lv_iload_n hx hb dX3_set_1 rfl (lv_at hl 1 rfl) ?_
  refine z_Vir (As := [.int (zI (q))]) (rest := []) hx hb hml hown hts hA hS hP hD hK hZ hl.1 (c_X3_isPlace l D cI cJ cZ cO _ (h0) (a0) (a1) (a2) (a3) (a4) (a5) (a6) (σ) (q) (by omega) hO) (cwV 1 hts gX3_set_X3_isPlace rfl rfl rfl (by decide +kernel) ⟨Nat.le_of_ble_eq_true rfl, Nat.le_of_ble_eq_true rfl⟩) [0, 1] rfl rfl 0 3 rfl rfl rfl rfl (Nat.le_of_ble_eq_true rfl) ⟨Nat.zero_le _, Nat.zero_le _⟩ dX3_set_2 (fun r u H locs hw hP hS => ?_)
  subst hw
  refine z_ifB_ne (P := 0 ≤ q ∧ q ≤ σ 9 - 1) (tgt := 10) hx hb dX3_set_5 (by decide) (fun c_5 => ?_) (fun c_5 => ?_)
  · refine lv_iload_n hx hb dX3_set_10 rfl (lv_at hl 2 rfl) ?_
    refine z_Sir (As := [.int (zI (n))]) (rest := []) hx hb hml hown hts hA hS hP hD hK hZ hl.1 (c_X3_isNote l D cI cJ cZ cO _ (n) (by omega)) (va_cwS 1 hts gX3_set_X3_isNote rfl rfl rfl (by decide +kernel) ⟨Nat.le_of_ble_eq_true rfl, Nat.le_of_ble_eq_true rfl⟩) [] rfl rfl rfl rfl (Nat.le_of_ble_eq_true rfl) ⟨Nat.zero_le _, Nat.zero_le _⟩ dX3_set_11 (fun r u H locs hw hP hS => ?_)
    subst hw
    refine z_ifB_ne (P := 0 ≤ n ∧ n ≤ 36) (tgt := 20) hx hb dX3_set_14 (by decide) (fun c_14 => ?_) (fun c_14 => ?_)
    · refine lv_aload_n hx hb dX3_set_20 rfl (lv_at hl 0 rfl) ?_
      refine va_get (D := D) (ci := 3) (v := .ref a0) (C := RX3) (T := TX3) (N := 7) hx hb hts in_X3_set_X3 hown hK hP 0 rfl rfl 0 (by decide) (hts _ m_X3_set_0) (fun _ h9 => h9) rfl dX3_set_21 ?_
      refine lv_bipush (v := zI (10)) hx hb dX3_set_24 (by decide +kernel) ?_
      refine lv_iload_n hx hb dX3_set_26 rfl (lv_at hl 1 rfl) ?_
      refine z_iadd (a := 10) (b := q) hx hb dX3_set_27 ?_
      refine z_iald (k := 10 + q) (g := σ) hx hb hK hP 1 0 rfl rfl (by omega) dX3_set_28 ?_
      try dsimp only
      refine lv_istore_n (lv' := [(3, .int (zI (σ (10 + q)))), (0, .ref h0), (1, .int (zI (q))), (2, .int (zI (n)))]) hx hb dX3_set_29 rfl hl (by decide) rfl (fun ls hl => ?_)
      refine lv_aload_n hx hb dX3_set_30 rfl (lv_at hl 1 rfl) ?_
      refine va_get (D := D) (ci := 3) (v := .ref a0) (C := RX3) (T := TX3) (N := 7) hx hb hts in_X3_set_X3 hown hK hP 0 rfl rfl 0 (by decide) (hts _ m_X3_set_0) (fun _ h9 => h9) rfl dX3_set_31 ?_
      refine lv_bipush (v := zI (10)) hx hb dX3_set_34 (by decide +kernel) ?_
      refine lv_iload_n hx hb dX3_set_36 rfl (lv_at hl 2 rfl) ?_
      refine z_iadd (a := 10) (b := q) hx hb dX3_set_37 ?_
      refine lv_iload_n hx hb dX3_set_38 rfl (lv_at hl 3 rfl) ?_
      refine z_iast (k := 10 + q) (x := n) (g := σ) hx hb hK hP hD hS 1 0 rfl rfl (by omega) dX3_set_39 (fun H locs hP hD hS => ?_)
      have hP : va_P D vwCl [(h0, .inr (3, [.ref a0, .ref a1, .ref a2, .ref a3, .ref a4, .ref a5, .ref a6])), (a0, .inl (cI, 22, .inl (zF (upI σ (10 + q) n))))] H := hP
      have hD : va_D A [(h0, .inr (3, [.ref a0, .ref a1, .ref a2, .ref a3, .ref a4, .ref a5, .ref a6])), (a0, .inl (cI, 22, .inl (zF (upI σ (10 + q) n))))] := hD
      refine lv_iload_n hx hb dX3_set_40 rfl (lv_at hl 0 rfl) ?_
      exact hret _ _ _ _ _ () dX3_set_41 (by unfold A_set; first | rw [if_pos c_5, if_pos c_14]) (by simp only [S_set]; first | (rw [if_pos c_5, if_pos c_14]; exact hP)) hS
    · refine lv_bipush (v := zI (-2)) hx hb dX3_set_17 (by decide +kernel) ?_
      exact hret _ _ _ _ _ () dX3_set_19 (by unfold A_set; first | rw [if_pos c_5, if_neg c_14]) (by simp only [S_set]; first | (rw [if_pos c_5, if_neg c_14]; exact hP)) hS
  · refine lv_iconst (v := zI (-1)) hx hb dX3_set_8 rfl ?_
    exact hret _ _ _ _ _ () dX3_set_9 (by unfold A_set; first | rw [if_neg c_5]) (by simp only [S_set]; first | (rw [if_neg c_5]; exact hP)) hS
abbrev rmX3_clear : Room := { frames := 0, cells := 0, slots := 0, locals := 0 }
theorem in_X3_clear_X3 : ∀ w ∈ wsX30, w ∈ wsX3_clear := fun _ h => List.mem_cons_of_mem _ (List.mem_append_right _ h)
theorem m_X3_clear_0 : (.fieldLink RX3 7 "BrassWaysModel" "state" "[I" : Cond) ∈ wsX3_clear := List.mem_of_getElem? (i := 1) rfl
set_option maxHeartbeats 4000000 in
set_option maxRecDepth 100000 in
theorem c_X3_clear (l : Launch) (D : va_G) (cI cJ cZ cO : ClassId) (sz : Nat) (h0 : Nat) (a0 : Nat) (a1 : Nat) (a2 : Nat) (a3 : Nat) (a4 : Nat) (a5 : Nat) (a6 : Nat) (σ : Int → Int)  : Met l yX3_clear wsX3_clear rmX3_clear (zPc D cI cJ cZ cO [(h0, .inr (3, [.ref a0, .ref a1, .ref a2, .ref a3, .ref a4, .ref a5, .ref a6])), (a0, .inl (cI, 22, .inl (zF (σ))))] sz [.ref h0]) (zQi D (fun (r : Int32) (_ : Unit) => r = zI (σ 9)) (fun (_ : Unit) => [(h0, .inr (3, [.ref a0, .ref a1, .ref a2, .ref a3, .ref a4, .ref a5, .ref a6])), (a0, .inl (cI, 22, .inl (zF (upI σ 9 0))))]) [(h0, .inr (3, [.ref a0, .ref a1, .ref a2, .ref a3, .ref a4, .ref a5, .ref a6])), (a0, .inl (cI, 22, .inl (zF (σ))))] sz) 0 0 (va_A [(h0, .inr (3, [.ref a0, .ref a1, .ref a2, .ref a3, .ref a4, .ref a5, .ref a6])), (a0, .inl (cI, 22, .inl (zF (σ))))] sz) := by
  refine z_meti (by decide) rfl (Nat.le_of_ble_eq_true rfl) ?_
  intro p e s m args below meth c A Q ls hx hb hml hown hts hA hS hP hD hK hZ hl hret
  have hl : lv_has ls 2 [(0, .ref h0)] := hl
  refine lv_aload_n hx hb dX3_clear_0 rfl (lv_at hl 0 rfl) ?_
  refine va_get (D := D) (ci := 3) (v := .ref a0) (C := RX3) (T := TX3) (N := 7) hx hb hts in_X3_clear_X3 hown hK hP 0 rfl rfl 0 (by decide) (hts _ m_X3_clear_0) (fun _ h9 => h9) rfl dX3_clear_1 ?_
  refine lv_bipush (v := zI (9)) hx hb dX3_clear_4 (by decide +kernel) ?_
  refine z_iald (k := 9) (g := σ) hx hb hK hP 1 0 rfl rfl (by omega) dX3_clear_6 ?_
  try dsimp only
  refine lv_istore_n (lv' := [(1, .int (zI (σ 9))), (0, .ref h0)]) hx hb dX3_clear_7 rfl hl (by decide) rfl (fun ls hl => ?_)
  refine lv_aload_n hx hb dX3_clear_8 rfl (lv_at hl 1 rfl) ?_
  refine va_get (D := D) (ci := 3) (v := .ref a0) (C := RX3) (T := TX3) (N := 7) hx hb hts in_X3_clear_X3 hown hK hP 0 rfl rfl 0 (by decide) (hts _ m_X3_clear_0) (fun _ h9 => h9) rfl dX3_clear_9 ?_
  refine lv_bipush (v := zI (9)) hx hb dX3_clear_12 (by decide +kernel) ?_
  refine lv_iconst (v := zI (0)) hx hb dX3_clear_14 rfl ?_
  refine z_iast (k := 9) (x := 0) (g := σ) hx hb hK hP hD hS 1 0 rfl rfl (by omega) dX3_clear_15 (fun H locs hP hD hS => ?_)
  have hP : va_P D vwCl [(h0, .inr (3, [.ref a0, .ref a1, .ref a2, .ref a3, .ref a4, .ref a5, .ref a6])), (a0, .inl (cI, 22, .inl (zF (upI σ 9 0))))] H := hP
  have hD : va_D A [(h0, .inr (3, [.ref a0, .ref a1, .ref a2, .ref a3, .ref a4, .ref a5, .ref a6])), (a0, .inl (cI, 22, .inl (zF (upI σ 9 0))))] := hD
  refine lv_iload_n hx hb dX3_clear_16 rfl (lv_at hl 0 rfl) ?_
  exact hret _ _ _ _ _ () dX3_clear_17 rfl hP hS
abbrev rmX3_effortOf : Room := { frames := 1, cells := 0, slots := 0, locals := 20 }
theorem in_X3_effortOf_X3 : ∀ w ∈ wsX30, w ∈ wsX3_effortOf := fun _ h => List.mem_cons_of_mem _ (List.mem_append_right _ h)
theorem m_X3_effortOf_0 : (.fieldLink RX3 7 "BrassWaysModel" "state" "[I" : Cond) ∈ wsX3_effortOf := List.mem_of_getElem? (i := 1) rfl
set_option maxHeartbeats 4000000 in
set_option maxRecDepth 100000 in
theorem c_X3_effortOf (l : Launch) (D : va_G) (cI cJ cZ cO : ClassId) (sz : Nat) (h0 : Nat) (a0 : Nat) (a1 : Nat) (a2 : Nat) (a3 : Nat) (a4 : Nat) (a5 : Nat) (a6 : Nat) (σ : Int → Int) (a : Int) (b : Int) (h1 : (0 ≤ a ∧ a < 64) ∧ 0 ≤ b ∧ b < 64) (hO : Ok σ) : Met l yX3_effortOf wsX3_effortOf rmX3_effortOf (zPc D cI cJ cZ cO [(h0, .inr (3, [.ref a0, .ref a1, .ref a2, .ref a3, .ref a4, .ref a5, .ref a6])), (a0, .inl (cI, 22, .inl (zF (σ))))] sz [.ref h0, .int (zI (a)), .int (zI (b))]) (zQi D (fun (r : Int32) (_ : Unit) => r = zI (eff σ a b)) (fun (_ : Unit) => [(h0, .inr (3, [.ref a0, .ref a1, .ref a2, .ref a3, .ref a4, .ref a5, .ref a6])), (a0, .inl (cI, 22, .inl (zF (σ))))]) [(h0, .inr (3, [.ref a0, .ref a1, .ref a2, .ref a3, .ref a4, .ref a5, .ref a6])), (a0, .inl (cI, 22, .inl (zF (σ))))] sz) 0 0 (va_A [(h0, .inr (3, [.ref a0, .ref a1, .ref a2, .ref a3, .ref a4, .ref a5, .ref a6])), (a0, .inl (cI, 22, .inl (zF (σ))))] sz) := by
  refine z_meti (by decide) rfl (Nat.le_of_ble_eq_true rfl) ?_
  intro p e s m args below meth c A Q ls hx hb hml hown hts hA hS hP hD hK hZ hl hret
  have hl : lv_has ls 4 [(0, .ref h0), (1, .int (zI (a))), (2, .int (zI (b)))] := hl
  have o0 := hO.1
  have hx8 := xorI_in (a := a % 8) (b := b % 8) (by omega) (by omega)
  refine lv_aload_n hx hb dX3_effortOf_0 rfl (lv_at hl 0 rfl) ?_
  refine va_get (D := D) (ci := 3) (v := .ref a0) (C := RX3) (T := TX3) (N := 7) hx hb hts in_X3_effortOf_X3 hown hK hP 0 rfl rfl 0 (by decide) (hts _ m_X3_effortOf_0) (fun _ h9 => h9) rfl dX3_effortOf_1 ?_
  refine lv_iconst (v := zI (0)) hx hb dX3_effortOf_4 rfl ?_
  refine z_iald (k := 0) (g := σ) hx hb hK hP 1 0 rfl rfl (by omega) dX3_effortOf_5 ?_
  try dsimp only
  refine z_if_ne (a := σ 0) (tgt := 24) hx hb (by omega) dX3_effortOf_6 (by decide) (fun c_6 => ?_) (fun c_6 => ?_)
  · refine lv_iload_n hx hb dX3_effortOf_24 rfl (lv_at hl 1 rfl) ?_
    refine lv_bipush (v := zI (8)) hx hb dX3_effortOf_25 (by decide +kernel) ?_
    refine z_irem (a := a) (b := 8) hx hb (by omega) dX3_effortOf_27 ?_
    refine lv_iload_n hx hb dX3_effortOf_28 rfl (lv_at hl 2 rfl) ?_
    refine lv_bipush (v := zI (8)) hx hb dX3_effortOf_29 (by decide +kernel) ?_
    refine z_irem (a := b) (b := 8) hx hb (by omega) dX3_effortOf_31 ?_
    refine z_isub (a := a % 8) (b := b % 8) hx hb dX3_effortOf_32 ?_
    refine z_Sir (As := [.int (zI ((a % 8) - (b % 8)))]) (rest := []) hx hb hml hown hts hA hS hP hD hK hZ hl.1 (c_X3_size l D cI cJ cZ cO _ ((a % 8) - (b % 8)) (by omega)) (va_cwS 1 hts gX3_effortOf_X3_size rfl rfl rfl (by decide +kernel) ⟨Nat.le_of_ble_eq_true rfl, Nat.le_of_ble_eq_true rfl⟩) [] rfl rfl rfl rfl (Nat.le_of_ble_eq_true rfl) ⟨Nat.zero_le _, Nat.zero_le _⟩ dX3_effortOf_33 (fun r u H locs hw hP hS => ?_)
    subst hw
    refine lv_istore_n (lv' := [(3, .int (zI (aI ((a % 8) - (b % 8))))), (0, .ref h0), (1, .int (zI (a))), (2, .int (zI (b)))]) hx hb dX3_effortOf_36 rfl hl (by decide) rfl (fun ls hl => ?_)
    refine lv_aload_n hx hb dX3_effortOf_37 rfl (lv_at hl 1 rfl) ?_
    refine va_get (D := D) (ci := 3) (v := .ref a0) (C := RX3) (T := TX3) (N := 7) hx hb hts in_X3_effortOf_X3 hown hK hP 0 rfl rfl 0 (by decide) (hts _ m_X3_effortOf_0) (fun _ h9 => h9) rfl dX3_effortOf_38 ?_
    refine lv_bipush (v := zI (6)) hx hb dX3_effortOf_41 (by decide +kernel) ?_
    refine z_iald (k := 6) (g := σ) hx hb hK hP 1 0 rfl rfl (by omega) dX3_effortOf_43 ?_
    try dsimp only
    refine lv_iload_n hx hb dX3_effortOf_44 rfl (lv_at hl 0 rfl) ?_
    refine z_imul (a := σ 6) (b := aI ((a % 8) - (b % 8))) hx hb dX3_effortOf_45 ?_
    refine lv_aload_n hx hb dX3_effortOf_46 rfl (lv_at hl 1 rfl) ?_
    refine va_get (D := D) (ci := 3) (v := .ref a0) (C := RX3) (T := TX3) (N := 7) hx hb hts in_X3_effortOf_X3 hown hK hP 0 rfl rfl 0 (by decide) (hts _ m_X3_effortOf_0) (fun _ h9 => h9) rfl dX3_effortOf_47 ?_
    refine lv_bipush (v := zI (7)) hx hb dX3_effortOf_50 (by decide +kernel) ?_
    refine z_iald (k := 7) (g := σ) hx hb hK hP 1 0 rfl rfl (by omega) dX3_effortOf_52 ?_
    try dsimp only
    refine lv_iload_n hx hb dX3_effortOf_53 rfl (lv_at hl 2 rfl) ?_
    refine lv_bipush (v := zI (8)) hx hb dX3_effortOf_54 (by decide +kernel) ?_
    refine z_idiv (a := a) (b := 8) hx hb (by omega) dX3_effortOf_56 ?_
    refine lv_iload_n hx hb dX3_effortOf_57 rfl (lv_at hl 3 rfl) ?_
    refine lv_bipush (v := zI (8)) hx hb dX3_effortOf_58 (by decide +kernel) ?_
    refine z_idiv (a := b) (b := 8) hx hb (by omega) dX3_effortOf_60 ?_
    refine z_isub (a := a / 8) (b := b / 8) hx hb dX3_effortOf_61 ?_
    refine z_Sir (As := [.int (zI ((a / 8) - (b / 8)))]) (rest := [.int (zI (σ 7)), .int (zI ((σ 6) * (aI ((a % 8) - (b % 8)))))]) hx hb hml hown hts hA hS hP hD hK hZ hl.1 (c_X3_size l D cI cJ cZ cO _ ((a / 8) - (b / 8)) (by omega)) (va_cwS 1 hts gX3_effortOf_X3_size rfl rfl rfl (by decide +kernel) ⟨Nat.le_of_ble_eq_true rfl, Nat.le_of_ble_eq_true rfl⟩) [] rfl rfl rfl rfl (Nat.le_of_ble_eq_true rfl) ⟨Nat.zero_le _, Nat.zero_le _⟩ dX3_effortOf_62 (fun r u H locs hw hP hS => ?_)
    subst hw
    refine z_imul (a := σ 7) (b := aI ((a / 8) - (b / 8))) hx hb dX3_effortOf_65 ?_
    refine z_iadd (a := (σ 6) * (aI ((a % 8) - (b % 8)))) (b := (σ 7) * (aI ((a / 8) - (b / 8)))) hx hb dX3_effortOf_66 ?_
    exact hret _ _ _ _ _ () dX3_effortOf_67 (by unfold eff; first | rw [if_pos c_6] | rw [if_neg c_6]) hP hS
  · refine lv_iload_n hx hb dX3_effortOf_9 rfl (lv_at hl 1 rfl) ?_
    refine lv_bipush (v := zI (8)) hx hb dX3_effortOf_10 (by decide +kernel) ?_
    refine z_irem (a := a) (b := 8) hx hb (by omega) dX3_effortOf_12 ?_
    refine lv_iload_n hx hb dX3_effortOf_13 rfl (lv_at hl 2 rfl) ?_
    refine lv_bipush (v := zI (8)) hx hb dX3_effortOf_14 (by decide +kernel) ?_
    refine z_irem (a := b) (b := 8) hx hb (by omega) dX3_effortOf_16 ?_
    refine lv_ixor hx hb dX3_effortOf_17 ?_
    refine z_top (y := zI (xorI (a % 8) (b % 8))) (z_xor (by omega) (by omega)) ?_
    refine z_Sir (As := [.int (zI (xorI (a % 8) (b % 8)))]) (rest := []) hx hb hml hown hts hA hS hP hD hK hZ hl.1 (c_X3_bits l D cI cJ cZ cO _ (xorI (a % 8) (b % 8)) (by omega)) (va_cwS 1 hts gX3_effortOf_X3_bits rfl rfl rfl (by decide +kernel) ⟨Nat.le_of_ble_eq_true rfl, Nat.le_of_ble_eq_true rfl⟩) [] rfl rfl rfl rfl (Nat.le_of_ble_eq_true rfl) ⟨Nat.zero_le _, Nat.zero_le _⟩ dX3_effortOf_18 (fun r u H locs hw hP hS => ?_)
    subst hw
    refine lv_goto (tgt := 36) hx hb dX3_effortOf_21 (by decide) ?_
    refine lv_istore_n (lv' := [(3, .int (zI (bitsI (xorI (a % 8) (b % 8))))), (0, .ref h0), (1, .int (zI (a))), (2, .int (zI (b)))]) hx hb dX3_effortOf_36 rfl hl (by decide) rfl (fun ls hl => ?_)
    refine lv_aload_n hx hb dX3_effortOf_37 rfl (lv_at hl 1 rfl) ?_
    refine va_get (D := D) (ci := 3) (v := .ref a0) (C := RX3) (T := TX3) (N := 7) hx hb hts in_X3_effortOf_X3 hown hK hP 0 rfl rfl 0 (by decide) (hts _ m_X3_effortOf_0) (fun _ h9 => h9) rfl dX3_effortOf_38 ?_
    refine lv_bipush (v := zI (6)) hx hb dX3_effortOf_41 (by decide +kernel) ?_
    refine z_iald (k := 6) (g := σ) hx hb hK hP 1 0 rfl rfl (by omega) dX3_effortOf_43 ?_
    try dsimp only
    refine lv_iload_n hx hb dX3_effortOf_44 rfl (lv_at hl 0 rfl) ?_
    refine z_imul (a := σ 6) (b := bitsI (xorI (a % 8) (b % 8))) hx hb dX3_effortOf_45 ?_
    refine lv_aload_n hx hb dX3_effortOf_46 rfl (lv_at hl 1 rfl) ?_
    refine va_get (D := D) (ci := 3) (v := .ref a0) (C := RX3) (T := TX3) (N := 7) hx hb hts in_X3_effortOf_X3 hown hK hP 0 rfl rfl 0 (by decide) (hts _ m_X3_effortOf_0) (fun _ h9 => h9) rfl dX3_effortOf_47 ?_
    refine lv_bipush (v := zI (7)) hx hb dX3_effortOf_50 (by decide +kernel) ?_
    refine z_iald (k := 7) (g := σ) hx hb hK hP 1 0 rfl rfl (by omega) dX3_effortOf_52 ?_
    try dsimp only
    refine lv_iload_n hx hb dX3_effortOf_53 rfl (lv_at hl 2 rfl) ?_
    refine lv_bipush (v := zI (8)) hx hb dX3_effortOf_54 (by decide +kernel) ?_
    refine z_idiv (a := a) (b := 8) hx hb (by omega) dX3_effortOf_56 ?_
    refine lv_iload_n hx hb dX3_effortOf_57 rfl (lv_at hl 3 rfl) ?_
    refine lv_bipush (v := zI (8)) hx hb dX3_effortOf_58 (by decide +kernel) ?_
    refine z_idiv (a := b) (b := 8) hx hb (by omega) dX3_effortOf_60 ?_
    refine z_isub (a := a / 8) (b := b / 8) hx hb dX3_effortOf_61 ?_
    refine z_Sir (As := [.int (zI ((a / 8) - (b / 8)))]) (rest := [.int (zI (σ 7)), .int (zI ((σ 6) * (bitsI (xorI (a % 8) (b % 8)))))]) hx hb hml hown hts hA hS hP hD hK hZ hl.1 (c_X3_size l D cI cJ cZ cO _ ((a / 8) - (b / 8)) (by omega)) (va_cwS 1 hts gX3_effortOf_X3_size rfl rfl rfl (by decide +kernel) ⟨Nat.le_of_ble_eq_true rfl, Nat.le_of_ble_eq_true rfl⟩) [] rfl rfl rfl rfl (Nat.le_of_ble_eq_true rfl) ⟨Nat.zero_le _, Nat.zero_le _⟩ dX3_effortOf_62 (fun r u H locs hw hP hS => ?_)
    subst hw
    refine z_imul (a := σ 7) (b := aI ((a / 8) - (b / 8))) hx hb dX3_effortOf_65 ?_
    refine z_iadd (a := (σ 6) * (bitsI (xorI (a % 8) (b % 8)))) (b := (σ 7) * (aI ((a / 8) - (b / 8)))) hx hb dX3_effortOf_66 ?_
    exact hret _ _ _ _ _ () dX3_effortOf_67 (by unfold eff; first | rw [if_pos c_6] | rw [if_neg c_6]) hP hS
abbrev rmX3_effort : Room := { frames := 3, cells := 0, slots := 0, locals := 64 }
set_option maxHeartbeats 4000000 in
set_option maxRecDepth 100000 in
theorem c_X3_effort (l : Launch) (D : va_G) (cI cJ cZ cO : ClassId) (sz : Nat) (h0 : Nat) (a0 : Nat) (a1 : Nat) (a2 : Nat) (a3 : Nat) (a4 : Nat) (a5 : Nat) (a6 : Nat) (σ : Int → Int) (a : Int) (b : Int) (h_a : -2147483648 ≤ a ∧ a < 2147483648) (h_b : -2147483648 ≤ b ∧ b < 2147483648) (hO : Ok σ) : Met l yX3_effort wsX3_effort rmX3_effort (zPc D cI cJ cZ cO [(h0, .inr (3, [.ref a0, .ref a1, .ref a2, .ref a3, .ref a4, .ref a5, .ref a6])), (a0, .inl (cI, 22, .inl (zF (σ))))] sz [.ref h0, .int (zI (a)), .int (zI (b))]) (zQi D (fun (r : Int32) (_ : Unit) => r = zI (A_effort σ a b)) (fun (_ : Unit) => [(h0, .inr (3, [.ref a0, .ref a1, .ref a2, .ref a3, .ref a4, .ref a5, .ref a6])), (a0, .inl (cI, 22, .inl (zF (σ))))]) [(h0, .inr (3, [.ref a0, .ref a1, .ref a2, .ref a3, .ref a4, .ref a5, .ref a6])), (a0, .inl (cI, 22, .inl (zF (σ))))] sz) 0 0 (va_A [(h0, .inr (3, [.ref a0, .ref a1, .ref a2, .ref a3, .ref a4, .ref a5, .ref a6])), (a0, .inl (cI, 22, .inl (zF (σ))))] sz) := by
  refine z_meti (by decide) rfl (Nat.le_of_ble_eq_true rfl) ?_
  intro p e s m args below meth c A Q ls hx hb hml hown hts hA hS hP hD hK hZ hl hret
  have hl : lv_has ls 3 [(0, .ref h0), (1, .int (zI (a))), (2, .int (zI (b)))] := hl
  refine lv_aload_n hx hb dX3_effort_0 rfl (lv_at hl 0 rfl) ?_
  refine lv_iload_n hx hb dX3_effort_1 rfl (lv_at hl 1 rfl) ?_
  refine z_Vir (As := [.int (zI (a))]) (rest := []) hx hb hml hown hts hA hS hP hD hK hZ hl.1 (c_X3_isWay l D cI cJ cZ cO _ (h0) (a0) (a1) (a2) (a3) (a4) (a5) (a6) (σ) (a) (by omega) hO) (cwV 1 hts gX3_effort_X3_isWay rfl rfl rfl (by decide +kernel) ⟨Nat.le_of_ble_eq_true rfl, Nat.le_of_ble_eq_true rfl⟩) [0, 1] rfl rfl 0 3 rfl rfl rfl rfl (Nat.le_of_ble_eq_true rfl) ⟨Nat.zero_le _, Nat.zero_le _⟩ dX3_effort_2 (fun r u H locs hw hP hS => ?_)
  subst hw
  refine z_ifB_eq (P := okW σ a) (tgt := 25) hx hb dX3_effort_5 (by decide) (fun c_5 => ?_) (fun c_5 => ?_)
  · refine lv_bipush (v := zI (-2)) hx hb dX3_effort_25 (by decide +kernel) ?_
    exact hret _ _ _ _ _ () dX3_effort_27 (by unfold A_effort; first | rw [if_neg c_5] | rw [if_pos c_5, if_neg c_13] | rw [if_pos c_5, if_pos c_13]) hP hS
  · have hw6 := c_5.1
    refine lv_aload_n hx hb dX3_effort_8 rfl (lv_at hl 0 rfl) ?_
    refine lv_iload_n hx hb dX3_effort_9 rfl (lv_at hl 2 rfl) ?_
    refine z_Vir (As := [.int (zI (b))]) (rest := []) hx hb hml hown hts hA hS hP hD hK hZ hl.1 (c_X3_isWay l D cI cJ cZ cO _ (h0) (a0) (a1) (a2) (a3) (a4) (a5) (a6) (σ) (b) (by omega) hO) (cwV 1 hts gX3_effort_X3_isWay rfl rfl rfl (by decide +kernel) ⟨Nat.le_of_ble_eq_true rfl, Nat.le_of_ble_eq_true rfl⟩) [0, 1] rfl rfl 0 3 rfl rfl rfl rfl (Nat.le_of_ble_eq_true rfl) ⟨Nat.zero_le _, Nat.zero_le _⟩ dX3_effort_10 (fun r u H locs hw hP hS => ?_)
    subst hw
    refine z_ifB_eq (P := okW σ b) (tgt := 25) hx hb dX3_effort_13 (by decide) (fun c_13 => ?_) (fun c_13 => ?_)
    · refine lv_bipush (v := zI (-2)) hx hb dX3_effort_25 (by decide +kernel) ?_
      exact hret _ _ _ _ _ () dX3_effort_27 (by unfold A_effort; first | rw [if_neg c_5] | rw [if_pos c_5, if_neg c_13] | rw [if_pos c_5, if_pos c_13]) hP hS
    · have hw7 := c_13.1
      refine lv_aload_n hx hb dX3_effort_16 rfl (lv_at hl 0 rfl) ?_
      refine lv_iload_n hx hb dX3_effort_17 rfl (lv_at hl 1 rfl) ?_
      refine lv_iload_n hx hb dX3_effort_18 rfl (lv_at hl 2 rfl) ?_
      refine z_Vir (As := [.int (zI (a)), .int (zI (b))]) (rest := []) hx hb hml hown hts hA hS hP hD hK hZ hl.1 (c_X3_effortOf l D cI cJ cZ cO _ (h0) (a0) (a1) (a2) (a3) (a4) (a5) (a6) (σ) (a) (b) (by omega) hO) (cwV 2 hts gX3_effort_X3_effortOf rfl rfl rfl (by decide +kernel) ⟨Nat.le_of_ble_eq_true rfl, Nat.le_of_ble_eq_true rfl⟩) [0, 1] rfl rfl 0 3 rfl rfl rfl rfl (Nat.le_of_ble_eq_true rfl) ⟨Nat.zero_le _, Nat.zero_le _⟩ dX3_effort_19 (fun r u H locs hw hP hS => ?_)
      subst hw
      refine lv_goto (tgt := 27) hx hb dX3_effort_22 (by decide) ?_
      exact hret _ _ _ _ _ () dX3_effort_27 (by unfold A_effort; first | rw [if_neg c_5] | rw [if_pos c_5, if_neg c_13] | rw [if_pos c_5, if_pos c_13]) hP hS
abbrev rmX3_faultOf : Room := { frames := 3, cells := 0, slots := 0, locals := 65 }
theorem in_X3_faultOf_X3 : ∀ w ∈ wsX30, w ∈ wsX3_faultOf := fun _ h => List.mem_cons_of_mem _ (List.mem_append_right _ h)
theorem m_X3_faultOf_0 : (.fieldLink RX3 7 "BrassWaysModel" "state" "[I" : Cond) ∈ wsX3_faultOf := List.mem_of_getElem? (i := 1) rfl
set_option maxHeartbeats 4000000 in
set_option maxRecDepth 100000 in
theorem c_X3_faultOf (l : Launch) (D : va_G) (cI cJ cZ cO : ClassId) (sz : Nat) (h0 : Nat) (a0 : Nat) (a1 : Nat) (a2 : Nat) (a3 : Nat) (a4 : Nat) (a5 : Nat) (a6 : Nat) (σ : Int → Int) (w : Int) (n : Int) (h1 : 0 ≤ w ∧ w < 64) (h2 : 0 ≤ n ∧ n ≤ 36) (hO : Ok σ) : Met l yX3_faultOf wsX3_faultOf rmX3_faultOf (zPc D cI cJ cZ cO [(h0, .inr (3, [.ref a0, .ref a1, .ref a2, .ref a3, .ref a4, .ref a5, .ref a6])), (a0, .inl (cI, 22, .inl (zF (σ))))] sz [.ref h0, .int (zI (w)), .int (zI (n))]) (zQi D (fun (r : Int32) (_ : Unit) => r = zI (flt σ w n)) (fun (_ : Unit) => [(h0, .inr (3, [.ref a0, .ref a1, .ref a2, .ref a3, .ref a4, .ref a5, .ref a6])), (a0, .inl (cI, 22, .inl (zF (σ))))]) [(h0, .inr (3, [.ref a0, .ref a1, .ref a2, .ref a3, .ref a4, .ref a5, .ref a6])), (a0, .inl (cI, 22, .inl (zF (σ))))] sz) 0 0 (va_A [(h0, .inr (3, [.ref a0, .ref a1, .ref a2, .ref a3, .ref a4, .ref a5, .ref a6])), (a0, .inl (cI, 22, .inl (zF (σ))))] sz) := by
  refine z_meti (by decide) rfl (Nat.le_of_ble_eq_true rfl) ?_
  intro p e s m args below meth c A Q ls hx hb hml hown hts hA hS hP hD hK hZ hl hret
  have hl : lv_has ls 3 [(0, .ref h0), (1, .int (zI (w))), (2, .int (zI (n)))] := hl
  have o1 := off_in hO h1 h2
  have o2 : 0 ≤ aI (off σ w n) ∧ aI (off σ w n) ≤ 4800 := aI_in (by omega)
  have o3 := mul_in hO.2.2.2.2.2.2.2.2.1 o2
  refine lv_aload_n hx hb dX3_faultOf_0 rfl (lv_at hl 0 rfl) ?_
  refine va_get (D := D) (ci := 3) (v := .ref a0) (C := RX3) (T := TX3) (N := 7) hx hb hts in_X3_faultOf_X3 hown hK hP 0 rfl rfl 0 (by decide) (hts _ m_X3_faultOf_0) (fun _ h9 => h9) rfl dX3_faultOf_1 ?_
  refine lv_bipush (v := zI (8)) hx hb dX3_faultOf_4 (by decide +kernel) ?_
  refine z_iald (k := 8) (g := σ) hx hb hK hP 1 0 rfl rfl (by omega) dX3_faultOf_6 ?_
  try dsimp only
  refine lv_aload_n hx hb dX3_faultOf_7 rfl (lv_at hl 0 rfl) ?_
  refine lv_iload_n hx hb dX3_faultOf_8 rfl (lv_at hl 1 rfl) ?_
  refine lv_iload_n hx hb dX3_faultOf_9 rfl (lv_at hl 2 rfl) ?_
  refine z_Vir (As := [.int (zI (w)), .int (zI (n))]) (rest := [.int (zI (σ 8))]) hx hb hml hown hts hA hS hP hD hK hZ hl.1 (c_X3_offOf l D cI cJ cZ cO _ (h0) (a0) (a1) (a2) (a3) (a4) (a5) (a6) (σ) (w) (n) (by omega) hO) (cwV 2 hts gX3_faultOf_X3_offOf rfl rfl rfl (by decide +kernel) ⟨Nat.le_of_ble_eq_true rfl, Nat.le_of_ble_eq_true rfl⟩) [0, 1] rfl rfl 0 3 rfl rfl rfl rfl (Nat.le_of_ble_eq_true rfl) ⟨Nat.zero_le _, Nat.zero_le _⟩ dX3_faultOf_10 (fun r u H locs hw hP hS => ?_)
  subst hw
  refine z_Sir (As := [.int (zI (off σ w n))]) (rest := [.int (zI (σ 8))]) hx hb hml hown hts hA hS hP hD hK hZ hl.1 (c_X3_size l D cI cJ cZ cO _ (off σ w n) (by omega)) (va_cwS 1 hts gX3_faultOf_X3_size rfl rfl rfl (by decide +kernel) ⟨Nat.le_of_ble_eq_true rfl, Nat.le_of_ble_eq_true rfl⟩) [] rfl rfl rfl rfl (Nat.le_of_ble_eq_true rfl) ⟨Nat.zero_le _, Nat.zero_le _⟩ dX3_faultOf_13 (fun r u H locs hw hP hS => ?_)
  subst hw
  refine z_imul (a := σ 8) (b := aI (off σ w n)) hx hb dX3_faultOf_16 ?_
  refine lv_bipush (v := zI (10)) hx hb dX3_faultOf_17 (by decide +kernel) ?_
  refine z_idiv (a := (σ 8) * (aI (off σ w n))) (b := 10) hx hb (by omega) dX3_faultOf_19 ?_
  exact hret _ _ _ _ _ () dX3_faultOf_20 rfl hP hS
abbrev rmX3_at : Room := { frames := 0, cells := 0, slots := 0, locals := 0 }
set_option maxHeartbeats 4000000 in
set_option maxRecDepth 100000 in
theorem c_X3_at (l : Launch) (D : va_G) (cI cJ cZ cO : ClassId) (sz : Nat) (q : Int) (w : Int)  : Met l yX3_at wsX3_at rmX3_at (zPc D cI cJ cZ cO [] sz [.int (zI (q)), .int (zI (w))]) (zQi D (fun (r : Int32) (_ : Unit) => r = zI (64 * q + w)) (fun (_ : Unit) => []) [] sz) 0 0 (va_A [] sz) := by
  refine z_meti (by decide) rfl (Nat.le_of_ble_eq_true rfl) ?_
  intro p e s m args below meth c A Q ls hx hb hml hown hts hA hS hP hD hK hZ hl hret
  have hl : lv_has ls 2 [(0, .int (zI (q))), (1, .int (zI (w)))] := hl
  refine lv_bipush (v := zI (64)) hx hb dX3_at_0 (by decide +kernel) ?_
  refine lv_iload_n hx hb dX3_at_2 rfl (lv_at hl 0 rfl) ?_
  refine z_imul (a := 64) (b := q) hx hb dX3_at_3 ?_
  refine lv_iload_n hx hb dX3_at_4 rfl (lv_at hl 1 rfl) ?_
  refine z_iadd (a := 64 * q) (b := w) hx hb dX3_at_5 ?_
  exact hret _ _ _ _ _ () dX3_at_6 rfl hP hS
abbrev rmX3_isAt : Room := { frames := 4, cells := 0, slots := 0, locals := 87 }
theorem in_X3_isAt_X3 : ∀ w ∈ wsX30, w ∈ wsX3_isAt := fun _ h => List.mem_cons_of_mem _ (List.mem_append_right _ h)
theorem m_X3_isAt_0 : (.fieldLink RX3 7 "BrassWaysModel" "state" "[I" : Cond) ∈ wsX3_isAt := List.mem_of_getElem? (i := 1) rfl
set_option maxHeartbeats 4000000 in
set_option maxRecDepth 100000 in
theorem c_X3_isAt (l : Launch) (D : va_G) (cI cJ cZ cO : ClassId) (sz : Nat) (h0 : Nat) (a0 : Nat) (a1 : Nat) (a2 : Nat) (a3 : Nat) (a4 : Nat) (a5 : Nat) (a6 : Nat) (σ : Int → Int) (q : Int) (w : Int) (h1 : 0 ≤ q ∧ q < 12) (h2 : -2147483648 ≤ w ∧ w < 2147483648) (hO : Ok σ) : Met l yX3_isAt wsX3_isAt rmX3_isAt (zPc D cI cJ cZ cO [(h0, .inr (3, [.ref a0, .ref a1, .ref a2, .ref a3, .ref a4, .ref a5, .ref a6])), (a0, .inl (cI, 22, .inl (zF (σ))))] sz [.ref h0, .int (zI (q)), .int (zI (w))]) (zQi D (fun (r : Int32) (_ : Unit) => r = zI (zB (sd σ w (σ (10 + q)) = true))) (fun (_ : Unit) => [(h0, .inr (3, [.ref a0, .ref a1, .ref a2, .ref a3, .ref a4, .ref a5, .ref a6])), (a0, .inl (cI, 22, .inl (zF (σ))))]) [(h0, .inr (3, [.ref a0, .ref a1, .ref a2, .ref a3, .ref a4, .ref a5, .ref a6])), (a0, .inl (cI, 22, .inl (zF (σ))))] sz) 0 0 (va_A [(h0, .inr (3, [.ref a0, .ref a1, .ref a2, .ref a3, .ref a4, .ref a5, .ref a6])), (a0, .inl (cI, 22, .inl (zF (σ))))] sz) := by
  refine z_metz (by decide) rfl (Nat.le_of_ble_eq_true rfl) ?_
  intro p e s m args below meth c A Q ls hx hb hml hown hts hA hS hP hD hK hZ hl hret
  have hl : lv_has ls 3 [(0, .ref h0), (1, .int (zI (q))), (2, .int (zI (w)))] := hl
  have o10 := hO.2.2.2.2.2.2.2.2.2.2 q h1.1 h1.2
  refine lv_aload_n hx hb dX3_isAt_0 rfl (lv_at hl 0 rfl) ?_
  refine lv_iload_n hx hb dX3_isAt_1 rfl (lv_at hl 2 rfl) ?_
  refine lv_aload_n hx hb dX3_isAt_2 rfl (lv_at hl 0 rfl) ?_
  refine va_get (D := D) (ci := 3) (v := .ref a0) (C := RX3) (T := TX3) (N := 7) hx hb hts in_X3_isAt_X3 hown hK hP 0 rfl rfl 0 (by decide) (hts _ m_X3_isAt_0) (fun _ h9 => h9) rfl dX3_isAt_3 ?_
  refine lv_bipush (v := zI (10)) hx hb dX3_isAt_6 (by decide +kernel) ?_
  refine lv_iload_n hx hb dX3_isAt_8 rfl (lv_at hl 1 rfl) ?_
  refine z_iadd (a := 10) (b := q) hx hb dX3_isAt_9 ?_
  refine z_iald (k := 10 + q) (g := σ) hx hb hK hP 1 0 rfl rfl (by omega) dX3_isAt_10 ?_
  try dsimp only
  refine z_Vir (As := [.int (zI (w)), .int (zI (σ (10 + q)))]) (rest := []) hx hb hml hown hts hA hS hP hD hK hZ hl.1 (c_X3_sounds l D cI cJ cZ cO _ (h0) (a0) (a1) (a2) (a3) (a4) (a5) (a6) (σ) (w) (σ (10 + q)) (by omega) (by omega) hO) (cwV 2 hts gX3_isAt_X3_sounds rfl rfl rfl (by decide +kernel) ⟨Nat.le_of_ble_eq_true rfl, Nat.le_of_ble_eq_true rfl⟩) [0, 1] rfl rfl 0 3 rfl rfl rfl rfl (Nat.le_of_ble_eq_true rfl) ⟨Nat.zero_le _, Nat.zero_le _⟩ dX3_isAt_11 (fun r u H locs hw hP hS => ?_)
  subst hw
  exact hret _ _ _ _ _ () dX3_isAt_14 zB_nar rfl hP hS
end
section
abbrev rmX3_ways : Room := { frames := 5, cells := 0, slots := 0, locals := 110 }
set_option maxHeartbeats 4000000 in
set_option maxRecDepth 100000 in
theorem c_X3_ways (l : Launch) (D : va_G) (cI cJ cZ cO : ClassId) (sz : Nat) (h0 : Nat) (a0 : Nat) (a1 : Nat) (a2 : Nat) (a3 : Nat) (a4 : Nat) (a5 : Nat) (a6 : Nat) (σ : Int → Int) (n : Int) (i : Int) (h_n : -2147483648 ≤ n ∧ n < 2147483648) (h_i : -2147483648 ≤ i ∧ i < 2147483648) (hO : Ok σ) : Met l yX3_ways wsX3_ways rmX3_ways (zPc D cI cJ cZ cO [(h0, .inr (3, [.ref a0, .ref a1, .ref a2, .ref a3, .ref a4, .ref a5, .ref a6])), (a0, .inl (cI, 22, .inl (zF (σ))))] sz [.ref h0, .int (zI (n)), .int (zI (i))]) (zQi D (fun (r : Int32) (_ : Unit) => r = zI (A_ways σ n i)) (fun (_ : Unit) => [(h0, .inr (3, [.ref a0, .ref a1, .ref a2, .ref a3, .ref a4, .ref a5, .ref a6])), (a0, .inl (cI, 22, .inl (zF (σ))))]) [(h0, .inr (3, [.ref a0, .ref a1, .ref a2, .ref a3, .ref a4, .ref a5, .ref a6])), (a0, .inl (cI, 22, .inl (zF (σ))))] sz) 0 0 (va_A [(h0, .inr (3, [.ref a0, .ref a1, .ref a2, .ref a3, .ref a4, .ref a5, .ref a6])), (a0, .inl (cI, 22, .inl (zF (σ))))] sz) := by
  refine z_meti (by decide) rfl (Nat.le_of_ble_eq_true rfl) ?_
  intro p e s m args below meth c A Q ls hx hb hml hown hts hA hS hP hD hK hZ hl hret
  have hl : lv_has ls 5 [(0, .ref h0), (1, .int (zI (n))), (2, .int (zI (i)))] := hl
  refine lv_iload_n hx hb dX3_ways_0 rfl (lv_at hl 1 rfl) ?_
  refine z_Sir (As := [.int (zI (n))]) (rest := []) hx hb hml hown hts hA hS hP hD hK hZ hl.1 (c_X3_isNote l D cI cJ cZ cO _ (n) (by omega)) (va_cwS 1 hts gX3_ways_X3_isNote rfl rfl rfl (by decide +kernel) ⟨Nat.le_of_ble_eq_true rfl, Nat.le_of_ble_eq_true rfl⟩) [] rfl rfl rfl rfl (Nat.le_of_ble_eq_true rfl) ⟨Nat.zero_le _, Nat.zero_le _⟩ dX3_ways_1 (fun r u H locs hw hP hS => ?_)
  subst hw
  refine z_ifB_eq (P := 0 ≤ n ∧ n ≤ 36) (tgt := 12) hx hb dX3_ways_4 (by decide) (fun c_4 => ?_) (fun c_4 => ?_)
  · refine lv_bipush (v := zI (-2)) hx hb dX3_ways_12 (by decide +kernel) ?_
    exact hret _ _ _ _ _ () dX3_ways_14 (by unfold A_ways; first | (rw [if_neg c_4]; done) | (rw [if_pos c_4, if_pos (by omega)]; done)) hP hS
  · refine lv_iload_n hx hb dX3_ways_7 rfl (lv_at hl 2 rfl) ?_
    refine lv_iconst (v := zI (-1)) hx hb dX3_ways_8 rfl ?_
    refine z_icmp_ge (a := i) (b := -1) (tgt := 15) hx hb (by omega) dX3_ways_9 (by decide) (fun c_9 => ?_) (fun c_9 => ?_)
    · refine lv_iload_n hx hb dX3_ways_15 rfl (lv_at hl 2 rfl) ?_
      refine lv_iconst (v := zI (-1)) hx hb dX3_ways_16 rfl ?_
      refine z_icmp_ne (a := i) (b := -1) (tgt := 26) hx hb (by omega) dX3_ways_17 (by decide) (fun c_17 => ?_) (fun c_17 => ?_)
      · refine lv_iconst (v := zI (0)) hx hb dX3_ways_26 rfl ?_
        refine lv_istore_n (lv' := [(3, .int (zI (0))), (0, .ref h0), (1, .int (zI (n))), (2, .int (zI (i)))]) hx hb dX3_ways_27 rfl hl (by decide) rfl (fun ls hl => ?_)
        refine lv_iconst (v := zI (0)) hx hb dX3_ways_28 rfl ?_
        refine lv_istore (lv' := [(4, .int (zI (0))), (3, .int (zI (0))), (0, .ref h0), (1, .int (zI (n))), (2, .int (zI (i)))]) hx hb dX3_ways_29 hl (by decide) rfl (fun ls hl => ?_)
        have loop_a : ∀ (f_a : Nat) (k : Nat) (x : Int) (H : Heap) (locs : List Loc) (ls : Array Slot), (k ≤ 64) → (x = cnt (fun w => sd σ w n) k) → (fnd (fun w => sd σ w n && decide (cnt (fun v => sd σ v n) w.toNat = i)) k = -6) → (64 - (k : Int) < (f_a : Int)) → va_P D vwCl [(h0, .inr (3, [.ref a0, .ref a1, .ref a2, .ref a3, .ref a4, .ref a5, .ref a6])), (a0, .inl (cI, 22, .inl (zF (σ))))] H → va_D A [(h0, .inr (3, [.ref a0, .ref a1, .ref a2, .ref a3, .ref a4, .ref a5, .ref a6])), (a0, .inl (cI, 22, .inl (zF (σ))))] → va_S A s.heap H locs → lv_has ls 5 [(0, .ref h0), (1, .int (zI (n))), (2, .int (zI (i))), (3, .int (zI (x))), (4, .int (zI ((k : Int))))] → W p l e rmX3_ways s m args below meth c H locs 0 0 Q (F0 m 31 ls []) := by
          intro f_a
          induction f_a with
          | zero =>
            intros
            exfalso; omega
          | succ f_a ih_a =>
            intro k x H locs ls e_k e_x e_f hfu_a hP hD hS hl
            have e_b : 0 ≤ x ∧ x ≤ k := by rw [e_x]; exact cnt_in _ k
            refine lv_iload hx hb dX3_ways_31 (lv_at hl 4 rfl) ?_
            refine lv_bipush (v := zI (64)) hx hb dX3_ways_33 (by decide +kernel) ?_
            refine z_icmp_ge (a := (k : Int)) (b := 64) (tgt := 65) hx hb (by omega) dX3_ways_35 (by decide) (fun c_35 => ?_) (fun c_35 => ?_)
            · refine lv_bipush (v := zI (-6)) hx hb dX3_ways_65 (by decide +kernel) ?_
              exact hret _ _ _ _ _ () dX3_ways_67 (by unfold A_ways; rw [if_pos c_4, if_neg (by omega), if_neg c_17]; rw [show k = 64 by omega] at e_f; rw [e_f]) hP hS
            · refine lv_aload_n hx hb dX3_ways_38 rfl (lv_at hl 0 rfl) ?_
              refine lv_iload hx hb dX3_ways_39 (lv_at hl 4 rfl) ?_
              refine lv_iload_n hx hb dX3_ways_41 rfl (lv_at hl 1 rfl) ?_
              refine z_Vir (As := [.int (zI ((k : Int))), .int (zI (n))]) (rest := []) hx hb hml hown hts hA hS hP hD hK hZ hl.1 (c_X3_sounds l D cI cJ cZ cO _ (h0) (a0) (a1) (a2) (a3) (a4) (a5) (a6) (σ) ((k : Int)) (n) (by omega) (by omega) hO) (cwV 2 hts gX3_ways_X3_sounds rfl rfl rfl (by decide +kernel) ⟨Nat.le_of_ble_eq_true rfl, Nat.le_of_ble_eq_true rfl⟩) [0, 1] rfl rfl 0 3 rfl rfl rfl rfl (Nat.le_of_ble_eq_true rfl) ⟨Nat.zero_le _, Nat.zero_le _⟩ dX3_ways_42 (fun r u H locs hw hP hS => ?_)
              subst hw
              refine z_ifB_eq (P := sd σ (k : Int) n = true) (tgt := 59) hx hb dX3_ways_45 (by decide) (fun c_45 => ?_) (fun c_45 => ?_)
              · refine lv_iinc (v := zI ((k : Int) + 1)) (lv' := [(4, .int (zI ((k : Int) + 1))), (0, .ref h0), (1, .int (zI (n))), (2, .int (zI (i))), (3, .int (zI (x)))]) hx hb dX3_ways_59 hl (k := 4) rfl (zI_add _ _) (by decide) rfl (fun ls hl => ?_)
                refine lv_goto (tgt := 31) hx hb dX3_ways_62 (by decide) ?_
                exact ih_a (k + 1) (x) _ _ _ (by omega) (by first | (rw [cnt_y (q := fun w => sd σ w n) c_45]; omega) | (rw [cnt_n (q := fun w => sd σ w n) c_45]; omega)) (fnd_n e_f (by first | (simp [c_45]; done) | (simp [c_45]; omega))) (by omega) hP hD hS (lv_sub hl [1, 2, 3, 4, 0] rfl)
              · refine lv_iload_n hx hb dX3_ways_48 rfl (lv_at hl 3 rfl) ?_
                refine lv_iload_n hx hb dX3_ways_49 rfl (lv_at hl 2 rfl) ?_
                refine z_icmp_ne (a := x) (b := i) (tgt := 56) hx hb (by omega) dX3_ways_50 (by decide) (fun c_50 => ?_) (fun c_50 => ?_)
                · refine lv_iinc (v := zI (x + 1)) (lv' := [(3, .int (zI (x + 1))), (0, .ref h0), (1, .int (zI (n))), (2, .int (zI (i))), (4, .int (zI ((k : Int))))]) hx hb dX3_ways_56 hl (k := 3) rfl (zI_add _ _) (by decide) rfl (fun ls hl => ?_)
                  refine lv_iinc (v := zI ((k : Int) + 1)) (lv' := [(4, .int (zI ((k : Int) + 1))), (3, .int (zI (x + 1))), (0, .ref h0), (1, .int (zI (n))), (2, .int (zI (i)))]) hx hb dX3_ways_59 hl (k := 4) rfl (zI_add _ _) (by decide) rfl (fun ls hl => ?_)
                  refine lv_goto (tgt := 31) hx hb dX3_ways_62 (by decide) ?_
                  exact ih_a (k + 1) (x + 1) _ _ _ (by omega) (by first | (rw [cnt_y (q := fun w => sd σ w n) c_45]; omega) | (rw [cnt_n (q := fun w => sd σ w n) c_45]; omega)) (fnd_n e_f (by first | (simp [c_45]; done) | (simp [c_45]; omega))) (by omega) hP hD hS (lv_sub hl [2, 3, 4, 1, 0] rfl)
                · refine lv_iload hx hb dX3_ways_53 (lv_at hl 4 rfl) ?_
                  exact hret _ _ _ _ _ () dX3_ways_55 (by unfold A_ways; rw [if_pos c_4, if_neg (by omega), if_neg c_17, fnd_y e_f (by simp [c_45]; omega) 64 (by omega)]) hP hS
        exact loop_a 70 (0) (0) _ _ _ (by omega) (rfl) (rfl) (by omega) hP hD hS (lv_sub hl [2, 3, 4, 1, 0] rfl)
      · refine lv_aload_n hx hb dX3_ways_20 rfl (lv_at hl 0 rfl) ?_
        refine lv_iload_n hx hb dX3_ways_21 rfl (lv_at hl 1 rfl) ?_
        refine z_Vir (As := [.int (zI (n))]) (rest := []) hx hb hml hown hts hA hS hP hD hK hZ hl.1 (c_X3_waysOf l D cI cJ cZ cO _ (h0) (a0) (a1) (a2) (a3) (a4) (a5) (a6) (σ) (n) (by omega) hO) (cwV 1 hts gX3_ways_X3_waysOf rfl rfl rfl (by decide +kernel) ⟨Nat.le_of_ble_eq_true rfl, Nat.le_of_ble_eq_true rfl⟩) [0, 1] rfl rfl 0 3 rfl rfl rfl rfl (Nat.le_of_ble_eq_true rfl) ⟨Nat.zero_le _, Nat.zero_le _⟩ dX3_ways_22 (fun r u H locs hw hP hS => ?_)
        subst hw
        exact hret _ _ _ _ _ () dX3_ways_25 (by unfold A_ways; rw [if_pos c_4, if_neg (by omega), if_pos c_17]) hP hS
    · refine lv_bipush (v := zI (-2)) hx hb dX3_ways_12 (by decide +kernel) ?_
      exact hret _ _ _ _ _ () dX3_ways_14 (by unfold A_ways; first | (rw [if_neg c_4]; done) | (rw [if_pos c_4, if_pos (by omega)]; done)) hP hS
abbrev rmX3_truest : Room := { frames := 4, cells := 0, slots := 0, locals := 87 }
set_option maxHeartbeats 4000000 in
set_option maxRecDepth 100000 in
theorem c_X3_truest (l : Launch) (D : va_G) (cI cJ cZ cO : ClassId) (sz : Nat) (h0 : Nat) (a0 : Nat) (a1 : Nat) (a2 : Nat) (a3 : Nat) (a4 : Nat) (a5 : Nat) (a6 : Nat) (σ : Int → Int) (n : Int) (h_n : -2147483648 ≤ n ∧ n < 2147483648) (hO : Ok σ) : Met l yX3_truest wsX3_truest rmX3_truest (zPc D cI cJ cZ cO [(h0, .inr (3, [.ref a0, .ref a1, .ref a2, .ref a3, .ref a4, .ref a5, .ref a6])), (a0, .inl (cI, 22, .inl (zF (σ))))] sz [.ref h0, .int (zI (n))]) (zQi D (fun (r : Int32) (_ : Unit) => r = zI (A_truest σ n)) (fun (_ : Unit) => [(h0, .inr (3, [.ref a0, .ref a1, .ref a2, .ref a3, .ref a4, .ref a5, .ref a6])), (a0, .inl (cI, 22, .inl (zF (σ))))]) [(h0, .inr (3, [.ref a0, .ref a1, .ref a2, .ref a3, .ref a4, .ref a5, .ref a6])), (a0, .inl (cI, 22, .inl (zF (σ))))] sz) 0 0 (va_A [(h0, .inr (3, [.ref a0, .ref a1, .ref a2, .ref a3, .ref a4, .ref a5, .ref a6])), (a0, .inl (cI, 22, .inl (zF (σ))))] sz) := by
  refine z_meti (by decide) rfl (Nat.le_of_ble_eq_true rfl) ?_
  intro p e s m args below meth c A Q ls hx hb hml hown hts hA hS hP hD hK hZ hl hret
  have hl : lv_has ls 4 [(0, .ref h0), (1, .int (zI (n)))] := hl
  refine lv_iload_n hx hb dX3_truest_0 rfl (lv_at hl 1 rfl) ?_
  refine z_Sir (As := [.int (zI (n))]) (rest := []) hx hb hml hown hts hA hS hP hD hK hZ hl.1 (c_X3_isNote l D cI cJ cZ cO _ (n) (by omega)) (va_cwS 1 hts gX3_truest_X3_isNote rfl rfl rfl (by decide +kernel) ⟨Nat.le_of_ble_eq_true rfl, Nat.le_of_ble_eq_true rfl⟩) [] rfl rfl rfl rfl (Nat.le_of_ble_eq_true rfl) ⟨Nat.zero_le _, Nat.zero_le _⟩ dX3_truest_1 (fun r u H locs hw hP hS => ?_)
  subst hw
  refine z_ifB_ne (P := 0 ≤ n ∧ n ≤ 36) (tgt := 10) hx hb dX3_truest_4 (by decide) (fun c_4 => ?_) (fun c_4 => ?_)
  · refine lv_bipush (v := zI (-6)) hx hb dX3_truest_10 (by decide +kernel) ?_
    refine lv_istore_n (lv' := [(2, .int (zI (-6))), (0, .ref h0), (1, .int (zI (n)))]) hx hb dX3_truest_12 rfl hl (by decide) rfl (fun ls hl => ?_)
    refine lv_iconst (v := zI (0)) hx hb dX3_truest_13 rfl ?_
    refine lv_istore_n (lv' := [(3, .int (zI (0))), (2, .int (zI (-6))), (0, .ref h0), (1, .int (zI (n)))]) hx hb dX3_truest_14 rfl hl (by decide) rfl (fun ls hl => ?_)
    have loop_a : ∀ (f_a : Nat) (k : Nat) (x : Int) (H : Heap) (locs : List Loc) (ls : Array Slot), (k ≤ 64) → (x = amn (fun w => sd σ w n) (fun w => aI (off σ w n)) k) → (64 - (k : Int) < (f_a : Int)) → va_P D vwCl [(h0, .inr (3, [.ref a0, .ref a1, .ref a2, .ref a3, .ref a4, .ref a5, .ref a6])), (a0, .inl (cI, 22, .inl (zF (σ))))] H → va_D A [(h0, .inr (3, [.ref a0, .ref a1, .ref a2, .ref a3, .ref a4, .ref a5, .ref a6])), (a0, .inl (cI, 22, .inl (zF (σ))))] → va_S A s.heap H locs → lv_has ls 4 [(0, .ref h0), (1, .int (zI (n))), (2, .int (zI (x))), (3, .int (zI ((k : Int))))] → W p l e rmX3_truest s m args below meth c H locs 0 0 Q (F0 m 15 ls []) := by
      intro f_a
      induction f_a with
      | zero =>
        intros
        exfalso; omega
      | succ f_a ih_a =>
        intro k x H locs ls e_k e_x hfu_a hP hD hS hl
        have e_b : x = -6 ∨ (0 ≤ x ∧ x < k) := by rw [e_x]; exact amn_in _ _ k
        refine lv_iload_n hx hb dX3_truest_15 rfl (lv_at hl 3 rfl) ?_
        refine lv_bipush (v := zI (64)) hx hb dX3_truest_16 (by decide +kernel) ?_
        refine z_icmp_ge (a := (k : Int)) (b := 64) (tgt := 67) hx hb (by omega) dX3_truest_18 (by decide) (fun c_18 => ?_) (fun c_18 => ?_)
        · refine lv_iload_n hx hb dX3_truest_67 rfl (lv_at hl 2 rfl) ?_
          exact hret _ _ _ _ _ () dX3_truest_68 (by unfold A_truest; rw [if_pos c_4, e_x, show k = 64 by omega]) hP hS
        · refine lv_aload_n hx hb dX3_truest_21 rfl (lv_at hl 0 rfl) ?_
          refine lv_iload_n hx hb dX3_truest_22 rfl (lv_at hl 3 rfl) ?_
          refine lv_iload_n hx hb dX3_truest_23 rfl (lv_at hl 1 rfl) ?_
          refine z_Vir (As := [.int (zI ((k : Int))), .int (zI (n))]) (rest := []) hx hb hml hown hts hA hS hP hD hK hZ hl.1 (c_X3_sounds l D cI cJ cZ cO _ (h0) (a0) (a1) (a2) (a3) (a4) (a5) (a6) (σ) ((k : Int)) (n) (by omega) (by omega) hO) (cwV 2 hts gX3_truest_X3_sounds rfl rfl rfl (by decide +kernel) ⟨Nat.le_of_ble_eq_true rfl, Nat.le_of_ble_eq_true rfl⟩) [0, 1] rfl rfl 0 3 rfl rfl rfl rfl (Nat.le_of_ble_eq_true rfl) ⟨Nat.zero_le _, Nat.zero_le _⟩ dX3_truest_24 (fun r u H locs hw hP hS => ?_)
          subst hw
          refine z_ifB_eq (P := sd σ (k : Int) n = true) (tgt := 59) hx hb dX3_truest_27 (by decide) (fun c_27 => ?_) (fun c_27 => ?_)
          · refine lv_iload_n hx hb dX3_truest_59 rfl (lv_at hl 2 rfl) ?_
            refine lv_istore_n (lv' := [(2, .int (zI (x))), (0, .ref h0), (1, .int (zI (n))), (3, .int (zI ((k : Int))))]) hx hb dX3_truest_60 rfl hl (by decide) rfl (fun ls hl => ?_)
            refine lv_iinc (v := zI ((k : Int) + 1)) (lv' := [(3, .int (zI ((k : Int) + 1))), (2, .int (zI (x))), (0, .ref h0), (1, .int (zI (n)))]) hx hb dX3_truest_61 hl (k := 3) rfl (zI_add _ _) (by decide) rfl (fun ls hl => ?_)
            refine lv_goto (tgt := 15) hx hb dX3_truest_64 (by decide) ?_
            exact ih_a (k + 1) (x) _ _ _ (by omega) (by rw [amn_s e_x]; first | (rw [if_pos ⟨c_27, Or.inl c_31⟩]; done) | (rw [if_pos ⟨c_27, Or.inr c_52⟩]; done) | (rw [if_neg (fun h => c_27 h.1)]; done) | (rw [if_neg (fun h => h.2.elim (fun g => by omega) (fun g => Int.not_lt.mpr c_52 g))]; done)) (by omega) hP hD hS (lv_sub hl [2, 3, 1, 0] rfl)
          · refine lv_iload_n hx hb dX3_truest_30 rfl (lv_at hl 2 rfl) ?_
            refine z_if_lt (a := x) (tgt := 55) hx hb (by omega) dX3_truest_31 (by decide) (fun c_31 => ?_) (fun c_31 => ?_)
            · refine lv_iload_n hx hb dX3_truest_55 rfl (lv_at hl 3 rfl) ?_
              refine lv_goto (tgt := 60) hx hb dX3_truest_56 (by decide) ?_
              refine lv_istore_n (lv' := [(2, .int (zI ((k : Int)))), (0, .ref h0), (1, .int (zI (n))), (3, .int (zI ((k : Int))))]) hx hb dX3_truest_60 rfl hl (by decide) rfl (fun ls hl => ?_)
              refine lv_iinc (v := zI ((k : Int) + 1)) (lv' := [(3, .int (zI ((k : Int) + 1))), (2, .int (zI ((k : Int)))), (0, .ref h0), (1, .int (zI (n)))]) hx hb dX3_truest_61 hl (k := 3) rfl (zI_add _ _) (by decide) rfl (fun ls hl => ?_)
              refine lv_goto (tgt := 15) hx hb dX3_truest_64 (by decide) ?_
              exact ih_a (k + 1) ((k : Int)) _ _ _ (by omega) (by rw [amn_s e_x]; first | (rw [if_pos ⟨c_27, Or.inl c_31⟩]; done) | (rw [if_pos ⟨c_27, Or.inr c_52⟩]; done) | (rw [if_neg (fun h => c_27 h.1)]; done) | (rw [if_neg (fun h => h.2.elim (fun g => by omega) (fun g => Int.not_lt.mpr c_52 g))]; done)) (by omega) hP hD hS (lv_sub hl [2, 3, 1, 0] rfl)
            · have o1 := off_in hO (w := (k : Int)) (n := n) (by omega) (by omega)
              have o2 := off_in hO (w := x) (n := n) (by omega) (by omega)
              have o3 := aI_in (a := off σ (k : Int) n) (b := 4800) (by omega)
              have o4 := aI_in (a := off σ x n) (b := 4800) (by omega)
              refine lv_aload_n hx hb dX3_truest_34 rfl (lv_at hl 0 rfl) ?_
              refine lv_iload_n hx hb dX3_truest_35 rfl (lv_at hl 3 rfl) ?_
              refine lv_iload_n hx hb dX3_truest_36 rfl (lv_at hl 1 rfl) ?_
              refine z_Vir (As := [.int (zI ((k : Int))), .int (zI (n))]) (rest := []) hx hb hml hown hts hA hS hP hD hK hZ hl.1 (c_X3_offOf l D cI cJ cZ cO _ (h0) (a0) (a1) (a2) (a3) (a4) (a5) (a6) (σ) ((k : Int)) (n) (by omega) hO) (cwV 2 hts gX3_truest_X3_offOf rfl rfl rfl (by decide +kernel) ⟨Nat.le_of_ble_eq_true rfl, Nat.le_of_ble_eq_true rfl⟩) [0, 1] rfl rfl 0 3 rfl rfl rfl rfl (Nat.le_of_ble_eq_true rfl) ⟨Nat.zero_le _, Nat.zero_le _⟩ dX3_truest_37 (fun r u H locs hw hP hS => ?_)
              subst hw
              refine z_Sir (As := [.int (zI (off σ (k : Int) n))]) (rest := []) hx hb hml hown hts hA hS hP hD hK hZ hl.1 (c_X3_size l D cI cJ cZ cO _ (off σ (k : Int) n) (by omega)) (va_cwS 1 hts gX3_truest_X3_size rfl rfl rfl (by decide +kernel) ⟨Nat.le_of_ble_eq_true rfl, Nat.le_of_ble_eq_true rfl⟩) [] rfl rfl rfl rfl (Nat.le_of_ble_eq_true rfl) ⟨Nat.zero_le _, Nat.zero_le _⟩ dX3_truest_40 (fun r u H locs hw hP hS => ?_)
              subst hw
              refine lv_aload_n hx hb dX3_truest_43 rfl (lv_at hl 0 rfl) ?_
              refine lv_iload_n hx hb dX3_truest_44 rfl (lv_at hl 2 rfl) ?_
              refine lv_iload_n hx hb dX3_truest_45 rfl (lv_at hl 1 rfl) ?_
              refine z_Vir (As := [.int (zI (x)), .int (zI (n))]) (rest := [.int (zI (aI (off σ (k : Int) n)))]) hx hb hml hown hts hA hS hP hD hK hZ hl.1 (c_X3_offOf l D cI cJ cZ cO _ (h0) (a0) (a1) (a2) (a3) (a4) (a5) (a6) (σ) (x) (n) (by omega) hO) (cwV 2 hts gX3_truest_X3_offOf rfl rfl rfl (by decide +kernel) ⟨Nat.le_of_ble_eq_true rfl, Nat.le_of_ble_eq_true rfl⟩) [0, 1] rfl rfl 0 3 rfl rfl rfl rfl (Nat.le_of_ble_eq_true rfl) ⟨Nat.zero_le _, Nat.zero_le _⟩ dX3_truest_46 (fun r u H locs hw hP hS => ?_)
              subst hw
              refine z_Sir (As := [.int (zI (off σ x n))]) (rest := [.int (zI (aI (off σ (k : Int) n)))]) hx hb hml hown hts hA hS hP hD hK hZ hl.1 (c_X3_size l D cI cJ cZ cO _ (off σ x n) (by omega)) (va_cwS 1 hts gX3_truest_X3_size rfl rfl rfl (by decide +kernel) ⟨Nat.le_of_ble_eq_true rfl, Nat.le_of_ble_eq_true rfl⟩) [] rfl rfl rfl rfl (Nat.le_of_ble_eq_true rfl) ⟨Nat.zero_le _, Nat.zero_le _⟩ dX3_truest_49 (fun r u H locs hw hP hS => ?_)
              subst hw
              refine z_icmp_ge (a := aI (off σ (k : Int) n)) (b := aI (off σ x n)) (tgt := 59) hx hb (by omega) dX3_truest_52 (by decide) (fun c_52 => ?_) (fun c_52 => ?_)
              · refine lv_iload_n hx hb dX3_truest_59 rfl (lv_at hl 2 rfl) ?_
                refine lv_istore_n (lv' := [(2, .int (zI (x))), (0, .ref h0), (1, .int (zI (n))), (3, .int (zI ((k : Int))))]) hx hb dX3_truest_60 rfl hl (by decide) rfl (fun ls hl => ?_)
                refine lv_iinc (v := zI ((k : Int) + 1)) (lv' := [(3, .int (zI ((k : Int) + 1))), (2, .int (zI (x))), (0, .ref h0), (1, .int (zI (n)))]) hx hb dX3_truest_61 hl (k := 3) rfl (zI_add _ _) (by decide) rfl (fun ls hl => ?_)
                refine lv_goto (tgt := 15) hx hb dX3_truest_64 (by decide) ?_
                exact ih_a (k + 1) (x) _ _ _ (by omega) (by rw [amn_s e_x]; first | (rw [if_pos ⟨c_27, Or.inl c_31⟩]; done) | (rw [if_pos ⟨c_27, Or.inr c_52⟩]; done) | (rw [if_neg (fun h => c_27 h.1)]; done) | (rw [if_neg (fun h => h.2.elim (fun g => by omega) (fun g => Int.not_lt.mpr c_52 g))]; done)) (by omega) hP hD hS (lv_sub hl [2, 3, 1, 0] rfl)
              · refine lv_iload_n hx hb dX3_truest_55 rfl (lv_at hl 3 rfl) ?_
                refine lv_goto (tgt := 60) hx hb dX3_truest_56 (by decide) ?_
                refine lv_istore_n (lv' := [(2, .int (zI ((k : Int)))), (0, .ref h0), (1, .int (zI (n))), (3, .int (zI ((k : Int))))]) hx hb dX3_truest_60 rfl hl (by decide) rfl (fun ls hl => ?_)
                refine lv_iinc (v := zI ((k : Int) + 1)) (lv' := [(3, .int (zI ((k : Int) + 1))), (2, .int (zI ((k : Int)))), (0, .ref h0), (1, .int (zI (n)))]) hx hb dX3_truest_61 hl (k := 3) rfl (zI_add _ _) (by decide) rfl (fun ls hl => ?_)
                refine lv_goto (tgt := 15) hx hb dX3_truest_64 (by decide) ?_
                exact ih_a (k + 1) ((k : Int)) _ _ _ (by omega) (by rw [amn_s e_x]; first | (rw [if_pos ⟨c_27, Or.inl c_31⟩]; done) | (rw [if_pos ⟨c_27, Or.inr c_52⟩]; done) | (rw [if_neg (fun h => c_27 h.1)]; done) | (rw [if_neg (fun h => h.2.elim (fun g => by omega) (fun g => Int.not_lt.mpr c_52 g))]; done)) (by omega) hP hD hS (lv_sub hl [2, 3, 1, 0] rfl)
    exact loop_a 70 (0) (-6) _ _ _ (by omega) (rfl) (by omega) hP hD hS (lv_sub hl [2, 3, 1, 0] rfl)
  · refine lv_bipush (v := zI (-2)) hx hb dX3_truest_7 (by decide +kernel) ?_
    exact hret _ _ _ _ _ () dX3_truest_9 (by unfold A_truest; first | rw [if_neg c_4]) hP hS
abbrev rmX3_range : Room := { frames := 5, cells := 0, slots := 0, locals := 110 }
set_option maxHeartbeats 4000000 in
set_option maxRecDepth 100000 in
theorem c_X3_range (l : Launch) (D : va_G) (cI cJ cZ cO : ClassId) (sz : Nat) (h0 : Nat) (a0 : Nat) (a1 : Nat) (a2 : Nat) (a3 : Nat) (a4 : Nat) (a5 : Nat) (a6 : Nat) (σ : Int → Int) (q : Int) (h_q : -2147483648 ≤ q ∧ q < 2147483648) (hO : Ok σ) : Met l yX3_range wsX3_range rmX3_range (zPc D cI cJ cZ cO [(h0, .inr (3, [.ref a0, .ref a1, .ref a2, .ref a3, .ref a4, .ref a5, .ref a6])), (a0, .inl (cI, 22, .inl (zF (σ))))] sz [.ref h0, .int (zI (q))]) (zQi D (fun (r : Int32) (_ : Unit) => r = zI (A_range σ q)) (fun (_ : Unit) => [(h0, .inr (3, [.ref a0, .ref a1, .ref a2, .ref a3, .ref a4, .ref a5, .ref a6])), (a0, .inl (cI, 22, .inl (zF (σ))))]) [(h0, .inr (3, [.ref a0, .ref a1, .ref a2, .ref a3, .ref a4, .ref a5, .ref a6])), (a0, .inl (cI, 22, .inl (zF (σ))))] sz) 0 0 (va_A [(h0, .inr (3, [.ref a0, .ref a1, .ref a2, .ref a3, .ref a4, .ref a5, .ref a6])), (a0, .inl (cI, 22, .inl (zF (σ))))] sz) := by
  refine z_meti (by decide) rfl (Nat.le_of_ble_eq_true rfl) ?_
  intro p e s m args below meth c A Q ls hx hb hml hown hts hA hS hP hD hK hZ hl hret
  have hl : lv_has ls 5 [(0, .ref h0), (1, .int (zI (q)))] := hl
  refine lv_iload_n hx hb dX3_range_0 rfl (lv_at hl 1 rfl) ?_
  refine lv_iconst (v := zI (-1)) hx hb dX3_range_1 rfl ?_
  refine lv_bipush (v := zI (64)) hx hb dX3_range_2 (by decide +kernel) ?_
  refine z_Sir (As := [.int (zI (q)), .int (zI (-1)), .int (zI (64))]) (rest := []) hx hb hml hown hts hA hS hP hD hK hZ hl.1 (c_X3_in l D cI cJ cZ cO _ (q) (-1) (64) (by omega)) (va_cwS 3 hts gX3_range_X3_in rfl rfl rfl (by decide +kernel) ⟨Nat.le_of_ble_eq_true rfl, Nat.le_of_ble_eq_true rfl⟩) [] rfl rfl rfl rfl (Nat.le_of_ble_eq_true rfl) ⟨Nat.zero_le _, Nat.zero_le _⟩ dX3_range_4 (fun r u H locs hw hP hS => ?_)
  subst hw
  refine z_ifB_ne (P := (-1) ≤ q ∧ q ≤ 64) (tgt := 13) hx hb dX3_range_7 (by decide) (fun c_7 => ?_) (fun c_7 => ?_)
  · refine lv_iconst (v := zI (0)) hx hb dX3_range_13 rfl ?_
    refine lv_istore_n (lv' := [(2, .int (zI (0))), (0, .ref h0), (1, .int (zI (q)))]) hx hb dX3_range_14 rfl hl (by decide) rfl (fun ls hl => ?_)
    refine lv_iconst (v := zI (0)) hx hb dX3_range_15 rfl ?_
    refine lv_istore_n (lv' := [(3, .int (zI (0))), (2, .int (zI (0))), (0, .ref h0), (1, .int (zI (q)))]) hx hb dX3_range_16 rfl hl (by decide) rfl (fun ls hl => ?_)
    have loop_a : ∀ (f_a : Nat) (k : Nat) (x : Int) (H : Heap) (locs : List Loc) (ls : Array Slot), (k ≤ 37) → (x = cnt (fun n => decide (if q = -1 then 0 < cnt (fun w => sd σ w n) 64 else cnt (fun w => sd σ w n) 64 = q)) k) → (37 - (k : Int) < (f_a : Int)) → va_P D vwCl [(h0, .inr (3, [.ref a0, .ref a1, .ref a2, .ref a3, .ref a4, .ref a5, .ref a6])), (a0, .inl (cI, 22, .inl (zF (σ))))] H → va_D A [(h0, .inr (3, [.ref a0, .ref a1, .ref a2, .ref a3, .ref a4, .ref a5, .ref a6])), (a0, .inl (cI, 22, .inl (zF (σ))))] → va_S A s.heap H locs → lv_has ls 5 [(0, .ref h0), (1, .int (zI (q))), (2, .int (zI (x))), (3, .int (zI ((k : Int))))] → W p l e rmX3_range s m args below meth c H locs 0 0 Q (F0 m 17 ls []) := by
      intro f_a
      induction f_a with
      | zero =>
        intros
        exfalso; omega
      | succ f_a ih_a =>
        intro k x H locs ls e_k e_x hfu_a hP hD hS hl
        have e_b := cnt_in (fun w => sd σ w (k : Int)) 64
        refine lv_iload_n hx hb dX3_range_17 rfl (lv_at hl 3 rfl) ?_
        refine lv_bipush (v := zI (37)) hx hb dX3_range_18 (by decide +kernel) ?_
        refine z_icmp_ge (a := (k : Int)) (b := 37) (tgt := 63) hx hb (by omega) dX3_range_20 (by decide) (fun c_20 => ?_) (fun c_20 => ?_)
        · refine lv_iload_n hx hb dX3_range_63 rfl (lv_at hl 2 rfl) ?_
          exact hret _ _ _ _ _ () dX3_range_64 (by unfold A_range; rw [if_pos c_7, e_x, show k = 37 by omega]) hP hS
        · refine lv_aload_n hx hb dX3_range_23 rfl (lv_at hl 0 rfl) ?_
          refine lv_iload_n hx hb dX3_range_24 rfl (lv_at hl 3 rfl) ?_
          refine z_Vir (As := [.int (zI ((k : Int)))]) (rest := []) hx hb hml hown hts hA hS hP hD hK hZ hl.1 (c_X3_waysOf l D cI cJ cZ cO _ (h0) (a0) (a1) (a2) (a3) (a4) (a5) (a6) (σ) ((k : Int)) (by omega) hO) (cwV 1 hts gX3_range_X3_waysOf rfl rfl rfl (by decide +kernel) ⟨Nat.le_of_ble_eq_true rfl, Nat.le_of_ble_eq_true rfl⟩) [0, 1] rfl rfl 0 3 rfl rfl rfl rfl (Nat.le_of_ble_eq_true rfl) ⟨Nat.zero_le _, Nat.zero_le _⟩ dX3_range_25 (fun r u H locs hw hP hS => ?_)
          subst hw
          refine lv_istore (lv' := [(4, .int (zI (cnt (fun w => sd σ w (k : Int)) 64))), (0, .ref h0), (1, .int (zI (q))), (2, .int (zI (x))), (3, .int (zI ((k : Int))))]) hx hb dX3_range_28 hl (by decide) rfl (fun ls hl => ?_)
          refine lv_iload_n hx hb dX3_range_30 rfl (lv_at hl 3 rfl) ?_
          refine lv_iload_n hx hb dX3_range_31 rfl (lv_at hl 2 rfl) ?_
          refine lv_iconst (v := zI (-1)) hx hb dX3_range_32 rfl ?_
          refine z_icmp_ne (a := q) (b := -1) (tgt := 44) hx hb (by omega) dX3_range_33 (by decide) (fun c_33 => ?_) (fun c_33 => ?_)
          · refine lv_iload hx hb dX3_range_44 (lv_at hl 0 rfl) ?_
            refine lv_iload_n hx hb dX3_range_46 rfl (lv_at hl 2 rfl) ?_
            refine z_icmp_ne (a := cnt (fun w => sd σ w (k : Int)) 64) (b := q) (tgt := 54) hx hb (by omega) dX3_range_47 (by decide) (fun c_47 => ?_) (fun c_47 => ?_)
            · refine lv_iconst (v := zI (0)) hx hb dX3_range_54 rfl ?_
              refine z_iadd (a := x) (b := 0) hx hb dX3_range_55 ?_
              refine lv_istore_n (lv' := [(2, .int (zI (x + 0))), (4, .int (zI (cnt (fun w => sd σ w (k : Int)) 64))), (0, .ref h0), (1, .int (zI (q))), (3, .int (zI ((k : Int))))]) hx hb dX3_range_56 rfl hl (by decide) rfl (fun ls hl => ?_)
              refine lv_iinc (v := zI ((k : Int) + 1)) (lv' := [(3, .int (zI ((k : Int) + 1))), (2, .int (zI (x + 0))), (4, .int (zI (cnt (fun w => sd σ w (k : Int)) 64))), (0, .ref h0), (1, .int (zI (q)))]) hx hb dX3_range_57 hl (k := 4) rfl (zI_add _ _) (by decide) rfl (fun ls hl => ?_)
              refine lv_goto (tgt := 17) hx hb dX3_range_60 (by decide) ?_
              exact ih_a (k + 1) (x + 0) _ _ _ (by omega) (by rw [cnt_s e_x]; first | (rw [if_pos (by simp only [decide_eq_true_eq]; first | (rw [if_pos c_33]; omega) | (rw [if_neg c_33]; omega))]; done) | (rw [if_neg (by simp only [decide_eq_true_eq]; first | (rw [if_pos c_33]; omega) | (rw [if_neg c_33]; omega))]; done)) (by omega) hP hD hS (lv_sub hl [3, 4, 1, 0] rfl)
            · refine lv_iconst (v := zI (1)) hx hb dX3_range_50 rfl ?_
              refine lv_goto (tgt := 55) hx hb dX3_range_51 (by decide) ?_
              refine z_iadd (a := x) (b := 1) hx hb dX3_range_55 ?_
              refine lv_istore_n (lv' := [(2, .int (zI (x + 1))), (4, .int (zI (cnt (fun w => sd σ w (k : Int)) 64))), (0, .ref h0), (1, .int (zI (q))), (3, .int (zI ((k : Int))))]) hx hb dX3_range_56 rfl hl (by decide) rfl (fun ls hl => ?_)
              refine lv_iinc (v := zI ((k : Int) + 1)) (lv' := [(3, .int (zI ((k : Int) + 1))), (2, .int (zI (x + 1))), (4, .int (zI (cnt (fun w => sd σ w (k : Int)) 64))), (0, .ref h0), (1, .int (zI (q)))]) hx hb dX3_range_57 hl (k := 4) rfl (zI_add _ _) (by decide) rfl (fun ls hl => ?_)
              refine lv_goto (tgt := 17) hx hb dX3_range_60 (by decide) ?_
              exact ih_a (k + 1) (x + 1) _ _ _ (by omega) (by rw [cnt_s e_x]; first | (rw [if_pos (by simp only [decide_eq_true_eq]; first | (rw [if_pos c_33]; omega) | (rw [if_neg c_33]; omega))]; done) | (rw [if_neg (by simp only [decide_eq_true_eq]; first | (rw [if_pos c_33]; omega) | (rw [if_neg c_33]; omega))]; done)) (by omega) hP hD hS (lv_sub hl [3, 4, 1, 0] rfl)
          · refine lv_iload hx hb dX3_range_36 (lv_at hl 0 rfl) ?_
            refine z_if_le (a := cnt (fun w => sd σ w (k : Int)) 64) (tgt := 54) hx hb (by omega) dX3_range_38 (by decide) (fun c_38 => ?_) (fun c_38 => ?_)
            · refine lv_iconst (v := zI (0)) hx hb dX3_range_54 rfl ?_
              refine z_iadd (a := x) (b := 0) hx hb dX3_range_55 ?_
              refine lv_istore_n (lv' := [(2, .int (zI (x + 0))), (4, .int (zI (cnt (fun w => sd σ w (k : Int)) 64))), (0, .ref h0), (1, .int (zI (q))), (3, .int (zI ((k : Int))))]) hx hb dX3_range_56 rfl hl (by decide) rfl (fun ls hl => ?_)
              refine lv_iinc (v := zI ((k : Int) + 1)) (lv' := [(3, .int (zI ((k : Int) + 1))), (2, .int (zI (x + 0))), (4, .int (zI (cnt (fun w => sd σ w (k : Int)) 64))), (0, .ref h0), (1, .int (zI (q)))]) hx hb dX3_range_57 hl (k := 4) rfl (zI_add _ _) (by decide) rfl (fun ls hl => ?_)
              refine lv_goto (tgt := 17) hx hb dX3_range_60 (by decide) ?_
              exact ih_a (k + 1) (x + 0) _ _ _ (by omega) (by rw [cnt_s e_x]; first | (rw [if_pos (by simp only [decide_eq_true_eq]; first | (rw [if_pos c_33]; omega) | (rw [if_neg c_33]; omega))]; done) | (rw [if_neg (by simp only [decide_eq_true_eq]; first | (rw [if_pos c_33]; omega) | (rw [if_neg c_33]; omega))]; done)) (by omega) hP hD hS (lv_sub hl [3, 4, 1, 0] rfl)
            · refine lv_goto (tgt := 50) hx hb dX3_range_41 (by decide) ?_
              refine lv_iconst (v := zI (1)) hx hb dX3_range_50 rfl ?_
              refine lv_goto (tgt := 55) hx hb dX3_range_51 (by decide) ?_
              refine z_iadd (a := x) (b := 1) hx hb dX3_range_55 ?_
              refine lv_istore_n (lv' := [(2, .int (zI (x + 1))), (4, .int (zI (cnt (fun w => sd σ w (k : Int)) 64))), (0, .ref h0), (1, .int (zI (q))), (3, .int (zI ((k : Int))))]) hx hb dX3_range_56 rfl hl (by decide) rfl (fun ls hl => ?_)
              refine lv_iinc (v := zI ((k : Int) + 1)) (lv' := [(3, .int (zI ((k : Int) + 1))), (2, .int (zI (x + 1))), (4, .int (zI (cnt (fun w => sd σ w (k : Int)) 64))), (0, .ref h0), (1, .int (zI (q)))]) hx hb dX3_range_57 hl (k := 4) rfl (zI_add _ _) (by decide) rfl (fun ls hl => ?_)
              refine lv_goto (tgt := 17) hx hb dX3_range_60 (by decide) ?_
              exact ih_a (k + 1) (x + 1) _ _ _ (by omega) (by rw [cnt_s e_x]; first | (rw [if_pos (by simp only [decide_eq_true_eq]; first | (rw [if_pos c_33]; omega) | (rw [if_neg c_33]; omega))]; done) | (rw [if_neg (by simp only [decide_eq_true_eq]; first | (rw [if_pos c_33]; omega) | (rw [if_neg c_33]; omega))]; done)) (by omega) hP hD hS (lv_sub hl [3, 4, 1, 0] rfl)
    exact loop_a 70 (0) (0) _ _ _ (by omega) (rfl) (by omega) hP hD hS (lv_sub hl [2, 3, 1, 0] rfl)
  · refine lv_bipush (v := zI (-2)) hx hb dX3_range_10 (by decide +kernel) ?_
    exact hret _ _ _ _ _ () dX3_range_12 (by unfold A_range; first | rw [if_neg c_7]) hP hS
abbrev rmX3_trillOf : Room := { frames := 4, cells := 0, slots := 0, locals := 87 }
set_option maxHeartbeats 4000000 in
set_option maxRecDepth 100000 in
theorem c_X3_trillOf (l : Launch) (D : va_G) (cI cJ cZ cO : ClassId) (sz : Nat) (h0 : Nat) (a0 : Nat) (a1 : Nat) (a2 : Nat) (a3 : Nat) (a4 : Nat) (a5 : Nat) (a6 : Nat) (σ : Int → Int) (a : Int) (b : Int) (h1 : (0 ≤ a ∧ a ≤ 36) ∧ 0 ≤ b ∧ b ≤ 36) (hO : Ok σ) : Met l yX3_trillOf wsX3_trillOf rmX3_trillOf (zPc D cI cJ cZ cO [(h0, .inr (3, [.ref a0, .ref a1, .ref a2, .ref a3, .ref a4, .ref a5, .ref a6])), (a0, .inl (cI, 22, .inl (zF (σ))))] sz [.ref h0, .int (zI (a)), .int (zI (b))]) (zQi D (fun (r : Int32) (_ : Unit) => r = zI (tro σ a b 64)) (fun (_ : Unit) => [(h0, .inr (3, [.ref a0, .ref a1, .ref a2, .ref a3, .ref a4, .ref a5, .ref a6])), (a0, .inl (cI, 22, .inl (zF (σ))))]) [(h0, .inr (3, [.ref a0, .ref a1, .ref a2, .ref a3, .ref a4, .ref a5, .ref a6])), (a0, .inl (cI, 22, .inl (zF (σ))))] sz) 0 0 (va_A [(h0, .inr (3, [.ref a0, .ref a1, .ref a2, .ref a3, .ref a4, .ref a5, .ref a6])), (a0, .inl (cI, 22, .inl (zF (σ))))] sz) := by
  refine z_meti (by decide) rfl (Nat.le_of_ble_eq_true rfl) ?_
  intro p e s m args below meth c A Q ls hx hb hml hown hts hA hS hP hD hK hZ hl hret
  have hl : lv_has ls 7 [(0, .ref h0), (1, .int (zI (a))), (2, .int (zI (b)))] := hl
  refine lv_bipush (v := zI (-6)) hx hb dX3_trillOf_0 (by decide +kernel) ?_
  refine lv_istore_n (lv' := [(3, .int (zI (-6))), (0, .ref h0), (1, .int (zI (a))), (2, .int (zI (b)))]) hx hb dX3_trillOf_2 rfl hl (by decide) rfl (fun ls hl => ?_)
  refine lv_iconst (v := zI (0)) hx hb dX3_trillOf_3 rfl ?_
  refine lv_istore (lv' := [(4, .int (zI (0))), (3, .int (zI (-6))), (0, .ref h0), (1, .int (zI (a))), (2, .int (zI (b)))]) hx hb dX3_trillOf_4 hl (by decide) rfl (fun ls hl => ?_)
  have loop_a : ∀ (f_a : Nat) (k : Nat) (x : Int) (H : Heap) (locs : List Loc) (ls : Array Slot), (k ≤ 64) → (-6 ≤ x ∧ x ≤ 126) → (x = tro σ a b k) → (64 - (k : Int) < (f_a : Int)) → va_P D vwCl [(h0, .inr (3, [.ref a0, .ref a1, .ref a2, .ref a3, .ref a4, .ref a5, .ref a6])), (a0, .inl (cI, 22, .inl (zF (σ))))] H → va_D A [(h0, .inr (3, [.ref a0, .ref a1, .ref a2, .ref a3, .ref a4, .ref a5, .ref a6])), (a0, .inl (cI, 22, .inl (zF (σ))))] → va_S A s.heap H locs → lv_has ls 7 [(0, .ref h0), (1, .int (zI (a))), (2, .int (zI (b))), (3, .int (zI (x))), (4, .int (zI ((k : Int))))] → W p l e rmX3_trillOf s m args below meth c H locs 0 0 Q (F0 m 6 ls []) := by
    intro f_a
    induction f_a with
    | zero =>
      intros
      exfalso; omega
    | succ f_a ih_a =>
      intro k x H locs ls e_k e_b e_x hfu_a hP hD hS hl
      refine lv_iload hx hb dX3_trillOf_6 (lv_at hl 4 rfl) ?_
      refine lv_bipush (v := zI (64)) hx hb dX3_trillOf_8 (by decide +kernel) ?_
      refine z_icmp_ge (a := (k : Int)) (b := 64) (tgt := 82) hx hb (by omega) dX3_trillOf_10 (by decide) (fun c_10 => ?_) (fun c_10 => ?_)
      · refine lv_iload_n hx hb dX3_trillOf_82 rfl (lv_at hl 3 rfl) ?_
        exact hret _ _ _ _ _ () dX3_trillOf_83 (by rw [e_x, show k = 64 by omega]) hP hS
      · refine lv_iconst (v := zI (0)) hx hb dX3_trillOf_13 rfl ?_
        refine lv_istore (lv' := [(5, .int (zI (0))), (0, .ref h0), (1, .int (zI (a))), (2, .int (zI (b))), (3, .int (zI (x))), (4, .int (zI ((k : Int))))]) hx hb dX3_trillOf_14 hl (by decide) rfl (fun ls hl => ?_)
        have loop_b : ∀ (f_b : Nat) (i : Nat) (y : Int) (H : Heap) (locs : List Loc) (ls : Array Slot), (i ≤ 64) → (i = 0 ∨ sd σ (k : Int) a = true) → (y = mbs (fun v => sd σ v b) (fun v => eff σ (k : Int) v) x i) → (-6 ≤ y ∧ y ≤ 126) → (64 - (i : Int) < (f_b : Int)) → va_P D vwCl [(h0, .inr (3, [.ref a0, .ref a1, .ref a2, .ref a3, .ref a4, .ref a5, .ref a6])), (a0, .inl (cI, 22, .inl (zF (σ))))] H → va_D A [(h0, .inr (3, [.ref a0, .ref a1, .ref a2, .ref a3, .ref a4, .ref a5, .ref a6])), (a0, .inl (cI, 22, .inl (zF (σ))))] → va_S A s.heap H locs → lv_has ls 7 [(0, .ref h0), (1, .int (zI (a))), (2, .int (zI (b))), (3, .int (zI (y))), (4, .int (zI ((k : Int)))), (5, .int (zI ((i : Int))))] → W p l e rmX3_trillOf s m args below meth c H locs 0 0 Q (F0 m 16 ls []) := by
          intro f_b
          induction f_b with
          | zero =>
            intros
            exfalso; omega
          | succ f_b ih_b =>
            intro i y H locs ls e_i e_j e_y e_c hfu_b hP hD hS hl
            refine lv_iload hx hb dX3_trillOf_16 (lv_at hl 5 rfl) ?_
            refine lv_bipush (v := zI (64)) hx hb dX3_trillOf_18 (by decide +kernel) ?_
            refine z_icmp_ge (a := (i : Int)) (b := 64) (tgt := 76) hx hb (by omega) dX3_trillOf_20 (by decide) (fun c_20 => ?_) (fun c_20 => ?_)
            · refine lv_iinc (v := zI ((k : Int) + 1)) (lv' := [(4, .int (zI ((k : Int) + 1))), (0, .ref h0), (1, .int (zI (a))), (2, .int (zI (b))), (3, .int (zI (y))), (5, .int (zI ((i : Int))))]) hx hb dX3_trillOf_76 hl (k := 4) rfl (zI_add _ _) (by decide) rfl (fun ls hl => ?_)
              refine lv_goto (tgt := 6) hx hb dX3_trillOf_79 (by decide) ?_
              exact ih_a (k + 1) (y) _ _ _ (by omega) (by omega) (by rw [tro_s e_x]; first | (rw [if_neg c_30, e_y, show i = 0 from e_j.resolve_right c_30]; rfl) | (rw [if_pos (e_j.resolve_left (by omega)), e_y, show i = 64 by omega]; done)) (by omega) hP hD hS (lv_sub hl [1, 2, 3, 4, 0] rfl)
            · refine lv_aload_n hx hb dX3_trillOf_23 rfl (lv_at hl 0 rfl) ?_
              refine lv_iload hx hb dX3_trillOf_24 (lv_at hl 4 rfl) ?_
              refine lv_iload_n hx hb dX3_trillOf_26 rfl (lv_at hl 1 rfl) ?_
              refine z_Vir (As := [.int (zI ((k : Int))), .int (zI (a))]) (rest := []) hx hb hml hown hts hA hS hP hD hK hZ hl.1 (c_X3_sounds l D cI cJ cZ cO _ (h0) (a0) (a1) (a2) (a3) (a4) (a5) (a6) (σ) ((k : Int)) (a) (by omega) (by omega) hO) (cwV 2 hts gX3_trillOf_X3_sounds rfl rfl rfl (by decide +kernel) ⟨Nat.le_of_ble_eq_true rfl, Nat.le_of_ble_eq_true rfl⟩) [0, 1] rfl rfl 0 3 rfl rfl rfl rfl (Nat.le_of_ble_eq_true rfl) ⟨Nat.zero_le _, Nat.zero_le _⟩ dX3_trillOf_27 (fun r u H locs hw hP hS => ?_)
              subst hw
              refine z_ifB_eq (P := sd σ (k : Int) a = true) (tgt := 76) hx hb dX3_trillOf_30 (by decide) (fun c_30 => ?_) (fun c_30 => ?_)
              · refine lv_iinc (v := zI ((k : Int) + 1)) (lv' := [(4, .int (zI ((k : Int) + 1))), (0, .ref h0), (1, .int (zI (a))), (2, .int (zI (b))), (3, .int (zI (y))), (5, .int (zI ((i : Int))))]) hx hb dX3_trillOf_76 hl (k := 4) rfl (zI_add _ _) (by decide) rfl (fun ls hl => ?_)
                refine lv_goto (tgt := 6) hx hb dX3_trillOf_79 (by decide) ?_
                exact ih_a (k + 1) (y) _ _ _ (by omega) (by omega) (by rw [tro_s e_x]; first | (rw [if_neg c_30, e_y, show i = 0 from e_j.resolve_right c_30]; rfl) | (rw [if_pos (e_j.resolve_left (by omega)), e_y, show i = 64 by omega]; done)) (by omega) hP hD hS (lv_sub hl [1, 2, 3, 4, 0] rfl)
              · refine lv_aload_n hx hb dX3_trillOf_33 rfl (lv_at hl 0 rfl) ?_
                refine lv_iload hx hb dX3_trillOf_34 (lv_at hl 5 rfl) ?_
                refine lv_iload_n hx hb dX3_trillOf_36 rfl (lv_at hl 2 rfl) ?_
                refine z_Vir (As := [.int (zI ((i : Int))), .int (zI (b))]) (rest := []) hx hb hml hown hts hA hS hP hD hK hZ hl.1 (c_X3_sounds l D cI cJ cZ cO _ (h0) (a0) (a1) (a2) (a3) (a4) (a5) (a6) (σ) ((i : Int)) (b) (by omega) (by omega) hO) (cwV 2 hts gX3_trillOf_X3_sounds rfl rfl rfl (by decide +kernel) ⟨Nat.le_of_ble_eq_true rfl, Nat.le_of_ble_eq_true rfl⟩) [0, 1] rfl rfl 0 3 rfl rfl rfl rfl (Nat.le_of_ble_eq_true rfl) ⟨Nat.zero_le _, Nat.zero_le _⟩ dX3_trillOf_37 (fun r u H locs hw hP hS => ?_)
                subst hw
                refine z_ifB_eq (P := sd σ (i : Int) b = true) (tgt := 70) hx hb dX3_trillOf_40 (by decide) (fun c_40 => ?_) (fun c_40 => ?_)
                · refine lv_iinc (v := zI ((i : Int) + 1)) (lv' := [(5, .int (zI ((i : Int) + 1))), (0, .ref h0), (1, .int (zI (a))), (2, .int (zI (b))), (3, .int (zI (y))), (4, .int (zI ((k : Int))))]) hx hb dX3_trillOf_70 hl (k := 5) rfl (zI_add _ _) (by decide) rfl (fun ls hl => ?_)
                  refine lv_goto (tgt := 16) hx hb dX3_trillOf_73 (by decide) ?_
                  exact ih_b (i + 1) (y) _ _ _ (by omega) (Or.inr c_30) (by rw [mbs_s e_y]; first | (rw [if_neg c_40]; done) | (rw [if_pos c_40, if_pos (Or.inl c_54)]; done) | (rw [if_pos c_40, if_pos (Or.inr c_60)]; done) | (rw [if_pos c_40, if_neg (fun h => h.elim (fun g => by omega) (fun g => Int.not_lt.mpr c_60 g))]; done)) (by omega) (by omega) hP hD hS (lv_sub hl [1, 2, 3, 4, 5, 0] rfl)
                · have he := eff_in hO (a := (k : Int)) (b := (i : Int)) (by omega) (by omega)
                  refine lv_aload_n hx hb dX3_trillOf_43 rfl (lv_at hl 0 rfl) ?_
                  refine lv_iload hx hb dX3_trillOf_44 (lv_at hl 4 rfl) ?_
                  refine lv_iload hx hb dX3_trillOf_46 (lv_at hl 5 rfl) ?_
                  refine z_Vir (As := [.int (zI ((k : Int))), .int (zI ((i : Int)))]) (rest := []) hx hb hml hown hts hA hS hP hD hK hZ hl.1 (c_X3_effortOf l D cI cJ cZ cO _ (h0) (a0) (a1) (a2) (a3) (a4) (a5) (a6) (σ) ((k : Int)) ((i : Int)) (by omega) hO) (cwV 2 hts gX3_trillOf_X3_effortOf rfl rfl rfl (by decide +kernel) ⟨Nat.le_of_ble_eq_true rfl, Nat.le_of_ble_eq_true rfl⟩) [0, 1] rfl rfl 0 3 rfl rfl rfl rfl (Nat.le_of_ble_eq_true rfl) ⟨Nat.zero_le _, Nat.zero_le _⟩ dX3_trillOf_48 (fun r u H locs hw hP hS => ?_)
                  subst hw
                  refine lv_istore (lv' := [(6, .int (zI (eff σ (k : Int) (i : Int)))), (0, .ref h0), (1, .int (zI (a))), (2, .int (zI (b))), (3, .int (zI (y))), (4, .int (zI ((k : Int)))), (5, .int (zI ((i : Int))))]) hx hb dX3_trillOf_51 hl (by decide) rfl (fun ls hl => ?_)
                  refine lv_iload_n hx hb dX3_trillOf_53 rfl (lv_at hl 4 rfl) ?_
                  refine z_if_lt (a := y) (tgt := 63) hx hb (by omega) dX3_trillOf_54 (by decide) (fun c_54 => ?_) (fun c_54 => ?_)
                  · refine lv_iload hx hb dX3_trillOf_63 (lv_at hl 0 rfl) ?_
                    refine lv_goto (tgt := 69) hx hb dX3_trillOf_65 (by decide) ?_
                    refine lv_istore_n (lv' := [(3, .int (zI (eff σ (k : Int) (i : Int)))), (6, .int (zI (eff σ (k : Int) (i : Int)))), (0, .ref h0), (1, .int (zI (a))), (2, .int (zI (b))), (4, .int (zI ((k : Int)))), (5, .int (zI ((i : Int))))]) hx hb dX3_trillOf_69 rfl hl (by decide) rfl (fun ls hl => ?_)
                    refine lv_iinc (v := zI ((i : Int) + 1)) (lv' := [(5, .int (zI ((i : Int) + 1))), (3, .int (zI (eff σ (k : Int) (i : Int)))), (6, .int (zI (eff σ (k : Int) (i : Int)))), (0, .ref h0), (1, .int (zI (a))), (2, .int (zI (b))), (4, .int (zI ((k : Int))))]) hx hb dX3_trillOf_70 hl (k := 6) rfl (zI_add _ _) (by decide) rfl (fun ls hl => ?_)
                    refine lv_goto (tgt := 16) hx hb dX3_trillOf_73 (by decide) ?_
                    exact ih_b (i + 1) (eff σ (k : Int) (i : Int)) _ _ _ (by omega) (Or.inr c_30) (by rw [mbs_s e_y]; first | (rw [if_neg c_40]; done) | (rw [if_pos c_40, if_pos (Or.inl c_54)]; done) | (rw [if_pos c_40, if_pos (Or.inr c_60)]; done) | (rw [if_pos c_40, if_neg (fun h => h.elim (fun g => by omega) (fun g => Int.not_lt.mpr c_60 g))]; done)) (by omega) (by omega) hP hD hS (lv_sub hl [3, 4, 5, 1, 6, 0] rfl)
                  · refine lv_iload hx hb dX3_trillOf_57 (lv_at hl 0 rfl) ?_
                    refine lv_iload_n hx hb dX3_trillOf_59 rfl (lv_at hl 4 rfl) ?_
                    refine z_icmp_ge (a := eff σ (k : Int) (i : Int)) (b := y) (tgt := 68) hx hb (by omega) dX3_trillOf_60 (by decide) (fun c_60 => ?_) (fun c_60 => ?_)
                    · refine lv_iload_n hx hb dX3_trillOf_68 rfl (lv_at hl 4 rfl) ?_
                      refine lv_istore_n (lv' := [(3, .int (zI (y))), (6, .int (zI (eff σ (k : Int) (i : Int)))), (0, .ref h0), (1, .int (zI (a))), (2, .int (zI (b))), (4, .int (zI ((k : Int)))), (5, .int (zI ((i : Int))))]) hx hb dX3_trillOf_69 rfl hl (by decide) rfl (fun ls hl => ?_)
                      refine lv_iinc (v := zI ((i : Int) + 1)) (lv' := [(5, .int (zI ((i : Int) + 1))), (3, .int (zI (y))), (6, .int (zI (eff σ (k : Int) (i : Int)))), (0, .ref h0), (1, .int (zI (a))), (2, .int (zI (b))), (4, .int (zI ((k : Int))))]) hx hb dX3_trillOf_70 hl (k := 6) rfl (zI_add _ _) (by decide) rfl (fun ls hl => ?_)
                      refine lv_goto (tgt := 16) hx hb dX3_trillOf_73 (by decide) ?_
                      exact ih_b (i + 1) (y) _ _ _ (by omega) (Or.inr c_30) (by rw [mbs_s e_y]; first | (rw [if_neg c_40]; done) | (rw [if_pos c_40, if_pos (Or.inl c_54)]; done) | (rw [if_pos c_40, if_pos (Or.inr c_60)]; done) | (rw [if_pos c_40, if_neg (fun h => h.elim (fun g => by omega) (fun g => Int.not_lt.mpr c_60 g))]; done)) (by omega) (by omega) hP hD hS (lv_sub hl [3, 4, 5, 1, 6, 0] rfl)
                    · refine lv_iload hx hb dX3_trillOf_63 (lv_at hl 0 rfl) ?_
                      refine lv_goto (tgt := 69) hx hb dX3_trillOf_65 (by decide) ?_
                      refine lv_istore_n (lv' := [(3, .int (zI (eff σ (k : Int) (i : Int)))), (6, .int (zI (eff σ (k : Int) (i : Int)))), (0, .ref h0), (1, .int (zI (a))), (2, .int (zI (b))), (4, .int (zI ((k : Int)))), (5, .int (zI ((i : Int))))]) hx hb dX3_trillOf_69 rfl hl (by decide) rfl (fun ls hl => ?_)
                      refine lv_iinc (v := zI ((i : Int) + 1)) (lv' := [(5, .int (zI ((i : Int) + 1))), (3, .int (zI (eff σ (k : Int) (i : Int)))), (6, .int (zI (eff σ (k : Int) (i : Int)))), (0, .ref h0), (1, .int (zI (a))), (2, .int (zI (b))), (4, .int (zI ((k : Int))))]) hx hb dX3_trillOf_70 hl (k := 6) rfl (zI_add _ _) (by decide) rfl (fun ls hl => ?_)
                      refine lv_goto (tgt := 16) hx hb dX3_trillOf_73 (by decide) ?_
                      exact ih_b (i + 1) (eff σ (k : Int) (i : Int)) _ _ _ (by omega) (Or.inr c_30) (by rw [mbs_s e_y]; first | (rw [if_neg c_40]; done) | (rw [if_pos c_40, if_pos (Or.inl c_54)]; done) | (rw [if_pos c_40, if_pos (Or.inr c_60)]; done) | (rw [if_pos c_40, if_neg (fun h => h.elim (fun g => by omega) (fun g => Int.not_lt.mpr c_60 g))]; done)) (by omega) (by omega) hP hD hS (lv_sub hl [3, 4, 5, 1, 6, 0] rfl)
        exact loop_b 70 (0) (x) _ _ _ (by omega) (Or.inl rfl) (rfl) (by omega) (by omega) hP hD hS (lv_sub hl [1, 2, 3, 4, 5, 0] rfl)
  exact loop_a 70 (0) (-6) _ _ _ (by omega) (by omega) (rfl) (by omega) hP hD hS (lv_sub hl [2, 3, 4, 1, 0] rfl)
abbrev rmX3_trill : Room := { frames := 5, cells := 0, slots := 0, locals := 113 }
set_option maxHeartbeats 4000000 in
set_option maxRecDepth 100000 in
theorem c_X3_trill (l : Launch) (D : va_G) (cI cJ cZ cO : ClassId) (sz : Nat) (h0 : Nat) (a0 : Nat) (a1 : Nat) (a2 : Nat) (a3 : Nat) (a4 : Nat) (a5 : Nat) (a6 : Nat) (σ : Int → Int) (a : Int) (b : Int) (h_a : -2147483648 ≤ a ∧ a < 2147483648) (h_b : -2147483648 ≤ b ∧ b < 2147483648) (hO : Ok σ) : Met l yX3_trill wsX3_trill rmX3_trill (zPc D cI cJ cZ cO [(h0, .inr (3, [.ref a0, .ref a1, .ref a2, .ref a3, .ref a4, .ref a5, .ref a6])), (a0, .inl (cI, 22, .inl (zF (σ))))] sz [.ref h0, .int (zI (a)), .int (zI (b))]) (zQi D (fun (r : Int32) (_ : Unit) => r = zI (A_trill σ a b)) (fun (_ : Unit) => [(h0, .inr (3, [.ref a0, .ref a1, .ref a2, .ref a3, .ref a4, .ref a5, .ref a6])), (a0, .inl (cI, 22, .inl (zF (σ))))]) [(h0, .inr (3, [.ref a0, .ref a1, .ref a2, .ref a3, .ref a4, .ref a5, .ref a6])), (a0, .inl (cI, 22, .inl (zF (σ))))] sz) 0 0 (va_A [(h0, .inr (3, [.ref a0, .ref a1, .ref a2, .ref a3, .ref a4, .ref a5, .ref a6])), (a0, .inl (cI, 22, .inl (zF (σ))))] sz) := by
  refine z_meti (by decide) rfl (Nat.le_of_ble_eq_true rfl) ?_
  intro p e s m args below meth c A Q ls hx hb hml hown hts hA hS hP hD hK hZ hl hret
  have hl : lv_has ls 3 [(0, .ref h0), (1, .int (zI (a))), (2, .int (zI (b)))] := hl
  refine lv_iload_n hx hb dX3_trill_0 rfl (lv_at hl 1 rfl) ?_
  refine z_Sir (As := [.int (zI (a))]) (rest := []) hx hb hml hown hts hA hS hP hD hK hZ hl.1 (c_X3_isNote l D cI cJ cZ cO _ (a) (by omega)) (va_cwS 1 hts gX3_trill_X3_isNote rfl rfl rfl (by decide +kernel) ⟨Nat.le_of_ble_eq_true rfl, Nat.le_of_ble_eq_true rfl⟩) [] rfl rfl rfl rfl (Nat.le_of_ble_eq_true rfl) ⟨Nat.zero_le _, Nat.zero_le _⟩ dX3_trill_1 (fun r u H locs hw hP hS => ?_)
  subst hw
  refine z_ifB_eq (P := 0 ≤ a ∧ a ≤ 36) (tgt := 23) hx hb dX3_trill_4 (by decide) (fun c_4 => ?_) (fun c_4 => ?_)
  · refine lv_bipush (v := zI (-2)) hx hb dX3_trill_23 (by decide +kernel) ?_
    exact hret _ _ _ _ _ () dX3_trill_25 (by unfold A_trill; first | rw [if_neg c_4] | rw [if_pos c_4, if_neg c_11] | rw [if_pos c_4, if_pos c_11]) hP hS
  · refine lv_iload_n hx hb dX3_trill_7 rfl (lv_at hl 2 rfl) ?_
    refine z_Sir (As := [.int (zI (b))]) (rest := []) hx hb hml hown hts hA hS hP hD hK hZ hl.1 (c_X3_isNote l D cI cJ cZ cO _ (b) (by omega)) (va_cwS 1 hts gX3_trill_X3_isNote rfl rfl rfl (by decide +kernel) ⟨Nat.le_of_ble_eq_true rfl, Nat.le_of_ble_eq_true rfl⟩) [] rfl rfl rfl rfl (Nat.le_of_ble_eq_true rfl) ⟨Nat.zero_le _, Nat.zero_le _⟩ dX3_trill_8 (fun r u H locs hw hP hS => ?_)
    subst hw
    refine z_ifB_eq (P := 0 ≤ b ∧ b ≤ 36) (tgt := 23) hx hb dX3_trill_11 (by decide) (fun c_11 => ?_) (fun c_11 => ?_)
    · refine lv_bipush (v := zI (-2)) hx hb dX3_trill_23 (by decide +kernel) ?_
      exact hret _ _ _ _ _ () dX3_trill_25 (by unfold A_trill; first | rw [if_neg c_4] | rw [if_pos c_4, if_neg c_11] | rw [if_pos c_4, if_pos c_11]) hP hS
    · refine lv_aload_n hx hb dX3_trill_14 rfl (lv_at hl 0 rfl) ?_
      refine lv_iload_n hx hb dX3_trill_15 rfl (lv_at hl 1 rfl) ?_
      refine lv_iload_n hx hb dX3_trill_16 rfl (lv_at hl 2 rfl) ?_
      refine z_Vir (As := [.int (zI (a)), .int (zI (b))]) (rest := []) hx hb hml hown hts hA hS hP hD hK hZ hl.1 (c_X3_trillOf l D cI cJ cZ cO _ (h0) (a0) (a1) (a2) (a3) (a4) (a5) (a6) (σ) (a) (b) (by omega) hO) (cwV 2 hts gX3_trill_X3_trillOf rfl rfl rfl (by decide +kernel) ⟨Nat.le_of_ble_eq_true rfl, Nat.le_of_ble_eq_true rfl⟩) [0, 1] rfl rfl 0 3 rfl rfl rfl rfl (Nat.le_of_ble_eq_true rfl) ⟨Nat.zero_le _, Nat.zero_le _⟩ dX3_trill_17 (fun r u H locs hw hP hS => ?_)
      subst hw
      refine lv_goto (tgt := 25) hx hb dX3_trill_20 (by decide) ?_
      exact hret _ _ _ _ _ () dX3_trill_25 (by unfold A_trill; first | rw [if_neg c_4] | rw [if_pos c_4, if_neg c_11] | rw [if_pos c_4, if_pos c_11]) hP hS
abbrev rmX3_awkward : Room := { frames := 5, cells := 0, slots := 0, locals := 113 }
set_option maxHeartbeats 4000000 in
set_option maxRecDepth 100000 in
theorem c_X3_awkward (l : Launch) (D : va_G) (cI cJ cZ cO : ClassId) (sz : Nat) (h0 : Nat) (a0 : Nat) (a1 : Nat) (a2 : Nat) (a3 : Nat) (a4 : Nat) (a5 : Nat) (a6 : Nat) (σ : Int → Int) (d : Int) (t : Int) (h_d : -2147483648 ≤ d ∧ d < 2147483648) (h_t : -2147483648 ≤ t ∧ t < 2147483648) (hO : Ok σ) : Met l yX3_awkward wsX3_awkward rmX3_awkward (zPc D cI cJ cZ cO [(h0, .inr (3, [.ref a0, .ref a1, .ref a2, .ref a3, .ref a4, .ref a5, .ref a6])), (a0, .inl (cI, 22, .inl (zF (σ))))] sz [.ref h0, .int (zI (d)), .int (zI (t))]) (zQi D (fun (r : Int32) (_ : Unit) => r = zI (A_awk σ d t)) (fun (_ : Unit) => [(h0, .inr (3, [.ref a0, .ref a1, .ref a2, .ref a3, .ref a4, .ref a5, .ref a6])), (a0, .inl (cI, 22, .inl (zF (σ))))]) [(h0, .inr (3, [.ref a0, .ref a1, .ref a2, .ref a3, .ref a4, .ref a5, .ref a6])), (a0, .inl (cI, 22, .inl (zF (σ))))] sz) 0 0 (va_A [(h0, .inr (3, [.ref a0, .ref a1, .ref a2, .ref a3, .ref a4, .ref a5, .ref a6])), (a0, .inl (cI, 22, .inl (zF (σ))))] sz) := by
  refine z_meti (by decide) rfl (Nat.le_of_ble_eq_true rfl) ?_
  intro p e s m args below meth c A Q ls hx hb hml hown hts hA hS hP hD hK hZ hl hret
  have hl : lv_has ls 5 [(0, .ref h0), (1, .int (zI (d))), (2, .int (zI (t)))] := hl
  refine lv_iload_n hx hb dX3_awkward_0 rfl (lv_at hl 1 rfl) ?_
  refine lv_iconst (v := zI (1)) hx hb dX3_awkward_1 rfl ?_
  refine lv_bipush (v := zI (12)) hx hb dX3_awkward_2 (by decide +kernel) ?_
  refine z_Sir (As := [.int (zI (d)), .int (zI (1)), .int (zI (12))]) (rest := []) hx hb hml hown hts hA hS hP hD hK hZ hl.1 (c_X3_in l D cI cJ cZ cO _ (d) (1) (12) (by omega)) (va_cwS 3 hts gX3_awkward_X3_in rfl rfl rfl (by decide +kernel) ⟨Nat.le_of_ble_eq_true rfl, Nat.le_of_ble_eq_true rfl⟩) [] rfl rfl rfl rfl (Nat.le_of_ble_eq_true rfl) ⟨Nat.zero_le _, Nat.zero_le _⟩ dX3_awkward_4 (fun r u H locs hw hP hS => ?_)
  subst hw
  refine z_ifB_eq (P := 1 ≤ d ∧ d ≤ 12) (tgt := 20) hx hb dX3_awkward_7 (by decide) (fun c_7 => ?_) (fun c_7 => ?_)
  · refine lv_bipush (v := zI (-2)) hx hb dX3_awkward_20 (by decide +kernel) ?_
    exact hret _ _ _ _ _ () dX3_awkward_22 (by unfold A_awk; first | rw [if_neg c_7] | rw [if_pos c_7, if_neg c_17]) hP hS
  · refine lv_iload_n hx hb dX3_awkward_10 rfl (lv_at hl 2 rfl) ?_
    refine lv_iconst (v := zI (0)) hx hb dX3_awkward_11 rfl ?_
    refine lv_bipush (v := zI (99)) hx hb dX3_awkward_12 (by decide +kernel) ?_
    refine z_Sir (As := [.int (zI (t)), .int (zI (0)), .int (zI (99))]) (rest := []) hx hb hml hown hts hA hS hP hD hK hZ hl.1 (c_X3_in l D cI cJ cZ cO _ (t) (0) (99) (by omega)) (va_cwS 3 hts gX3_awkward_X3_in rfl rfl rfl (by decide +kernel) ⟨Nat.le_of_ble_eq_true rfl, Nat.le_of_ble_eq_true rfl⟩) [] rfl rfl rfl rfl (Nat.le_of_ble_eq_true rfl) ⟨Nat.zero_le _, Nat.zero_le _⟩ dX3_awkward_14 (fun r u H locs hw hP hS => ?_)
    subst hw
    refine z_ifB_ne (P := 0 ≤ t ∧ t ≤ 99) (tgt := 23) hx hb dX3_awkward_17 (by decide) (fun c_17 => ?_) (fun c_17 => ?_)
    · refine lv_iconst (v := zI (0)) hx hb dX3_awkward_23 rfl ?_
      refine lv_istore_n (lv' := [(3, .int (zI (0))), (0, .ref h0), (1, .int (zI (d))), (2, .int (zI (t)))]) hx hb dX3_awkward_24 rfl hl (by decide) rfl (fun ls hl => ?_)
      refine lv_iconst (v := zI (0)) hx hb dX3_awkward_25 rfl ?_
      refine lv_istore (lv' := [(4, .int (zI (0))), (3, .int (zI (0))), (0, .ref h0), (1, .int (zI (d))), (2, .int (zI (t)))]) hx hb dX3_awkward_26 hl (by decide) rfl (fun ls hl => ?_)
      have loop_a : ∀ (f_a : Nat) (k : Nat) (x : Int) (H : Heap) (locs : List Loc) (ls : Array Slot), ((k : Int) ≤ 37 - d) → (x = cnt (fun n => decide (t < tro σ n (n + d) 64)) k) → (37 - (k : Int) < (f_a : Int)) → va_P D vwCl [(h0, .inr (3, [.ref a0, .ref a1, .ref a2, .ref a3, .ref a4, .ref a5, .ref a6])), (a0, .inl (cI, 22, .inl (zF (σ))))] H → va_D A [(h0, .inr (3, [.ref a0, .ref a1, .ref a2, .ref a3, .ref a4, .ref a5, .ref a6])), (a0, .inl (cI, 22, .inl (zF (σ))))] → va_S A s.heap H locs → lv_has ls 5 [(0, .ref h0), (1, .int (zI (d))), (2, .int (zI (t))), (3, .int (zI (x))), (4, .int (zI ((k : Int))))] → W p l e rmX3_awkward s m args below meth c H locs 0 0 Q (F0 m 28 ls []) := by
        intro f_a
        induction f_a with
        | zero =>
          intros
          exfalso; omega
        | succ f_a ih_a =>
          intro k x H locs ls e_k e_x hfu_a hP hD hS hl
          have e_b := tro_in hO (k : Int) ((k : Int) + d) 64 (by omega)
          refine lv_iload hx hb dX3_awkward_28 (lv_at hl 4 rfl) ?_
          refine lv_iload_n hx hb dX3_awkward_30 rfl (lv_at hl 1 rfl) ?_
          refine z_iadd (a := (k : Int)) (b := d) hx hb dX3_awkward_31 ?_
          refine lv_bipush (v := zI (37)) hx hb dX3_awkward_32 (by decide +kernel) ?_
          refine z_icmp_ge (a := (k : Int) + d) (b := 37) (tgt := 65) hx hb (by omega) dX3_awkward_34 (by decide) (fun c_34 => ?_) (fun c_34 => ?_)
          · refine lv_iload_n hx hb dX3_awkward_65 rfl (lv_at hl 3 rfl) ?_
            exact hret _ _ _ _ _ () dX3_awkward_66 (by unfold A_awk; rw [if_pos c_7, if_pos c_17, e_x, show k = (37 - d).toNat by omega]) hP hS
          · refine lv_iload_n hx hb dX3_awkward_37 rfl (lv_at hl 3 rfl) ?_
            refine lv_aload_n hx hb dX3_awkward_38 rfl (lv_at hl 0 rfl) ?_
            refine lv_iload hx hb dX3_awkward_39 (lv_at hl 4 rfl) ?_
            refine lv_iload hx hb dX3_awkward_41 (lv_at hl 4 rfl) ?_
            refine lv_iload_n hx hb dX3_awkward_43 rfl (lv_at hl 1 rfl) ?_
            refine z_iadd (a := (k : Int)) (b := d) hx hb dX3_awkward_44 ?_
            refine z_Vir (As := [.int (zI ((k : Int))), .int (zI ((k : Int) + d))]) (rest := [.int (zI (x))]) hx hb hml hown hts hA hS hP hD hK hZ hl.1 (c_X3_trillOf l D cI cJ cZ cO _ (h0) (a0) (a1) (a2) (a3) (a4) (a5) (a6) (σ) ((k : Int)) ((k : Int) + d) (by omega) hO) (cwV 2 hts gX3_awkward_X3_trillOf rfl rfl rfl (by decide +kernel) ⟨Nat.le_of_ble_eq_true rfl, Nat.le_of_ble_eq_true rfl⟩) [0, 1] rfl rfl 0 3 rfl rfl rfl rfl (Nat.le_of_ble_eq_true rfl) ⟨Nat.zero_le _, Nat.zero_le _⟩ dX3_awkward_45 (fun r u H locs hw hP hS => ?_)
            subst hw
            refine lv_iload_n hx hb dX3_awkward_48 rfl (lv_at hl 2 rfl) ?_
            refine z_icmp_le (a := tro σ (k : Int) ((k : Int) + d) 64) (b := t) (tgt := 56) hx hb (by omega) dX3_awkward_49 (by decide) (fun c_49 => ?_) (fun c_49 => ?_)
            · refine lv_iconst (v := zI (0)) hx hb dX3_awkward_56 rfl ?_
              refine z_iadd (a := x) (b := 0) hx hb dX3_awkward_57 ?_
              refine lv_istore_n (lv' := [(3, .int (zI (x + 0))), (0, .ref h0), (1, .int (zI (d))), (2, .int (zI (t))), (4, .int (zI ((k : Int))))]) hx hb dX3_awkward_58 rfl hl (by decide) rfl (fun ls hl => ?_)
              refine lv_iinc (v := zI ((k : Int) + 1)) (lv' := [(4, .int (zI ((k : Int) + 1))), (3, .int (zI (x + 0))), (0, .ref h0), (1, .int (zI (d))), (2, .int (zI (t)))]) hx hb dX3_awkward_59 hl (k := 4) rfl (zI_add _ _) (by decide) rfl (fun ls hl => ?_)
              refine lv_goto (tgt := 28) hx hb dX3_awkward_62 (by decide) ?_
              exact ih_a (k + 1) (x + 0) _ _ _ (by omega) (by rw [cnt_s e_x]; first | (rw [if_pos (decide_eq_true c_49)]; done) | (rw [if_neg (by rw [decide_eq_true_eq]; omega)]; done)) (by omega) hP hD hS (lv_sub hl [2, 3, 4, 1, 0] rfl)
            · refine lv_iconst (v := zI (1)) hx hb dX3_awkward_52 rfl ?_
              refine lv_goto (tgt := 57) hx hb dX3_awkward_53 (by decide) ?_
              refine z_iadd (a := x) (b := 1) hx hb dX3_awkward_57 ?_
              refine lv_istore_n (lv' := [(3, .int (zI (x + 1))), (0, .ref h0), (1, .int (zI (d))), (2, .int (zI (t))), (4, .int (zI ((k : Int))))]) hx hb dX3_awkward_58 rfl hl (by decide) rfl (fun ls hl => ?_)
              refine lv_iinc (v := zI ((k : Int) + 1)) (lv' := [(4, .int (zI ((k : Int) + 1))), (3, .int (zI (x + 1))), (0, .ref h0), (1, .int (zI (d))), (2, .int (zI (t)))]) hx hb dX3_awkward_59 hl (k := 4) rfl (zI_add _ _) (by decide) rfl (fun ls hl => ?_)
              refine lv_goto (tgt := 28) hx hb dX3_awkward_62 (by decide) ?_
              exact ih_a (k + 1) (x + 1) _ _ _ (by omega) (by rw [cnt_s e_x]; first | (rw [if_pos (decide_eq_true c_49)]; done) | (rw [if_neg (by rw [decide_eq_true_eq]; omega)]; done)) (by omega) hP hD hS (lv_sub hl [2, 3, 4, 1, 0] rfl)
      exact loop_a 70 (0) (0) _ _ _ (by omega) (rfl) (by omega) hP hD hS (lv_sub hl [2, 3, 4, 1, 0] rfl)
    · refine lv_bipush (v := zI (-2)) hx hb dX3_awkward_20 (by decide +kernel) ?_
      exact hret _ _ _ _ _ () dX3_awkward_22 (by unfold A_awk; first | rw [if_neg c_7] | rw [if_pos c_7, if_neg c_17]) hP hS
abbrev rmX3_offOfPart : Room := { frames := 3, cells := 0, slots := 0, locals := 65 }
theorem in_X3_offOfPart_X3 : ∀ w ∈ wsX30, w ∈ wsX3_offOfPart := fun _ h => List.mem_cons_of_mem _ (List.mem_append_right _ h)
theorem m_X3_offOfPart_0 : (.fieldLink RX3 7 "BrassWaysModel" "state" "[I" : Cond) ∈ wsX3_offOfPart := List.mem_of_getElem? (i := 1) rfl
set_option maxHeartbeats 4000000 in
set_option maxRecDepth 100000 in
theorem c_X3_offOfPart (l : Launch) (D : va_G) (cI cJ cZ cO : ClassId) (sz : Nat) (h0 : Nat) (a0 : Nat) (a1 : Nat) (a2 : Nat) (a3 : Nat) (a4 : Nat) (a5 : Nat) (a6 : Nat) (σ : Int → Int) (hO : Ok σ) : Met l yX3_offOfPart wsX3_offOfPart rmX3_offOfPart (zPc D cI cJ cZ cO [(h0, .inr (3, [.ref a0, .ref a1, .ref a2, .ref a3, .ref a4, .ref a5, .ref a6])), (a0, .inl (cI, 22, .inl (zF (σ))))] sz [.ref h0]) (zQi D (fun (r : Int32) (_ : Unit) => r = zI (A_ofp σ)) (fun (_ : Unit) => [(h0, .inr (3, [.ref a0, .ref a1, .ref a2, .ref a3, .ref a4, .ref a5, .ref a6])), (a0, .inl (cI, 22, .inl (zF (σ))))]) [(h0, .inr (3, [.ref a0, .ref a1, .ref a2, .ref a3, .ref a4, .ref a5, .ref a6])), (a0, .inl (cI, 22, .inl (zF (σ))))] sz) 0 0 (va_A [(h0, .inr (3, [.ref a0, .ref a1, .ref a2, .ref a3, .ref a4, .ref a5, .ref a6])), (a0, .inl (cI, 22, .inl (zF (σ))))] sz) := by
  refine z_meti (by decide) rfl (Nat.le_of_ble_eq_true rfl) ?_
  intro p e s m args below meth c A Q ls hx hb hml hown hts hA hS hP hD hK hZ hl hret
  have hl : lv_has ls 6 [(0, .ref h0)] := hl
  have o9 := hO.2.2.2.2.2.2.2.2.2.1
  refine lv_iconst (v := zI (0)) hx hb dX3_offOfPart_0 rfl ?_
  refine lv_istore_n (lv' := [(1, .int (zI (0))), (0, .ref h0)]) hx hb dX3_offOfPart_1 rfl hl (by decide) rfl (fun ls hl => ?_)
  refine lv_iconst (v := zI (0)) hx hb dX3_offOfPart_2 rfl ?_
  refine lv_istore_n (lv' := [(2, .int (zI (0))), (1, .int (zI (0))), (0, .ref h0)]) hx hb dX3_offOfPart_3 rfl hl (by decide) rfl (fun ls hl => ?_)
  have loop_a : ∀ (f_a : Nat) (k : Nat) (x : Int) (H : Heap) (locs : List Loc) (ls : Array Slot), ((k : Int) ≤ σ 9) → (-6 * (k : Int) ≤ x ∧ x ≤ 4800 * (k : Int)) → (x = ofp σ k) → (12 - (k : Int) < (f_a : Int)) → va_P D vwCl [(h0, .inr (3, [.ref a0, .ref a1, .ref a2, .ref a3, .ref a4, .ref a5, .ref a6])), (a0, .inl (cI, 22, .inl (zF (σ))))] H → va_D A [(h0, .inr (3, [.ref a0, .ref a1, .ref a2, .ref a3, .ref a4, .ref a5, .ref a6])), (a0, .inl (cI, 22, .inl (zF (σ))))] → va_S A s.heap H locs → lv_has ls 6 [(0, .ref h0), (1, .int (zI (x))), (2, .int (zI ((k : Int))))] → W p l e rmX3_offOfPart s m args below meth c H locs 0 0 Q (F0 m 4 ls []) := by
    intro f_a
    induction f_a with
    | zero =>
      intros
      exfalso; omega
    | succ f_a ih_a =>
      intro k x H locs ls e_k e_b e_x hfu_a hP hD hS hl
      refine lv_iload_n hx hb dX3_offOfPart_4 rfl (lv_at hl 2 rfl) ?_
      refine lv_aload_n hx hb dX3_offOfPart_5 rfl (lv_at hl 0 rfl) ?_
      refine va_get (D := D) (ci := 3) (v := .ref a0) (C := RX3) (T := TX3) (N := 7) hx hb hts in_X3_offOfPart_X3 hown hK hP 0 rfl rfl 0 (by decide) (hts _ m_X3_offOfPart_0) (fun _ h9 => h9) rfl dX3_offOfPart_6 ?_
      refine lv_bipush (v := zI (9)) hx hb dX3_offOfPart_9 (by decide +kernel) ?_
      refine z_iald (k := 9) (g := σ) hx hb hK hP 1 0 rfl rfl (by omega) dX3_offOfPart_11 ?_
      try dsimp only
      refine z_icmp_ge (a := (k : Int)) (b := σ 9) (tgt := 81) hx hb (by omega) dX3_offOfPart_12 (by decide) (fun c_12 => ?_) (fun c_12 => ?_)
      · refine lv_iload_n hx hb dX3_offOfPart_81 rfl (lv_at hl 1 rfl) ?_
        exact hret _ _ _ _ _ () dX3_offOfPart_82 (by unfold A_ofp; rw [e_x, show k = (σ 9).toNat by omega]) hP hS
      · have o10 := hO.2.2.2.2.2.2.2.2.2.2 (k : Int) (by omega) (by omega)
        refine lv_bipush (v := zI (-6)) hx hb dX3_offOfPart_15 (by decide +kernel) ?_
        refine lv_istore_n (lv' := [(3, .int (zI (-6))), (0, .ref h0), (1, .int (zI (x))), (2, .int (zI ((k : Int))))]) hx hb dX3_offOfPart_17 rfl hl (by decide) rfl (fun ls hl => ?_)
        refine lv_iconst (v := zI (0)) hx hb dX3_offOfPart_18 rfl ?_
        refine lv_istore (lv' := [(4, .int (zI (0))), (3, .int (zI (-6))), (0, .ref h0), (1, .int (zI (x))), (2, .int (zI ((k : Int))))]) hx hb dX3_offOfPart_19 hl (by decide) rfl (fun ls hl => ?_)
        have loop_b : ∀ (f_b : Nat) (i : Nat) (y : Int) (H : Heap) (locs : List Loc) (ls : Array Slot), (i ≤ 64) → (y = mbs (fun _ => true) (fun w => aI (off σ w (σ (10 + (k : Int))))) (-6) i) → (-6 ≤ y ∧ y ≤ 4800) → (64 - (i : Int) < (f_b : Int)) → va_P D vwCl [(h0, .inr (3, [.ref a0, .ref a1, .ref a2, .ref a3, .ref a4, .ref a5, .ref a6])), (a0, .inl (cI, 22, .inl (zF (σ))))] H → va_D A [(h0, .inr (3, [.ref a0, .ref a1, .ref a2, .ref a3, .ref a4, .ref a5, .ref a6])), (a0, .inl (cI, 22, .inl (zF (σ))))] → va_S A s.heap H locs → lv_has ls 6 [(0, .ref h0), (1, .int (zI (x))), (2, .int (zI ((k : Int)))), (3, .int (zI (y))), (4, .int (zI ((i : Int))))] → W p l e rmX3_offOfPart s m args below meth c H locs 0 0 Q (F0 m 21 ls []) := by
          intro f_b
          induction f_b with
          | zero =>
            intros
            exfalso; omega
          | succ f_b ih_b =>
            intro i y H locs ls e_i e_y e_c hfu_b hP hD hS hl
            refine lv_iload hx hb dX3_offOfPart_21 (lv_at hl 4 rfl) ?_
            refine lv_bipush (v := zI (64)) hx hb dX3_offOfPart_23 (by decide +kernel) ?_
            refine z_icmp_ge (a := (i : Int)) (b := 64) (tgt := 71) hx hb (by omega) dX3_offOfPart_25 (by decide) (fun c_25 => ?_) (fun c_25 => ?_)
            · refine lv_iload_n hx hb dX3_offOfPart_71 rfl (lv_at hl 1 rfl) ?_
              refine lv_iload_n hx hb dX3_offOfPart_72 rfl (lv_at hl 3 rfl) ?_
              refine z_iadd (a := x) (b := y) hx hb dX3_offOfPart_73 ?_
              refine lv_istore_n (lv' := [(1, .int (zI (x + y))), (0, .ref h0), (2, .int (zI ((k : Int)))), (3, .int (zI (y))), (4, .int (zI ((i : Int))))]) hx hb dX3_offOfPart_74 rfl hl (by decide) rfl (fun ls hl => ?_)
              refine lv_iinc (v := zI ((k : Int) + 1)) (lv' := [(2, .int (zI ((k : Int) + 1))), (1, .int (zI (x + y))), (0, .ref h0), (3, .int (zI (y))), (4, .int (zI ((i : Int))))]) hx hb dX3_offOfPart_75 hl (k := 2) rfl (zI_add _ _) (by decide) rfl (fun ls hl => ?_)
              refine lv_goto (tgt := 4) hx hb dX3_offOfPart_78 (by decide) ?_
              exact ih_a (k + 1) (x + y) _ _ _ (by omega) (by omega) (by rw [ofp_s e_x, e_y, show i = 64 by omega]; rfl) (by omega) hP hD hS (lv_sub hl [2, 1, 0] rfl)
            · have o1 := off_in hO (w := (i : Int)) (n := σ (10 + (k : Int))) (by omega) o10
              have o3 := aI_in (a := off σ (i : Int) (σ (10 + (k : Int)))) (b := 4800) (by omega)
              refine lv_aload_n hx hb dX3_offOfPart_28 rfl (lv_at hl 0 rfl) ?_
              refine lv_iload hx hb dX3_offOfPart_29 (lv_at hl 4 rfl) ?_
              refine lv_aload_n hx hb dX3_offOfPart_31 rfl (lv_at hl 0 rfl) ?_
              refine va_get (D := D) (ci := 3) (v := .ref a0) (C := RX3) (T := TX3) (N := 7) hx hb hts in_X3_offOfPart_X3 hown hK hP 0 rfl rfl 0 (by decide) (hts _ m_X3_offOfPart_0) (fun _ h9 => h9) rfl dX3_offOfPart_32 ?_
              refine lv_bipush (v := zI (10)) hx hb dX3_offOfPart_35 (by decide +kernel) ?_
              refine lv_iload_n hx hb dX3_offOfPart_37 rfl (lv_at hl 2 rfl) ?_
              refine z_iadd (a := 10) (b := (k : Int)) hx hb dX3_offOfPart_38 ?_
              refine z_iald (k := 10 + (k : Int)) (g := σ) hx hb hK hP 1 0 rfl rfl (by omega) dX3_offOfPart_39 ?_
              try dsimp only
              refine z_Vir (As := [.int (zI ((i : Int))), .int (zI (σ (10 + (k : Int))))]) (rest := []) hx hb hml hown hts hA hS hP hD hK hZ hl.1 (c_X3_offOf l D cI cJ cZ cO _ (h0) (a0) (a1) (a2) (a3) (a4) (a5) (a6) (σ) ((i : Int)) (σ (10 + (k : Int))) (by omega) hO) (cwV 2 hts gX3_offOfPart_X3_offOf rfl rfl rfl (by decide +kernel) ⟨Nat.le_of_ble_eq_true rfl, Nat.le_of_ble_eq_true rfl⟩) [0, 1] rfl rfl 0 3 rfl rfl rfl rfl (Nat.le_of_ble_eq_true rfl) ⟨Nat.zero_le _, Nat.zero_le _⟩ dX3_offOfPart_40 (fun r u H locs hw hP hS => ?_)
              subst hw
              refine z_Sir (As := [.int (zI (off σ (i : Int) (σ (10 + (k : Int)))))]) (rest := []) hx hb hml hown hts hA hS hP hD hK hZ hl.1 (c_X3_size l D cI cJ cZ cO _ (off σ (i : Int) (σ (10 + (k : Int)))) (by omega)) (va_cwS 1 hts gX3_offOfPart_X3_size rfl rfl rfl (by decide +kernel) ⟨Nat.le_of_ble_eq_true rfl, Nat.le_of_ble_eq_true rfl⟩) [] rfl rfl rfl rfl (Nat.le_of_ble_eq_true rfl) ⟨Nat.zero_le _, Nat.zero_le _⟩ dX3_offOfPart_43 (fun r u H locs hw hP hS => ?_)
              subst hw
              refine lv_istore (lv' := [(5, .int (zI (aI (off σ (i : Int) (σ (10 + (k : Int))))))), (0, .ref h0), (1, .int (zI (x))), (2, .int (zI ((k : Int)))), (3, .int (zI (y))), (4, .int (zI ((i : Int))))]) hx hb dX3_offOfPart_46 hl (by decide) rfl (fun ls hl => ?_)
              refine lv_iload_n hx hb dX3_offOfPart_48 rfl (lv_at hl 4 rfl) ?_
              refine z_if_lt (a := y) (tgt := 58) hx hb (by omega) dX3_offOfPart_49 (by decide) (fun c_49 => ?_) (fun c_49 => ?_)
              · refine lv_iload hx hb dX3_offOfPart_58 (lv_at hl 0 rfl) ?_
                refine lv_goto (tgt := 64) hx hb dX3_offOfPart_60 (by decide) ?_
                refine lv_istore_n (lv' := [(3, .int (zI (aI (off σ (i : Int) (σ (10 + (k : Int))))))), (5, .int (zI (aI (off σ (i : Int) (σ (10 + (k : Int))))))), (0, .ref h0), (1, .int (zI (x))), (2, .int (zI ((k : Int)))), (4, .int (zI ((i : Int))))]) hx hb dX3_offOfPart_64 rfl hl (by decide) rfl (fun ls hl => ?_)
                refine lv_iinc (v := zI ((i : Int) + 1)) (lv' := [(4, .int (zI ((i : Int) + 1))), (3, .int (zI (aI (off σ (i : Int) (σ (10 + (k : Int))))))), (5, .int (zI (aI (off σ (i : Int) (σ (10 + (k : Int))))))), (0, .ref h0), (1, .int (zI (x))), (2, .int (zI ((k : Int))))]) hx hb dX3_offOfPart_65 hl (k := 5) rfl (zI_add _ _) (by decide) rfl (fun ls hl => ?_)
                refine lv_goto (tgt := 21) hx hb dX3_offOfPart_68 (by decide) ?_
                exact ih_b (i + 1) (aI (off σ (i : Int) (σ (10 + (k : Int))))) _ _ _ (by omega) (by rw [mbs_s e_y, if_pos rfl]; first | (rw [if_pos (Or.inl c_49)]; done) | (rw [if_pos (Or.inr c_55)]; done) | (rw [if_neg (fun h => h.elim (fun g => by omega) (fun g => Int.not_lt.mpr c_55 g))]; done)) (by omega) (by omega) hP hD hS (lv_sub hl [3, 4, 5, 1, 0] rfl)
              · refine lv_iload hx hb dX3_offOfPart_52 (lv_at hl 0 rfl) ?_
                refine lv_iload_n hx hb dX3_offOfPart_54 rfl (lv_at hl 4 rfl) ?_
                refine z_icmp_ge (a := aI (off σ (i : Int) (σ (10 + (k : Int))))) (b := y) (tgt := 63) hx hb (by omega) dX3_offOfPart_55 (by decide) (fun c_55 => ?_) (fun c_55 => ?_)
                · refine lv_iload_n hx hb dX3_offOfPart_63 rfl (lv_at hl 4 rfl) ?_
                  refine lv_istore_n (lv' := [(3, .int (zI (y))), (5, .int (zI (aI (off σ (i : Int) (σ (10 + (k : Int))))))), (0, .ref h0), (1, .int (zI (x))), (2, .int (zI ((k : Int)))), (4, .int (zI ((i : Int))))]) hx hb dX3_offOfPart_64 rfl hl (by decide) rfl (fun ls hl => ?_)
                  refine lv_iinc (v := zI ((i : Int) + 1)) (lv' := [(4, .int (zI ((i : Int) + 1))), (3, .int (zI (y))), (5, .int (zI (aI (off σ (i : Int) (σ (10 + (k : Int))))))), (0, .ref h0), (1, .int (zI (x))), (2, .int (zI ((k : Int))))]) hx hb dX3_offOfPart_65 hl (k := 5) rfl (zI_add _ _) (by decide) rfl (fun ls hl => ?_)
                  refine lv_goto (tgt := 21) hx hb dX3_offOfPart_68 (by decide) ?_
                  exact ih_b (i + 1) (y) _ _ _ (by omega) (by rw [mbs_s e_y, if_pos rfl]; first | (rw [if_pos (Or.inl c_49)]; done) | (rw [if_pos (Or.inr c_55)]; done) | (rw [if_neg (fun h => h.elim (fun g => by omega) (fun g => Int.not_lt.mpr c_55 g))]; done)) (by omega) (by omega) hP hD hS (lv_sub hl [3, 4, 5, 1, 0] rfl)
                · refine lv_iload hx hb dX3_offOfPart_58 (lv_at hl 0 rfl) ?_
                  refine lv_goto (tgt := 64) hx hb dX3_offOfPart_60 (by decide) ?_
                  refine lv_istore_n (lv' := [(3, .int (zI (aI (off σ (i : Int) (σ (10 + (k : Int))))))), (5, .int (zI (aI (off σ (i : Int) (σ (10 + (k : Int))))))), (0, .ref h0), (1, .int (zI (x))), (2, .int (zI ((k : Int)))), (4, .int (zI ((i : Int))))]) hx hb dX3_offOfPart_64 rfl hl (by decide) rfl (fun ls hl => ?_)
                  refine lv_iinc (v := zI ((i : Int) + 1)) (lv' := [(4, .int (zI ((i : Int) + 1))), (3, .int (zI (aI (off σ (i : Int) (σ (10 + (k : Int))))))), (5, .int (zI (aI (off σ (i : Int) (σ (10 + (k : Int))))))), (0, .ref h0), (1, .int (zI (x))), (2, .int (zI ((k : Int))))]) hx hb dX3_offOfPart_65 hl (k := 5) rfl (zI_add _ _) (by decide) rfl (fun ls hl => ?_)
                  refine lv_goto (tgt := 21) hx hb dX3_offOfPart_68 (by decide) ?_
                  exact ih_b (i + 1) (aI (off σ (i : Int) (σ (10 + (k : Int))))) _ _ _ (by omega) (by rw [mbs_s e_y, if_pos rfl]; first | (rw [if_pos (Or.inl c_49)]; done) | (rw [if_pos (Or.inr c_55)]; done) | (rw [if_neg (fun h => h.elim (fun g => by omega) (fun g => Int.not_lt.mpr c_55 g))]; done)) (by omega) (by omega) hP hD hS (lv_sub hl [3, 4, 5, 1, 0] rfl)
        exact loop_b 70 (0) (-6) _ _ _ (by omega) (rfl) (by omega) (by omega) hP hD hS (lv_sub hl [2, 3, 4, 1, 0] rfl)
  exact loop_a 70 (0) (0) _ _ _ (by omega) (by omega) (rfl) (by omega) hP hD hS (lv_sub hl [2, 1, 0] rfl)
abbrev rmX3_tune : Room := { frames := 4, cells := 0, slots := 0, locals := 90 }
theorem in_X3_tune_X3 : ∀ w ∈ wsX30, w ∈ wsX3_tune := fun _ h => List.mem_cons_of_mem _ (List.mem_append_right _ h)
theorem m_X3_tune_0 : (.fieldLink RX3 7 "BrassWaysModel" "state" "[I" : Cond) ∈ wsX3_tune := List.mem_of_getElem? (i := 1) rfl
set_option maxHeartbeats 4000000 in
set_option maxRecDepth 100000 in
theorem c_X3_tune (l : Launch) (D : va_G) (cI cJ cZ cO : ClassId) (sz : Nat) (h0 : Nat) (a0 : Nat) (a1 : Nat) (a2 : Nat) (a3 : Nat) (a4 : Nat) (a5 : Nat) (a6 : Nat) (σ : Int → Int) (q : Int) (v : Int) (h_q : -2147483648 ≤ q ∧ q < 2147483648) (h_v : -2147483648 ≤ v ∧ v < 2147483648) (hO : Ok σ) : Met l yX3_tune wsX3_tune rmX3_tune (zPc D cI cJ cZ cO [(h0, .inr (3, [.ref a0, .ref a1, .ref a2, .ref a3, .ref a4, .ref a5, .ref a6])), (a0, .inl (cI, 22, .inl (zF (σ))))] sz [.ref h0, .int (zI (q)), .int (zI (v))]) (zQi D (fun (r : Int32) (_ : Unit) => r = zI (A_tune σ q v)) (fun (_ : Unit) => [(h0, .inr (3, [.ref a0, .ref a1, .ref a2, .ref a3, .ref a4, .ref a5, .ref a6])), (a0, .inl (cI, 22, .inl (zF (σ))))]) [(h0, .inr (3, [.ref a0, .ref a1, .ref a2, .ref a3, .ref a4, .ref a5, .ref a6])), (a0, .inl (cI, 22, .inl (zF (σ))))] sz) 0 0 (va_A [(h0, .inr (3, [.ref a0, .ref a1, .ref a2, .ref a3, .ref a4, .ref a5, .ref a6])), (a0, .inl (cI, 22, .inl (zF (σ))))] sz) := by
  refine z_meti (by decide) rfl (Nat.le_of_ble_eq_true rfl) ?_
  intro p e s m args below meth c A Q ls hx hb hml hown hts hA hS hP hD hK hZ hl hret
  have hl : lv_has ls 8 [(0, .ref h0), (1, .int (zI (q))), (2, .int (zI (v)))] := hl
  have o0 := hO.1
  refine lv_iload_n hx hb dX3_tune_0 rfl (lv_at hl 1 rfl) ?_
  refine lv_iconst (v := zI (0)) hx hb dX3_tune_1 rfl ?_
  refine lv_iconst (v := zI (2)) hx hb dX3_tune_2 rfl ?_
  refine z_Sir (As := [.int (zI (q)), .int (zI (0)), .int (zI (2))]) (rest := []) hx hb hml hown hts hA hS hP hD hK hZ hl.1 (c_X3_in l D cI cJ cZ cO _ (q) (0) (2) (by omega)) (va_cwS 3 hts gX3_tune_X3_in rfl rfl rfl (by decide +kernel) ⟨Nat.le_of_ble_eq_true rfl, Nat.le_of_ble_eq_true rfl⟩) [] rfl rfl rfl rfl (Nat.le_of_ble_eq_true rfl) ⟨Nat.zero_le _, Nat.zero_le _⟩ dX3_tune_3 (fun r u H locs hw hP hS => ?_)
  subst hw
  refine z_ifB_ne (P := 0 ≤ q ∧ q ≤ 2) (tgt := 11) hx hb dX3_tune_6 (by decide) (fun c_6 => ?_) (fun c_6 => ?_)
  · refine lv_iload_n hx hb dX3_tune_11 rfl (lv_at hl 2 rfl) ?_
    refine lv_iconst (v := zI (0)) hx hb dX3_tune_12 rfl ?_
    refine lv_iconst (v := zI (1)) hx hb dX3_tune_13 rfl ?_
    refine z_Sir (As := [.int (zI (v)), .int (zI (0)), .int (zI (1))]) (rest := []) hx hb hml hown hts hA hS hP hD hK hZ hl.1 (c_X3_in l D cI cJ cZ cO _ (v) (0) (1) (by omega)) (va_cwS 3 hts gX3_tune_X3_in rfl rfl rfl (by decide +kernel) ⟨Nat.le_of_ble_eq_true rfl, Nat.le_of_ble_eq_true rfl⟩) [] rfl rfl rfl rfl (Nat.le_of_ble_eq_true rfl) ⟨Nat.zero_le _, Nat.zero_le _⟩ dX3_tune_14 (fun r u H locs hw hP hS => ?_)
    subst hw
    refine z_ifB_ne (P := 0 ≤ v ∧ v ≤ 1) (tgt := 23) hx hb dX3_tune_17 (by decide) (fun c_17 => ?_) (fun c_17 => ?_)
    · refine lv_aload_n hx hb dX3_tune_23 rfl (lv_at hl 0 rfl) ?_
      refine va_get (D := D) (ci := 3) (v := .ref a0) (C := RX3) (T := TX3) (N := 7) hx hb hts in_X3_tune_X3 hown hK hP 0 rfl rfl 0 (by decide) (hts _ m_X3_tune_0) (fun _ h9 => h9) rfl dX3_tune_24 ?_
      refine lv_iconst (v := zI (0)) hx hb dX3_tune_27 rfl ?_
      refine z_iald (k := 0) (g := σ) hx hb hK hP 1 0 rfl rfl (by omega) dX3_tune_28 ?_
      try dsimp only
      refine lv_iconst (v := zI (1)) hx hb dX3_tune_29 rfl ?_
      refine z_icmp_ne (a := σ 0) (b := 1) (tgt := 36) hx hb (by omega) dX3_tune_30 (by decide) (fun c_30 => ?_) (fun c_30 => ?_)
      · refine lv_aload_n hx hb dX3_tune_36 rfl (lv_at hl 0 rfl) ?_
        refine va_get (D := D) (ci := 3) (v := .ref a0) (C := RX3) (T := TX3) (N := 7) hx hb hts in_X3_tune_X3 hown hK hP 0 rfl rfl 0 (by decide) (hts _ m_X3_tune_0) (fun _ h9 => h9) rfl dX3_tune_37 ?_
        refine lv_iconst (v := zI (1)) hx hb dX3_tune_40 rfl ?_
        refine lv_iload_n hx hb dX3_tune_41 rfl (lv_at hl 1 rfl) ?_
        refine z_iadd (a := 1) (b := q) hx hb dX3_tune_42 ?_
        refine z_iald (k := 1 + q) (g := σ) hx hb hK hP 1 0 rfl rfl (by omega) dX3_tune_43 ?_
        try dsimp only
        refine lv_istore_n (lv' := [(3, .int (zI (σ (1 + q)))), (0, .ref h0), (1, .int (zI (q))), (2, .int (zI (v)))]) hx hb dX3_tune_44 rfl hl (by decide) rfl (fun ls hl => ?_)
        refine lv_bipush (v := zI (-6)) hx hb dX3_tune_45 (by decide +kernel) ?_
        refine lv_istore (lv' := [(4, .int (zI (-6))), (3, .int (zI (σ (1 + q)))), (0, .ref h0), (1, .int (zI (q))), (2, .int (zI (v)))]) hx hb dX3_tune_47 hl (by decide) rfl (fun ls hl => ?_)
        refine lv_iconst (v := zI (0)) hx hb dX3_tune_49 rfl ?_
        refine lv_istore (lv' := [(5, .int (zI (0))), (4, .int (zI (-6))), (3, .int (zI (σ (1 + q)))), (0, .ref h0), (1, .int (zI (q))), (2, .int (zI (v)))]) hx hb dX3_tune_50 hl (by decide) rfl (fun ls hl => ?_)
        refine lv_iconst (v := zI (0)) hx hb dX3_tune_52 rfl ?_
        refine lv_istore (lv' := [(6, .int (zI (0))), (5, .int (zI (0))), (4, .int (zI (-6))), (3, .int (zI (σ (1 + q)))), (0, .ref h0), (1, .int (zI (q))), (2, .int (zI (v)))]) hx hb dX3_tune_53 hl (by decide) rfl (fun ls hl => ?_)
        have loop_a : ∀ (f_a : Nat) (k : Nat) (z : Int) (b : Int) (t : Int) (g : Int → Int) (H : Heap) (locs : List Loc) (ls : Array Slot), (k ≤ 81) → (z = 5 * (k : Int)) → (-6 ≤ b ∧ b ≤ 400) → (-72 ≤ t ∧ t ≤ 57600) → ((b, t) = tuB (tuF σ q) k) → (∀ z : Int, upI g (1 + q) z = upI σ (1 + q) z) → (82 - (k : Int) < (f_a : Int)) → va_P D vwCl [(h0, .inr (3, [.ref a0, .ref a1, .ref a2, .ref a3, .ref a4, .ref a5, .ref a6])), (a0, .inl (cI, 22, .inl (zF (g))))] H → va_D A [(h0, .inr (3, [.ref a0, .ref a1, .ref a2, .ref a3, .ref a4, .ref a5, .ref a6])), (a0, .inl (cI, 22, .inl (zF (g))))] → va_S A s.heap H locs → lv_has ls 8 [(0, .ref h0), (1, .int (zI (q))), (2, .int (zI (v))), (3, .int (zI (σ (1 + q)))), (4, .int (zI (b))), (5, .int (zI (t))), (6, .int (zI (z)))] → W p l e rmX3_tune s m args below meth c H locs 0 0 Q (F0 m 55 ls []) := by
          intro f_a
          induction f_a with
          | zero =>
            intros
            exfalso; omega
          | succ f_a ih_a =>
            intro k z b t g H locs ls e_k e_z e_b e_t e_p e_g hfu_a hP hD hS hl
            refine lv_iload hx hb dX3_tune_55 (lv_at hl 6 rfl) ?_
            refine lv_sipush (v := zI (400)) hx hb dX3_tune_57 (by decide +kernel) ?_
            refine z_icmp_gt (a := z) (b := 400) (tgt := 105) hx hb (by omega) dX3_tune_60 (by decide) (fun c_60 => ?_) (fun c_60 => ?_)
            · refine lv_aload_n hx hb dX3_tune_105 rfl (lv_at hl 0 rfl) ?_
              refine va_get (D := D) (ci := 3) (v := .ref a0) (C := RX3) (T := TX3) (N := 7) hx hb hts in_X3_tune_X3 hown hK hP 0 rfl rfl 0 (by decide) (hts _ m_X3_tune_0) (fun _ h9 => h9) rfl dX3_tune_106 ?_
              refine lv_iconst (v := zI (1)) hx hb dX3_tune_109 rfl ?_
              refine lv_iload_n hx hb dX3_tune_110 rfl (lv_at hl 1 rfl) ?_
              refine z_iadd (a := 1) (b := q) hx hb dX3_tune_111 ?_
              refine lv_iload_n hx hb dX3_tune_112 rfl (lv_at hl 3 rfl) ?_
              refine z_iast (k := 1 + q) (x := σ (1 + q)) (g := g) hx hb hK hP hD hS 1 0 rfl rfl (by omega) dX3_tune_113 (fun H locs hP hD hS => ?_)
              have hP : va_P D vwCl [(h0, .inr (3, [.ref a0, .ref a1, .ref a2, .ref a3, .ref a4, .ref a5, .ref a6])), (a0, .inl (cI, 22, .inl (zF (upI g (1 + q) (σ (1 + q))))))] H := hP
              have hD : va_D A [(h0, .inr (3, [.ref a0, .ref a1, .ref a2, .ref a3, .ref a4, .ref a5, .ref a6])), (a0, .inl (cI, 22, .inl (zF (upI g (1 + q) (σ (1 + q))))))] := hD
              have e0 : (upI g (1 + q) (σ (1 + q))) = (σ) := (by rw [e_g, upI_self])
              rw [e0] at hP hD
              refine lv_iload_n hx hb dX3_tune_114 rfl (lv_at hl 2 rfl) ?_
              refine z_if_ne (a := v) (tgt := 123) hx hb (by omega) dX3_tune_115 (by decide) (fun c_115 => ?_) (fun c_115 => ?_)
              · refine lv_iload hx hb dX3_tune_123 (lv_at hl 5 rfl) ?_
                exact hret _ _ _ _ _ () dX3_tune_125 (by rw [show k = 81 by omega] at e_p; unfold A_tune; rw [if_pos c_6, if_pos c_17, if_neg c_30, ← e_p]; first | (rw [if_pos c_115]; done) | (rw [if_neg c_115]; done)) hP hS
              · refine lv_iload hx hb dX3_tune_118 (lv_at hl 4 rfl) ?_
                refine lv_goto (tgt := 125) hx hb dX3_tune_120 (by decide) ?_
                exact hret _ _ _ _ _ () dX3_tune_125 (by rw [show k = 81 by omega] at e_p; unfold A_tune; rw [if_pos c_6, if_pos c_17, if_neg c_30, ← e_p]; first | (rw [if_pos c_115]; done) | (rw [if_neg c_115]; done)) hP hS
            · refine lv_aload_n hx hb dX3_tune_63 rfl (lv_at hl 0 rfl) ?_
              refine va_get (D := D) (ci := 3) (v := .ref a0) (C := RX3) (T := TX3) (N := 7) hx hb hts in_X3_tune_X3 hown hK hP 0 rfl rfl 0 (by decide) (hts _ m_X3_tune_0) (fun _ h9 => h9) rfl dX3_tune_64 ?_
              refine lv_iconst (v := zI (1)) hx hb dX3_tune_67 rfl ?_
              refine lv_iload_n hx hb dX3_tune_68 rfl (lv_at hl 1 rfl) ?_
              refine z_iadd (a := 1) (b := q) hx hb dX3_tune_69 ?_
              refine lv_iload hx hb dX3_tune_70 (lv_at hl 6 rfl) ?_
              refine z_iast (k := 1 + q) (x := z) (g := g) hx hb hK hP hD hS 1 0 rfl rfl (by omega) dX3_tune_72 (fun H locs hP hD hS => ?_)
              have hP : va_P D vwCl [(h0, .inr (3, [.ref a0, .ref a1, .ref a2, .ref a3, .ref a4, .ref a5, .ref a6])), (a0, .inl (cI, 22, .inl (zF (upI g (1 + q) z))))] H := hP
              have hD : va_D A [(h0, .inr (3, [.ref a0, .ref a1, .ref a2, .ref a3, .ref a4, .ref a5, .ref a6])), (a0, .inl (cI, 22, .inl (zF (upI g (1 + q) z))))] := hD
              have e0 : (upI g (1 + q) z) = (upI σ (1 + q) z) := (e_g z)
              rw [e0] at hP hD
              have hO2 := Ok_valve hO c_6 (v := z) (by omega)
              have e_o := A_ofp_in hO2
              refine lv_aload_n hx hb dX3_tune_73 rfl (lv_at hl 0 rfl) ?_
              refine z_Vir (As := []) (rest := []) hx hb hml hown hts hA hS hP hD hK hZ hl.1 (c_X3_offOfPart l D cI cJ cZ cO _ (h0) (a0) (a1) (a2) (a3) (a4) (a5) (a6) (upI σ (1 + q) z) hO2) (cwV 0 hts gX3_tune_X3_offOfPart rfl rfl rfl (by decide +kernel) ⟨Nat.le_of_ble_eq_true rfl, Nat.le_of_ble_eq_true rfl⟩) [0, 1] rfl rfl 0 3 rfl rfl rfl rfl (Nat.le_of_ble_eq_true rfl) ⟨Nat.zero_le _, Nat.zero_le _⟩ dX3_tune_74 (fun r u H locs hw hP hS => ?_)
              subst hw
              refine lv_istore (lv' := [(7, .int (zI (A_ofp (upI σ (1 + q) z)))), (0, .ref h0), (1, .int (zI (q))), (2, .int (zI (v))), (3, .int (zI (σ (1 + q)))), (4, .int (zI (b))), (5, .int (zI (t))), (6, .int (zI (z)))]) hx hb dX3_tune_77 hl (by decide) rfl (fun ls hl => ?_)
              refine lv_iload hx hb dX3_tune_79 (lv_at hl 5 rfl) ?_
              refine z_if_lt (a := b) (tgt := 91) hx hb (by omega) dX3_tune_81 (by decide) (fun c_81 => ?_) (fun c_81 => ?_)
              · refine lv_iload hx hb dX3_tune_91 (lv_at hl 7 rfl) ?_
                refine lv_istore (lv' := [(4, .int (zI (z))), (7, .int (zI (A_ofp (upI σ (1 + q) z)))), (0, .ref h0), (1, .int (zI (q))), (2, .int (zI (v))), (3, .int (zI (σ (1 + q)))), (5, .int (zI (t))), (6, .int (zI (z)))]) hx hb dX3_tune_93 hl (by decide) rfl (fun ls hl => ?_)
                refine lv_iload hx hb dX3_tune_95 (lv_at hl 1 rfl) ?_
                refine lv_istore (lv' := [(5, .int (zI (A_ofp (upI σ (1 + q) z)))), (4, .int (zI (z))), (7, .int (zI (A_ofp (upI σ (1 + q) z)))), (0, .ref h0), (1, .int (zI (q))), (2, .int (zI (v))), (3, .int (zI (σ (1 + q)))), (6, .int (zI (z)))]) hx hb dX3_tune_97 hl (by decide) rfl (fun ls hl => ?_)
                refine lv_iinc (v := zI (z + 5)) (lv' := [(6, .int (zI (z + 5))), (5, .int (zI (A_ofp (upI σ (1 + q) z)))), (4, .int (zI (z))), (7, .int (zI (A_ofp (upI σ (1 + q) z)))), (0, .ref h0), (1, .int (zI (q))), (2, .int (zI (v))), (3, .int (zI (σ (1 + q))))]) hx hb dX3_tune_99 hl (k := 7) rfl (zI_add _ _) (by decide) rfl (fun ls hl => ?_)
                refine lv_goto (tgt := 55) hx hb dX3_tune_102 (by decide) ?_
                exact ih_a (k + 1) (z + 5) (z) (A_ofp (upI σ (1 + q) z)) (upI σ (1 + q) z) _ _ _ (by omega) (by omega) (by omega) (by omega) (by rw [tuB_s e_p, ← e_z]; first | (rw [if_pos (Or.inl c_81)]; done) | (rw [if_pos (Or.inr c_88)]; done) | (rw [if_neg (fun h => h.elim (fun g => by omega) (fun g => Int.not_lt.mpr c_88 g))]; done)) (fun z => upI_uu _ _ _ _) (by omega) hP hD hS (lv_sub hl [4, 5, 6, 7, 2, 1, 0] rfl)
              · refine lv_iload hx hb dX3_tune_84 (lv_at hl 0 rfl) ?_
                refine lv_iload hx hb dX3_tune_86 (lv_at hl 6 rfl) ?_
                refine z_icmp_ge (a := A_ofp (upI σ (1 + q) z)) (b := t) (tgt := 99) hx hb (by omega) dX3_tune_88 (by decide) (fun c_88 => ?_) (fun c_88 => ?_)
                · refine lv_iinc (v := zI (z + 5)) (lv' := [(6, .int (zI (z + 5))), (7, .int (zI (A_ofp (upI σ (1 + q) z)))), (0, .ref h0), (1, .int (zI (q))), (2, .int (zI (v))), (3, .int (zI (σ (1 + q)))), (4, .int (zI (b))), (5, .int (zI (t)))]) hx hb dX3_tune_99 hl (k := 7) rfl (zI_add _ _) (by decide) rfl (fun ls hl => ?_)
                  refine lv_goto (tgt := 55) hx hb dX3_tune_102 (by decide) ?_
                  exact ih_a (k + 1) (z + 5) (b) (t) (upI σ (1 + q) z) _ _ _ (by omega) (by omega) (by omega) (by omega) (by rw [tuB_s e_p, ← e_z]; first | (rw [if_pos (Or.inl c_81)]; done) | (rw [if_pos (Or.inr c_88)]; done) | (rw [if_neg (fun h => h.elim (fun g => by omega) (fun g => Int.not_lt.mpr c_88 g))]; done)) (fun z => upI_uu _ _ _ _) (by omega) hP hD hS (lv_sub hl [2, 3, 4, 5, 6, 7, 0] rfl)
                · refine lv_iload hx hb dX3_tune_91 (lv_at hl 7 rfl) ?_
                  refine lv_istore (lv' := [(4, .int (zI (z))), (7, .int (zI (A_ofp (upI σ (1 + q) z)))), (0, .ref h0), (1, .int (zI (q))), (2, .int (zI (v))), (3, .int (zI (σ (1 + q)))), (5, .int (zI (t))), (6, .int (zI (z)))]) hx hb dX3_tune_93 hl (by decide) rfl (fun ls hl => ?_)
                  refine lv_iload hx hb dX3_tune_95 (lv_at hl 1 rfl) ?_
                  refine lv_istore (lv' := [(5, .int (zI (A_ofp (upI σ (1 + q) z)))), (4, .int (zI (z))), (7, .int (zI (A_ofp (upI σ (1 + q) z)))), (0, .ref h0), (1, .int (zI (q))), (2, .int (zI (v))), (3, .int (zI (σ (1 + q)))), (6, .int (zI (z)))]) hx hb dX3_tune_97 hl (by decide) rfl (fun ls hl => ?_)
                  refine lv_iinc (v := zI (z + 5)) (lv' := [(6, .int (zI (z + 5))), (5, .int (zI (A_ofp (upI σ (1 + q) z)))), (4, .int (zI (z))), (7, .int (zI (A_ofp (upI σ (1 + q) z)))), (0, .ref h0), (1, .int (zI (q))), (2, .int (zI (v))), (3, .int (zI (σ (1 + q))))]) hx hb dX3_tune_99 hl (k := 7) rfl (zI_add _ _) (by decide) rfl (fun ls hl => ?_)
                  refine lv_goto (tgt := 55) hx hb dX3_tune_102 (by decide) ?_
                  exact ih_a (k + 1) (z + 5) (z) (A_ofp (upI σ (1 + q) z)) (upI σ (1 + q) z) _ _ _ (by omega) (by omega) (by omega) (by omega) (by rw [tuB_s e_p, ← e_z]; first | (rw [if_pos (Or.inl c_81)]; done) | (rw [if_pos (Or.inr c_88)]; done) | (rw [if_neg (fun h => h.elim (fun g => by omega) (fun g => Int.not_lt.mpr c_88 g))]; done)) (fun z => upI_uu _ _ _ _) (by omega) hP hD hS (lv_sub hl [4, 5, 6, 7, 2, 1, 0] rfl)
        exact loop_a 90 (0) (0) (-6) (0) (σ) _ _ _ (by omega) (by omega) (by omega) (by omega) (rfl) (fun _ => rfl) (by omega) hP hD hS (lv_sub hl [4, 5, 6, 3, 2, 1, 0] rfl)
      · refine lv_bipush (v := zI (-3)) hx hb dX3_tune_33 (by decide +kernel) ?_
        exact hret _ _ _ _ _ () dX3_tune_35 (by unfold A_tune; first | rw [if_pos c_6, if_pos c_17, if_pos c_30]) hP hS
    · refine lv_bipush (v := zI (-2)) hx hb dX3_tune_20 (by decide +kernel) ?_
      exact hret _ _ _ _ _ () dX3_tune_22 (by unfold A_tune; first | rw [if_pos c_6, if_neg c_17]) hP hS
  · refine lv_iconst (v := zI (-1)) hx hb dX3_tune_9 rfl ?_
    exact hret _ _ _ _ _ () dX3_tune_10 (by unfold A_tune; first | rw [if_neg c_6]) hP hS
abbrev rmX3_dumb : Room := { frames := 5, cells := 0, slots := 0, locals := 110 }
theorem in_X3_dumb_X3 : ∀ w ∈ wsX30, w ∈ wsX3_dumb := fun _ h => List.mem_cons_of_mem _ (List.mem_append_right _ h)
theorem m_X3_dumb_0 : (.fieldLink RX3 7 "BrassWaysModel" "state" "[I" : Cond) ∈ wsX3_dumb := List.mem_of_getElem? (i := 1) rfl
set_option maxHeartbeats 4000000 in
set_option maxRecDepth 100000 in
theorem c_X3_dumb (l : Launch) (D : va_G) (cI cJ cZ cO : ClassId) (sz : Nat) (h0 : Nat) (a0 : Nat) (a1 : Nat) (a2 : Nat) (a3 : Nat) (a4 : Nat) (a5 : Nat) (a6 : Nat) (σ : Int → Int) (hO : Ok σ) : Met l yX3_dumb wsX3_dumb rmX3_dumb (zPc D cI cJ cZ cO [(h0, .inr (3, [.ref a0, .ref a1, .ref a2, .ref a3, .ref a4, .ref a5, .ref a6])), (a0, .inl (cI, 22, .inl (zF (σ))))] sz [.ref h0]) (zQi D (fun (r : Int32) (_ : Unit) => r = zI (A_dumb σ)) (fun (_ : Unit) => [(h0, .inr (3, [.ref a0, .ref a1, .ref a2, .ref a3, .ref a4, .ref a5, .ref a6])), (a0, .inl (cI, 22, .inl (zF (σ))))]) [(h0, .inr (3, [.ref a0, .ref a1, .ref a2, .ref a3, .ref a4, .ref a5, .ref a6])), (a0, .inl (cI, 22, .inl (zF (σ))))] sz) 0 0 (va_A [(h0, .inr (3, [.ref a0, .ref a1, .ref a2, .ref a3, .ref a4, .ref a5, .ref a6])), (a0, .inl (cI, 22, .inl (zF (σ))))] sz) := by
  refine z_meti (by decide) rfl (Nat.le_of_ble_eq_true rfl) ?_
  intro p e s m args below meth c A Q ls hx hb hml hown hts hA hS hP hD hK hZ hl hret
  have hl : lv_has ls 2 [(0, .ref h0)] := hl
  have o9 := hO.2.2.2.2.2.2.2.2.2.1
  refine lv_iconst (v := zI (0)) hx hb dX3_dumb_0 rfl ?_
  refine lv_istore_n (lv' := [(1, .int (zI (0))), (0, .ref h0)]) hx hb dX3_dumb_1 rfl hl (by decide) rfl (fun ls hl => ?_)
  have loop_a : ∀ (f_a : Nat) (k : Nat) (H : Heap) (locs : List Loc) (ls : Array Slot), ((k : Int) ≤ σ 9) → (fnd (fun p => decide (cnt (fun w => sd σ w (σ (10 + p))) 64 = 0)) k = -6) → (12 - (k : Int) < (f_a : Int)) → va_P D vwCl [(h0, .inr (3, [.ref a0, .ref a1, .ref a2, .ref a3, .ref a4, .ref a5, .ref a6])), (a0, .inl (cI, 22, .inl (zF (σ))))] H → va_D A [(h0, .inr (3, [.ref a0, .ref a1, .ref a2, .ref a3, .ref a4, .ref a5, .ref a6])), (a0, .inl (cI, 22, .inl (zF (σ))))] → va_S A s.heap H locs → lv_has ls 2 [(0, .ref h0), (1, .int (zI ((k : Int))))] → W p l e rmX3_dumb s m args below meth c H locs 0 0 Q (F0 m 2 ls []) := by
    intro f_a
    induction f_a with
    | zero =>
      intros
      exfalso; omega
    | succ f_a ih_a =>
      intro k H locs ls e_k e_f hfu_a hP hD hS hl
      refine lv_iload_n hx hb dX3_dumb_2 rfl (lv_at hl 1 rfl) ?_
      refine lv_aload_n hx hb dX3_dumb_3 rfl (lv_at hl 0 rfl) ?_
      refine va_get (D := D) (ci := 3) (v := .ref a0) (C := RX3) (T := TX3) (N := 7) hx hb hts in_X3_dumb_X3 hown hK hP 0 rfl rfl 0 (by decide) (hts _ m_X3_dumb_0) (fun _ h9 => h9) rfl dX3_dumb_4 ?_
      refine lv_bipush (v := zI (9)) hx hb dX3_dumb_7 (by decide +kernel) ?_
      refine z_iald (k := 9) (g := σ) hx hb hK hP 1 0 rfl rfl (by omega) dX3_dumb_9 ?_
      try dsimp only
      refine z_icmp_ge (a := (k : Int)) (b := σ 9) (tgt := 37) hx hb (by omega) dX3_dumb_10 (by decide) (fun c_10 => ?_) (fun c_10 => ?_)
      · refine lv_bipush (v := zI (-6)) hx hb dX3_dumb_37 (by decide +kernel) ?_
        exact hret _ _ _ _ _ () dX3_dumb_39 (by unfold A_dumb; rw [show k = (σ 9).toNat by omega] at e_f; rw [e_f]) hP hS
      · have o10 := hO.2.2.2.2.2.2.2.2.2.2 (k : Int) (by omega) (by omega)
        have e_b := cnt_in (fun w => sd σ w (σ (10 + (k : Int)))) 64
        refine lv_aload_n hx hb dX3_dumb_13 rfl (lv_at hl 0 rfl) ?_
        refine lv_aload_n hx hb dX3_dumb_14 rfl (lv_at hl 0 rfl) ?_
        refine va_get (D := D) (ci := 3) (v := .ref a0) (C := RX3) (T := TX3) (N := 7) hx hb hts in_X3_dumb_X3 hown hK hP 0 rfl rfl 0 (by decide) (hts _ m_X3_dumb_0) (fun _ h9 => h9) rfl dX3_dumb_15 ?_
        refine lv_bipush (v := zI (10)) hx hb dX3_dumb_18 (by decide +kernel) ?_
        refine lv_iload_n hx hb dX3_dumb_20 rfl (lv_at hl 1 rfl) ?_
        refine z_iadd (a := 10) (b := (k : Int)) hx hb dX3_dumb_21 ?_
        refine z_iald (k := 10 + (k : Int)) (g := σ) hx hb hK hP 1 0 rfl rfl (by omega) dX3_dumb_22 ?_
        try dsimp only
        refine z_Vir (As := [.int (zI (σ (10 + (k : Int))))]) (rest := []) hx hb hml hown hts hA hS hP hD hK hZ hl.1 (c_X3_waysOf l D cI cJ cZ cO _ (h0) (a0) (a1) (a2) (a3) (a4) (a5) (a6) (σ) (σ (10 + (k : Int))) (by omega) hO) (cwV 1 hts gX3_dumb_X3_waysOf rfl rfl rfl (by decide +kernel) ⟨Nat.le_of_ble_eq_true rfl, Nat.le_of_ble_eq_true rfl⟩) [0, 1] rfl rfl 0 3 rfl rfl rfl rfl (Nat.le_of_ble_eq_true rfl) ⟨Nat.zero_le _, Nat.zero_le _⟩ dX3_dumb_23 (fun r u H locs hw hP hS => ?_)
        subst hw
        refine z_if_ne (a := cnt (fun w => sd σ w (σ (10 + (k : Int)))) 64) (tgt := 31) hx hb (by omega) dX3_dumb_26 (by decide) (fun c_26 => ?_) (fun c_26 => ?_)
        · refine lv_iinc (v := zI ((k : Int) + 1)) (lv' := [(1, .int (zI ((k : Int) + 1))), (0, .ref h0)]) hx hb dX3_dumb_31 hl (k := 1) rfl (zI_add _ _) (by decide) rfl (fun ls hl => ?_)
          refine lv_goto (tgt := 2) hx hb dX3_dumb_34 (by decide) ?_
          exact ih_a (k + 1) _ _ _ (by omega) (fnd_n e_f (by rw [decide_eq_true_eq]; exact c_26)) (by omega) hP hD hS (lv_sub hl [1, 0] rfl)
        · refine lv_iload_n hx hb dX3_dumb_29 rfl (lv_at hl 1 rfl) ?_
          exact hret _ _ _ _ _ () dX3_dumb_30 (by unfold A_dumb; rw [fnd_y e_f (decide_eq_true c_26) (σ 9).toNat (by omega)]) hP hS
  exact loop_a 70 (0) _ _ _ (by omega) (rfl) (by omega) hP hD hS (lv_sub hl [1, 0] rfl)
abbrev rmX3_image : Room := { frames := 1, cells := 0, slots := 0, locals := 22 }
theorem in_X3_image_X3 : ∀ w ∈ wsX30, w ∈ wsX3_image := fun _ h => List.mem_cons_of_mem _ (List.mem_append_right _ h)
theorem m_X3_image_2 : (.fieldLink RX3 16 "BrassWaysModel" "isKept" "[Z" : Cond) ∈ wsX3_image := List.mem_of_getElem? (i := 3) rfl
theorem m_X3_image_0 : (.fieldLink RX3 13 "BrassWaysModel" "images" "[I" : Cond) ∈ wsX3_image := List.mem_of_getElem? (i := 1) rfl
theorem m_X3_image_1 : (.fieldLink RX3 7 "BrassWaysModel" "state" "[I" : Cond) ∈ wsX3_image := List.mem_of_getElem? (i := 2) rfl
set_option maxHeartbeats 4000000 in
set_option maxRecDepth 100000 in
theorem c_X3_image (l : Launch) (D : va_G) (cI cJ cZ cO : ClassId) (sz : Nat) (h0 : Nat) (a0 : Nat) (a1 : Nat) (a2 : Nat) (a3 : Nat) (a4 : Nat) (a5 : Nat) (a6 : Nat) (σ : Int → Int) (gi : Int → Int) (gk : Int → Int) (q : Int) (h_q : -2147483648 ≤ q ∧ q < 2147483648) : Met l yX3_image wsX3_image rmX3_image (zPc D cI cJ cZ cO [(h0, .inr (3, [.ref a0, .ref a1, .ref a2, .ref a3, .ref a4, .ref a5, .ref a6])), (a0, .inl (cI, 22, .inl (zF (σ)))), (a1, .inl (cI, 44, .inl (zF (gi)))), (a2, .inl (cZ, 2, .inl (zF (gk))))] sz [.ref h0, .int (zI (q))]) (zQi D (fun (r : Int32) (_ : Unit) => r = zI (A_image q)) (fun (_ : Unit) => [(h0, .inr (3, [.ref a0, .ref a1, .ref a2, .ref a3, .ref a4, .ref a5, .ref a6])), (a0, .inl (cI, 22, .inl (zF (σ)))), (a1, .inl (cI, 44, .inl (zF (S_imi gi σ q)))), (a2, .inl (cZ, 2, .inl (zF (S_imk gk q))))]) [(h0, .inr (3, [.ref a0, .ref a1, .ref a2, .ref a3, .ref a4, .ref a5, .ref a6])), (a0, .inl (cI, 22, .inl (zF (σ)))), (a1, .inl (cI, 44, .inl (zF (gi)))), (a2, .inl (cZ, 2, .inl (zF (gk))))] sz) 0 0 (va_A [(h0, .inr (3, [.ref a0, .ref a1, .ref a2, .ref a3, .ref a4, .ref a5, .ref a6])), (a0, .inl (cI, 22, .inl (zF (σ)))), (a1, .inl (cI, 44, .inl (zF (gi)))), (a2, .inl (cZ, 2, .inl (zF (gk))))] sz) := by
  refine z_meti (by decide) rfl (Nat.le_of_ble_eq_true rfl) ?_
  intro p e s m args below meth c A Q ls hx hb hml hown hts hA hS hP hD hK hZ hl hret
  have hl : lv_has ls 3 [(0, .ref h0), (1, .int (zI (q)))] := hl
  refine lv_iload_n hx hb dX3_image_0 rfl (lv_at hl 1 rfl) ?_
  refine lv_iconst (v := zI (0)) hx hb dX3_image_1 rfl ?_
  refine lv_iconst (v := zI (1)) hx hb dX3_image_2 rfl ?_
  refine z_Sir (As := [.int (zI (q)), .int (zI (0)), .int (zI (1))]) (rest := []) hx hb hml hown hts hA hS hP hD hK hZ hl.1 (c_X3_in l D cI cJ cZ cO _ (q) (0) (1) (by omega)) (va_cwS 3 hts gX3_image_X3_in rfl rfl rfl (by decide +kernel) ⟨Nat.le_of_ble_eq_true rfl, Nat.le_of_ble_eq_true rfl⟩) [] rfl rfl rfl rfl (Nat.le_of_ble_eq_true rfl) ⟨Nat.zero_le _, Nat.zero_le _⟩ dX3_image_3 (fun r u H locs hw hP hS => ?_)
  subst hw
  refine z_ifB_ne (P := 0 ≤ q ∧ q ≤ 1) (tgt := 12) hx hb dX3_image_6 (by decide) (fun c_6 => ?_) (fun c_6 => ?_)
  · refine lv_iconst (v := zI (0)) hx hb dX3_image_12 rfl ?_
    refine lv_istore_n (lv' := [(2, .int (zI (0))), (0, .ref h0), (1, .int (zI (q)))]) hx hb dX3_image_13 rfl hl (by decide) rfl (fun ls hl => ?_)
    have e0 : (gi) = (cpI gi σ (22 * q) ((0 : Nat) : Int)) := (cpI_0 gi σ (22 * q)).symm
    rw [e0] at hP hD
    have loop_a : ∀ (f_a : Nat) (k : Nat) (H : Heap) (locs : List Loc) (ls : Array Slot), (k ≤ 22) → (22 - (k : Int) < (f_a : Int)) → va_P D vwCl [(h0, .inr (3, [.ref a0, .ref a1, .ref a2, .ref a3, .ref a4, .ref a5, .ref a6])), (a0, .inl (cI, 22, .inl (zF (σ)))), (a1, .inl (cI, 44, .inl (zF (cpI gi σ (22 * q) (k : Int))))), (a2, .inl (cZ, 2, .inl (zF (gk))))] H → va_D A [(h0, .inr (3, [.ref a0, .ref a1, .ref a2, .ref a3, .ref a4, .ref a5, .ref a6])), (a0, .inl (cI, 22, .inl (zF (σ)))), (a1, .inl (cI, 44, .inl (zF (cpI gi σ (22 * q) (k : Int))))), (a2, .inl (cZ, 2, .inl (zF (gk))))] → va_S A s.heap H locs → lv_has ls 3 [(0, .ref h0), (1, .int (zI (q))), (2, .int (zI ((k : Int))))] → W p l e rmX3_image s m args below meth c H locs 0 0 Q (F0 m 14 ls []) := by
      intro f_a
      induction f_a with
      | zero =>
        intros
        exfalso; omega
      | succ f_a ih_a =>
        intro k H locs ls e_k hfu_a hP hD hS hl
        refine lv_iload_n hx hb dX3_image_14 rfl (lv_at hl 2 rfl) ?_
        refine lv_bipush (v := zI (22)) hx hb dX3_image_15 (by decide +kernel) ?_
        refine z_icmp_ge (a := (k : Int)) (b := 22) (tgt := 43) hx hb (by omega) dX3_image_17 (by decide) (fun c_17 => ?_) (fun c_17 => ?_)
        · have e22 : (k : Int) = 22 := by omega
          rw [e22] at hP hD
          refine lv_aload_n hx hb dX3_image_43 rfl (lv_at hl 0 rfl) ?_
          refine va_get (D := D) (ci := 3) (v := .ref a2) (C := RX3) (T := TX3) (N := 7) hx hb hts in_X3_image_X3 hown hK hP 0 rfl rfl 2 (by decide) (hts _ m_X3_image_2) (fun _ h9 => h9) rfl dX3_image_44 ?_
          refine lv_iload_n hx hb dX3_image_47 rfl (lv_at hl 1 rfl) ?_
          refine lv_iconst (v := zI (1)) hx hb dX3_image_48 rfl ?_
          refine z_zast (k := q) (x := 1) (g := gk) hx hb hK hP hD hS 3 2 rfl rfl (by omega) (by decide +kernel) dX3_image_49 (fun H locs hP hD hS => ?_)
          have hP : va_P D vwCl [(h0, .inr (3, [.ref a0, .ref a1, .ref a2, .ref a3, .ref a4, .ref a5, .ref a6])), (a0, .inl (cI, 22, .inl (zF (σ)))), (a1, .inl (cI, 44, .inl (zF (cpI gi σ (22 * q) 22)))), (a2, .inl (cZ, 2, .inl (zF (upI gk q 1))))] H := hP
          have hD : va_D A [(h0, .inr (3, [.ref a0, .ref a1, .ref a2, .ref a3, .ref a4, .ref a5, .ref a6])), (a0, .inl (cI, 22, .inl (zF (σ)))), (a1, .inl (cI, 44, .inl (zF (cpI gi σ (22 * q) 22)))), (a2, .inl (cZ, 2, .inl (zF (upI gk q 1))))] := hD
          refine lv_iconst (v := zI (1)) hx hb dX3_image_50 rfl ?_
          exact hret _ _ _ _ _ () dX3_image_51 (by unfold A_image; first | rw [if_pos c_6]) (by simp only [S_imi, S_imk]; rw [if_pos c_6, if_pos c_6]; exact hP) hS
        · refine lv_aload_n hx hb dX3_image_20 rfl (lv_at hl 0 rfl) ?_
          refine va_get (D := D) (ci := 3) (v := .ref a1) (C := RX3) (T := TX3) (N := 7) hx hb hts in_X3_image_X3 hown hK hP 0 rfl rfl 1 (by decide) (hts _ m_X3_image_0) (fun _ h9 => h9) rfl dX3_image_21 ?_
          refine lv_bipush (v := zI (22)) hx hb dX3_image_24 (by decide +kernel) ?_
          refine lv_iload_n hx hb dX3_image_26 rfl (lv_at hl 1 rfl) ?_
          refine z_imul (a := 22) (b := q) hx hb dX3_image_27 ?_
          refine lv_iload_n hx hb dX3_image_28 rfl (lv_at hl 2 rfl) ?_
          refine z_iadd (a := 22 * q) (b := (k : Int)) hx hb dX3_image_29 ?_
          refine lv_aload_n hx hb dX3_image_30 rfl (lv_at hl 0 rfl) ?_
          refine va_get (D := D) (ci := 3) (v := .ref a0) (C := RX3) (T := TX3) (N := 7) hx hb hts in_X3_image_X3 hown hK hP 0 rfl rfl 0 (by decide) (hts _ m_X3_image_1) (fun _ h9 => h9) rfl dX3_image_31 ?_
          refine lv_iload_n hx hb dX3_image_34 rfl (lv_at hl 2 rfl) ?_
          refine z_iald (k := (k : Int)) (g := σ) hx hb hK hP 1 0 rfl rfl (by omega) dX3_image_35 ?_
          try dsimp only
          refine z_iast (k := (22 * q) + (k : Int)) (x := σ (k : Int)) (g := cpI gi σ (22 * q) (k : Int)) hx hb hK hP hD hS 2 0 rfl rfl (by omega) dX3_image_36 (fun H locs hP hD hS => ?_)
          have hP : va_P D vwCl [(h0, .inr (3, [.ref a0, .ref a1, .ref a2, .ref a3, .ref a4, .ref a5, .ref a6])), (a0, .inl (cI, 22, .inl (zF (σ)))), (a1, .inl (cI, 44, .inl (zF (upI (cpI gi σ (22 * q) (k : Int)) ((22 * q) + (k : Int)) (σ (k : Int)))))), (a2, .inl (cZ, 2, .inl (zF (gk))))] H := hP
          have hD : va_D A [(h0, .inr (3, [.ref a0, .ref a1, .ref a2, .ref a3, .ref a4, .ref a5, .ref a6])), (a0, .inl (cI, 22, .inl (zF (σ)))), (a1, .inl (cI, 44, .inl (zF (upI (cpI gi σ (22 * q) (k : Int)) ((22 * q) + (k : Int)) (σ (k : Int)))))), (a2, .inl (cZ, 2, .inl (zF (gk))))] := hD
          have e0 : (upI (cpI gi σ (22 * q) (k : Int)) ((22 * q) + (k : Int)) (σ (k : Int))) = (cpI gi σ (22 * q) ((k : Int) + 1)) := (cpI_s gi σ (22 * q) (k : Int) (by omega))
          rw [e0] at hP hD
          refine lv_iinc (v := zI ((k : Int) + 1)) (lv' := [(2, .int (zI ((k : Int) + 1))), (0, .ref h0), (1, .int (zI (q)))]) hx hb dX3_image_37 hl (k := 2) rfl (zI_add _ _) (by decide) rfl (fun ls hl => ?_)
          refine lv_goto (tgt := 14) hx hb dX3_image_40 (by decide) ?_
          exact ih_a (k + 1) _ _ _ (by omega) (by omega) hP hD hS (lv_sub hl [1, 2, 0] rfl)
    exact loop_a 70 (0) _ _ _ (by omega) (by omega) hP hD hS (lv_sub hl [1, 2, 0] rfl)
  · refine lv_bipush (v := zI (-2)) hx hb dX3_image_9 (by decide +kernel) ?_
    exact hret _ _ _ _ _ () dX3_image_11 (by unfold A_image; first | rw [if_neg c_6]) (by simp only [S_imi, S_imk]; rw [if_neg c_6, if_neg c_6]; exact hP) hS
abbrev rmX3_restore : Room := { frames := 1, cells := 0, slots := 0, locals := 22 }
theorem in_X3_restore_X3 : ∀ w ∈ wsX30, w ∈ wsX3_restore := fun _ h => List.mem_cons_of_mem _ (List.mem_append_right _ h)
theorem m_X3_restore_0 : (.fieldLink RX3 16 "BrassWaysModel" "isKept" "[Z" : Cond) ∈ wsX3_restore := List.mem_of_getElem? (i := 1) rfl
theorem m_X3_restore_1 : (.fieldLink RX3 7 "BrassWaysModel" "state" "[I" : Cond) ∈ wsX3_restore := List.mem_of_getElem? (i := 2) rfl
theorem m_X3_restore_2 : (.fieldLink RX3 13 "BrassWaysModel" "images" "[I" : Cond) ∈ wsX3_restore := List.mem_of_getElem? (i := 3) rfl
set_option maxHeartbeats 4000000 in
set_option maxRecDepth 100000 in
theorem c_X3_restore (l : Launch) (D : va_G) (cI cJ cZ cO : ClassId) (sz : Nat) (h0 : Nat) (a0 : Nat) (a1 : Nat) (a2 : Nat) (a3 : Nat) (a4 : Nat) (a5 : Nat) (a6 : Nat) (σ : Int → Int) (gi : Int → Int) (gk : Int → Int) (q : Int) (h_q : -2147483648 ≤ q ∧ q < 2147483648) (hk : (gk 0 = 0 ∨ gk 0 = 1) ∧ (gk 1 = 0 ∨ gk 1 = 1)) : Met l yX3_restore wsX3_restore rmX3_restore (zPc D cI cJ cZ cO [(h0, .inr (3, [.ref a0, .ref a1, .ref a2, .ref a3, .ref a4, .ref a5, .ref a6])), (a0, .inl (cI, 22, .inl (zF (σ)))), (a1, .inl (cI, 44, .inl (zF (gi)))), (a2, .inl (cZ, 2, .inl (zF (gk))))] sz [.ref h0, .int (zI (q))]) (zQi D (fun (r : Int32) (_ : Unit) => r = zI (A_restore gk q)) (fun (_ : Unit) => [(h0, .inr (3, [.ref a0, .ref a1, .ref a2, .ref a3, .ref a4, .ref a5, .ref a6])), (a0, .inl (cI, 22, .inl (zF (S_restore σ gi gk q)))), (a1, .inl (cI, 44, .inl (zF (gi)))), (a2, .inl (cZ, 2, .inl (zF (gk))))]) [(h0, .inr (3, [.ref a0, .ref a1, .ref a2, .ref a3, .ref a4, .ref a5, .ref a6])), (a0, .inl (cI, 22, .inl (zF (σ)))), (a1, .inl (cI, 44, .inl (zF (gi)))), (a2, .inl (cZ, 2, .inl (zF (gk))))] sz) 0 0 (va_A [(h0, .inr (3, [.ref a0, .ref a1, .ref a2, .ref a3, .ref a4, .ref a5, .ref a6])), (a0, .inl (cI, 22, .inl (zF (σ)))), (a1, .inl (cI, 44, .inl (zF (gi)))), (a2, .inl (cZ, 2, .inl (zF (gk))))] sz) := by
  refine z_meti (by decide) rfl (Nat.le_of_ble_eq_true rfl) ?_
  intro p e s m args below meth c A Q ls hx hb hml hown hts hA hS hP hD hK hZ hl hret
  have hl : lv_has ls 3 [(0, .ref h0), (1, .int (zI (q)))] := hl
  refine lv_iload_n hx hb dX3_restore_0 rfl (lv_at hl 1 rfl) ?_
  refine lv_iconst (v := zI (0)) hx hb dX3_restore_1 rfl ?_
  refine lv_iconst (v := zI (1)) hx hb dX3_restore_2 rfl ?_
  refine z_Sir (As := [.int (zI (q)), .int (zI (0)), .int (zI (1))]) (rest := []) hx hb hml hown hts hA hS hP hD hK hZ hl.1 (c_X3_in l D cI cJ cZ cO _ (q) (0) (1) (by omega)) (va_cwS 3 hts gX3_restore_X3_in rfl rfl rfl (by decide +kernel) ⟨Nat.le_of_ble_eq_true rfl, Nat.le_of_ble_eq_true rfl⟩) [] rfl rfl rfl rfl (Nat.le_of_ble_eq_true rfl) ⟨Nat.zero_le _, Nat.zero_le _⟩ dX3_restore_3 (fun r u H locs hw hP hS => ?_)
  subst hw
  refine z_ifB_ne (P := 0 ≤ q ∧ q ≤ 1) (tgt := 12) hx hb dX3_restore_6 (by decide) (fun c_6 => ?_) (fun c_6 => ?_)
  · have hk2 : gk q = 0 ∨ gk q = 1 := (show q = 0 ∨ q = 1 by omega).elim (fun h => by rw [h]; exact hk.1) (fun h => by rw [h]; exact hk.2)
    refine lv_aload_n hx hb dX3_restore_12 rfl (lv_at hl 0 rfl) ?_
    refine va_get (D := D) (ci := 3) (v := .ref a2) (C := RX3) (T := TX3) (N := 7) hx hb hts in_X3_restore_X3 hown hK hP 0 rfl rfl 2 (by decide) (hts _ m_X3_restore_0) (fun _ h9 => h9) rfl dX3_restore_13 ?_
    refine lv_iload_n hx hb dX3_restore_16 rfl (lv_at hl 1 rfl) ?_
    refine z_zald (k := q) (g := gk) hx hb hK hP 3 2 rfl rfl (by omega) dX3_restore_17 ?_
    try dsimp only
    refine z_if_ne (a := gk q) (tgt := 24) hx hb (by omega) dX3_restore_18 (by decide) (fun c_18 => ?_) (fun c_18 => ?_)
    · refine lv_iconst (v := zI (0)) hx hb dX3_restore_24 rfl ?_
      refine lv_istore_n (lv' := [(2, .int (zI (0))), (0, .ref h0), (1, .int (zI (q)))]) hx hb dX3_restore_25 rfl hl (by decide) rfl (fun ls hl => ?_)
      have e0 : (σ) = (rsI σ gi (22 * q) ((0 : Nat) : Int)) := (rsI_0 σ gi (22 * q)).symm
      rw [e0] at hP hD
      have loop_a : ∀ (f_a : Nat) (k : Nat) (H : Heap) (locs : List Loc) (ls : Array Slot), (k ≤ 22) → (22 - (k : Int) < (f_a : Int)) → va_P D vwCl [(h0, .inr (3, [.ref a0, .ref a1, .ref a2, .ref a3, .ref a4, .ref a5, .ref a6])), (a0, .inl (cI, 22, .inl (zF (rsI σ gi (22 * q) (k : Int))))), (a1, .inl (cI, 44, .inl (zF (gi)))), (a2, .inl (cZ, 2, .inl (zF (gk))))] H → va_D A [(h0, .inr (3, [.ref a0, .ref a1, .ref a2, .ref a3, .ref a4, .ref a5, .ref a6])), (a0, .inl (cI, 22, .inl (zF (rsI σ gi (22 * q) (k : Int))))), (a1, .inl (cI, 44, .inl (zF (gi)))), (a2, .inl (cZ, 2, .inl (zF (gk))))] → va_S A s.heap H locs → lv_has ls 3 [(0, .ref h0), (1, .int (zI (q))), (2, .int (zI ((k : Int))))] → W p l e rmX3_restore s m args below meth c H locs 0 0 Q (F0 m 26 ls []) := by
        intro f_a
        induction f_a with
        | zero =>
          intros
          exfalso; omega
        | succ f_a ih_a =>
          intro k H locs ls e_k hfu_a hP hD hS hl
          refine lv_iload_n hx hb dX3_restore_26 rfl (lv_at hl 2 rfl) ?_
          refine lv_bipush (v := zI (22)) hx hb dX3_restore_27 (by decide +kernel) ?_
          refine z_icmp_ge (a := (k : Int)) (b := 22) (tgt := 55) hx hb (by omega) dX3_restore_29 (by decide) (fun c_29 => ?_) (fun c_29 => ?_)
          · have e22 : (k : Int) = 22 := by omega
            rw [e22] at hP hD
            refine lv_iconst (v := zI (1)) hx hb dX3_restore_55 rfl ?_
            exact hret _ _ _ _ _ () dX3_restore_56 (by unfold A_restore; first | rw [if_pos c_6, if_neg c_18]) (by simp only [S_restore]; first | (rw [if_pos c_6, if_neg c_18]; exact hP)) hS
          · refine lv_aload_n hx hb dX3_restore_32 rfl (lv_at hl 0 rfl) ?_
            refine va_get (D := D) (ci := 3) (v := .ref a0) (C := RX3) (T := TX3) (N := 7) hx hb hts in_X3_restore_X3 hown hK hP 0 rfl rfl 0 (by decide) (hts _ m_X3_restore_1) (fun _ h9 => h9) rfl dX3_restore_33 ?_
            refine lv_iload_n hx hb dX3_restore_36 rfl (lv_at hl 2 rfl) ?_
            refine lv_aload_n hx hb dX3_restore_37 rfl (lv_at hl 0 rfl) ?_
            refine va_get (D := D) (ci := 3) (v := .ref a1) (C := RX3) (T := TX3) (N := 7) hx hb hts in_X3_restore_X3 hown hK hP 0 rfl rfl 1 (by decide) (hts _ m_X3_restore_2) (fun _ h9 => h9) rfl dX3_restore_38 ?_
            refine lv_bipush (v := zI (22)) hx hb dX3_restore_41 (by decide +kernel) ?_
            refine lv_iload_n hx hb dX3_restore_43 rfl (lv_at hl 1 rfl) ?_
            refine z_imul (a := 22) (b := q) hx hb dX3_restore_44 ?_
            refine lv_iload_n hx hb dX3_restore_45 rfl (lv_at hl 2 rfl) ?_
            refine z_iadd (a := 22 * q) (b := (k : Int)) hx hb dX3_restore_46 ?_
            refine z_iald (k := (22 * q) + (k : Int)) (g := gi) hx hb hK hP 2 0 rfl rfl (by omega) dX3_restore_47 ?_
            try dsimp only
            refine z_iast (k := (k : Int)) (x := gi ((22 * q) + (k : Int))) (g := rsI σ gi (22 * q) (k : Int)) hx hb hK hP hD hS 1 0 rfl rfl (by omega) dX3_restore_48 (fun H locs hP hD hS => ?_)
            have hP : va_P D vwCl [(h0, .inr (3, [.ref a0, .ref a1, .ref a2, .ref a3, .ref a4, .ref a5, .ref a6])), (a0, .inl (cI, 22, .inl (zF (upI (rsI σ gi (22 * q) (k : Int)) (k : Int) (gi ((22 * q) + (k : Int))))))), (a1, .inl (cI, 44, .inl (zF (gi)))), (a2, .inl (cZ, 2, .inl (zF (gk))))] H := hP
            have hD : va_D A [(h0, .inr (3, [.ref a0, .ref a1, .ref a2, .ref a3, .ref a4, .ref a5, .ref a6])), (a0, .inl (cI, 22, .inl (zF (upI (rsI σ gi (22 * q) (k : Int)) (k : Int) (gi ((22 * q) + (k : Int))))))), (a1, .inl (cI, 44, .inl (zF (gi)))), (a2, .inl (cZ, 2, .inl (zF (gk))))] := hD
            have e0 : (upI (rsI σ gi (22 * q) (k : Int)) (k : Int) (gi ((22 * q) + (k : Int)))) = (rsI σ gi (22 * q) ((k : Int) + 1)) := (rsI_s σ gi (22 * q) (k : Int) (by omega))
            rw [e0] at hP hD
            refine lv_iinc (v := zI ((k : Int) + 1)) (lv' := [(2, .int (zI ((k : Int) + 1))), (0, .ref h0), (1, .int (zI (q)))]) hx hb dX3_restore_49 hl (k := 2) rfl (zI_add _ _) (by decide) rfl (fun ls hl => ?_)
            refine lv_goto (tgt := 26) hx hb dX3_restore_52 (by decide) ?_
            exact ih_a (k + 1) _ _ _ (by omega) (by omega) hP hD hS (lv_sub hl [1, 2, 0] rfl)
      exact loop_a 70 (0) _ _ _ (by omega) (by omega) hP hD hS (lv_sub hl [1, 2, 0] rfl)
    · refine lv_bipush (v := zI (-3)) hx hb dX3_restore_21 (by decide +kernel) ?_
      exact hret _ _ _ _ _ () dX3_restore_23 (by unfold A_restore; first | rw [if_pos c_6, if_pos c_18]) (by simp only [S_restore]; first | (rw [if_pos c_6, if_pos c_18]; exact hP)) hS
  · refine lv_bipush (v := zI (-2)) hx hb dX3_restore_9 (by decide +kernel) ?_
    exact hret _ _ _ _ _ () dX3_restore_11 (by unfold A_restore; first | rw [if_neg c_6]) (by simp only [S_restore]; first | (rw [if_neg c_6]; exact hP)) hS
abbrev rmX3_count : Room := { frames := 2, cells := 0, slots := 0, locals := 43 }
theorem in_X3_count_X3 : ∀ w ∈ wsX30, w ∈ wsX3_count := fun _ h => List.mem_cons_of_mem _ (List.mem_append_right _ h)
theorem m_X3_count_0 : (.fieldLink RX3 7 "BrassWaysModel" "state" "[I" : Cond) ∈ wsX3_count := List.mem_of_getElem? (i := 1) rfl
theorem m_X3_count_1 : (.fieldLink RX3 16 "BrassWaysModel" "isKept" "[Z" : Cond) ∈ wsX3_count := List.mem_of_getElem? (i := 2) rfl
set_option maxHeartbeats 4000000 in
set_option maxRecDepth 100000 in
theorem c_X3_count (l : Launch) (D : va_G) (cI cJ cZ cO : ClassId) (sz : Nat) (h0 : Nat) (a0 : Nat) (a1 : Nat) (a2 : Nat) (a3 : Nat) (a4 : Nat) (a5 : Nat) (a6 : Nat) (σ : Int → Int) (gi : Int → Int) (gk : Int → Int) (q : Int) (h_q : -2147483648 ≤ q ∧ q < 2147483648) (hk : (gk 0 = 0 ∨ gk 0 = 1) ∧ (gk 1 = 0 ∨ gk 1 = 1)) (hO : Ok σ) : Met l yX3_count wsX3_count rmX3_count (zPc D cI cJ cZ cO [(h0, .inr (3, [.ref a0, .ref a1, .ref a2, .ref a3, .ref a4, .ref a5, .ref a6])), (a0, .inl (cI, 22, .inl (zF (σ)))), (a1, .inl (cI, 44, .inl (zF (gi)))), (a2, .inl (cZ, 2, .inl (zF (gk))))] sz [.ref h0, .int (zI (q))]) (zQi D (fun (r : Int32) (_ : Unit) => r = zI (A_count σ gk q)) (fun (_ : Unit) => [(h0, .inr (3, [.ref a0, .ref a1, .ref a2, .ref a3, .ref a4, .ref a5, .ref a6])), (a0, .inl (cI, 22, .inl (zF (σ)))), (a1, .inl (cI, 44, .inl (zF (gi)))), (a2, .inl (cZ, 2, .inl (zF (gk))))]) [(h0, .inr (3, [.ref a0, .ref a1, .ref a2, .ref a3, .ref a4, .ref a5, .ref a6])), (a0, .inl (cI, 22, .inl (zF (σ)))), (a1, .inl (cI, 44, .inl (zF (gi)))), (a2, .inl (cZ, 2, .inl (zF (gk))))] sz) 0 0 (va_A [(h0, .inr (3, [.ref a0, .ref a1, .ref a2, .ref a3, .ref a4, .ref a5, .ref a6])), (a0, .inl (cI, 22, .inl (zF (σ)))), (a1, .inl (cI, 44, .inl (zF (gi)))), (a2, .inl (cZ, 2, .inl (zF (gk))))] sz) := by
  refine z_meti (by decide) rfl (Nat.le_of_ble_eq_true rfl) ?_
  intro p e s m args below meth c A Q ls hx hb hml hown hts hA hS hP hD hK hZ hl hret
  have hl : lv_has ls 2 [(0, .ref h0), (1, .int (zI (q)))] := hl
  have o9 := hO.2.2.2.2.2.2.2.2.2.1
  refine lv_iload_n hx hb dX3_count_0 rfl (lv_at hl 1 rfl) ?_
  refine lv_bipush (v := zI (10)) hx hb dX3_count_1 (by decide +kernel) ?_
  refine lv_bipush (v := zI (14)) hx hb dX3_count_3 (by decide +kernel) ?_
  refine z_Sir (As := [.int (zI (q)), .int (zI (10)), .int (zI (14))]) (rest := []) hx hb hml hown hts hA hS hP hD hK hZ hl.1 (c_X3_in l D cI cJ cZ cO _ (q) (10) (14) (by omega)) (va_cwS 3 hts gX3_count_X3_in rfl rfl rfl (by decide +kernel) ⟨Nat.le_of_ble_eq_true rfl, Nat.le_of_ble_eq_true rfl⟩) [] rfl rfl rfl rfl (Nat.le_of_ble_eq_true rfl) ⟨Nat.zero_le _, Nat.zero_le _⟩ dX3_count_5 (fun r u H locs hw hP hS => ?_)
  subst hw
  refine z_ifB_eq (P := 10 ≤ q ∧ q ≤ 14) (tgt := 23) hx hb dX3_count_8 (by decide) (fun c_8 => ?_) (fun c_8 => ?_)
  · refine lv_iload_n hx hb dX3_count_23 rfl (lv_at hl 1 rfl) ?_
    refine lv_bipush (v := zI (20)) hx hb dX3_count_24 (by decide +kernel) ?_
    refine lv_bipush (v := zI (22)) hx hb dX3_count_26 (by decide +kernel) ?_
    refine z_Sir (As := [.int (zI (q)), .int (zI (20)), .int (zI (22))]) (rest := []) hx hb hml hown hts hA hS hP hD hK hZ hl.1 (c_X3_in l D cI cJ cZ cO _ (q) (20) (22) (by omega)) (va_cwS 3 hts gX3_count_X3_in rfl rfl rfl (by decide +kernel) ⟨Nat.le_of_ble_eq_true rfl, Nat.le_of_ble_eq_true rfl⟩) [] rfl rfl rfl rfl (Nat.le_of_ble_eq_true rfl) ⟨Nat.zero_le _, Nat.zero_le _⟩ dX3_count_28 (fun r u H locs hw hP hS => ?_)
    subst hw
    refine z_ifB_eq (P := 20 ≤ q ∧ q ≤ 22) (tgt := 46) hx hb dX3_count_31 (by decide) (fun c_31 => ?_) (fun c_31 => ?_)
    · refine lv_iload_n hx hb dX3_count_46 rfl (lv_at hl 1 rfl) ?_
      refine lv_bipush (v := zI (30)) hx hb dX3_count_47 (by decide +kernel) ?_
      refine lv_bipush (v := zI (41)) hx hb dX3_count_49 (by decide +kernel) ?_
      refine z_Sir (As := [.int (zI (q)), .int (zI (30)), .int (zI (41))]) (rest := []) hx hb hml hown hts hA hS hP hD hK hZ hl.1 (c_X3_in l D cI cJ cZ cO _ (q) (30) (41) (by omega)) (va_cwS 3 hts gX3_count_X3_in rfl rfl rfl (by decide +kernel) ⟨Nat.le_of_ble_eq_true rfl, Nat.le_of_ble_eq_true rfl⟩) [] rfl rfl rfl rfl (Nat.le_of_ble_eq_true rfl) ⟨Nat.zero_le _, Nat.zero_le _⟩ dX3_count_51 (fun r u H locs hw hP hS => ?_)
      subst hw
      refine z_ifB_eq (P := 30 ≤ q ∧ q ≤ 41) (tgt := 86) hx hb dX3_count_54 (by decide) (fun c_54 => ?_) (fun c_54 => ?_)
      · refine lv_iload_n hx hb dX3_count_86 rfl (lv_at hl 1 rfl) ?_
        rcases (show q = 0 ∨ q = 1 ∨ q = 2 ∨ (q < 0 ∨ 2 < q) by omega) with c_87 | c_87 | c_87 | c_87
        · refine z_tswIn (v := 0) (tgt := 112) hx hb c_87 (by decide) dX3_count_87 (by decide) rfl (by decide) ?_
          refine lv_aload_n hx hb dX3_count_112 rfl (lv_at hl 0 rfl) ?_
          refine va_get (D := D) (ci := 3) (v := .ref a0) (C := RX3) (T := TX3) (N := 7) hx hb hts in_X3_count_X3 hown hK hP 0 rfl rfl 0 (by decide) (hts _ m_X3_count_0) (fun _ h9 => h9) rfl dX3_count_113 ?_
          refine lv_iconst (v := zI (0)) hx hb dX3_count_116 rfl ?_
          refine z_iald (k := 0) (g := σ) hx hb hK hP 1 0 rfl rfl (by omega) dX3_count_117 ?_
          try dsimp only
          exact hret _ _ _ _ _ () dX3_count_118 (by unfold A_count; first | rw [if_neg c_8, if_neg c_31, if_neg c_54, if_pos c_87]) hP hS
        · refine z_tswIn (v := 1) (tgt := 119) hx hb c_87 (by decide) dX3_count_87 (by decide) rfl (by decide) ?_
          refine lv_aload_n hx hb dX3_count_119 rfl (lv_at hl 0 rfl) ?_
          refine va_get (D := D) (ci := 3) (v := .ref a0) (C := RX3) (T := TX3) (N := 7) hx hb hts in_X3_count_X3 hown hK hP 0 rfl rfl 0 (by decide) (hts _ m_X3_count_0) (fun _ h9 => h9) rfl dX3_count_120 ?_
          refine lv_bipush (v := zI (9)) hx hb dX3_count_123 (by decide +kernel) ?_
          refine z_iald (k := 9) (g := σ) hx hb hK hP 1 0 rfl rfl (by omega) dX3_count_125 ?_
          try dsimp only
          exact hret _ _ _ _ _ () dX3_count_126 (by unfold A_count; first | rw [if_neg c_8, if_neg c_31, if_neg c_54, if_neg (by omega), if_pos c_87]) hP hS
        · refine z_tswIn (v := 2) (tgt := 127) hx hb c_87 (by decide) dX3_count_87 (by decide) rfl (by decide) ?_
          refine lv_aload_n hx hb dX3_count_127 rfl (lv_at hl 0 rfl) ?_
          refine va_get (D := D) (ci := 3) (v := .ref a2) (C := RX3) (T := TX3) (N := 7) hx hb hts in_X3_count_X3 hown hK hP 0 rfl rfl 2 (by decide) (hts _ m_X3_count_1) (fun _ h9 => h9) rfl dX3_count_128 ?_
          refine lv_iconst (v := zI (0)) hx hb dX3_count_131 rfl ?_
          refine z_zald (k := 0) (g := gk) hx hb hK hP 3 2 rfl rfl (by omega) dX3_count_132 ?_
          try dsimp only
          refine z_if_eq (a := gk 0) (tgt := 140) hx hb (by omega) dX3_count_133 (by decide) (fun c_133 => ?_) (fun c_133 => ?_)
          · refine lv_iconst (v := zI (0)) hx hb dX3_count_140 rfl ?_
            refine lv_aload_n hx hb dX3_count_141 rfl (lv_at hl 0 rfl) ?_
            refine va_get (D := D) (ci := 3) (v := .ref a2) (C := RX3) (T := TX3) (N := 7) hx hb hts in_X3_count_X3 hown hK hP 0 rfl rfl 2 (by decide) (hts _ m_X3_count_1) (fun _ h9 => h9) rfl dX3_count_142 ?_
            refine lv_iconst (v := zI (1)) hx hb dX3_count_145 rfl ?_
            refine z_zald (k := 1) (g := gk) hx hb hK hP 3 2 rfl rfl (by omega) dX3_count_146 ?_
            try dsimp only
            refine z_if_eq (a := gk 1) (tgt := 154) hx hb (by omega) dX3_count_147 (by decide) (fun c_147 => ?_) (fun c_147 => ?_)
            · refine lv_iconst (v := zI (0)) hx hb dX3_count_154 rfl ?_
              refine z_iadd (a := 0) (b := 0) hx hb dX3_count_155 ?_
              refine z_top (y := zI (0)) rfl ?_
              exact hret _ _ _ _ _ () dX3_count_156 (by unfold A_count; rw [if_neg c_8, if_neg c_31, if_neg c_54, if_neg (by omega), if_neg (by omega), if_pos c_87]; first | (rw [if_pos c_133, if_pos c_147]; rfl) | (rw [if_pos c_133, if_neg c_147]; rfl) | (rw [if_neg c_133, if_pos c_147]; rfl) | (rw [if_neg c_133, if_neg c_147]; rfl)) hP hS
            · refine lv_iconst (v := zI (2)) hx hb dX3_count_150 rfl ?_
              refine lv_goto (tgt := 155) hx hb dX3_count_151 (by decide) ?_
              refine z_iadd (a := 0) (b := 2) hx hb dX3_count_155 ?_
              refine z_top (y := zI (2)) rfl ?_
              exact hret _ _ _ _ _ () dX3_count_156 (by unfold A_count; rw [if_neg c_8, if_neg c_31, if_neg c_54, if_neg (by omega), if_neg (by omega), if_pos c_87]; first | (rw [if_pos c_133, if_pos c_147]; rfl) | (rw [if_pos c_133, if_neg c_147]; rfl) | (rw [if_neg c_133, if_pos c_147]; rfl) | (rw [if_neg c_133, if_neg c_147]; rfl)) hP hS
          · refine lv_iconst (v := zI (1)) hx hb dX3_count_136 rfl ?_
            refine lv_goto (tgt := 141) hx hb dX3_count_137 (by decide) ?_
            refine lv_aload_n hx hb dX3_count_141 rfl (lv_at hl 0 rfl) ?_
            refine va_get (D := D) (ci := 3) (v := .ref a2) (C := RX3) (T := TX3) (N := 7) hx hb hts in_X3_count_X3 hown hK hP 0 rfl rfl 2 (by decide) (hts _ m_X3_count_1) (fun _ h9 => h9) rfl dX3_count_142 ?_
            refine lv_iconst (v := zI (1)) hx hb dX3_count_145 rfl ?_
            refine z_zald (k := 1) (g := gk) hx hb hK hP 3 2 rfl rfl (by omega) dX3_count_146 ?_
            try dsimp only
            refine z_if_eq (a := gk 1) (tgt := 154) hx hb (by omega) dX3_count_147 (by decide) (fun c_147 => ?_) (fun c_147 => ?_)
            · refine lv_iconst (v := zI (0)) hx hb dX3_count_154 rfl ?_
              refine z_iadd (a := 1) (b := 0) hx hb dX3_count_155 ?_
              refine z_top (y := zI (1)) rfl ?_
              exact hret _ _ _ _ _ () dX3_count_156 (by unfold A_count; rw [if_neg c_8, if_neg c_31, if_neg c_54, if_neg (by omega), if_neg (by omega), if_pos c_87]; first | (rw [if_pos c_133, if_pos c_147]; rfl) | (rw [if_pos c_133, if_neg c_147]; rfl) | (rw [if_neg c_133, if_pos c_147]; rfl) | (rw [if_neg c_133, if_neg c_147]; rfl)) hP hS
            · refine lv_iconst (v := zI (2)) hx hb dX3_count_150 rfl ?_
              refine lv_goto (tgt := 155) hx hb dX3_count_151 (by decide) ?_
              refine z_iadd (a := 1) (b := 2) hx hb dX3_count_155 ?_
              refine z_top (y := zI (3)) rfl ?_
              exact hret _ _ _ _ _ () dX3_count_156 (by unfold A_count; rw [if_neg c_8, if_neg c_31, if_neg c_54, if_neg (by omega), if_neg (by omega), if_pos c_87]; first | (rw [if_pos c_133, if_pos c_147]; rfl) | (rw [if_pos c_133, if_neg c_147]; rfl) | (rw [if_neg c_133, if_pos c_147]; rfl) | (rw [if_neg c_133, if_neg c_147]; rfl)) hP hS
        · refine z_tswOut (tgt := 157) hx hb (by omega) dX3_count_87 (by omega) (by decide) ?_
          refine lv_bipush (v := zI (-2)) hx hb dX3_count_157 (by decide +kernel) ?_
          exact hret _ _ _ _ _ () dX3_count_159 (by unfold A_count; first | rw [if_neg c_8, if_neg c_31, if_neg c_54, if_neg (by omega), if_neg (by omega), if_neg (by omega)]) hP hS
      · refine lv_aload_n hx hb dX3_count_57 rfl (lv_at hl 0 rfl) ?_
        refine lv_iload_n hx hb dX3_count_58 rfl (lv_at hl 1 rfl) ?_
        refine lv_bipush (v := zI (30)) hx hb dX3_count_59 (by decide +kernel) ?_
        refine z_isub (a := q) (b := 30) hx hb dX3_count_61 ?_
        refine z_Vir (As := [.int (zI (q - 30))]) (rest := []) hx hb hml hown hts hA hS hP hD hK hZ hl.1 (c_X3_isPlace l D cI cJ cZ cO _ (h0) (a0) (a1) (a2) (a3) (a4) (a5) (a6) (σ) (q - 30) (by omega) hO) (cwV 1 hts gX3_count_X3_isPlace rfl rfl rfl (by decide +kernel) ⟨Nat.le_of_ble_eq_true rfl, Nat.le_of_ble_eq_true rfl⟩) [0, 1] rfl rfl 0 3 rfl rfl rfl rfl (Nat.le_of_ble_eq_true rfl) ⟨Nat.zero_le _, Nat.zero_le _⟩ dX3_count_62 (fun r u H locs hw hP hS => ?_)
        subst hw
        refine z_ifB_eq (P := 0 ≤ (q - 30) ∧ (q - 30) ≤ σ 9 - 1) (tgt := 83) hx hb dX3_count_65 (by decide) (fun c_65 => ?_) (fun c_65 => ?_)
        · refine lv_bipush (v := zI (-6)) hx hb dX3_count_83 (by decide +kernel) ?_
          exact hret _ _ _ _ _ () dX3_count_85 (by unfold A_count; first | rw [if_neg c_8, if_neg c_31, if_pos c_54, if_pos c_65] | rw [if_neg c_8, if_neg c_31, if_pos c_54, if_neg c_65]) hP hS
        · refine lv_aload_n hx hb dX3_count_68 rfl (lv_at hl 0 rfl) ?_
          refine va_get (D := D) (ci := 3) (v := .ref a0) (C := RX3) (T := TX3) (N := 7) hx hb hts in_X3_count_X3 hown hK hP 0 rfl rfl 0 (by decide) (hts _ m_X3_count_0) (fun _ h9 => h9) rfl dX3_count_69 ?_
          refine lv_bipush (v := zI (10)) hx hb dX3_count_72 (by decide +kernel) ?_
          refine lv_iload_n hx hb dX3_count_74 rfl (lv_at hl 1 rfl) ?_
          refine z_iadd (a := 10) (b := q) hx hb dX3_count_75 ?_
          refine lv_bipush (v := zI (30)) hx hb dX3_count_76 (by decide +kernel) ?_
          refine z_isub (a := 10 + q) (b := 30) hx hb dX3_count_78 ?_
          refine z_iald (k := (10 + q) - 30) (g := σ) hx hb hK hP 1 0 rfl rfl (by omega) dX3_count_79 ?_
          try dsimp only
          refine lv_goto (tgt := 85) hx hb dX3_count_80 (by decide) ?_
          exact hret _ _ _ _ _ () dX3_count_85 (by unfold A_count; first | rw [if_neg c_8, if_neg c_31, if_pos c_54, if_pos c_65] | rw [if_neg c_8, if_neg c_31, if_pos c_54, if_neg c_65]) hP hS
    · refine lv_aload_n hx hb dX3_count_34 rfl (lv_at hl 0 rfl) ?_
      refine va_get (D := D) (ci := 3) (v := .ref a0) (C := RX3) (T := TX3) (N := 7) hx hb hts in_X3_count_X3 hown hK hP 0 rfl rfl 0 (by decide) (hts _ m_X3_count_0) (fun _ h9 => h9) rfl dX3_count_35 ?_
      refine lv_iconst (v := zI (1)) hx hb dX3_count_38 rfl ?_
      refine lv_iload_n hx hb dX3_count_39 rfl (lv_at hl 1 rfl) ?_
      refine z_iadd (a := 1) (b := q) hx hb dX3_count_40 ?_
      refine lv_bipush (v := zI (20)) hx hb dX3_count_41 (by decide +kernel) ?_
      refine z_isub (a := 1 + q) (b := 20) hx hb dX3_count_43 ?_
      refine z_iald (k := (1 + q) - 20) (g := σ) hx hb hK hP 1 0 rfl rfl (by omega) dX3_count_44 ?_
      try dsimp only
      exact hret _ _ _ _ _ () dX3_count_45 (by unfold A_count; first | rw [if_neg c_8, if_pos c_31]) hP hS
  · refine lv_aload_n hx hb dX3_count_11 rfl (lv_at hl 0 rfl) ?_
    refine va_get (D := D) (ci := 3) (v := .ref a0) (C := RX3) (T := TX3) (N := 7) hx hb hts in_X3_count_X3 hown hK hP 0 rfl rfl 0 (by decide) (hts _ m_X3_count_0) (fun _ h9 => h9) rfl dX3_count_12 ?_
    refine lv_iconst (v := zI (4)) hx hb dX3_count_15 rfl ?_
    refine lv_iload_n hx hb dX3_count_16 rfl (lv_at hl 1 rfl) ?_
    refine z_iadd (a := 4) (b := q) hx hb dX3_count_17 ?_
    refine lv_bipush (v := zI (10)) hx hb dX3_count_18 (by decide +kernel) ?_
    refine z_isub (a := 4 + q) (b := 10) hx hb dX3_count_20 ?_
    refine z_iald (k := (4 + q) - 10) (g := σ) hx hb hK hP 1 0 rfl rfl (by omega) dX3_count_21 ?_
    try dsimp only
    exact hret _ _ _ _ _ () dX3_count_22 (by unfold A_count; first | rw [if_pos c_8]) hP hS
end
section
abbrev rmX3_layRest : Room := { frames := 4, cells := 0, slots := 0, locals := 87 }
theorem in_X3_layRest_X3 : ∀ w ∈ wsX30, w ∈ wsX3_layRest := fun _ h => List.mem_cons_of_mem _ (List.mem_append_right _ h)
theorem m_X3_layRest_0 : (.fieldLink RX3 7 "BrassWaysModel" "state" "[I" : Cond) ∈ wsX3_layRest := List.mem_of_getElem? (i := 1) rfl
theorem m_X3_layRest_1 : (.fieldLink RX3 20 "BrassWaysModel" "rest" "[I" : Cond) ∈ wsX3_layRest := List.mem_of_getElem? (i := 2) rfl
theorem m_X3_layRest_2 : (.fieldLink RX3 23 "BrassWaysModel" "ways" "[J" : Cond) ∈ wsX3_layRest := List.mem_of_getElem? (i := 3) rfl
theorem m_X3_layRest_3 : (.fieldLink RX3 27 "BrassWaysModel" "leastWays" "[J" : Cond) ∈ wsX3_layRest := List.mem_of_getElem? (i := 4) rfl
set_option maxHeartbeats 4000000 in
set_option maxRecDepth 100000 in
theorem c_X3_layRest (l : Launch) (D : va_G) (cI cJ cZ cO : ClassId) (sz : Nat) (h0 : Nat) (a0 : Nat) (a1 : Nat) (a2 : Nat) (a3 : Nat) (a4 : Nat) (a5 : Nat) (a6 : Nat) (σ : Int → Int) (gr : Int → Int) (gw : Int → Int64) (gl : Int → Int64) (j : Nat) (q : Int) (w : Int) (hq : q = σ 9 - 1 - (j : Int)) (hq0 : 0 ≤ q) (hw6 : 0 ≤ w ∧ w < 64) (hO : Ok σ) (hj : ∀ i : Nat, j = i + 1 → LAY σ gr gw gl i) : Met l yX3_layRest wsX3_layRest rmX3_layRest (zPc D cI cJ cZ cO [(h0, .inr (3, [.ref a0, .ref a1, .ref a2, .ref a3, .ref a4, .ref a5, .ref a6])), (a0, .inl (cI, 22, .inl (zF (σ)))), (a3, .inl (cI, 768, .inl (zF (gr)))), (a4, .inl (cJ, 768, .inr (.inl (zL (gw))))), (a5, .inl (cJ, 768, .inr (.inl (zL (gl)))))] sz [.ref h0, .int (zI (q)), .int (zI (w))]) (zQv D (fun (u : (Int → Int) × (Int → Int64) × (Int → Int64)) => (∀ c : Int, c ≠ 64 * q + w → u.1 c = gr c ∧ u.2.1 c = gw c ∧ u.2.2 c = gl c) ∧ u.1 (64 * q + w) = RR σ j w ∧ u.2.1 (64 * q + w) = lW (PR σ j) ∧ u.2.2 (64 * q + w) = TT σ j w) (fun (u : (Int → Int) × (Int → Int64) × (Int → Int64)) => [(h0, .inr (3, [.ref a0, .ref a1, .ref a2, .ref a3, .ref a4, .ref a5, .ref a6])), (a0, .inl (cI, 22, .inl (zF (σ)))), (a3, .inl (cI, 768, .inl (zF (u.1)))), (a4, .inl (cJ, 768, .inr (.inl (zL (u.2.1))))), (a5, .inl (cJ, 768, .inr (.inl (zL (u.2.2)))))]) [(h0, .inr (3, [.ref a0, .ref a1, .ref a2, .ref a3, .ref a4, .ref a5, .ref a6])), (a0, .inl (cI, 22, .inl (zF (σ)))), (a3, .inl (cI, 768, .inl (zF (gr)))), (a4, .inl (cJ, 768, .inr (.inl (zL (gw))))), (a5, .inl (cJ, 768, .inr (.inl (zL (gl)))))] sz) 0 0 (va_A [(h0, .inr (3, [.ref a0, .ref a1, .ref a2, .ref a3, .ref a4, .ref a5, .ref a6])), (a0, .inl (cI, 22, .inl (zF (σ)))), (a3, .inl (cI, 768, .inl (zF (gr)))), (a4, .inl (cJ, 768, .inr (.inl (zL (gw))))), (a5, .inl (cJ, 768, .inr (.inl (zL (gl)))))] sz) := by
  refine z_metv (by decide) rfl (Nat.le_of_ble_eq_true rfl) ?_
  intro p e s m args below meth c A Q ls hx hb hml hown hts hA hS hP hD hK hZ hl hret
  have hl : lv_has ls 9 [(0, .ref h0), (1, .int (zI (q))), (2, .int (zI (w)))] := hl
  have o9 := hO.2.2.2.2.2.2.2.2.2.1
  have hn : ntj σ j = σ (10 + q) := by unfold ntj; rw [hq]
  have o10 := hO.2.2.2.2.2.2.2.2.2.2 q (by omega) (by omega)
  have hF := flt_in hO (w := w) (n := ntj σ j) hw6 (by rw [hn]; exact o10)
  refine lv_iload_n hx hb dX3_layRest_0 rfl (lv_at hl 1 rfl) ?_
  refine lv_iload_n hx hb dX3_layRest_1 rfl (lv_at hl 2 rfl) ?_
  refine z_Sir (As := [.int (zI (q)), .int (zI (w))]) (rest := []) hx hb hml hown hts hA hS hP hD hK hZ hl.1 (c_X3_at l D cI cJ cZ cO _ (q) (w) ) (va_cwS 2 hts gX3_layRest_X3_at rfl rfl rfl (by decide +kernel) ⟨Nat.le_of_ble_eq_true rfl, Nat.le_of_ble_eq_true rfl⟩) [] rfl rfl rfl rfl (Nat.le_of_ble_eq_true rfl) ⟨Nat.zero_le _, Nat.zero_le _⟩ dX3_layRest_2 (fun r u H locs hw hP hS => ?_)
  subst hw
  refine lv_istore_n (lv' := [(3, .int (zI (64 * q + w))), (0, .ref h0), (1, .int (zI (q))), (2, .int (zI (w)))]) hx hb dX3_layRest_5 rfl hl (by decide) rfl (fun ls hl => ?_)
  refine lv_aload_n hx hb dX3_layRest_6 rfl (lv_at hl 1 rfl) ?_
  refine lv_iload_n hx hb dX3_layRest_7 rfl (lv_at hl 3 rfl) ?_
  refine lv_aload_n hx hb dX3_layRest_8 rfl (lv_at hl 1 rfl) ?_
  refine va_get (D := D) (ci := 3) (v := .ref a0) (C := RX3) (T := TX3) (N := 7) hx hb hts in_X3_layRest_X3 hown hK hP 0 rfl rfl 0 (by decide) (hts _ m_X3_layRest_0) (fun _ h9 => h9) rfl dX3_layRest_9 ?_
  refine lv_bipush (v := zI (10)) hx hb dX3_layRest_12 (by decide +kernel) ?_
  refine lv_iload_n hx hb dX3_layRest_14 rfl (lv_at hl 2 rfl) ?_
  refine z_iadd (a := 10) (b := q) hx hb dX3_layRest_15 ?_
  refine z_iald (k := 10 + q) (g := σ) hx hb hK hP 1 0 rfl rfl (by omega) dX3_layRest_16 ?_
  try dsimp only
  refine z_Vir (As := [.int (zI (w)), .int (zI (σ (10 + q)))]) (rest := []) hx hb hml hown hts hA hS hP hD hK hZ hl.1 (c_X3_faultOf l D cI cJ cZ cO _ (h0) (a0) (a1) (a2) (a3) (a4) (a5) (a6) (σ) (w) (σ (10 + q)) (by omega) (by omega) hO) (cwV 2 hts gX3_layRest_X3_faultOf rfl rfl rfl (by decide +kernel) ⟨Nat.le_of_ble_eq_true rfl, Nat.le_of_ble_eq_true rfl⟩) [0, 1] rfl rfl 0 3 rfl rfl rfl rfl (Nat.le_of_ble_eq_true rfl) ⟨Nat.zero_le _, Nat.zero_le _⟩ dX3_layRest_17 (fun r u H locs hw hP hS => ?_)
  subst hw
  refine z_top (y := zI (flt σ w (ntj σ j))) (by rw [hn]) ?_
  refine lv_istore (lv' := [(4, .int (zI (flt σ w (ntj σ j)))), (3, .int (zI (64 * q + w))), (0, .ref h0), (1, .int (zI (q))), (2, .int (zI (w)))]) hx hb dX3_layRest_20 hl (by decide) rfl (fun ls hl => ?_)
  refine lv_iload_n hx hb dX3_layRest_22 rfl (lv_at hl 3 rfl) ?_
  refine lv_iconst (v := zI (1)) hx hb dX3_layRest_23 rfl ?_
  refine z_iadd (a := q) (b := 1) hx hb dX3_layRest_24 ?_
  refine lv_aload_n hx hb dX3_layRest_25 rfl (lv_at hl 2 rfl) ?_
  refine va_get (D := D) (ci := 3) (v := .ref a0) (C := RX3) (T := TX3) (N := 7) hx hb hts in_X3_layRest_X3 hown hK hP 0 rfl rfl 0 (by decide) (hts _ m_X3_layRest_0) (fun _ h9 => h9) rfl dX3_layRest_26 ?_
  refine lv_bipush (v := zI (9)) hx hb dX3_layRest_29 (by decide +kernel) ?_
  refine z_iald (k := 9) (g := σ) hx hb hK hP 1 0 rfl rfl (by omega) dX3_layRest_31 ?_
  try dsimp only
  refine z_icmp_ne (a := q + 1) (b := σ 9) (tgt := 39) hx hb (by omega) dX3_layRest_32 (by decide) (fun c_32 => ?_) (fun c_32 => ?_)
  · obtain ⟨i, hji⟩ : ∃ i : Nat, j = i + 1 := ⟨j - 1, by omega⟩
    have hL : ∀ v : Int, 0 ≤ v → v < 64 → gw (64 * (q + 1) + v) = lW (WW σ i v) ∧ (sd σ v (ntj σ i) = true → gr (64 * (q + 1) + v) = RR σ i v ∧ gl (64 * (q + 1) + v) = TT σ i v) := by intro v h1 h2; have h := hj i hji v h1 h2; rw [show σ 9 - 1 - (i : Int) = q + 1 by omega] at h; exact h
    refine lv_iconst (v := zI (0)) hx hb dX3_layRest_39 rfl ?_
    refine lv_istore (lv' := [(5, .int (zI (0))), (4, .int (zI (flt σ w (ntj σ j)))), (3, .int (zI (64 * q + w))), (0, .ref h0), (1, .int (zI (q))), (2, .int (zI (w)))]) hx hb dX3_layRest_40 hl (by decide) rfl (fun ls hl => ?_)
    refine lv_aload_n hx hb dX3_layRest_42 rfl (lv_at hl 3 rfl) ?_
    refine va_get (D := D) (ci := 3) (v := .ref a3) (C := RX3) (T := TX3) (N := 7) hx hb hts in_X3_layRest_X3 hown hK hP 0 rfl rfl 3 (by decide) (hts _ m_X3_layRest_1) (fun _ h9 => h9) rfl dX3_layRest_43 ?_
    refine lv_iload_n hx hb dX3_layRest_46 rfl (lv_at hl 2 rfl) ?_
    refine lv_iload hx hb dX3_layRest_47 (lv_at hl 0 rfl) ?_
    refine z_if_eq (a := 0) (tgt := 57) hx hb (by omega) dX3_layRest_49 (by decide) (fun c_49 => ?_) (fun c_49 => ?_)
    · refine lv_bipush (v := zI (-6)) hx hb dX3_layRest_57 (by decide +kernel) ?_
      refine z_iast (k := 64 * q + w) (x := -6) (g := gr) hx hb hK hP hD hS 2 0 rfl rfl (by omega) dX3_layRest_59 (fun H locs hP hD hS => ?_)
      have hP : va_P D vwCl [(h0, .inr (3, [.ref a0, .ref a1, .ref a2, .ref a3, .ref a4, .ref a5, .ref a6])), (a0, .inl (cI, 22, .inl (zF (σ)))), (a3, .inl (cI, 768, .inl (zF (upI gr (64 * q + w) (-6))))), (a4, .inl (cJ, 768, .inr (.inl (zL (gw))))), (a5, .inl (cJ, 768, .inr (.inl (zL (gl)))))] H := hP
      have hD : va_D A [(h0, .inr (3, [.ref a0, .ref a1, .ref a2, .ref a3, .ref a4, .ref a5, .ref a6])), (a0, .inl (cI, 22, .inl (zF (σ)))), (a3, .inl (cI, 768, .inl (zF (upI gr (64 * q + w) (-6))))), (a4, .inl (cJ, 768, .inr (.inl (zL (gw))))), (a5, .inl (cJ, 768, .inr (.inl (zL (gl)))))] := hD
      refine lv_aload_n hx hb dX3_layRest_60 rfl (lv_at hl 3 rfl) ?_
      refine va_get (D := D) (ci := 3) (v := .ref a4) (C := RX3) (T := TX3) (N := 7) hx hb hts in_X3_layRest_X3 hown hK hP 0 rfl rfl 4 (by decide) (hts _ m_X3_layRest_2) (fun _ h9 => h9) rfl dX3_layRest_61 ?_
      refine lv_iload_n hx hb dX3_layRest_64 rfl (lv_at hl 2 rfl) ?_
      refine lv_iload hx hb dX3_layRest_65 (lv_at hl 0 rfl) ?_
      refine z_if_eq (a := 0) (tgt := 74) hx hb (by omega) dX3_layRest_67 (by decide) (fun c_67 => ?_) (fun c_67 => ?_)
      · refine lv_lconst (v := 0) hx hb dX3_layRest_74 rfl ?_
        refine z_last (k := 64 * q + w) (x := 0) (g := gw) hx hb hK hP hD hS 3 1 rfl rfl (by omega) dX3_layRest_75 (fun H locs hP hD hS => ?_)
        have hP : va_P D vwCl [(h0, .inr (3, [.ref a0, .ref a1, .ref a2, .ref a3, .ref a4, .ref a5, .ref a6])), (a0, .inl (cI, 22, .inl (zF (σ)))), (a3, .inl (cI, 768, .inl (zF (upI gr (64 * q + w) (-6))))), (a4, .inl (cJ, 768, .inr (.inl (zL (upI gw (64 * q + w) 0))))), (a5, .inl (cJ, 768, .inr (.inl (zL (gl)))))] H := hP
        have hD : va_D A [(h0, .inr (3, [.ref a0, .ref a1, .ref a2, .ref a3, .ref a4, .ref a5, .ref a6])), (a0, .inl (cI, 22, .inl (zF (σ)))), (a3, .inl (cI, 768, .inl (zF (upI gr (64 * q + w) (-6))))), (a4, .inl (cJ, 768, .inr (.inl (zL (upI gw (64 * q + w) 0))))), (a5, .inl (cJ, 768, .inr (.inl (zL (gl)))))] := hD
        refine lv_aload_n hx hb dX3_layRest_76 rfl (lv_at hl 3 rfl) ?_
        refine va_get (D := D) (ci := 3) (v := .ref a5) (C := RX3) (T := TX3) (N := 7) hx hb hts in_X3_layRest_X3 hown hK hP 0 rfl rfl 5 (by decide) (hts _ m_X3_layRest_3) (fun _ h9 => h9) rfl dX3_layRest_77 ?_
        refine lv_iload_n hx hb dX3_layRest_80 rfl (lv_at hl 2 rfl) ?_
        refine lv_iload hx hb dX3_layRest_81 (lv_at hl 0 rfl) ?_
        refine z_if_eq (a := 0) (tgt := 90) hx hb (by omega) dX3_layRest_83 (by decide) (fun c_83 => ?_) (fun c_83 => ?_)
        · refine lv_lconst (v := 0) hx hb dX3_layRest_90 rfl ?_
          refine z_last (k := 64 * q + w) (x := 0) (g := gl) hx hb hK hP hD hS 4 1 rfl rfl (by omega) dX3_layRest_91 (fun H locs hP hD hS => ?_)
          have hP : va_P D vwCl [(h0, .inr (3, [.ref a0, .ref a1, .ref a2, .ref a3, .ref a4, .ref a5, .ref a6])), (a0, .inl (cI, 22, .inl (zF (σ)))), (a3, .inl (cI, 768, .inl (zF (upI gr (64 * q + w) (-6))))), (a4, .inl (cJ, 768, .inr (.inl (zL (upI gw (64 * q + w) 0))))), (a5, .inl (cJ, 768, .inr (.inl (zL (upI gl (64 * q + w) 0)))))] H := hP
          have hD : va_D A [(h0, .inr (3, [.ref a0, .ref a1, .ref a2, .ref a3, .ref a4, .ref a5, .ref a6])), (a0, .inl (cI, 22, .inl (zF (σ)))), (a3, .inl (cI, 768, .inl (zF (upI gr (64 * q + w) (-6))))), (a4, .inl (cJ, 768, .inr (.inl (zL (upI gw (64 * q + w) 0))))), (a5, .inl (cJ, 768, .inr (.inl (zL (upI gl (64 * q + w) 0)))))] := hD
          refine lv_iconst (v := zI (0)) hx hb dX3_layRest_92 rfl ?_
          refine lv_istore (lv' := [(6, .int (zI (0))), (5, .int (zI (0))), (4, .int (zI (flt σ w (ntj σ j)))), (3, .int (zI (64 * q + w))), (0, .ref h0), (1, .int (zI (q))), (2, .int (zI (w)))]) hx hb dX3_layRest_93 hl (by decide) rfl (fun ls hl => ?_)
          have loop_a : ∀ (f_a : Nat) (k : Nat) (y : Int) (z : Int64) (r2 : Int → Int) (w2 : Int → Int64) (l2 : Int → Int64) (H : Heap) (locs : List Loc) (ls : Array Slot), (k ≤ 64) → (-6 ≤ y ∧ y ≤ 60000) → (∀ c : Int, c ≠ 64 * q + w → r2 c = gr c ∧ w2 c = gw c ∧ l2 c = gl c) → (r2 (64 * q + w) = y) → (y = mbs (qW σ i) (fun v => flt σ w (ntj σ j) + eff σ w v + RR σ i v) (-6) k) → (w2 (64 * q + w) = lW (cnt (fun v => sd σ v (ntj σ i)) k * PR σ i)) → (z = tie (qW σ i) (fun v => flt σ w (ntj σ j) + eff σ w v + RR σ i v) (TT σ i) k) → (l2 (64 * q + w) = z) → (64 - (k : Int) < (f_a : Int)) → va_P D vwCl [(h0, .inr (3, [.ref a0, .ref a1, .ref a2, .ref a3, .ref a4, .ref a5, .ref a6])), (a0, .inl (cI, 22, .inl (zF (σ)))), (a3, .inl (cI, 768, .inl (zF (r2)))), (a4, .inl (cJ, 768, .inr (.inl (zL (w2))))), (a5, .inl (cJ, 768, .inr (.inl (zL (l2)))))] H → va_D A [(h0, .inr (3, [.ref a0, .ref a1, .ref a2, .ref a3, .ref a4, .ref a5, .ref a6])), (a0, .inl (cI, 22, .inl (zF (σ)))), (a3, .inl (cI, 768, .inl (zF (r2)))), (a4, .inl (cJ, 768, .inr (.inl (zL (w2))))), (a5, .inl (cJ, 768, .inr (.inl (zL (l2)))))] → va_S A s.heap H locs → lv_has ls 9 [(0, .ref h0), (1, .int (zI (q))), (2, .int (zI (w))), (3, .int (zI (64 * q + w))), (4, .int (zI (flt σ w (ntj σ j)))), (5, .int (zI (0))), (6, .int (zI ((k : Int))))] → W p l e rmX3_layRest s m args below meth c H locs 0 0 Q (F0 m 95 ls []) := by
            intro f_a
            induction f_a with
            | zero =>
              intros
              exfalso; omega
            | succ f_a ih_a =>
              intro k y z r2 w2 l2 H locs ls e_k e_b e_o e_r e_y e_w e_z e_l hfu_a hP hD hS hl
              have hWb := WW_in hO (j := i) (by omega) (k : Int)
              refine lv_iload hx hb dX3_layRest_95 (lv_at hl 6 rfl) ?_
              refine lv_bipush (v := zI (64)) hx hb dX3_layRest_97 (by decide +kernel) ?_
              refine z_icmp_ge (a := (k : Int)) (b := 64) (tgt := 237) hx hb (by omega) dX3_layRest_99 (by decide) (fun c_99 => ?_) (fun c_99 => ?_)
              · exact hret _ _ _ _ (r2, w2, l2) dX3_layRest_237 ⟨e_o, by show r2 _ = _; rw [e_r, e_y, show k = 64 by omega, hji]; rfl, by show w2 _ = _; rw [e_w, show k = 64 by omega, hji]; rfl, by show l2 _ = _; rw [e_l, e_z, show k = 64 by omega, hji]; rfl⟩ hP hS
              · refine lv_iload hx hb dX3_layRest_102 (lv_at hl 5 rfl) ?_
                refine z_if_ne (a := 0) (tgt := 237) hx hb (by omega) dX3_layRest_104 (by decide) (fun c_104 => ?_) (fun c_104 => ?_)
                · exfalso; omega
                · refine lv_iload_n hx hb dX3_layRest_107 rfl (lv_at hl 1 rfl) ?_
                  refine lv_iconst (v := zI (1)) hx hb dX3_layRest_108 rfl ?_
                  refine z_iadd (a := q) (b := 1) hx hb dX3_layRest_109 ?_
                  refine lv_iload hx hb dX3_layRest_110 (lv_at hl 6 rfl) ?_
                  refine z_Sir (As := [.int (zI (q + 1)), .int (zI ((k : Int)))]) (rest := []) hx hb hml hown hts hA hS hP hD hK hZ hl.1 (c_X3_at l D cI cJ cZ cO _ (q + 1) ((k : Int)) ) (va_cwS 2 hts gX3_layRest_X3_at rfl rfl rfl (by decide +kernel) ⟨Nat.le_of_ble_eq_true rfl, Nat.le_of_ble_eq_true rfl⟩) [] rfl rfl rfl rfl (Nat.le_of_ble_eq_true rfl) ⟨Nat.zero_le _, Nat.zero_le _⟩ dX3_layRest_112 (fun r u H locs hw hP hS => ?_)
                  subst hw
                  refine lv_istore (lv' := [(7, .int (zI (64 * (q + 1) + (k : Int)))), (0, .ref h0), (1, .int (zI (q))), (2, .int (zI (w))), (3, .int (zI (64 * q + w))), (4, .int (zI (flt σ w (ntj σ j)))), (5, .int (zI (0))), (6, .int (zI ((k : Int))))]) hx hb dX3_layRest_115 hl (by decide) rfl (fun ls hl => ?_)
                  refine lv_aload_n hx hb dX3_layRest_117 rfl (lv_at hl 1 rfl) ?_
                  refine va_get (D := D) (ci := 3) (v := .ref a4) (C := RX3) (T := TX3) (N := 7) hx hb hts in_X3_layRest_X3 hown hK hP 0 rfl rfl 4 (by decide) (hts _ m_X3_layRest_2) (fun _ h9 => h9) rfl dX3_layRest_118 ?_
                  refine lv_iload hx hb dX3_layRest_121 (lv_at hl 0 rfl) ?_
                  refine z_lald (k := 64 * (q + 1) + (k : Int)) (g := w2) hx hb hK hP 3 1 rfl rfl (by omega) dX3_layRest_123 ?_
                  try dsimp only
                  refine z_topl (y := lW (WW σ i (k : Int))) ((e_o (64 * (q + 1) + (k : Int)) (by omega)).2.1.trans (hL (k : Int) (by omega) (by omega)).1) ?_
                  refine lv_lconst (v := 0) hx hb dX3_layRest_124 rfl ?_
                  refine z_lcmp_le (x := lW (WW σ i (k : Int))) (y := 0) (tgt := 231) hx hb dX3_layRest_125 dX3_layRest_126 (by decide) (fun c_125 => ?_) (fun c_125 => ?_)
                  · have hnw : ¬ 0 < WW σ i (k : Int) := by have := (lW_le0 (by omega)).mp c_125; omega
                    have hnq : ¬ qW σ i (k : Int) = true := by rw [decide_eq_true_eq]; exact hnw
                    refine lv_iinc (v := zI ((k : Int) + 1)) (lv' := [(6, .int (zI ((k : Int) + 1))), (7, .int (zI (64 * (q + 1) + (k : Int)))), (0, .ref h0), (1, .int (zI (q))), (2, .int (zI (w))), (3, .int (zI (64 * q + w))), (4, .int (zI (flt σ w (ntj σ j)))), (5, .int (zI (0)))]) hx hb dX3_layRest_231 hl (k := 7) rfl (zI_add _ _) (by decide) rfl (fun ls hl => ?_)
                    refine lv_goto (tgt := 95) hx hb dX3_layRest_234 (by decide) ?_
                    exact ih_a (k + 1) (y) (z) (r2) (w2) (l2) _ _ _ (by omega) (by omega) (fun c hc => ⟨by first | exact (e_o c hc).1 | (rw [upI_n hc]; exact (e_o c hc).1), by first | exact (e_o c hc).2.1 | (rw [upI_n hc]; exact (e_o c hc).2.1), by first | exact (e_o c hc).2.2 | (rw [upI_n hc]; exact (e_o c hc).2.2) | (rw [upI_n hc, upI_n hc]; exact (e_o c hc).2.2)⟩) (by first | exact e_r | exact upI_s) (by rw [mbs_s e_y]; first | (rw [if_neg hnq]; done) | (rw [if_pos hyq, if_pos (Or.inl c_155)]; done) | (rw [if_pos hyq, if_pos (Or.inr c_166)]; done) | (rw [if_pos hyq, if_neg (fun h => h.elim (fun g => by omega) (fun g => Int.not_lt.mpr c_166 g))]; done)) (by first | (rw [WW_step hO hnw]; exact e_w) | (rw [upI_s, lW_add, WW_stepy hyw])) (by rw [tie_s e_y e_z]; first | (rw [if_neg hnq]; done) | (rw [if_pos hyq, if_pos (Or.inl c_155)]; exact Int64.zero_add _) | (rw [if_pos hyq, if_pos (Or.inr c_166)]; exact Int64.zero_add _) | (rw [if_pos hyq, if_neg (fun h => h.elim (fun g => by omega) (fun g => Int.not_lt.mpr c_166 g)), if_pos c_199]; done) | (rw [if_pos hyq, if_neg (fun h => h.elim (fun g => by omega) (fun g => Int.not_lt.mpr c_166 g)), if_neg c_199]; exact Int64.add_zero _)) (by first | exact e_l | exact upI_s) (by omega) hP hD hS (lv_sub hl [2, 3, 4, 5, 6, 7, 0] rfl)
                  · have hyw : 0 < WW σ i (k : Int) := (lW_gt0 (by omega)).mp c_125
                    have hyq : qW σ i (k : Int) = true := decide_eq_true hyw
                    have hRR := (hL (k : Int) (by omega) (by omega)).2 (WW_sd hyw).1
                    have hR := RR_in hO i (by omega) (k : Int) (by omega)
                    have hR2 := hR.2 hyw
                    have hE := eff_in hO (a := w) (b := (k : Int)) hw6 (by omega)
                    refine lv_iload hx hb dX3_layRest_129 (lv_at hl 5 rfl) ?_
                    refine lv_aload_n hx hb dX3_layRest_131 rfl (lv_at hl 1 rfl) ?_
                    refine lv_iload_n hx hb dX3_layRest_132 rfl (lv_at hl 3 rfl) ?_
                    refine lv_iload hx hb dX3_layRest_133 (lv_at hl 7 rfl) ?_
                    refine z_Vir (As := [.int (zI (w)), .int (zI ((k : Int)))]) (rest := [.int (zI (flt σ w (ntj σ j)))]) hx hb hml hown hts hA hS hP hD hK hZ hl.1 (c_X3_effortOf l D cI cJ cZ cO _ (h0) (a0) (a1) (a2) (a3) (a4) (a5) (a6) (σ) (w) ((k : Int)) (by omega) hO) (cwV 2 hts gX3_layRest_X3_effortOf rfl rfl rfl (by decide +kernel) ⟨Nat.le_of_ble_eq_true rfl, Nat.le_of_ble_eq_true rfl⟩) [0, 1] rfl rfl 0 3 rfl rfl rfl rfl (Nat.le_of_ble_eq_true rfl) ⟨Nat.zero_le _, Nat.zero_le _⟩ dX3_layRest_135 (fun r u H locs hw hP hS => ?_)
                    subst hw
                    refine z_iadd (a := flt σ w (ntj σ j)) (b := eff σ w (k : Int)) hx hb dX3_layRest_138 ?_
                    refine lv_aload_n hx hb dX3_layRest_139 rfl (lv_at hl 1 rfl) ?_
                    refine va_get (D := D) (ci := 3) (v := .ref a3) (C := RX3) (T := TX3) (N := 7) hx hb hts in_X3_layRest_X3 hown hK hP 0 rfl rfl 3 (by decide) (hts _ m_X3_layRest_1) (fun _ h9 => h9) rfl dX3_layRest_140 ?_
                    refine lv_iload hx hb dX3_layRest_143 (lv_at hl 0 rfl) ?_
                    refine z_iald (k := 64 * (q + 1) + (k : Int)) (g := r2) hx hb hK hP 2 0 rfl rfl (by omega) dX3_layRest_145 ?_
                    try dsimp only
                    refine z_top (y := zI (RR σ i (k : Int))) (by rw [(e_o (64 * (q + 1) + (k : Int)) (by omega)).1, hRR.1]) ?_
                    refine z_iadd (a := (flt σ w (ntj σ j)) + (eff σ w (k : Int))) (b := RR σ i (k : Int)) hx hb dX3_layRest_146 ?_
                    refine lv_istore (lv' := [(8, .int (zI (((flt σ w (ntj σ j)) + (eff σ w (k : Int))) + (RR σ i (k : Int))))), (7, .int (zI (64 * (q + 1) + (k : Int)))), (0, .ref h0), (1, .int (zI (q))), (2, .int (zI (w))), (3, .int (zI (64 * q + w))), (4, .int (zI (flt σ w (ntj σ j)))), (5, .int (zI (0))), (6, .int (zI ((k : Int))))]) hx hb dX3_layRest_147 hl (by decide) rfl (fun ls hl => ?_)
                    refine lv_aload_n hx hb dX3_layRest_149 rfl (lv_at hl 2 rfl) ?_
                    refine va_get (D := D) (ci := 3) (v := .ref a3) (C := RX3) (T := TX3) (N := 7) hx hb hts in_X3_layRest_X3 hown hK hP 0 rfl rfl 3 (by decide) (hts _ m_X3_layRest_1) (fun _ h9 => h9) rfl dX3_layRest_150 ?_
                    refine lv_iload_n hx hb dX3_layRest_153 rfl (lv_at hl 5 rfl) ?_
                    refine z_iald (k := 64 * q + w) (g := r2) hx hb hK hP 2 0 rfl rfl (by omega) dX3_layRest_154 ?_
                    try dsimp only
                    refine z_top (y := zI (y)) (by rw [e_r]) ?_
                    refine z_if_lt (a := y) (tgt := 169) hx hb (by omega) dX3_layRest_155 (by decide) (fun c_155 => ?_) (fun c_155 => ?_)
                    · refine lv_aload_n hx hb dX3_layRest_169 rfl (lv_at hl 2 rfl) ?_
                      refine va_get (D := D) (ci := 3) (v := .ref a3) (C := RX3) (T := TX3) (N := 7) hx hb hts in_X3_layRest_X3 hown hK hP 0 rfl rfl 3 (by decide) (hts _ m_X3_layRest_1) (fun _ h9 => h9) rfl dX3_layRest_170 ?_
                      refine lv_iload_n hx hb dX3_layRest_173 rfl (lv_at hl 5 rfl) ?_
                      refine lv_iload hx hb dX3_layRest_174 (lv_at hl 0 rfl) ?_
                      refine z_iast (k := 64 * q + w) (x := ((flt σ w (ntj σ j)) + (eff σ w (k : Int))) + (RR σ i (k : Int))) (g := r2) hx hb hK hP hD hS 2 0 rfl rfl (by omega) dX3_layRest_176 (fun H locs hP hD hS => ?_)
                      have hP : va_P D vwCl [(h0, .inr (3, [.ref a0, .ref a1, .ref a2, .ref a3, .ref a4, .ref a5, .ref a6])), (a0, .inl (cI, 22, .inl (zF (σ)))), (a3, .inl (cI, 768, .inl (zF (upI r2 (64 * q + w) (((flt σ w (ntj σ j)) + (eff σ w (k : Int))) + (RR σ i (k : Int))))))), (a4, .inl (cJ, 768, .inr (.inl (zL (w2))))), (a5, .inl (cJ, 768, .inr (.inl (zL (l2)))))] H := hP
                      have hD : va_D A [(h0, .inr (3, [.ref a0, .ref a1, .ref a2, .ref a3, .ref a4, .ref a5, .ref a6])), (a0, .inl (cI, 22, .inl (zF (σ)))), (a3, .inl (cI, 768, .inl (zF (upI r2 (64 * q + w) (((flt σ w (ntj σ j)) + (eff σ w (k : Int))) + (RR σ i (k : Int))))))), (a4, .inl (cJ, 768, .inr (.inl (zL (w2))))), (a5, .inl (cJ, 768, .inr (.inl (zL (l2)))))] := hD
                      refine lv_aload_n hx hb dX3_layRest_177 rfl (lv_at hl 2 rfl) ?_
                      refine va_get (D := D) (ci := 3) (v := .ref a5) (C := RX3) (T := TX3) (N := 7) hx hb hts in_X3_layRest_X3 hown hK hP 0 rfl rfl 5 (by decide) (hts _ m_X3_layRest_3) (fun _ h9 => h9) rfl dX3_layRest_178 ?_
                      refine lv_iload_n hx hb dX3_layRest_181 rfl (lv_at hl 5 rfl) ?_
                      refine lv_lconst (v := 0) hx hb dX3_layRest_182 rfl ?_
                      refine z_last (k := 64 * q + w) (x := 0) (g := l2) hx hb hK hP hD hS 4 1 rfl rfl (by omega) dX3_layRest_183 (fun H locs hP hD hS => ?_)
                      have hP : va_P D vwCl [(h0, .inr (3, [.ref a0, .ref a1, .ref a2, .ref a3, .ref a4, .ref a5, .ref a6])), (a0, .inl (cI, 22, .inl (zF (σ)))), (a3, .inl (cI, 768, .inl (zF (upI r2 (64 * q + w) (((flt σ w (ntj σ j)) + (eff σ w (k : Int))) + (RR σ i (k : Int))))))), (a4, .inl (cJ, 768, .inr (.inl (zL (w2))))), (a5, .inl (cJ, 768, .inr (.inl (zL (upI l2 (64 * q + w) 0)))))] H := hP
                      have hD : va_D A [(h0, .inr (3, [.ref a0, .ref a1, .ref a2, .ref a3, .ref a4, .ref a5, .ref a6])), (a0, .inl (cI, 22, .inl (zF (σ)))), (a3, .inl (cI, 768, .inl (zF (upI r2 (64 * q + w) (((flt σ w (ntj σ j)) + (eff σ w (k : Int))) + (RR σ i (k : Int))))))), (a4, .inl (cJ, 768, .inr (.inl (zL (w2))))), (a5, .inl (cJ, 768, .inr (.inl (zL (upI l2 (64 * q + w) 0)))))] := hD
                      refine lv_aload_n hx hb dX3_layRest_184 rfl (lv_at hl 2 rfl) ?_
                      refine va_get (D := D) (ci := 3) (v := .ref a5) (C := RX3) (T := TX3) (N := 7) hx hb hts in_X3_layRest_X3 hown hK hP 0 rfl rfl 5 (by decide) (hts _ m_X3_layRest_3) (fun _ h9 => h9) rfl dX3_layRest_185 ?_
                      refine lv_iload_n hx hb dX3_layRest_188 rfl (lv_at hl 5 rfl) ?_
                      refine lv_dup2_11 hx hb dX3_layRest_189 rfl rfl ?_
                      refine z_lald (k := 64 * q + w) (g := upI l2 (64 * q + w) 0) hx hb hK hP 4 1 rfl rfl (by omega) dX3_layRest_190 ?_
                      try dsimp only
                      refine z_topl (y := 0) (upI_s) ?_
                      refine lv_iload hx hb dX3_layRest_191 (lv_at hl 0 rfl) ?_
                      refine lv_aload_n hx hb dX3_layRest_193 rfl (lv_at hl 2 rfl) ?_
                      refine va_get (D := D) (ci := 3) (v := .ref a3) (C := RX3) (T := TX3) (N := 7) hx hb hts in_X3_layRest_X3 hown hK hP 0 rfl rfl 3 (by decide) (hts _ m_X3_layRest_1) (fun _ h9 => h9) rfl dX3_layRest_194 ?_
                      refine lv_iload_n hx hb dX3_layRest_197 rfl (lv_at hl 5 rfl) ?_
                      refine z_iald (k := 64 * q + w) (g := upI r2 (64 * q + w) (((flt σ w (ntj σ j)) + (eff σ w (k : Int))) + (RR σ i (k : Int)))) hx hb hK hP 2 0 rfl rfl (by omega) dX3_layRest_198 ?_
                      try dsimp only
                      refine z_top (y := zI (((flt σ w (ntj σ j)) + (eff σ w (k : Int))) + (RR σ i (k : Int)))) (by rw [upI_s]) ?_
                      refine z_icmp_ne (a := ((flt σ w (ntj σ j)) + (eff σ w (k : Int))) + (RR σ i (k : Int))) (b := ((flt σ w (ntj σ j)) + (eff σ w (k : Int))) + (RR σ i (k : Int))) (tgt := 212) hx hb (by omega) dX3_layRest_199 (by decide) (fun c_199 => ?_) (fun c_199 => ?_)
                      · exfalso; omega
                      · refine lv_aload_n hx hb dX3_layRest_202 rfl (lv_at hl 2 rfl) ?_
                        refine va_get (D := D) (ci := 3) (v := .ref a5) (C := RX3) (T := TX3) (N := 7) hx hb hts in_X3_layRest_X3 hown hK hP 0 rfl rfl 5 (by decide) (hts _ m_X3_layRest_3) (fun _ h9 => h9) rfl dX3_layRest_203 ?_
                        refine lv_iload hx hb dX3_layRest_206 (lv_at hl 1 rfl) ?_
                        refine z_lald (k := 64 * (q + 1) + (k : Int)) (g := upI l2 (64 * q + w) 0) hx hb hK hP 4 1 rfl rfl (by omega) dX3_layRest_208 ?_
                        try dsimp only
                        refine z_topl (y := TT σ i (k : Int)) (by first | exact (e_o (64 * (q + 1) + (k : Int)) (by omega)).2.2.trans hRR.2 | (rw [upI_n (by omega)]; exact (e_o (64 * (q + 1) + (k : Int)) (by omega)).2.2.trans hRR.2)) ?_
                        refine lv_goto (tgt := 213) hx hb dX3_layRest_209 (by decide) ?_
                        refine lv_ladd hx hb dX3_layRest_213 ?_
                        refine z_last (k := 64 * q + w) (x := 0 + (TT σ i (k : Int))) (g := upI l2 (64 * q + w) 0) hx hb hK hP hD hS 4 1 rfl rfl (by omega) dX3_layRest_214 (fun H locs hP hD hS => ?_)
                        have hP : va_P D vwCl [(h0, .inr (3, [.ref a0, .ref a1, .ref a2, .ref a3, .ref a4, .ref a5, .ref a6])), (a0, .inl (cI, 22, .inl (zF (σ)))), (a3, .inl (cI, 768, .inl (zF (upI r2 (64 * q + w) (((flt σ w (ntj σ j)) + (eff σ w (k : Int))) + (RR σ i (k : Int))))))), (a4, .inl (cJ, 768, .inr (.inl (zL (w2))))), (a5, .inl (cJ, 768, .inr (.inl (zL (upI (upI l2 (64 * q + w) 0) (64 * q + w) (0 + (TT σ i (k : Int))))))))] H := hP
                        have hD : va_D A [(h0, .inr (3, [.ref a0, .ref a1, .ref a2, .ref a3, .ref a4, .ref a5, .ref a6])), (a0, .inl (cI, 22, .inl (zF (σ)))), (a3, .inl (cI, 768, .inl (zF (upI r2 (64 * q + w) (((flt σ w (ntj σ j)) + (eff σ w (k : Int))) + (RR σ i (k : Int))))))), (a4, .inl (cJ, 768, .inr (.inl (zL (w2))))), (a5, .inl (cJ, 768, .inr (.inl (zL (upI (upI l2 (64 * q + w) 0) (64 * q + w) (0 + (TT σ i (k : Int))))))))] := hD
                        refine lv_aload_n hx hb dX3_layRest_215 rfl (lv_at hl 2 rfl) ?_
                        refine va_get (D := D) (ci := 3) (v := .ref a4) (C := RX3) (T := TX3) (N := 7) hx hb hts in_X3_layRest_X3 hown hK hP 0 rfl rfl 4 (by decide) (hts _ m_X3_layRest_2) (fun _ h9 => h9) rfl dX3_layRest_216 ?_
                        refine lv_iload_n hx hb dX3_layRest_219 rfl (lv_at hl 5 rfl) ?_
                        refine lv_dup2_11 hx hb dX3_layRest_220 rfl rfl ?_
                        refine z_lald (k := 64 * q + w) (g := w2) hx hb hK hP 3 1 rfl rfl (by omega) dX3_layRest_221 ?_
                        try dsimp only
                        refine z_topl (y := lW (cnt (fun v => sd σ v (ntj σ i)) k * PR σ i)) (e_w) ?_
                        refine lv_aload_n hx hb dX3_layRest_222 rfl (lv_at hl 2 rfl) ?_
                        refine va_get (D := D) (ci := 3) (v := .ref a4) (C := RX3) (T := TX3) (N := 7) hx hb hts in_X3_layRest_X3 hown hK hP 0 rfl rfl 4 (by decide) (hts _ m_X3_layRest_2) (fun _ h9 => h9) rfl dX3_layRest_223 ?_
                        refine lv_iload hx hb dX3_layRest_226 (lv_at hl 1 rfl) ?_
                        refine z_lald (k := 64 * (q + 1) + (k : Int)) (g := w2) hx hb hK hP 3 1 rfl rfl (by omega) dX3_layRest_228 ?_
                        try dsimp only
                        refine z_topl (y := lW (WW σ i (k : Int))) ((e_o (64 * (q + 1) + (k : Int)) (by omega)).2.1.trans (hL (k : Int) (by omega) (by omega)).1) ?_
                        refine lv_ladd hx hb dX3_layRest_229 ?_
                        refine z_last (k := 64 * q + w) (x := (lW (cnt (fun v => sd σ v (ntj σ i)) k * PR σ i)) + (lW (WW σ i (k : Int)))) (g := w2) hx hb hK hP hD hS 3 1 rfl rfl (by omega) dX3_layRest_230 (fun H locs hP hD hS => ?_)
                        have hP : va_P D vwCl [(h0, .inr (3, [.ref a0, .ref a1, .ref a2, .ref a3, .ref a4, .ref a5, .ref a6])), (a0, .inl (cI, 22, .inl (zF (σ)))), (a3, .inl (cI, 768, .inl (zF (upI r2 (64 * q + w) (((flt σ w (ntj σ j)) + (eff σ w (k : Int))) + (RR σ i (k : Int))))))), (a4, .inl (cJ, 768, .inr (.inl (zL (upI w2 (64 * q + w) ((lW (cnt (fun v => sd σ v (ntj σ i)) k * PR σ i)) + (lW (WW σ i (k : Int))))))))), (a5, .inl (cJ, 768, .inr (.inl (zL (upI (upI l2 (64 * q + w) 0) (64 * q + w) (0 + (TT σ i (k : Int))))))))] H := hP
                        have hD : va_D A [(h0, .inr (3, [.ref a0, .ref a1, .ref a2, .ref a3, .ref a4, .ref a5, .ref a6])), (a0, .inl (cI, 22, .inl (zF (σ)))), (a3, .inl (cI, 768, .inl (zF (upI r2 (64 * q + w) (((flt σ w (ntj σ j)) + (eff σ w (k : Int))) + (RR σ i (k : Int))))))), (a4, .inl (cJ, 768, .inr (.inl (zL (upI w2 (64 * q + w) ((lW (cnt (fun v => sd σ v (ntj σ i)) k * PR σ i)) + (lW (WW σ i (k : Int))))))))), (a5, .inl (cJ, 768, .inr (.inl (zL (upI (upI l2 (64 * q + w) 0) (64 * q + w) (0 + (TT σ i (k : Int))))))))] := hD
                        refine lv_iinc (v := zI ((k : Int) + 1)) (lv' := [(6, .int (zI ((k : Int) + 1))), (8, .int (zI (((flt σ w (ntj σ j)) + (eff σ w (k : Int))) + (RR σ i (k : Int))))), (7, .int (zI (64 * (q + 1) + (k : Int)))), (0, .ref h0), (1, .int (zI (q))), (2, .int (zI (w))), (3, .int (zI (64 * q + w))), (4, .int (zI (flt σ w (ntj σ j)))), (5, .int (zI (0)))]) hx hb dX3_layRest_231 hl (k := 8) rfl (zI_add _ _) (by decide) rfl (fun ls hl => ?_)
                        refine lv_goto (tgt := 95) hx hb dX3_layRest_234 (by decide) ?_
                        exact ih_a (k + 1) (((flt σ w (ntj σ j)) + (eff σ w (k : Int))) + (RR σ i (k : Int))) (0 + (TT σ i (k : Int))) (upI r2 (64 * q + w) (((flt σ w (ntj σ j)) + (eff σ w (k : Int))) + (RR σ i (k : Int)))) (upI w2 (64 * q + w) ((lW (cnt (fun v => sd σ v (ntj σ i)) k * PR σ i)) + (lW (WW σ i (k : Int))))) (upI (upI l2 (64 * q + w) 0) (64 * q + w) (0 + (TT σ i (k : Int)))) _ _ _ (by omega) (by omega) (fun c hc => ⟨by first | exact (e_o c hc).1 | (rw [upI_n hc]; exact (e_o c hc).1), by first | exact (e_o c hc).2.1 | (rw [upI_n hc]; exact (e_o c hc).2.1), by first | exact (e_o c hc).2.2 | (rw [upI_n hc]; exact (e_o c hc).2.2) | (rw [upI_n hc, upI_n hc]; exact (e_o c hc).2.2)⟩) (by first | exact e_r | exact upI_s) (by rw [mbs_s e_y]; first | (rw [if_neg hnq]; done) | (rw [if_pos hyq, if_pos (Or.inl c_155)]; done) | (rw [if_pos hyq, if_pos (Or.inr c_166)]; done) | (rw [if_pos hyq, if_neg (fun h => h.elim (fun g => by omega) (fun g => Int.not_lt.mpr c_166 g))]; done)) (by first | (rw [WW_step hO hnw]; exact e_w) | (rw [upI_s, lW_add, WW_stepy hyw])) (by rw [tie_s e_y e_z]; first | (rw [if_neg hnq]; done) | (rw [if_pos hyq, if_pos (Or.inl c_155)]; exact Int64.zero_add _) | (rw [if_pos hyq, if_pos (Or.inr c_166)]; exact Int64.zero_add _) | (rw [if_pos hyq, if_neg (fun h => h.elim (fun g => by omega) (fun g => Int.not_lt.mpr c_166 g)), if_pos c_199]; done) | (rw [if_pos hyq, if_neg (fun h => h.elim (fun g => by omega) (fun g => Int.not_lt.mpr c_166 g)), if_neg c_199]; exact Int64.add_zero _)) (by first | exact e_l | exact upI_s) (by omega) hP hD hS (lv_sub hl [3, 4, 5, 6, 7, 8, 0] rfl)
                    · refine lv_iload hx hb dX3_layRest_158 (lv_at hl 0 rfl) ?_
                      refine lv_aload_n hx hb dX3_layRest_160 rfl (lv_at hl 2 rfl) ?_
                      refine va_get (D := D) (ci := 3) (v := .ref a3) (C := RX3) (T := TX3) (N := 7) hx hb hts in_X3_layRest_X3 hown hK hP 0 rfl rfl 3 (by decide) (hts _ m_X3_layRest_1) (fun _ h9 => h9) rfl dX3_layRest_161 ?_
                      refine lv_iload_n hx hb dX3_layRest_164 rfl (lv_at hl 5 rfl) ?_
                      refine z_iald (k := 64 * q + w) (g := r2) hx hb hK hP 2 0 rfl rfl (by omega) dX3_layRest_165 ?_
                      try dsimp only
                      refine z_top (y := zI (y)) (by rw [e_r]) ?_
                      refine z_icmp_ge (a := ((flt σ w (ntj σ j)) + (eff σ w (k : Int))) + (RR σ i (k : Int))) (b := y) (tgt := 184) hx hb (by omega) dX3_layRest_166 (by decide) (fun c_166 => ?_) (fun c_166 => ?_)
                      · refine lv_aload_n hx hb dX3_layRest_184 rfl (lv_at hl 2 rfl) ?_
                        refine va_get (D := D) (ci := 3) (v := .ref a5) (C := RX3) (T := TX3) (N := 7) hx hb hts in_X3_layRest_X3 hown hK hP 0 rfl rfl 5 (by decide) (hts _ m_X3_layRest_3) (fun _ h9 => h9) rfl dX3_layRest_185 ?_
                        refine lv_iload_n hx hb dX3_layRest_188 rfl (lv_at hl 5 rfl) ?_
                        refine lv_dup2_11 hx hb dX3_layRest_189 rfl rfl ?_
                        refine z_lald (k := 64 * q + w) (g := l2) hx hb hK hP 4 1 rfl rfl (by omega) dX3_layRest_190 ?_
                        try dsimp only
                        refine z_topl (y := z) (e_l) ?_
                        refine lv_iload hx hb dX3_layRest_191 (lv_at hl 0 rfl) ?_
                        refine lv_aload_n hx hb dX3_layRest_193 rfl (lv_at hl 2 rfl) ?_
                        refine va_get (D := D) (ci := 3) (v := .ref a3) (C := RX3) (T := TX3) (N := 7) hx hb hts in_X3_layRest_X3 hown hK hP 0 rfl rfl 3 (by decide) (hts _ m_X3_layRest_1) (fun _ h9 => h9) rfl dX3_layRest_194 ?_
                        refine lv_iload_n hx hb dX3_layRest_197 rfl (lv_at hl 5 rfl) ?_
                        refine z_iald (k := 64 * q + w) (g := r2) hx hb hK hP 2 0 rfl rfl (by omega) dX3_layRest_198 ?_
                        try dsimp only
                        refine z_top (y := zI (y)) (by rw [e_r]) ?_
                        refine z_icmp_ne (a := ((flt σ w (ntj σ j)) + (eff σ w (k : Int))) + (RR σ i (k : Int))) (b := y) (tgt := 212) hx hb (by omega) dX3_layRest_199 (by decide) (fun c_199 => ?_) (fun c_199 => ?_)
                        · refine lv_lconst (v := 0) hx hb dX3_layRest_212 rfl ?_
                          refine lv_ladd hx hb dX3_layRest_213 ?_
                          refine z_last (k := 64 * q + w) (x := z + 0) (g := l2) hx hb hK hP hD hS 4 1 rfl rfl (by omega) dX3_layRest_214 (fun H locs hP hD hS => ?_)
                          have hP : va_P D vwCl [(h0, .inr (3, [.ref a0, .ref a1, .ref a2, .ref a3, .ref a4, .ref a5, .ref a6])), (a0, .inl (cI, 22, .inl (zF (σ)))), (a3, .inl (cI, 768, .inl (zF (r2)))), (a4, .inl (cJ, 768, .inr (.inl (zL (w2))))), (a5, .inl (cJ, 768, .inr (.inl (zL (upI l2 (64 * q + w) (z + 0))))))] H := hP
                          have hD : va_D A [(h0, .inr (3, [.ref a0, .ref a1, .ref a2, .ref a3, .ref a4, .ref a5, .ref a6])), (a0, .inl (cI, 22, .inl (zF (σ)))), (a3, .inl (cI, 768, .inl (zF (r2)))), (a4, .inl (cJ, 768, .inr (.inl (zL (w2))))), (a5, .inl (cJ, 768, .inr (.inl (zL (upI l2 (64 * q + w) (z + 0))))))] := hD
                          refine lv_aload_n hx hb dX3_layRest_215 rfl (lv_at hl 2 rfl) ?_
                          refine va_get (D := D) (ci := 3) (v := .ref a4) (C := RX3) (T := TX3) (N := 7) hx hb hts in_X3_layRest_X3 hown hK hP 0 rfl rfl 4 (by decide) (hts _ m_X3_layRest_2) (fun _ h9 => h9) rfl dX3_layRest_216 ?_
                          refine lv_iload_n hx hb dX3_layRest_219 rfl (lv_at hl 5 rfl) ?_
                          refine lv_dup2_11 hx hb dX3_layRest_220 rfl rfl ?_
                          refine z_lald (k := 64 * q + w) (g := w2) hx hb hK hP 3 1 rfl rfl (by omega) dX3_layRest_221 ?_
                          try dsimp only
                          refine z_topl (y := lW (cnt (fun v => sd σ v (ntj σ i)) k * PR σ i)) (e_w) ?_
                          refine lv_aload_n hx hb dX3_layRest_222 rfl (lv_at hl 2 rfl) ?_
                          refine va_get (D := D) (ci := 3) (v := .ref a4) (C := RX3) (T := TX3) (N := 7) hx hb hts in_X3_layRest_X3 hown hK hP 0 rfl rfl 4 (by decide) (hts _ m_X3_layRest_2) (fun _ h9 => h9) rfl dX3_layRest_223 ?_
                          refine lv_iload hx hb dX3_layRest_226 (lv_at hl 1 rfl) ?_
                          refine z_lald (k := 64 * (q + 1) + (k : Int)) (g := w2) hx hb hK hP 3 1 rfl rfl (by omega) dX3_layRest_228 ?_
                          try dsimp only
                          refine z_topl (y := lW (WW σ i (k : Int))) ((e_o (64 * (q + 1) + (k : Int)) (by omega)).2.1.trans (hL (k : Int) (by omega) (by omega)).1) ?_
                          refine lv_ladd hx hb dX3_layRest_229 ?_
                          refine z_last (k := 64 * q + w) (x := (lW (cnt (fun v => sd σ v (ntj σ i)) k * PR σ i)) + (lW (WW σ i (k : Int)))) (g := w2) hx hb hK hP hD hS 3 1 rfl rfl (by omega) dX3_layRest_230 (fun H locs hP hD hS => ?_)
                          have hP : va_P D vwCl [(h0, .inr (3, [.ref a0, .ref a1, .ref a2, .ref a3, .ref a4, .ref a5, .ref a6])), (a0, .inl (cI, 22, .inl (zF (σ)))), (a3, .inl (cI, 768, .inl (zF (r2)))), (a4, .inl (cJ, 768, .inr (.inl (zL (upI w2 (64 * q + w) ((lW (cnt (fun v => sd σ v (ntj σ i)) k * PR σ i)) + (lW (WW σ i (k : Int))))))))), (a5, .inl (cJ, 768, .inr (.inl (zL (upI l2 (64 * q + w) (z + 0))))))] H := hP
                          have hD : va_D A [(h0, .inr (3, [.ref a0, .ref a1, .ref a2, .ref a3, .ref a4, .ref a5, .ref a6])), (a0, .inl (cI, 22, .inl (zF (σ)))), (a3, .inl (cI, 768, .inl (zF (r2)))), (a4, .inl (cJ, 768, .inr (.inl (zL (upI w2 (64 * q + w) ((lW (cnt (fun v => sd σ v (ntj σ i)) k * PR σ i)) + (lW (WW σ i (k : Int))))))))), (a5, .inl (cJ, 768, .inr (.inl (zL (upI l2 (64 * q + w) (z + 0))))))] := hD
                          refine lv_iinc (v := zI ((k : Int) + 1)) (lv' := [(6, .int (zI ((k : Int) + 1))), (8, .int (zI (((flt σ w (ntj σ j)) + (eff σ w (k : Int))) + (RR σ i (k : Int))))), (7, .int (zI (64 * (q + 1) + (k : Int)))), (0, .ref h0), (1, .int (zI (q))), (2, .int (zI (w))), (3, .int (zI (64 * q + w))), (4, .int (zI (flt σ w (ntj σ j)))), (5, .int (zI (0)))]) hx hb dX3_layRest_231 hl (k := 8) rfl (zI_add _ _) (by decide) rfl (fun ls hl => ?_)
                          refine lv_goto (tgt := 95) hx hb dX3_layRest_234 (by decide) ?_
                          exact ih_a (k + 1) (y) (z + 0) (r2) (upI w2 (64 * q + w) ((lW (cnt (fun v => sd σ v (ntj σ i)) k * PR σ i)) + (lW (WW σ i (k : Int))))) (upI l2 (64 * q + w) (z + 0)) _ _ _ (by omega) (by omega) (fun c hc => ⟨by first | exact (e_o c hc).1 | (rw [upI_n hc]; exact (e_o c hc).1), by first | exact (e_o c hc).2.1 | (rw [upI_n hc]; exact (e_o c hc).2.1), by first | exact (e_o c hc).2.2 | (rw [upI_n hc]; exact (e_o c hc).2.2) | (rw [upI_n hc, upI_n hc]; exact (e_o c hc).2.2)⟩) (by first | exact e_r | exact upI_s) (by rw [mbs_s e_y]; first | (rw [if_neg hnq]; done) | (rw [if_pos hyq, if_pos (Or.inl c_155)]; done) | (rw [if_pos hyq, if_pos (Or.inr c_166)]; done) | (rw [if_pos hyq, if_neg (fun h => h.elim (fun g => by omega) (fun g => Int.not_lt.mpr c_166 g))]; done)) (by first | (rw [WW_step hO hnw]; exact e_w) | (rw [upI_s, lW_add, WW_stepy hyw])) (by rw [tie_s e_y e_z]; first | (rw [if_neg hnq]; done) | (rw [if_pos hyq, if_pos (Or.inl c_155)]; exact Int64.zero_add _) | (rw [if_pos hyq, if_pos (Or.inr c_166)]; exact Int64.zero_add _) | (rw [if_pos hyq, if_neg (fun h => h.elim (fun g => by omega) (fun g => Int.not_lt.mpr c_166 g)), if_pos c_199]; done) | (rw [if_pos hyq, if_neg (fun h => h.elim (fun g => by omega) (fun g => Int.not_lt.mpr c_166 g)), if_neg c_199]; exact Int64.add_zero _)) (by first | exact e_l | exact upI_s) (by omega) hP hD hS (lv_sub hl [3, 4, 5, 6, 7, 8, 0] rfl)
                        · refine lv_aload_n hx hb dX3_layRest_202 rfl (lv_at hl 2 rfl) ?_
                          refine va_get (D := D) (ci := 3) (v := .ref a5) (C := RX3) (T := TX3) (N := 7) hx hb hts in_X3_layRest_X3 hown hK hP 0 rfl rfl 5 (by decide) (hts _ m_X3_layRest_3) (fun _ h9 => h9) rfl dX3_layRest_203 ?_
                          refine lv_iload hx hb dX3_layRest_206 (lv_at hl 1 rfl) ?_
                          refine z_lald (k := 64 * (q + 1) + (k : Int)) (g := l2) hx hb hK hP 4 1 rfl rfl (by omega) dX3_layRest_208 ?_
                          try dsimp only
                          refine z_topl (y := TT σ i (k : Int)) (by first | exact (e_o (64 * (q + 1) + (k : Int)) (by omega)).2.2.trans hRR.2 | (rw [upI_n (by omega)]; exact (e_o (64 * (q + 1) + (k : Int)) (by omega)).2.2.trans hRR.2)) ?_
                          refine lv_goto (tgt := 213) hx hb dX3_layRest_209 (by decide) ?_
                          refine lv_ladd hx hb dX3_layRest_213 ?_
                          refine z_last (k := 64 * q + w) (x := z + (TT σ i (k : Int))) (g := l2) hx hb hK hP hD hS 4 1 rfl rfl (by omega) dX3_layRest_214 (fun H locs hP hD hS => ?_)
                          have hP : va_P D vwCl [(h0, .inr (3, [.ref a0, .ref a1, .ref a2, .ref a3, .ref a4, .ref a5, .ref a6])), (a0, .inl (cI, 22, .inl (zF (σ)))), (a3, .inl (cI, 768, .inl (zF (r2)))), (a4, .inl (cJ, 768, .inr (.inl (zL (w2))))), (a5, .inl (cJ, 768, .inr (.inl (zL (upI l2 (64 * q + w) (z + (TT σ i (k : Int))))))))] H := hP
                          have hD : va_D A [(h0, .inr (3, [.ref a0, .ref a1, .ref a2, .ref a3, .ref a4, .ref a5, .ref a6])), (a0, .inl (cI, 22, .inl (zF (σ)))), (a3, .inl (cI, 768, .inl (zF (r2)))), (a4, .inl (cJ, 768, .inr (.inl (zL (w2))))), (a5, .inl (cJ, 768, .inr (.inl (zL (upI l2 (64 * q + w) (z + (TT σ i (k : Int))))))))] := hD
                          refine lv_aload_n hx hb dX3_layRest_215 rfl (lv_at hl 2 rfl) ?_
                          refine va_get (D := D) (ci := 3) (v := .ref a4) (C := RX3) (T := TX3) (N := 7) hx hb hts in_X3_layRest_X3 hown hK hP 0 rfl rfl 4 (by decide) (hts _ m_X3_layRest_2) (fun _ h9 => h9) rfl dX3_layRest_216 ?_
                          refine lv_iload_n hx hb dX3_layRest_219 rfl (lv_at hl 5 rfl) ?_
                          refine lv_dup2_11 hx hb dX3_layRest_220 rfl rfl ?_
                          refine z_lald (k := 64 * q + w) (g := w2) hx hb hK hP 3 1 rfl rfl (by omega) dX3_layRest_221 ?_
                          try dsimp only
                          refine z_topl (y := lW (cnt (fun v => sd σ v (ntj σ i)) k * PR σ i)) (e_w) ?_
                          refine lv_aload_n hx hb dX3_layRest_222 rfl (lv_at hl 2 rfl) ?_
                          refine va_get (D := D) (ci := 3) (v := .ref a4) (C := RX3) (T := TX3) (N := 7) hx hb hts in_X3_layRest_X3 hown hK hP 0 rfl rfl 4 (by decide) (hts _ m_X3_layRest_2) (fun _ h9 => h9) rfl dX3_layRest_223 ?_
                          refine lv_iload hx hb dX3_layRest_226 (lv_at hl 1 rfl) ?_
                          refine z_lald (k := 64 * (q + 1) + (k : Int)) (g := w2) hx hb hK hP 3 1 rfl rfl (by omega) dX3_layRest_228 ?_
                          try dsimp only
                          refine z_topl (y := lW (WW σ i (k : Int))) ((e_o (64 * (q + 1) + (k : Int)) (by omega)).2.1.trans (hL (k : Int) (by omega) (by omega)).1) ?_
                          refine lv_ladd hx hb dX3_layRest_229 ?_
                          refine z_last (k := 64 * q + w) (x := (lW (cnt (fun v => sd σ v (ntj σ i)) k * PR σ i)) + (lW (WW σ i (k : Int)))) (g := w2) hx hb hK hP hD hS 3 1 rfl rfl (by omega) dX3_layRest_230 (fun H locs hP hD hS => ?_)
                          have hP : va_P D vwCl [(h0, .inr (3, [.ref a0, .ref a1, .ref a2, .ref a3, .ref a4, .ref a5, .ref a6])), (a0, .inl (cI, 22, .inl (zF (σ)))), (a3, .inl (cI, 768, .inl (zF (r2)))), (a4, .inl (cJ, 768, .inr (.inl (zL (upI w2 (64 * q + w) ((lW (cnt (fun v => sd σ v (ntj σ i)) k * PR σ i)) + (lW (WW σ i (k : Int))))))))), (a5, .inl (cJ, 768, .inr (.inl (zL (upI l2 (64 * q + w) (z + (TT σ i (k : Int))))))))] H := hP
                          have hD : va_D A [(h0, .inr (3, [.ref a0, .ref a1, .ref a2, .ref a3, .ref a4, .ref a5, .ref a6])), (a0, .inl (cI, 22, .inl (zF (σ)))), (a3, .inl (cI, 768, .inl (zF (r2)))), (a4, .inl (cJ, 768, .inr (.inl (zL (upI w2 (64 * q + w) ((lW (cnt (fun v => sd σ v (ntj σ i)) k * PR σ i)) + (lW (WW σ i (k : Int))))))))), (a5, .inl (cJ, 768, .inr (.inl (zL (upI l2 (64 * q + w) (z + (TT σ i (k : Int))))))))] := hD
                          refine lv_iinc (v := zI ((k : Int) + 1)) (lv' := [(6, .int (zI ((k : Int) + 1))), (8, .int (zI (((flt σ w (ntj σ j)) + (eff σ w (k : Int))) + (RR σ i (k : Int))))), (7, .int (zI (64 * (q + 1) + (k : Int)))), (0, .ref h0), (1, .int (zI (q))), (2, .int (zI (w))), (3, .int (zI (64 * q + w))), (4, .int (zI (flt σ w (ntj σ j)))), (5, .int (zI (0)))]) hx hb dX3_layRest_231 hl (k := 8) rfl (zI_add _ _) (by decide) rfl (fun ls hl => ?_)
                          refine lv_goto (tgt := 95) hx hb dX3_layRest_234 (by decide) ?_
                          exact ih_a (k + 1) (y) (z + (TT σ i (k : Int))) (r2) (upI w2 (64 * q + w) ((lW (cnt (fun v => sd σ v (ntj σ i)) k * PR σ i)) + (lW (WW σ i (k : Int))))) (upI l2 (64 * q + w) (z + (TT σ i (k : Int)))) _ _ _ (by omega) (by omega) (fun c hc => ⟨by first | exact (e_o c hc).1 | (rw [upI_n hc]; exact (e_o c hc).1), by first | exact (e_o c hc).2.1 | (rw [upI_n hc]; exact (e_o c hc).2.1), by first | exact (e_o c hc).2.2 | (rw [upI_n hc]; exact (e_o c hc).2.2) | (rw [upI_n hc, upI_n hc]; exact (e_o c hc).2.2)⟩) (by first | exact e_r | exact upI_s) (by rw [mbs_s e_y]; first | (rw [if_neg hnq]; done) | (rw [if_pos hyq, if_pos (Or.inl c_155)]; done) | (rw [if_pos hyq, if_pos (Or.inr c_166)]; done) | (rw [if_pos hyq, if_neg (fun h => h.elim (fun g => by omega) (fun g => Int.not_lt.mpr c_166 g))]; done)) (by first | (rw [WW_step hO hnw]; exact e_w) | (rw [upI_s, lW_add, WW_stepy hyw])) (by rw [tie_s e_y e_z]; first | (rw [if_neg hnq]; done) | (rw [if_pos hyq, if_pos (Or.inl c_155)]; exact Int64.zero_add _) | (rw [if_pos hyq, if_pos (Or.inr c_166)]; exact Int64.zero_add _) | (rw [if_pos hyq, if_neg (fun h => h.elim (fun g => by omega) (fun g => Int.not_lt.mpr c_166 g)), if_pos c_199]; done) | (rw [if_pos hyq, if_neg (fun h => h.elim (fun g => by omega) (fun g => Int.not_lt.mpr c_166 g)), if_neg c_199]; exact Int64.add_zero _)) (by first | exact e_l | exact upI_s) (by omega) hP hD hS (lv_sub hl [3, 4, 5, 6, 7, 8, 0] rfl)
                      · refine lv_aload_n hx hb dX3_layRest_169 rfl (lv_at hl 2 rfl) ?_
                        refine va_get (D := D) (ci := 3) (v := .ref a3) (C := RX3) (T := TX3) (N := 7) hx hb hts in_X3_layRest_X3 hown hK hP 0 rfl rfl 3 (by decide) (hts _ m_X3_layRest_1) (fun _ h9 => h9) rfl dX3_layRest_170 ?_
                        refine lv_iload_n hx hb dX3_layRest_173 rfl (lv_at hl 5 rfl) ?_
                        refine lv_iload hx hb dX3_layRest_174 (lv_at hl 0 rfl) ?_
                        refine z_iast (k := 64 * q + w) (x := ((flt σ w (ntj σ j)) + (eff σ w (k : Int))) + (RR σ i (k : Int))) (g := r2) hx hb hK hP hD hS 2 0 rfl rfl (by omega) dX3_layRest_176 (fun H locs hP hD hS => ?_)
                        have hP : va_P D vwCl [(h0, .inr (3, [.ref a0, .ref a1, .ref a2, .ref a3, .ref a4, .ref a5, .ref a6])), (a0, .inl (cI, 22, .inl (zF (σ)))), (a3, .inl (cI, 768, .inl (zF (upI r2 (64 * q + w) (((flt σ w (ntj σ j)) + (eff σ w (k : Int))) + (RR σ i (k : Int))))))), (a4, .inl (cJ, 768, .inr (.inl (zL (w2))))), (a5, .inl (cJ, 768, .inr (.inl (zL (l2)))))] H := hP
                        have hD : va_D A [(h0, .inr (3, [.ref a0, .ref a1, .ref a2, .ref a3, .ref a4, .ref a5, .ref a6])), (a0, .inl (cI, 22, .inl (zF (σ)))), (a3, .inl (cI, 768, .inl (zF (upI r2 (64 * q + w) (((flt σ w (ntj σ j)) + (eff σ w (k : Int))) + (RR σ i (k : Int))))))), (a4, .inl (cJ, 768, .inr (.inl (zL (w2))))), (a5, .inl (cJ, 768, .inr (.inl (zL (l2)))))] := hD
                        refine lv_aload_n hx hb dX3_layRest_177 rfl (lv_at hl 2 rfl) ?_
                        refine va_get (D := D) (ci := 3) (v := .ref a5) (C := RX3) (T := TX3) (N := 7) hx hb hts in_X3_layRest_X3 hown hK hP 0 rfl rfl 5 (by decide) (hts _ m_X3_layRest_3) (fun _ h9 => h9) rfl dX3_layRest_178 ?_
                        refine lv_iload_n hx hb dX3_layRest_181 rfl (lv_at hl 5 rfl) ?_
                        refine lv_lconst (v := 0) hx hb dX3_layRest_182 rfl ?_
                        refine z_last (k := 64 * q + w) (x := 0) (g := l2) hx hb hK hP hD hS 4 1 rfl rfl (by omega) dX3_layRest_183 (fun H locs hP hD hS => ?_)
                        have hP : va_P D vwCl [(h0, .inr (3, [.ref a0, .ref a1, .ref a2, .ref a3, .ref a4, .ref a5, .ref a6])), (a0, .inl (cI, 22, .inl (zF (σ)))), (a3, .inl (cI, 768, .inl (zF (upI r2 (64 * q + w) (((flt σ w (ntj σ j)) + (eff σ w (k : Int))) + (RR σ i (k : Int))))))), (a4, .inl (cJ, 768, .inr (.inl (zL (w2))))), (a5, .inl (cJ, 768, .inr (.inl (zL (upI l2 (64 * q + w) 0)))))] H := hP
                        have hD : va_D A [(h0, .inr (3, [.ref a0, .ref a1, .ref a2, .ref a3, .ref a4, .ref a5, .ref a6])), (a0, .inl (cI, 22, .inl (zF (σ)))), (a3, .inl (cI, 768, .inl (zF (upI r2 (64 * q + w) (((flt σ w (ntj σ j)) + (eff σ w (k : Int))) + (RR σ i (k : Int))))))), (a4, .inl (cJ, 768, .inr (.inl (zL (w2))))), (a5, .inl (cJ, 768, .inr (.inl (zL (upI l2 (64 * q + w) 0)))))] := hD
                        refine lv_aload_n hx hb dX3_layRest_184 rfl (lv_at hl 2 rfl) ?_
                        refine va_get (D := D) (ci := 3) (v := .ref a5) (C := RX3) (T := TX3) (N := 7) hx hb hts in_X3_layRest_X3 hown hK hP 0 rfl rfl 5 (by decide) (hts _ m_X3_layRest_3) (fun _ h9 => h9) rfl dX3_layRest_185 ?_
                        refine lv_iload_n hx hb dX3_layRest_188 rfl (lv_at hl 5 rfl) ?_
                        refine lv_dup2_11 hx hb dX3_layRest_189 rfl rfl ?_
                        refine z_lald (k := 64 * q + w) (g := upI l2 (64 * q + w) 0) hx hb hK hP 4 1 rfl rfl (by omega) dX3_layRest_190 ?_
                        try dsimp only
                        refine z_topl (y := 0) (upI_s) ?_
                        refine lv_iload hx hb dX3_layRest_191 (lv_at hl 0 rfl) ?_
                        refine lv_aload_n hx hb dX3_layRest_193 rfl (lv_at hl 2 rfl) ?_
                        refine va_get (D := D) (ci := 3) (v := .ref a3) (C := RX3) (T := TX3) (N := 7) hx hb hts in_X3_layRest_X3 hown hK hP 0 rfl rfl 3 (by decide) (hts _ m_X3_layRest_1) (fun _ h9 => h9) rfl dX3_layRest_194 ?_
                        refine lv_iload_n hx hb dX3_layRest_197 rfl (lv_at hl 5 rfl) ?_
                        refine z_iald (k := 64 * q + w) (g := upI r2 (64 * q + w) (((flt σ w (ntj σ j)) + (eff σ w (k : Int))) + (RR σ i (k : Int)))) hx hb hK hP 2 0 rfl rfl (by omega) dX3_layRest_198 ?_
                        try dsimp only
                        refine z_top (y := zI (((flt σ w (ntj σ j)) + (eff σ w (k : Int))) + (RR σ i (k : Int)))) (by rw [upI_s]) ?_
                        refine z_icmp_ne (a := ((flt σ w (ntj σ j)) + (eff σ w (k : Int))) + (RR σ i (k : Int))) (b := ((flt σ w (ntj σ j)) + (eff σ w (k : Int))) + (RR σ i (k : Int))) (tgt := 212) hx hb (by omega) dX3_layRest_199 (by decide) (fun c_199 => ?_) (fun c_199 => ?_)
                        · exfalso; omega
                        · refine lv_aload_n hx hb dX3_layRest_202 rfl (lv_at hl 2 rfl) ?_
                          refine va_get (D := D) (ci := 3) (v := .ref a5) (C := RX3) (T := TX3) (N := 7) hx hb hts in_X3_layRest_X3 hown hK hP 0 rfl rfl 5 (by decide) (hts _ m_X3_layRest_3) (fun _ h9 => h9) rfl dX3_layRest_203 ?_
                          refine lv_iload hx hb dX3_layRest_206 (lv_at hl 1 rfl) ?_
                          refine z_lald (k := 64 * (q + 1) + (k : Int)) (g := upI l2 (64 * q + w) 0) hx hb hK hP 4 1 rfl rfl (by omega) dX3_layRest_208 ?_
                          try dsimp only
                          refine z_topl (y := TT σ i (k : Int)) (by first | exact (e_o (64 * (q + 1) + (k : Int)) (by omega)).2.2.trans hRR.2 | (rw [upI_n (by omega)]; exact (e_o (64 * (q + 1) + (k : Int)) (by omega)).2.2.trans hRR.2)) ?_
                          refine lv_goto (tgt := 213) hx hb dX3_layRest_209 (by decide) ?_
                          refine lv_ladd hx hb dX3_layRest_213 ?_
                          refine z_last (k := 64 * q + w) (x := 0 + (TT σ i (k : Int))) (g := upI l2 (64 * q + w) 0) hx hb hK hP hD hS 4 1 rfl rfl (by omega) dX3_layRest_214 (fun H locs hP hD hS => ?_)
                          have hP : va_P D vwCl [(h0, .inr (3, [.ref a0, .ref a1, .ref a2, .ref a3, .ref a4, .ref a5, .ref a6])), (a0, .inl (cI, 22, .inl (zF (σ)))), (a3, .inl (cI, 768, .inl (zF (upI r2 (64 * q + w) (((flt σ w (ntj σ j)) + (eff σ w (k : Int))) + (RR σ i (k : Int))))))), (a4, .inl (cJ, 768, .inr (.inl (zL (w2))))), (a5, .inl (cJ, 768, .inr (.inl (zL (upI (upI l2 (64 * q + w) 0) (64 * q + w) (0 + (TT σ i (k : Int))))))))] H := hP
                          have hD : va_D A [(h0, .inr (3, [.ref a0, .ref a1, .ref a2, .ref a3, .ref a4, .ref a5, .ref a6])), (a0, .inl (cI, 22, .inl (zF (σ)))), (a3, .inl (cI, 768, .inl (zF (upI r2 (64 * q + w) (((flt σ w (ntj σ j)) + (eff σ w (k : Int))) + (RR σ i (k : Int))))))), (a4, .inl (cJ, 768, .inr (.inl (zL (w2))))), (a5, .inl (cJ, 768, .inr (.inl (zL (upI (upI l2 (64 * q + w) 0) (64 * q + w) (0 + (TT σ i (k : Int))))))))] := hD
                          refine lv_aload_n hx hb dX3_layRest_215 rfl (lv_at hl 2 rfl) ?_
                          refine va_get (D := D) (ci := 3) (v := .ref a4) (C := RX3) (T := TX3) (N := 7) hx hb hts in_X3_layRest_X3 hown hK hP 0 rfl rfl 4 (by decide) (hts _ m_X3_layRest_2) (fun _ h9 => h9) rfl dX3_layRest_216 ?_
                          refine lv_iload_n hx hb dX3_layRest_219 rfl (lv_at hl 5 rfl) ?_
                          refine lv_dup2_11 hx hb dX3_layRest_220 rfl rfl ?_
                          refine z_lald (k := 64 * q + w) (g := w2) hx hb hK hP 3 1 rfl rfl (by omega) dX3_layRest_221 ?_
                          try dsimp only
                          refine z_topl (y := lW (cnt (fun v => sd σ v (ntj σ i)) k * PR σ i)) (e_w) ?_
                          refine lv_aload_n hx hb dX3_layRest_222 rfl (lv_at hl 2 rfl) ?_
                          refine va_get (D := D) (ci := 3) (v := .ref a4) (C := RX3) (T := TX3) (N := 7) hx hb hts in_X3_layRest_X3 hown hK hP 0 rfl rfl 4 (by decide) (hts _ m_X3_layRest_2) (fun _ h9 => h9) rfl dX3_layRest_223 ?_
                          refine lv_iload hx hb dX3_layRest_226 (lv_at hl 1 rfl) ?_
                          refine z_lald (k := 64 * (q + 1) + (k : Int)) (g := w2) hx hb hK hP 3 1 rfl rfl (by omega) dX3_layRest_228 ?_
                          try dsimp only
                          refine z_topl (y := lW (WW σ i (k : Int))) ((e_o (64 * (q + 1) + (k : Int)) (by omega)).2.1.trans (hL (k : Int) (by omega) (by omega)).1) ?_
                          refine lv_ladd hx hb dX3_layRest_229 ?_
                          refine z_last (k := 64 * q + w) (x := (lW (cnt (fun v => sd σ v (ntj σ i)) k * PR σ i)) + (lW (WW σ i (k : Int)))) (g := w2) hx hb hK hP hD hS 3 1 rfl rfl (by omega) dX3_layRest_230 (fun H locs hP hD hS => ?_)
                          have hP : va_P D vwCl [(h0, .inr (3, [.ref a0, .ref a1, .ref a2, .ref a3, .ref a4, .ref a5, .ref a6])), (a0, .inl (cI, 22, .inl (zF (σ)))), (a3, .inl (cI, 768, .inl (zF (upI r2 (64 * q + w) (((flt σ w (ntj σ j)) + (eff σ w (k : Int))) + (RR σ i (k : Int))))))), (a4, .inl (cJ, 768, .inr (.inl (zL (upI w2 (64 * q + w) ((lW (cnt (fun v => sd σ v (ntj σ i)) k * PR σ i)) + (lW (WW σ i (k : Int))))))))), (a5, .inl (cJ, 768, .inr (.inl (zL (upI (upI l2 (64 * q + w) 0) (64 * q + w) (0 + (TT σ i (k : Int))))))))] H := hP
                          have hD : va_D A [(h0, .inr (3, [.ref a0, .ref a1, .ref a2, .ref a3, .ref a4, .ref a5, .ref a6])), (a0, .inl (cI, 22, .inl (zF (σ)))), (a3, .inl (cI, 768, .inl (zF (upI r2 (64 * q + w) (((flt σ w (ntj σ j)) + (eff σ w (k : Int))) + (RR σ i (k : Int))))))), (a4, .inl (cJ, 768, .inr (.inl (zL (upI w2 (64 * q + w) ((lW (cnt (fun v => sd σ v (ntj σ i)) k * PR σ i)) + (lW (WW σ i (k : Int))))))))), (a5, .inl (cJ, 768, .inr (.inl (zL (upI (upI l2 (64 * q + w) 0) (64 * q + w) (0 + (TT σ i (k : Int))))))))] := hD
                          refine lv_iinc (v := zI ((k : Int) + 1)) (lv' := [(6, .int (zI ((k : Int) + 1))), (8, .int (zI (((flt σ w (ntj σ j)) + (eff σ w (k : Int))) + (RR σ i (k : Int))))), (7, .int (zI (64 * (q + 1) + (k : Int)))), (0, .ref h0), (1, .int (zI (q))), (2, .int (zI (w))), (3, .int (zI (64 * q + w))), (4, .int (zI (flt σ w (ntj σ j)))), (5, .int (zI (0)))]) hx hb dX3_layRest_231 hl (k := 8) rfl (zI_add _ _) (by decide) rfl (fun ls hl => ?_)
                          refine lv_goto (tgt := 95) hx hb dX3_layRest_234 (by decide) ?_
                          exact ih_a (k + 1) (((flt σ w (ntj σ j)) + (eff σ w (k : Int))) + (RR σ i (k : Int))) (0 + (TT σ i (k : Int))) (upI r2 (64 * q + w) (((flt σ w (ntj σ j)) + (eff σ w (k : Int))) + (RR σ i (k : Int)))) (upI w2 (64 * q + w) ((lW (cnt (fun v => sd σ v (ntj σ i)) k * PR σ i)) + (lW (WW σ i (k : Int))))) (upI (upI l2 (64 * q + w) 0) (64 * q + w) (0 + (TT σ i (k : Int)))) _ _ _ (by omega) (by omega) (fun c hc => ⟨by first | exact (e_o c hc).1 | (rw [upI_n hc]; exact (e_o c hc).1), by first | exact (e_o c hc).2.1 | (rw [upI_n hc]; exact (e_o c hc).2.1), by first | exact (e_o c hc).2.2 | (rw [upI_n hc]; exact (e_o c hc).2.2) | (rw [upI_n hc, upI_n hc]; exact (e_o c hc).2.2)⟩) (by first | exact e_r | exact upI_s) (by rw [mbs_s e_y]; first | (rw [if_neg hnq]; done) | (rw [if_pos hyq, if_pos (Or.inl c_155)]; done) | (rw [if_pos hyq, if_pos (Or.inr c_166)]; done) | (rw [if_pos hyq, if_neg (fun h => h.elim (fun g => by omega) (fun g => Int.not_lt.mpr c_166 g))]; done)) (by first | (rw [WW_step hO hnw]; exact e_w) | (rw [upI_s, lW_add, WW_stepy hyw])) (by rw [tie_s e_y e_z]; first | (rw [if_neg hnq]; done) | (rw [if_pos hyq, if_pos (Or.inl c_155)]; exact Int64.zero_add _) | (rw [if_pos hyq, if_pos (Or.inr c_166)]; exact Int64.zero_add _) | (rw [if_pos hyq, if_neg (fun h => h.elim (fun g => by omega) (fun g => Int.not_lt.mpr c_166 g)), if_pos c_199]; done) | (rw [if_pos hyq, if_neg (fun h => h.elim (fun g => by omega) (fun g => Int.not_lt.mpr c_166 g)), if_neg c_199]; exact Int64.add_zero _)) (by first | exact e_l | exact upI_s) (by omega) hP hD hS (lv_sub hl [3, 4, 5, 6, 7, 8, 0] rfl)
          exact loop_a 70 (0) (-6) (0) (upI gr (64 * q + w) (-6)) (upI gw (64 * q + w) 0) (upI gl (64 * q + w) 0) _ _ _ (by omega) (by omega) (fun c hc => ⟨upI_n hc, upI_n hc, upI_n hc⟩) (upI_s) (rfl) (by rw [upI_s, show cnt (fun v => sd σ v (ntj σ i)) 0 * PR σ i = 0 from Int.zero_mul _, lW_0]) (rfl) (upI_s) (by omega) hP hD hS (lv_sub hl [4, 5, 6, 3, 2, 1, 0] rfl)
        · exfalso; omega
      · exfalso; omega
    · exfalso; omega
  · have hj0 : j = 0 := by omega
    refine lv_iconst (v := zI (1)) hx hb dX3_layRest_35 rfl ?_
    refine lv_goto (tgt := 40) hx hb dX3_layRest_36 (by decide) ?_
    refine lv_istore (lv' := [(5, .int (zI (1))), (4, .int (zI (flt σ w (ntj σ j)))), (3, .int (zI (64 * q + w))), (0, .ref h0), (1, .int (zI (q))), (2, .int (zI (w)))]) hx hb dX3_layRest_40 hl (by decide) rfl (fun ls hl => ?_)
    refine lv_aload_n hx hb dX3_layRest_42 rfl (lv_at hl 3 rfl) ?_
    refine va_get (D := D) (ci := 3) (v := .ref a3) (C := RX3) (T := TX3) (N := 7) hx hb hts in_X3_layRest_X3 hown hK hP 0 rfl rfl 3 (by decide) (hts _ m_X3_layRest_1) (fun _ h9 => h9) rfl dX3_layRest_43 ?_
    refine lv_iload_n hx hb dX3_layRest_46 rfl (lv_at hl 2 rfl) ?_
    refine lv_iload hx hb dX3_layRest_47 (lv_at hl 0 rfl) ?_
    refine z_if_eq (a := 1) (tgt := 57) hx hb (by omega) dX3_layRest_49 (by decide) (fun c_49 => ?_) (fun c_49 => ?_)
    · exfalso; omega
    · refine lv_iload hx hb dX3_layRest_52 (lv_at hl 1 rfl) ?_
      refine lv_goto (tgt := 59) hx hb dX3_layRest_54 (by decide) ?_
      refine z_iast (k := 64 * q + w) (x := flt σ w (ntj σ j)) (g := gr) hx hb hK hP hD hS 2 0 rfl rfl (by omega) dX3_layRest_59 (fun H locs hP hD hS => ?_)
      have hP : va_P D vwCl [(h0, .inr (3, [.ref a0, .ref a1, .ref a2, .ref a3, .ref a4, .ref a5, .ref a6])), (a0, .inl (cI, 22, .inl (zF (σ)))), (a3, .inl (cI, 768, .inl (zF (upI gr (64 * q + w) (flt σ w (ntj σ j)))))), (a4, .inl (cJ, 768, .inr (.inl (zL (gw))))), (a5, .inl (cJ, 768, .inr (.inl (zL (gl)))))] H := hP
      have hD : va_D A [(h0, .inr (3, [.ref a0, .ref a1, .ref a2, .ref a3, .ref a4, .ref a5, .ref a6])), (a0, .inl (cI, 22, .inl (zF (σ)))), (a3, .inl (cI, 768, .inl (zF (upI gr (64 * q + w) (flt σ w (ntj σ j)))))), (a4, .inl (cJ, 768, .inr (.inl (zL (gw))))), (a5, .inl (cJ, 768, .inr (.inl (zL (gl)))))] := hD
      refine lv_aload_n hx hb dX3_layRest_60 rfl (lv_at hl 3 rfl) ?_
      refine va_get (D := D) (ci := 3) (v := .ref a4) (C := RX3) (T := TX3) (N := 7) hx hb hts in_X3_layRest_X3 hown hK hP 0 rfl rfl 4 (by decide) (hts _ m_X3_layRest_2) (fun _ h9 => h9) rfl dX3_layRest_61 ?_
      refine lv_iload_n hx hb dX3_layRest_64 rfl (lv_at hl 2 rfl) ?_
      refine lv_iload hx hb dX3_layRest_65 (lv_at hl 0 rfl) ?_
      refine z_if_eq (a := 1) (tgt := 74) hx hb (by omega) dX3_layRest_67 (by decide) (fun c_67 => ?_) (fun c_67 => ?_)
      · exfalso; omega
      · refine lv_lconst (v := 1) hx hb dX3_layRest_70 rfl ?_
        refine lv_goto (tgt := 75) hx hb dX3_layRest_71 (by decide) ?_
        refine z_last (k := 64 * q + w) (x := 1) (g := gw) hx hb hK hP hD hS 3 1 rfl rfl (by omega) dX3_layRest_75 (fun H locs hP hD hS => ?_)
        have hP : va_P D vwCl [(h0, .inr (3, [.ref a0, .ref a1, .ref a2, .ref a3, .ref a4, .ref a5, .ref a6])), (a0, .inl (cI, 22, .inl (zF (σ)))), (a3, .inl (cI, 768, .inl (zF (upI gr (64 * q + w) (flt σ w (ntj σ j)))))), (a4, .inl (cJ, 768, .inr (.inl (zL (upI gw (64 * q + w) 1))))), (a5, .inl (cJ, 768, .inr (.inl (zL (gl)))))] H := hP
        have hD : va_D A [(h0, .inr (3, [.ref a0, .ref a1, .ref a2, .ref a3, .ref a4, .ref a5, .ref a6])), (a0, .inl (cI, 22, .inl (zF (σ)))), (a3, .inl (cI, 768, .inl (zF (upI gr (64 * q + w) (flt σ w (ntj σ j)))))), (a4, .inl (cJ, 768, .inr (.inl (zL (upI gw (64 * q + w) 1))))), (a5, .inl (cJ, 768, .inr (.inl (zL (gl)))))] := hD
        refine lv_aload_n hx hb dX3_layRest_76 rfl (lv_at hl 3 rfl) ?_
        refine va_get (D := D) (ci := 3) (v := .ref a5) (C := RX3) (T := TX3) (N := 7) hx hb hts in_X3_layRest_X3 hown hK hP 0 rfl rfl 5 (by decide) (hts _ m_X3_layRest_3) (fun _ h9 => h9) rfl dX3_layRest_77 ?_
        refine lv_iload_n hx hb dX3_layRest_80 rfl (lv_at hl 2 rfl) ?_
        refine lv_iload hx hb dX3_layRest_81 (lv_at hl 0 rfl) ?_
        refine z_if_eq (a := 1) (tgt := 90) hx hb (by omega) dX3_layRest_83 (by decide) (fun c_83 => ?_) (fun c_83 => ?_)
        · exfalso; omega
        · refine lv_lconst (v := 1) hx hb dX3_layRest_86 rfl ?_
          refine lv_goto (tgt := 91) hx hb dX3_layRest_87 (by decide) ?_
          refine z_last (k := 64 * q + w) (x := 1) (g := gl) hx hb hK hP hD hS 4 1 rfl rfl (by omega) dX3_layRest_91 (fun H locs hP hD hS => ?_)
          have hP : va_P D vwCl [(h0, .inr (3, [.ref a0, .ref a1, .ref a2, .ref a3, .ref a4, .ref a5, .ref a6])), (a0, .inl (cI, 22, .inl (zF (σ)))), (a3, .inl (cI, 768, .inl (zF (upI gr (64 * q + w) (flt σ w (ntj σ j)))))), (a4, .inl (cJ, 768, .inr (.inl (zL (upI gw (64 * q + w) 1))))), (a5, .inl (cJ, 768, .inr (.inl (zL (upI gl (64 * q + w) 1)))))] H := hP
          have hD : va_D A [(h0, .inr (3, [.ref a0, .ref a1, .ref a2, .ref a3, .ref a4, .ref a5, .ref a6])), (a0, .inl (cI, 22, .inl (zF (σ)))), (a3, .inl (cI, 768, .inl (zF (upI gr (64 * q + w) (flt σ w (ntj σ j)))))), (a4, .inl (cJ, 768, .inr (.inl (zL (upI gw (64 * q + w) 1))))), (a5, .inl (cJ, 768, .inr (.inl (zL (upI gl (64 * q + w) 1)))))] := hD
          refine lv_iconst (v := zI (0)) hx hb dX3_layRest_92 rfl ?_
          refine lv_istore (lv' := [(6, .int (zI (0))), (5, .int (zI (1))), (4, .int (zI (flt σ w (ntj σ j)))), (3, .int (zI (64 * q + w))), (0, .ref h0), (1, .int (zI (q))), (2, .int (zI (w)))]) hx hb dX3_layRest_93 hl (by decide) rfl (fun ls hl => ?_)
          refine lv_iload hx hb dX3_layRest_95 (lv_at hl 0 rfl) ?_
          refine lv_bipush (v := zI (64)) hx hb dX3_layRest_97 (by decide +kernel) ?_
          refine z_icmp_ge (a := 0) (b := 64) (tgt := 237) hx hb (by omega) dX3_layRest_99 (by decide) (fun c_99 => ?_) (fun c_99 => ?_)
          · exfalso; omega
          · refine lv_iload hx hb dX3_layRest_102 (lv_at hl 1 rfl) ?_
            refine z_if_ne (a := 1) (tgt := 237) hx hb (by omega) dX3_layRest_104 (by decide) (fun c_104 => ?_) (fun c_104 => ?_)
            · exact hret _ _ _ _ (upI gr (64 * q + w) (flt σ w (ntj σ j)), upI gw (64 * q + w) 1, upI gl (64 * q + w) 1) dX3_layRest_237 ⟨fun c hc => ⟨upI_n hc, upI_n hc, upI_n hc⟩, by show upI _ _ _ _ = _; rw [upI_s, hj0]; rfl, by show upI _ _ _ _ = _; rw [upI_s, hj0]; exact lW_1.symm, by show upI _ _ _ _ = _; rw [upI_s, hj0]; rfl⟩ hP hS
            · exfalso; omega
abbrev rmX3_layAllRests : Room := { frames := 5, cells := 0, slots := 0, locals := 115 }
theorem in_X3_layAllRests_X3 : ∀ w ∈ wsX30, w ∈ wsX3_layAllRests := fun _ h => List.mem_cons_of_mem _ (List.mem_append_right _ h)
theorem m_X3_layAllRests_0 : (.fieldLink RX3 7 "BrassWaysModel" "state" "[I" : Cond) ∈ wsX3_layAllRests := List.mem_of_getElem? (i := 1) rfl
theorem m_X3_layAllRests_1 : (.fieldLink RX3 23 "BrassWaysModel" "ways" "[J" : Cond) ∈ wsX3_layAllRests := List.mem_of_getElem? (i := 2) rfl
set_option maxHeartbeats 4000000 in
set_option maxRecDepth 100000 in
theorem c_X3_layAllRests (l : Launch) (D : va_G) (cI cJ cZ cO : ClassId) (sz : Nat) (h0 : Nat) (a0 : Nat) (a1 : Nat) (a2 : Nat) (a3 : Nat) (a4 : Nat) (a5 : Nat) (a6 : Nat) (σ : Int → Int) (gr : Int → Int) (gw : Int → Int64) (gl : Int → Int64) (hO : Ok σ) : Met l yX3_layAllRests wsX3_layAllRests rmX3_layAllRests (zPc D cI cJ cZ cO [(h0, .inr (3, [.ref a0, .ref a1, .ref a2, .ref a3, .ref a4, .ref a5, .ref a6])), (a0, .inl (cI, 22, .inl (zF (σ)))), (a3, .inl (cI, 768, .inl (zF (gr)))), (a4, .inl (cJ, 768, .inr (.inl (zL (gw))))), (a5, .inl (cJ, 768, .inr (.inl (zL (gl)))))] sz [.ref h0]) (zQv D (fun (u : (Int → Int) × (Int → Int64) × (Int → Int64)) => ∀ i : Nat, (i : Int) < σ 9 → LAY σ u.1 u.2.1 u.2.2 i) (fun (u : (Int → Int) × (Int → Int64) × (Int → Int64)) => [(h0, .inr (3, [.ref a0, .ref a1, .ref a2, .ref a3, .ref a4, .ref a5, .ref a6])), (a0, .inl (cI, 22, .inl (zF (σ)))), (a3, .inl (cI, 768, .inl (zF (u.1)))), (a4, .inl (cJ, 768, .inr (.inl (zL (u.2.1))))), (a5, .inl (cJ, 768, .inr (.inl (zL (u.2.2)))))]) [(h0, .inr (3, [.ref a0, .ref a1, .ref a2, .ref a3, .ref a4, .ref a5, .ref a6])), (a0, .inl (cI, 22, .inl (zF (σ)))), (a3, .inl (cI, 768, .inl (zF (gr)))), (a4, .inl (cJ, 768, .inr (.inl (zL (gw))))), (a5, .inl (cJ, 768, .inr (.inl (zL (gl)))))] sz) 0 0 (va_A [(h0, .inr (3, [.ref a0, .ref a1, .ref a2, .ref a3, .ref a4, .ref a5, .ref a6])), (a0, .inl (cI, 22, .inl (zF (σ)))), (a3, .inl (cI, 768, .inl (zF (gr)))), (a4, .inl (cJ, 768, .inr (.inl (zL (gw))))), (a5, .inl (cJ, 768, .inr (.inl (zL (gl)))))] sz) := by
  refine z_metv (by decide) rfl (Nat.le_of_ble_eq_true rfl) ?_
  intro p e s m args below meth c A Q ls hx hb hml hown hts hA hS hP hD hK hZ hl hret
  have hl : lv_has ls 3 [(0, .ref h0)] := hl
  have o9 := hO.2.2.2.2.2.2.2.2.2.1
  refine lv_aload_n hx hb dX3_layAllRests_0 rfl (lv_at hl 0 rfl) ?_
  refine va_get (D := D) (ci := 3) (v := .ref a0) (C := RX3) (T := TX3) (N := 7) hx hb hts in_X3_layAllRests_X3 hown hK hP 0 rfl rfl 0 (by decide) (hts _ m_X3_layAllRests_0) (fun _ h9 => h9) rfl dX3_layAllRests_1 ?_
  refine lv_bipush (v := zI (9)) hx hb dX3_layAllRests_4 (by decide +kernel) ?_
  refine z_iald (k := 9) (g := σ) hx hb hK hP 1 0 rfl rfl (by omega) dX3_layAllRests_6 ?_
  try dsimp only
  refine lv_iconst (v := zI (1)) hx hb dX3_layAllRests_7 rfl ?_
  refine z_isub (a := σ 9) (b := 1) hx hb dX3_layAllRests_8 ?_
  refine lv_istore_n (lv' := [(1, .int (zI ((σ 9) - 1))), (0, .ref h0)]) hx hb dX3_layAllRests_9 rfl hl (by decide) rfl (fun ls hl => ?_)
  have loop_a : ∀ (f_a : Nat) (j : Nat) (pp : Int) (r1 : Int → Int) (w1 : Int → Int64) (l1 : Int → Int64) (H : Heap) (locs : List Loc) (ls : Array Slot), ((j : Int) ≤ σ 9) → (pp = σ 9 - 1 - (j : Int)) → (∀ i : Nat, i < j → LAY σ r1 w1 l1 i) → (12 - (j : Int) < (f_a : Int)) → va_P D vwCl [(h0, .inr (3, [.ref a0, .ref a1, .ref a2, .ref a3, .ref a4, .ref a5, .ref a6])), (a0, .inl (cI, 22, .inl (zF (σ)))), (a3, .inl (cI, 768, .inl (zF (r1)))), (a4, .inl (cJ, 768, .inr (.inl (zL (w1))))), (a5, .inl (cJ, 768, .inr (.inl (zL (l1)))))] H → va_D A [(h0, .inr (3, [.ref a0, .ref a1, .ref a2, .ref a3, .ref a4, .ref a5, .ref a6])), (a0, .inl (cI, 22, .inl (zF (σ)))), (a3, .inl (cI, 768, .inl (zF (r1)))), (a4, .inl (cJ, 768, .inr (.inl (zL (w1))))), (a5, .inl (cJ, 768, .inr (.inl (zL (l1)))))] → va_S A s.heap H locs → lv_has ls 3 [(0, .ref h0), (1, .int (zI (pp)))] → W p l e rmX3_layAllRests s m args below meth c H locs 0 0 Q (F0 m 10 ls []) := by
    intro f_a
    induction f_a with
    | zero =>
      intros
      exfalso; omega
    | succ f_a ih_a =>
      intro j pp r1 w1 l1 H locs ls e_j e_p e_L hfu_a hP hD hS hl
      refine lv_iload_n hx hb dX3_layAllRests_10 rfl (lv_at hl 1 rfl) ?_
      refine z_if_lt (a := pp) (tgt := 60) hx hb (by omega) dX3_layAllRests_11 (by decide) (fun c_11 => ?_) (fun c_11 => ?_)
      · exact hret _ _ _ _ (r1, w1, l1) dX3_layAllRests_60 (fun i hi => e_L i (by omega)) hP hS
      · have hn : ntj σ j = σ (10 + pp) := by unfold ntj; rw [e_p]
        refine lv_iconst (v := zI (0)) hx hb dX3_layAllRests_14 rfl ?_
        refine lv_istore_n (lv' := [(2, .int (zI (0))), (0, .ref h0), (1, .int (zI (pp)))]) hx hb dX3_layAllRests_15 rfl hl (by decide) rfl (fun ls hl => ?_)
        have loop_b : ∀ (f_b : Nat) (k : Nat) (r2 : Int → Int) (w2 : Int → Int64) (l2 : Int → Int64) (H : Heap) (locs : List Loc) (ls : Array Slot), (k ≤ 64) → (∀ i : Nat, i < j → LAY σ r2 w2 l2 i) → (LAYK σ r2 w2 l2 j pp k) → (64 - (k : Int) < (f_b : Int)) → va_P D vwCl [(h0, .inr (3, [.ref a0, .ref a1, .ref a2, .ref a3, .ref a4, .ref a5, .ref a6])), (a0, .inl (cI, 22, .inl (zF (σ)))), (a3, .inl (cI, 768, .inl (zF (r2)))), (a4, .inl (cJ, 768, .inr (.inl (zL (w2))))), (a5, .inl (cJ, 768, .inr (.inl (zL (l2)))))] H → va_D A [(h0, .inr (3, [.ref a0, .ref a1, .ref a2, .ref a3, .ref a4, .ref a5, .ref a6])), (a0, .inl (cI, 22, .inl (zF (σ)))), (a3, .inl (cI, 768, .inl (zF (r2)))), (a4, .inl (cJ, 768, .inr (.inl (zL (w2))))), (a5, .inl (cJ, 768, .inr (.inl (zL (l2)))))] → va_S A s.heap H locs → lv_has ls 3 [(0, .ref h0), (1, .int (zI (pp))), (2, .int (zI ((k : Int))))] → W p l e rmX3_layAllRests s m args below meth c H locs 0 0 Q (F0 m 16 ls []) := by
          intro f_b
          induction f_b with
          | zero =>
            intros
            exfalso; omega
          | succ f_b ih_b =>
            intro k r2 w2 l2 H locs ls e_k e_M e_N hfu_b hP hD hS hl
            refine lv_iload_n hx hb dX3_layAllRests_16 rfl (lv_at hl 2 rfl) ?_
            refine lv_bipush (v := zI (64)) hx hb dX3_layAllRests_17 (by decide +kernel) ?_
            refine z_icmp_ge (a := (k : Int)) (b := 64) (tgt := 54) hx hb (by omega) dX3_layAllRests_19 (by decide) (fun c_19 => ?_) (fun c_19 => ?_)
            · refine lv_iinc (v := zI (pp + (-1))) (lv' := [(1, .int (zI (pp + (-1)))), (0, .ref h0), (2, .int (zI ((k : Int))))]) hx hb dX3_layAllRests_54 hl (k := 1) rfl (zI_add _ _) (by decide) rfl (fun ls hl => ?_)
              refine lv_goto (tgt := 10) hx hb dX3_layAllRests_57 (by decide) ?_
              exact ih_a (j + 1) (pp + (-1)) (r2) (w2) (l2) _ _ _ (by omega) (by omega) (fun i hi => if hij : i = j then by rw [hij]; exact LAY_of e_p (by rw [show k = 64 by omega] at e_N; exact e_N) else e_M i (by omega)) (by omega) hP hD hS (lv_sub hl [1, 0] rfl)
            · refine lv_aload_n hx hb dX3_layAllRests_22 rfl (lv_at hl 0 rfl) ?_
              refine va_get (D := D) (ci := 3) (v := .ref a4) (C := RX3) (T := TX3) (N := 7) hx hb hts in_X3_layAllRests_X3 hown hK hP 0 rfl rfl 4 (by decide) (hts _ m_X3_layAllRests_1) (fun _ h9 => h9) rfl dX3_layAllRests_23 ?_
              refine lv_iload_n hx hb dX3_layAllRests_26 rfl (lv_at hl 1 rfl) ?_
              refine lv_iload_n hx hb dX3_layAllRests_27 rfl (lv_at hl 2 rfl) ?_
              refine z_Sir (As := [.int (zI (pp)), .int (zI ((k : Int)))]) (rest := [.ref a4]) hx hb hml hown hts hA hS hP hD hK hZ hl.1 (c_X3_at l D cI cJ cZ cO _ (pp) ((k : Int)) ) (va_cwS 2 hts gX3_layAllRests_X3_at rfl rfl rfl (by decide +kernel) ⟨Nat.le_of_ble_eq_true rfl, Nat.le_of_ble_eq_true rfl⟩) [] rfl rfl rfl rfl (Nat.le_of_ble_eq_true rfl) ⟨Nat.zero_le _, Nat.zero_le _⟩ dX3_layAllRests_28 (fun r u H locs hw hP hS => ?_)
              subst hw
              refine lv_lconst (v := 0) hx hb dX3_layAllRests_31 rfl ?_
              refine z_last (k := 64 * pp + (k : Int)) (x := 0) (g := w2) hx hb hK hP hD hS 3 1 rfl rfl (by omega) dX3_layAllRests_32 (fun H locs hP hD hS => ?_)
              have hP : va_P D vwCl [(h0, .inr (3, [.ref a0, .ref a1, .ref a2, .ref a3, .ref a4, .ref a5, .ref a6])), (a0, .inl (cI, 22, .inl (zF (σ)))), (a3, .inl (cI, 768, .inl (zF (r2)))), (a4, .inl (cJ, 768, .inr (.inl (zL (upI w2 (64 * pp + (k : Int)) 0))))), (a5, .inl (cJ, 768, .inr (.inl (zL (l2)))))] H := hP
              have hD : va_D A [(h0, .inr (3, [.ref a0, .ref a1, .ref a2, .ref a3, .ref a4, .ref a5, .ref a6])), (a0, .inl (cI, 22, .inl (zF (σ)))), (a3, .inl (cI, 768, .inl (zF (r2)))), (a4, .inl (cJ, 768, .inr (.inl (zL (upI w2 (64 * pp + (k : Int)) 0))))), (a5, .inl (cJ, 768, .inr (.inl (zL (l2)))))] := hD
              refine lv_aload_n hx hb dX3_layAllRests_33 rfl (lv_at hl 0 rfl) ?_
              refine lv_iload_n hx hb dX3_layAllRests_34 rfl (lv_at hl 1 rfl) ?_
              refine lv_iload_n hx hb dX3_layAllRests_35 rfl (lv_at hl 2 rfl) ?_
              refine z_Vir (As := [.int (zI (pp)), .int (zI ((k : Int)))]) (rest := []) hx hb hml hown hts hA hS hP hD hK hZ hl.1 (c_X3_isAt l D cI cJ cZ cO _ (h0) (a0) (a1) (a2) (a3) (a4) (a5) (a6) (σ) (pp) ((k : Int)) (by omega) (by omega) hO) (cwV 2 hts gX3_layAllRests_X3_isAt rfl rfl rfl (by decide +kernel) ⟨Nat.le_of_ble_eq_true rfl, Nat.le_of_ble_eq_true rfl⟩) [0, 1] rfl rfl 0 3 rfl rfl rfl rfl (Nat.le_of_ble_eq_true rfl) ⟨Nat.zero_le _, Nat.zero_le _⟩ dX3_layAllRests_36 (fun r u H locs hw hP hS => ?_)
              subst hw
              refine z_ifB_eq (P := sd σ (k : Int) (σ (10 + pp)) = true) (tgt := 48) hx hb dX3_layAllRests_39 (by decide) (fun c_39 => ?_) (fun c_39 => ?_)
              · refine lv_iinc (v := zI ((k : Int) + 1)) (lv' := [(2, .int (zI ((k : Int) + 1))), (0, .ref h0), (1, .int (zI (pp)))]) hx hb dX3_layAllRests_48 hl (k := 2) rfl (zI_add _ _) (by decide) rfl (fun ls hl => ?_)
                refine lv_goto (tgt := 16) hx hb dX3_layAllRests_51 (by decide) ?_
                exact ih_b (k + 1) (r2) (upI w2 (64 * pp + (k : Int)) 0) (l2) _ _ _ (by omega) (fun i hi => LAY_keep (e_M i (by omega)) (c := 64 * pp + (k : Int)) (fun x hx => ⟨rfl, upI_n hx, rfl⟩) (by intro v h1 h2; omega)) (LAYK_n e_N (by rw [hn]; exact c_39)) (by omega) hP hD hS (lv_sub hl [1, 2, 0] rfl)
              · refine lv_aload_n hx hb dX3_layAllRests_42 rfl (lv_at hl 0 rfl) ?_
                refine lv_iload_n hx hb dX3_layAllRests_43 rfl (lv_at hl 1 rfl) ?_
                refine lv_iload_n hx hb dX3_layAllRests_44 rfl (lv_at hl 2 rfl) ?_
                refine z_Vvw (As := [.int (zI (pp)), .int (zI ((k : Int)))]) (rest := []) hx hb hml hown hts hA hS hP hD hK hZ hl.1 (c_X3_layRest l D cI cJ cZ cO _ (h0) (a0) (a1) (a2) (a3) (a4) (a5) (a6) (σ) (r2) (upI w2 (64 * pp + (k : Int)) 0) (l2) (j) (pp) ((k : Int)) (by omega) (by omega) (by omega) hO (fun i hi => LAY_keep (e_M i (by omega)) (c := 64 * pp + (k : Int)) (fun x hx => ⟨rfl, upI_n hx, rfl⟩) (by intro v h1 h2; omega))) (cwV 2 hts gX3_layAllRests_X3_layRest rfl rfl rfl (by decide +kernel) ⟨Nat.le_of_ble_eq_true rfl, Nat.le_of_ble_eq_true rfl⟩) [0, 1, 2, 3, 4] rfl rfl (fun _ => rfl) 0 3 rfl rfl rfl rfl (Nat.le_of_ble_eq_true rfl) ⟨Nat.zero_le _, Nat.zero_le _⟩ dX3_layAllRests_45 (fun u1 H locs hw hP hD hS => ?_)
                have hP : va_P D vwCl [(h0, .inr (3, [.ref a0, .ref a1, .ref a2, .ref a3, .ref a4, .ref a5, .ref a6])), (a0, .inl (cI, 22, .inl (zF (σ)))), (a3, .inl (cI, 768, .inl (zF (u1.1)))), (a4, .inl (cJ, 768, .inr (.inl (zL (u1.2.1))))), (a5, .inl (cJ, 768, .inr (.inl (zL (u1.2.2)))))] H := hP
                have hD : va_D A [(h0, .inr (3, [.ref a0, .ref a1, .ref a2, .ref a3, .ref a4, .ref a5, .ref a6])), (a0, .inl (cI, 22, .inl (zF (σ)))), (a3, .inl (cI, 768, .inl (zF (u1.1)))), (a4, .inl (cJ, 768, .inr (.inl (zL (u1.2.1))))), (a5, .inl (cJ, 768, .inr (.inl (zL (u1.2.2)))))] := hD
                refine lv_iinc (v := zI ((k : Int) + 1)) (lv' := [(2, .int (zI ((k : Int) + 1))), (0, .ref h0), (1, .int (zI (pp)))]) hx hb dX3_layAllRests_48 hl (k := 2) rfl (zI_add _ _) (by decide) rfl (fun ls hl => ?_)
                refine lv_goto (tgt := 16) hx hb dX3_layAllRests_51 (by decide) ?_
                exact ih_b (k + 1) (u1.1) (u1.2.1) (u1.2.2) _ _ _ (by omega) (fun i hi => LAY_keep (e_M i (by omega)) (c := 64 * pp + (k : Int)) (fun x hx => ⟨(hw.1 x hx).1, ((hw.1 x hx).2.1).trans (upI_n hx), (hw.1 x hx).2.2⟩) (by intro v h1 h2; omega)) (LAYK_y e_N (by rw [hn]; exact c_39) (fun x hx => ⟨(hw.1 x hx).1, ((hw.1 x hx).2.1).trans (upI_n hx), (hw.1 x hx).2.2⟩) hw.2.1 hw.2.2.1 hw.2.2.2) (by omega) hP hD hS (lv_sub hl [1, 2, 0] rfl)
        exact loop_b 70 (0) (r1) (w1) (l1) _ _ _ (by omega) (e_L) (LAYK_0) (by omega) hP hD hS (lv_sub hl [1, 2, 0] rfl)
  exact loop_a 70 (0) ((σ 9) - 1) (gr) (gw) (gl) _ _ _ (by omega) (by omega) (fun i h => absurd h (by omega)) (by omega) hP hD hS (lv_sub hl [1, 0] rfl)
abbrev rmX3_leastOfAll : Room := { frames := 0, cells := 0, slots := 0, locals := 0 }
theorem in_X3_leastOfAll_X3 : ∀ w ∈ wsX30, w ∈ wsX3_leastOfAll := fun _ h => List.mem_cons_of_mem _ (List.mem_append_right _ h)
theorem m_X3_leastOfAll_0 : (.fieldLink RX3 7 "BrassWaysModel" "state" "[I" : Cond) ∈ wsX3_leastOfAll := List.mem_of_getElem? (i := 1) rfl
theorem m_X3_leastOfAll_1 : (.fieldLink RX3 23 "BrassWaysModel" "ways" "[J" : Cond) ∈ wsX3_leastOfAll := List.mem_of_getElem? (i := 2) rfl
theorem m_X3_leastOfAll_2 : (.fieldLink RX3 20 "BrassWaysModel" "rest" "[I" : Cond) ∈ wsX3_leastOfAll := List.mem_of_getElem? (i := 3) rfl
set_option maxHeartbeats 4000000 in
set_option maxRecDepth 100000 in
theorem c_X3_leastOfAll (l : Launch) (D : va_G) (cI cJ cZ cO : ClassId) (sz : Nat) (h0 : Nat) (a0 : Nat) (a1 : Nat) (a2 : Nat) (a3 : Nat) (a4 : Nat) (a5 : Nat) (a6 : Nat) (σ : Int → Int) (gr : Int → Int) (gw : Int → Int64) (gl : Int → Int64) (hO : Ok σ) (hL : ∀ i : Nat, (i : Int) < σ 9 → LAY σ gr gw gl i) : Met l yX3_leastOfAll wsX3_leastOfAll rmX3_leastOfAll (zPc D cI cJ cZ cO [(h0, .inr (3, [.ref a0, .ref a1, .ref a2, .ref a3, .ref a4, .ref a5, .ref a6])), (a0, .inl (cI, 22, .inl (zF (σ)))), (a3, .inl (cI, 768, .inl (zF (gr)))), (a4, .inl (cJ, 768, .inr (.inl (zL (gw)))))] sz [.ref h0]) (zQi D (fun (r : Int32) (_ : Unit) => r = zI (LEAST σ)) (fun (_ : Unit) => [(h0, .inr (3, [.ref a0, .ref a1, .ref a2, .ref a3, .ref a4, .ref a5, .ref a6])), (a0, .inl (cI, 22, .inl (zF (σ)))), (a3, .inl (cI, 768, .inl (zF (gr)))), (a4, .inl (cJ, 768, .inr (.inl (zL (gw)))))]) [(h0, .inr (3, [.ref a0, .ref a1, .ref a2, .ref a3, .ref a4, .ref a5, .ref a6])), (a0, .inl (cI, 22, .inl (zF (σ)))), (a3, .inl (cI, 768, .inl (zF (gr)))), (a4, .inl (cJ, 768, .inr (.inl (zL (gw)))))] sz) 0 0 (va_A [(h0, .inr (3, [.ref a0, .ref a1, .ref a2, .ref a3, .ref a4, .ref a5, .ref a6])), (a0, .inl (cI, 22, .inl (zF (σ)))), (a3, .inl (cI, 768, .inl (zF (gr)))), (a4, .inl (cJ, 768, .inr (.inl (zL (gw)))))] sz) := by
  refine z_meti (by decide) rfl (Nat.le_of_ble_eq_true rfl) ?_
  intro p e s m args below meth c A Q ls hx hb hml hown hts hA hS hP hD hK hZ hl hret
  have hl : lv_has ls 4 [(0, .ref h0)] := hl
  have o9 := hO.2.2.2.2.2.2.2.2.2.1
  refine lv_aload_n hx hb dX3_leastOfAll_0 rfl (lv_at hl 0 rfl) ?_
  refine va_get (D := D) (ci := 3) (v := .ref a0) (C := RX3) (T := TX3) (N := 7) hx hb hts in_X3_leastOfAll_X3 hown hK hP 0 rfl rfl 0 (by decide) (hts _ m_X3_leastOfAll_0) (fun _ h9 => h9) rfl dX3_leastOfAll_1 ?_
  refine lv_bipush (v := zI (9)) hx hb dX3_leastOfAll_4 (by decide +kernel) ?_
  refine z_iald (k := 9) (g := σ) hx hb hK hP 1 0 rfl rfl (by omega) dX3_leastOfAll_6 ?_
  try dsimp only
  refine z_if_ne (a := σ 9) (tgt := 12) hx hb (by omega) dX3_leastOfAll_7 (by decide) (fun c_7 => ?_) (fun c_7 => ?_)
  · obtain ⟨j0, hj0⟩ : ∃ j0 : Nat, (j0 : Int) = σ 9 - 1 := ⟨(σ 9 - 1).toNat, by omega⟩
    have hLL : ∀ v : Int, 0 ≤ v → v < 64 → gw v = lW (WW σ j0 v) ∧ (sd σ v (ntj σ j0) = true → gr v = RR σ j0 v ∧ gl v = TT σ j0 v) := by intro v h1 h2; have h := hL j0 (by omega) v h1 h2; rw [show 64 * (σ 9 - 1 - (j0 : Int)) + v = v by omega] at h; exact h
    refine lv_bipush (v := zI (-6)) hx hb dX3_leastOfAll_12 (by decide +kernel) ?_
    refine lv_istore_n (lv' := [(1, .int (zI (-6))), (0, .ref h0)]) hx hb dX3_leastOfAll_14 rfl hl (by decide) rfl (fun ls hl => ?_)
    refine lv_iconst (v := zI (0)) hx hb dX3_leastOfAll_15 rfl ?_
    refine lv_istore_n (lv' := [(2, .int (zI (0))), (1, .int (zI (-6))), (0, .ref h0)]) hx hb dX3_leastOfAll_16 rfl hl (by decide) rfl (fun ls hl => ?_)
    have loop_a : ∀ (f_a : Nat) (k : Nat) (y : Int) (H : Heap) (locs : List Loc) (ls : Array Slot), (k ≤ 64) → (-6 ≤ y ∧ y ≤ 60000) → (y = mbs (qW σ j0) (RR σ j0) (-6) k) → (64 - (k : Int) < (f_a : Int)) → va_P D vwCl [(h0, .inr (3, [.ref a0, .ref a1, .ref a2, .ref a3, .ref a4, .ref a5, .ref a6])), (a0, .inl (cI, 22, .inl (zF (σ)))), (a3, .inl (cI, 768, .inl (zF (gr)))), (a4, .inl (cJ, 768, .inr (.inl (zL (gw)))))] H → va_D A [(h0, .inr (3, [.ref a0, .ref a1, .ref a2, .ref a3, .ref a4, .ref a5, .ref a6])), (a0, .inl (cI, 22, .inl (zF (σ)))), (a3, .inl (cI, 768, .inl (zF (gr)))), (a4, .inl (cJ, 768, .inr (.inl (zL (gw)))))] → va_S A s.heap H locs → lv_has ls 4 [(0, .ref h0), (1, .int (zI (y))), (2, .int (zI ((k : Int))))] → W p l e rmX3_leastOfAll s m args below meth c H locs 0 0 Q (F0 m 17 ls []) := by
      intro f_a
      induction f_a with
      | zero =>
        intros
        exfalso; omega
      | succ f_a ih_a =>
        intro k y H locs ls e_k e_b e_y hfu_a hP hD hS hl
        have hWb := WW_in hO (j := j0) (by omega) (k : Int)
        refine lv_iload_n hx hb dX3_leastOfAll_17 rfl (lv_at hl 2 rfl) ?_
        refine lv_bipush (v := zI (64)) hx hb dX3_leastOfAll_18 (by decide +kernel) ?_
        refine z_icmp_ge (a := (k : Int)) (b := 64) (tgt := 75) hx hb (by omega) dX3_leastOfAll_20 (by decide) (fun c_20 => ?_) (fun c_20 => ?_)
        · refine lv_iload_n hx hb dX3_leastOfAll_75 rfl (lv_at hl 1 rfl) ?_
          exact hret _ _ _ _ _ () dX3_leastOfAll_76 (by unfold LEAST; rw [if_neg c_7, e_y, show k = 64 by omega, show (σ 9 - 1).toNat = j0 by omega]) hP hS
        · refine lv_aload_n hx hb dX3_leastOfAll_23 rfl (lv_at hl 0 rfl) ?_
          refine va_get (D := D) (ci := 3) (v := .ref a4) (C := RX3) (T := TX3) (N := 7) hx hb hts in_X3_leastOfAll_X3 hown hK hP 0 rfl rfl 4 (by decide) (hts _ m_X3_leastOfAll_1) (fun _ h9 => h9) rfl dX3_leastOfAll_24 ?_
          refine lv_iload_n hx hb dX3_leastOfAll_27 rfl (lv_at hl 2 rfl) ?_
          refine z_lald (k := (k : Int)) (g := gw) hx hb hK hP 3 1 rfl rfl (by omega) dX3_leastOfAll_28 ?_
          try dsimp only
          refine z_topl (y := lW (WW σ j0 (k : Int))) ((hLL (k : Int) (by omega) (by omega)).1) ?_
          refine lv_lconst (v := 0) hx hb dX3_leastOfAll_29 rfl ?_
          refine z_lcmp_le (x := lW (WW σ j0 (k : Int))) (y := 0) (tgt := 52) hx hb dX3_leastOfAll_30 dX3_leastOfAll_31 (by decide) (fun c_30 => ?_) (fun c_30 => ?_)
          · have hnw : ¬ 0 < WW σ j0 (k : Int) := by have := (lW_le0 (by omega)).mp c_30; omega
            have hnq : ¬ qW σ j0 (k : Int) = true := by rw [decide_eq_true_eq]; exact hnw
            refine lv_iconst (v := zI (0)) hx hb dX3_leastOfAll_52 rfl ?_
            refine lv_istore_n (lv' := [(3, .int (zI (0))), (0, .ref h0), (1, .int (zI (y))), (2, .int (zI ((k : Int))))]) hx hb dX3_leastOfAll_53 rfl hl (by decide) rfl (fun ls hl => ?_)
            refine lv_iload_n hx hb dX3_leastOfAll_54 rfl (lv_at hl 0 rfl) ?_
            refine z_if_eq (a := 0) (tgt := 67) hx hb (by omega) dX3_leastOfAll_55 (by decide) (fun c_55 => ?_) (fun c_55 => ?_)
            · refine lv_iload_n hx hb dX3_leastOfAll_67 rfl (lv_at hl 2 rfl) ?_
              refine lv_istore_n (lv' := [(1, .int (zI (y))), (3, .int (zI (0))), (0, .ref h0), (2, .int (zI ((k : Int))))]) hx hb dX3_leastOfAll_68 rfl hl (by decide) rfl (fun ls hl => ?_)
              refine lv_iinc (v := zI ((k : Int) + 1)) (lv' := [(2, .int (zI ((k : Int) + 1))), (1, .int (zI (y))), (3, .int (zI (0))), (0, .ref h0)]) hx hb dX3_leastOfAll_69 hl (k := 3) rfl (zI_add _ _) (by decide) rfl (fun ls hl => ?_)
              refine lv_goto (tgt := 17) hx hb dX3_leastOfAll_72 (by decide) ?_
              exact ih_a (k + 1) (y) _ _ _ (by omega) (by omega) (by rw [mbs_s e_y]; first | (rw [if_neg hnq]; done) | (rw [if_pos hyq, if_pos (Or.inl c_35)]; done) | (rw [if_pos hyq, if_pos (Or.inr c_45)]; done) | (rw [if_pos hyq, if_neg (fun h => h.elim (fun g => by omega) (fun g => Int.not_lt.mpr c_45 g))]; done)) (by omega) hP hD hS (lv_sub hl [3, 1, 0] rfl)
            · exfalso; omega
          · have hyw : 0 < WW σ j0 (k : Int) := (lW_gt0 (by omega)).mp c_30
            have hyq : qW σ j0 (k : Int) = true := decide_eq_true hyw
            have hRR := (hLL (k : Int) (by omega) (by omega)).2 (WW_sd hyw).1
            have hR := RR_in hO j0 (by omega) (k : Int) (by omega)
            have hR2 := hR.2 hyw
            refine lv_iload_n hx hb dX3_leastOfAll_34 rfl (lv_at hl 1 rfl) ?_
            refine z_if_lt (a := y) (tgt := 48) hx hb (by omega) dX3_leastOfAll_35 (by decide) (fun c_35 => ?_) (fun c_35 => ?_)
            · refine lv_iconst (v := zI (1)) hx hb dX3_leastOfAll_48 rfl ?_
              refine lv_goto (tgt := 53) hx hb dX3_leastOfAll_49 (by decide) ?_
              refine lv_istore_n (lv' := [(3, .int (zI (1))), (0, .ref h0), (1, .int (zI (y))), (2, .int (zI ((k : Int))))]) hx hb dX3_leastOfAll_53 rfl hl (by decide) rfl (fun ls hl => ?_)
              refine lv_iload_n hx hb dX3_leastOfAll_54 rfl (lv_at hl 0 rfl) ?_
              refine z_if_eq (a := 1) (tgt := 67) hx hb (by omega) dX3_leastOfAll_55 (by decide) (fun c_55 => ?_) (fun c_55 => ?_)
              · exfalso; omega
              · refine lv_aload_n hx hb dX3_leastOfAll_58 rfl (lv_at hl 1 rfl) ?_
                refine va_get (D := D) (ci := 3) (v := .ref a3) (C := RX3) (T := TX3) (N := 7) hx hb hts in_X3_leastOfAll_X3 hown hK hP 0 rfl rfl 3 (by decide) (hts _ m_X3_leastOfAll_2) (fun _ h9 => h9) rfl dX3_leastOfAll_59 ?_
                refine lv_iload_n hx hb dX3_leastOfAll_62 rfl (lv_at hl 3 rfl) ?_
                refine z_iald (k := (k : Int)) (g := gr) hx hb hK hP 2 0 rfl rfl (by omega) dX3_leastOfAll_63 ?_
                try dsimp only
                refine z_top (y := zI (RR σ j0 (k : Int))) (by rw [hRR.1]) ?_
                refine lv_goto (tgt := 68) hx hb dX3_leastOfAll_64 (by decide) ?_
                refine lv_istore_n (lv' := [(1, .int (zI (RR σ j0 (k : Int)))), (3, .int (zI (1))), (0, .ref h0), (2, .int (zI ((k : Int))))]) hx hb dX3_leastOfAll_68 rfl hl (by decide) rfl (fun ls hl => ?_)
                refine lv_iinc (v := zI ((k : Int) + 1)) (lv' := [(2, .int (zI ((k : Int) + 1))), (1, .int (zI (RR σ j0 (k : Int)))), (3, .int (zI (1))), (0, .ref h0)]) hx hb dX3_leastOfAll_69 hl (k := 3) rfl (zI_add _ _) (by decide) rfl (fun ls hl => ?_)
                refine lv_goto (tgt := 17) hx hb dX3_leastOfAll_72 (by decide) ?_
                exact ih_a (k + 1) (RR σ j0 (k : Int)) _ _ _ (by omega) (by omega) (by rw [mbs_s e_y]; first | (rw [if_neg hnq]; done) | (rw [if_pos hyq, if_pos (Or.inl c_35)]; done) | (rw [if_pos hyq, if_pos (Or.inr c_45)]; done) | (rw [if_pos hyq, if_neg (fun h => h.elim (fun g => by omega) (fun g => Int.not_lt.mpr c_45 g))]; done)) (by omega) hP hD hS (lv_sub hl [3, 1, 0] rfl)
            · refine lv_aload_n hx hb dX3_leastOfAll_38 rfl (lv_at hl 0 rfl) ?_
              refine va_get (D := D) (ci := 3) (v := .ref a3) (C := RX3) (T := TX3) (N := 7) hx hb hts in_X3_leastOfAll_X3 hown hK hP 0 rfl rfl 3 (by decide) (hts _ m_X3_leastOfAll_2) (fun _ h9 => h9) rfl dX3_leastOfAll_39 ?_
              refine lv_iload_n hx hb dX3_leastOfAll_42 rfl (lv_at hl 2 rfl) ?_
              refine z_iald (k := (k : Int)) (g := gr) hx hb hK hP 2 0 rfl rfl (by omega) dX3_leastOfAll_43 ?_
              try dsimp only
              refine z_top (y := zI (RR σ j0 (k : Int))) (by rw [hRR.1]) ?_
              refine lv_iload_n hx hb dX3_leastOfAll_44 rfl (lv_at hl 1 rfl) ?_
              refine z_icmp_ge (a := RR σ j0 (k : Int)) (b := y) (tgt := 52) hx hb (by omega) dX3_leastOfAll_45 (by decide) (fun c_45 => ?_) (fun c_45 => ?_)
              · refine lv_iconst (v := zI (0)) hx hb dX3_leastOfAll_52 rfl ?_
                refine lv_istore_n (lv' := [(3, .int (zI (0))), (0, .ref h0), (1, .int (zI (y))), (2, .int (zI ((k : Int))))]) hx hb dX3_leastOfAll_53 rfl hl (by decide) rfl (fun ls hl => ?_)
                refine lv_iload_n hx hb dX3_leastOfAll_54 rfl (lv_at hl 0 rfl) ?_
                refine z_if_eq (a := 0) (tgt := 67) hx hb (by omega) dX3_leastOfAll_55 (by decide) (fun c_55 => ?_) (fun c_55 => ?_)
                · refine lv_iload_n hx hb dX3_leastOfAll_67 rfl (lv_at hl 2 rfl) ?_
                  refine lv_istore_n (lv' := [(1, .int (zI (y))), (3, .int (zI (0))), (0, .ref h0), (2, .int (zI ((k : Int))))]) hx hb dX3_leastOfAll_68 rfl hl (by decide) rfl (fun ls hl => ?_)
                  refine lv_iinc (v := zI ((k : Int) + 1)) (lv' := [(2, .int (zI ((k : Int) + 1))), (1, .int (zI (y))), (3, .int (zI (0))), (0, .ref h0)]) hx hb dX3_leastOfAll_69 hl (k := 3) rfl (zI_add _ _) (by decide) rfl (fun ls hl => ?_)
                  refine lv_goto (tgt := 17) hx hb dX3_leastOfAll_72 (by decide) ?_
                  exact ih_a (k + 1) (y) _ _ _ (by omega) (by omega) (by rw [mbs_s e_y]; first | (rw [if_neg hnq]; done) | (rw [if_pos hyq, if_pos (Or.inl c_35)]; done) | (rw [if_pos hyq, if_pos (Or.inr c_45)]; done) | (rw [if_pos hyq, if_neg (fun h => h.elim (fun g => by omega) (fun g => Int.not_lt.mpr c_45 g))]; done)) (by omega) hP hD hS (lv_sub hl [3, 1, 0] rfl)
                · exfalso; omega
              · refine lv_iconst (v := zI (1)) hx hb dX3_leastOfAll_48 rfl ?_
                refine lv_goto (tgt := 53) hx hb dX3_leastOfAll_49 (by decide) ?_
                refine lv_istore_n (lv' := [(3, .int (zI (1))), (0, .ref h0), (1, .int (zI (y))), (2, .int (zI ((k : Int))))]) hx hb dX3_leastOfAll_53 rfl hl (by decide) rfl (fun ls hl => ?_)
                refine lv_iload_n hx hb dX3_leastOfAll_54 rfl (lv_at hl 0 rfl) ?_
                refine z_if_eq (a := 1) (tgt := 67) hx hb (by omega) dX3_leastOfAll_55 (by decide) (fun c_55 => ?_) (fun c_55 => ?_)
                · exfalso; omega
                · refine lv_aload_n hx hb dX3_leastOfAll_58 rfl (lv_at hl 1 rfl) ?_
                  refine va_get (D := D) (ci := 3) (v := .ref a3) (C := RX3) (T := TX3) (N := 7) hx hb hts in_X3_leastOfAll_X3 hown hK hP 0 rfl rfl 3 (by decide) (hts _ m_X3_leastOfAll_2) (fun _ h9 => h9) rfl dX3_leastOfAll_59 ?_
                  refine lv_iload_n hx hb dX3_leastOfAll_62 rfl (lv_at hl 3 rfl) ?_
                  refine z_iald (k := (k : Int)) (g := gr) hx hb hK hP 2 0 rfl rfl (by omega) dX3_leastOfAll_63 ?_
                  try dsimp only
                  refine z_top (y := zI (RR σ j0 (k : Int))) (by rw [hRR.1]) ?_
                  refine lv_goto (tgt := 68) hx hb dX3_leastOfAll_64 (by decide) ?_
                  refine lv_istore_n (lv' := [(1, .int (zI (RR σ j0 (k : Int)))), (3, .int (zI (1))), (0, .ref h0), (2, .int (zI ((k : Int))))]) hx hb dX3_leastOfAll_68 rfl hl (by decide) rfl (fun ls hl => ?_)
                  refine lv_iinc (v := zI ((k : Int) + 1)) (lv' := [(2, .int (zI ((k : Int) + 1))), (1, .int (zI (RR σ j0 (k : Int)))), (3, .int (zI (1))), (0, .ref h0)]) hx hb dX3_leastOfAll_69 hl (k := 3) rfl (zI_add _ _) (by decide) rfl (fun ls hl => ?_)
                  refine lv_goto (tgt := 17) hx hb dX3_leastOfAll_72 (by decide) ?_
                  exact ih_a (k + 1) (RR σ j0 (k : Int)) _ _ _ (by omega) (by omega) (by rw [mbs_s e_y]; first | (rw [if_neg hnq]; done) | (rw [if_pos hyq, if_pos (Or.inl c_35)]; done) | (rw [if_pos hyq, if_pos (Or.inr c_45)]; done) | (rw [if_pos hyq, if_neg (fun h => h.elim (fun g => by omega) (fun g => Int.not_lt.mpr c_45 g))]; done)) (by omega) hP hD hS (lv_sub hl [3, 1, 0] rfl)
    exact loop_a 70 (0) (-6) _ _ _ (by omega) (by omega) (rfl) (by omega) hP hD hS (lv_sub hl [2, 1, 0] rfl)
  · refine lv_iconst (v := zI (0)) hx hb dX3_leastOfAll_10 rfl ?_
    exact hret _ _ _ _ _ () dX3_leastOfAll_11 (by unfold LEAST; rw [if_pos c_7]) hP hS
abbrev rmX3_nextWay : Room := { frames := 2, cells := 0, slots := 0, locals := 43 }
theorem in_X3_nextWay_X3 : ∀ w ∈ wsX30, w ∈ wsX3_nextWay := fun _ h => List.mem_cons_of_mem _ (List.mem_append_right _ h)
theorem m_X3_nextWay_0 : (.fieldLink RX3 20 "BrassWaysModel" "rest" "[I" : Cond) ∈ wsX3_nextWay := List.mem_of_getElem? (i := 1) rfl
theorem m_X3_nextWay_1 : (.fieldLink RX3 23 "BrassWaysModel" "ways" "[J" : Cond) ∈ wsX3_nextWay := List.mem_of_getElem? (i := 2) rfl
set_option maxHeartbeats 4000000 in
set_option maxRecDepth 100000 in
theorem c_X3_nextWay (l : Launch) (D : va_G) (cI cJ cZ cO : ClassId) (sz : Nat) (h0 : Nat) (a0 : Nat) (a1 : Nat) (a2 : Nat) (a3 : Nat) (a4 : Nat) (a5 : Nat) (a6 : Nat) (σ : Int → Int) (gr : Int → Int) (gw : Int → Int64) (gl : Int → Int64) (j : Nat) (q : Int) (a : Int) (d : Int) (hq : q = σ 9 - 1 - (j : Int)) (hq0 : 0 ≤ q) (ha : q = 0 ∨ (0 ≤ a ∧ a < 64)) (hd : -2147483648 ≤ d ∧ d < 2147483648) (hO : Ok σ) (hL : LAY σ gr gw gl j) : Met l yX3_nextWay wsX3_nextWay rmX3_nextWay (zPc D cI cJ cZ cO [(h0, .inr (3, [.ref a0, .ref a1, .ref a2, .ref a3, .ref a4, .ref a5, .ref a6])), (a0, .inl (cI, 22, .inl (zF (σ)))), (a3, .inl (cI, 768, .inl (zF (gr)))), (a4, .inl (cJ, 768, .inr (.inl (zL (gw)))))] sz [.ref h0, .int (zI (q)), .int (zI (a)), .int (zI (d))]) (zQi D (fun (r : Int32) (_ : Unit) => r = zI (fnd (qN σ j q a d) 64)) (fun (_ : Unit) => [(h0, .inr (3, [.ref a0, .ref a1, .ref a2, .ref a3, .ref a4, .ref a5, .ref a6])), (a0, .inl (cI, 22, .inl (zF (σ)))), (a3, .inl (cI, 768, .inl (zF (gr)))), (a4, .inl (cJ, 768, .inr (.inl (zL (gw)))))]) [(h0, .inr (3, [.ref a0, .ref a1, .ref a2, .ref a3, .ref a4, .ref a5, .ref a6])), (a0, .inl (cI, 22, .inl (zF (σ)))), (a3, .inl (cI, 768, .inl (zF (gr)))), (a4, .inl (cJ, 768, .inr (.inl (zL (gw)))))] sz) 0 0 (va_A [(h0, .inr (3, [.ref a0, .ref a1, .ref a2, .ref a3, .ref a4, .ref a5, .ref a6])), (a0, .inl (cI, 22, .inl (zF (σ)))), (a3, .inl (cI, 768, .inl (zF (gr)))), (a4, .inl (cJ, 768, .inr (.inl (zL (gw)))))] sz) := by
  refine z_meti (by decide) rfl (Nat.le_of_ble_eq_true rfl) ?_
  intro p e s m args below meth c A Q ls hx hb hml hown hts hA hS hP hD hK hZ hl hret
  have hl : lv_has ls 6 [(0, .ref h0), (1, .int (zI (q))), (2, .int (zI (a))), (3, .int (zI (d)))] := hl
  have o9 := hO.2.2.2.2.2.2.2.2.2.1
  have hLL := hL
  unfold LAY at hLL
  rw [← hq] at hLL
  refine lv_iconst (v := zI (0)) hx hb dX3_nextWay_0 rfl ?_
  refine lv_istore (lv' := [(4, .int (zI (0))), (0, .ref h0), (1, .int (zI (q))), (2, .int (zI (a))), (3, .int (zI (d)))]) hx hb dX3_nextWay_1 hl (by decide) rfl (fun ls hl => ?_)
  have loop_a : ∀ (f_a : Nat) (k : Nat) (H : Heap) (locs : List Loc) (ls : Array Slot), (k ≤ 64) → (fnd (qN σ j q a d) k = -6) → (64 - (k : Int) < (f_a : Int)) → va_P D vwCl [(h0, .inr (3, [.ref a0, .ref a1, .ref a2, .ref a3, .ref a4, .ref a5, .ref a6])), (a0, .inl (cI, 22, .inl (zF (σ)))), (a3, .inl (cI, 768, .inl (zF (gr)))), (a4, .inl (cJ, 768, .inr (.inl (zL (gw)))))] H → va_D A [(h0, .inr (3, [.ref a0, .ref a1, .ref a2, .ref a3, .ref a4, .ref a5, .ref a6])), (a0, .inl (cI, 22, .inl (zF (σ)))), (a3, .inl (cI, 768, .inl (zF (gr)))), (a4, .inl (cJ, 768, .inr (.inl (zL (gw)))))] → va_S A s.heap H locs → lv_has ls 6 [(0, .ref h0), (1, .int (zI (q))), (2, .int (zI (a))), (3, .int (zI (d))), (4, .int (zI ((k : Int))))] → W p l e rmX3_nextWay s m args below meth c H locs 0 0 Q (F0 m 3 ls []) := by
    intro f_a
    induction f_a with
    | zero =>
      intros
      exfalso; omega
    | succ f_a ih_a =>
      intro k H locs ls e_k e_f hfu_a hP hD hS hl
      have hWb := WW_in hO (j := j) (by omega) (k : Int)
      refine lv_iload hx hb dX3_nextWay_3 (lv_at hl 4 rfl) ?_
      refine lv_bipush (v := zI (64)) hx hb dX3_nextWay_5 (by decide +kernel) ?_
      refine z_icmp_ge (a := (k : Int)) (b := 64) (tgt := 70) hx hb (by omega) dX3_nextWay_7 (by decide) (fun c_7 => ?_) (fun c_7 => ?_)
      · refine lv_bipush (v := zI (-6)) hx hb dX3_nextWay_70 (by decide +kernel) ?_
        exact hret _ _ _ _ _ () dX3_nextWay_72 (by rw [show k = 64 by omega] at e_f; rw [e_f]) hP hS
      · refine lv_iload_n hx hb dX3_nextWay_10 rfl (lv_at hl 1 rfl) ?_
        refine z_if_ne (a := q) (tgt := 18) hx hb (by omega) dX3_nextWay_11 (by decide) (fun c_11 => ?_) (fun c_11 => ?_)
        · refine lv_aload_n hx hb dX3_nextWay_18 rfl (lv_at hl 0 rfl) ?_
          refine lv_iload_n hx hb dX3_nextWay_19 rfl (lv_at hl 2 rfl) ?_
          refine lv_iload hx hb dX3_nextWay_20 (lv_at hl 4 rfl) ?_
          refine z_Vir (As := [.int (zI (a)), .int (zI ((k : Int)))]) (rest := []) hx hb hml hown hts hA hS hP hD hK hZ hl.1 (c_X3_effortOf l D cI cJ cZ cO _ (h0) (a0) (a1) (a2) (a3) (a4) (a5) (a6) (σ) (a) ((k : Int)) (by omega) hO) (cwV 2 hts gX3_nextWay_X3_effortOf rfl rfl rfl (by decide +kernel) ⟨Nat.le_of_ble_eq_true rfl, Nat.le_of_ble_eq_true rfl⟩) [0, 1] rfl rfl 0 3 rfl rfl rfl rfl (Nat.le_of_ble_eq_true rfl) ⟨Nat.zero_le _, Nat.zero_le _⟩ dX3_nextWay_22 (fun r u H locs hw hP hS => ?_)
          subst hw
          refine lv_aload_n hx hb dX3_nextWay_25 rfl (lv_at hl 0 rfl) ?_
          refine va_get (D := D) (ci := 3) (v := .ref a3) (C := RX3) (T := TX3) (N := 7) hx hb hts in_X3_nextWay_X3 hown hK hP 0 rfl rfl 3 (by decide) (hts _ m_X3_nextWay_0) (fun _ h9 => h9) rfl dX3_nextWay_26 ?_
          refine lv_iload_n hx hb dX3_nextWay_29 rfl (lv_at hl 1 rfl) ?_
          refine lv_iload hx hb dX3_nextWay_30 (lv_at hl 4 rfl) ?_
          refine z_Sir (As := [.int (zI (q)), .int (zI ((k : Int)))]) (rest := [.ref a3, .int (zI (eff σ a (k : Int)))]) hx hb hml hown hts hA hS hP hD hK hZ hl.1 (c_X3_at l D cI cJ cZ cO _ (q) ((k : Int)) ) (va_cwS 2 hts gX3_nextWay_X3_at rfl rfl rfl (by decide +kernel) ⟨Nat.le_of_ble_eq_true rfl, Nat.le_of_ble_eq_true rfl⟩) [] rfl rfl rfl rfl (Nat.le_of_ble_eq_true rfl) ⟨Nat.zero_le _, Nat.zero_le _⟩ dX3_nextWay_32 (fun r u H locs hw hP hS => ?_)
          subst hw
          refine z_iald (k := 64 * q + (k : Int)) (g := gr) hx hb hK hP 2 0 rfl rfl (by omega) dX3_nextWay_35 ?_
          try dsimp only
          refine z_iadd (a := eff σ a (k : Int)) (b := gr (64 * q + (k : Int))) hx hb dX3_nextWay_36 ?_
          refine lv_istore (lv' := [(5, .int (zI ((eff σ a (k : Int)) + (gr (64 * q + (k : Int)))))), (0, .ref h0), (1, .int (zI (q))), (2, .int (zI (a))), (3, .int (zI (d))), (4, .int (zI ((k : Int))))]) hx hb dX3_nextWay_37 hl (by decide) rfl (fun ls hl => ?_)
          refine lv_aload_n hx hb dX3_nextWay_39 rfl (lv_at hl 1 rfl) ?_
          refine va_get (D := D) (ci := 3) (v := .ref a4) (C := RX3) (T := TX3) (N := 7) hx hb hts in_X3_nextWay_X3 hown hK hP 0 rfl rfl 4 (by decide) (hts _ m_X3_nextWay_1) (fun _ h9 => h9) rfl dX3_nextWay_40 ?_
          refine lv_iload_n hx hb dX3_nextWay_43 rfl (lv_at hl 2 rfl) ?_
          refine lv_iload hx hb dX3_nextWay_44 (lv_at hl 5 rfl) ?_
          refine z_Sir (As := [.int (zI (q)), .int (zI ((k : Int)))]) (rest := [.ref a4]) hx hb hml hown hts hA hS hP hD hK hZ hl.1 (c_X3_at l D cI cJ cZ cO _ (q) ((k : Int)) ) (va_cwS 2 hts gX3_nextWay_X3_at rfl rfl rfl (by decide +kernel) ⟨Nat.le_of_ble_eq_true rfl, Nat.le_of_ble_eq_true rfl⟩) [] rfl rfl rfl rfl (Nat.le_of_ble_eq_true rfl) ⟨Nat.zero_le _, Nat.zero_le _⟩ dX3_nextWay_46 (fun r u H locs hw hP hS => ?_)
          subst hw
          refine z_lald (k := 64 * q + (k : Int)) (g := gw) hx hb hK hP 3 1 rfl rfl (by omega) dX3_nextWay_49 ?_
          try dsimp only
          refine z_topl (y := lW (WW σ j (k : Int))) ((hLL (k : Int) (by omega) (by omega)).1) ?_
          refine lv_lconst (v := 0) hx hb dX3_nextWay_50 rfl ?_
          refine z_lcmp_le (x := lW (WW σ j (k : Int))) (y := 0) (tgt := 64) hx hb dX3_nextWay_51 dX3_nextWay_52 (by decide) (fun c_51 => ?_) (fun c_51 => ?_)
          · have hnw : ¬ 0 < WW σ j (k : Int) := by have := (lW_le0 (by omega)).mp c_51; omega
            refine lv_iinc (v := zI ((k : Int) + 1)) (lv' := [(4, .int (zI ((k : Int) + 1))), (5, .int (zI ((eff σ a (k : Int)) + (gr (64 * q + (k : Int)))))), (0, .ref h0), (1, .int (zI (q))), (2, .int (zI (a))), (3, .int (zI (d)))]) hx hb dX3_nextWay_64 hl (k := 5) rfl (zI_add _ _) (by decide) rfl (fun ls hl => ?_)
            refine lv_goto (tgt := 3) hx hb dX3_nextWay_67 (by decide) ?_
            exact ih_a (k + 1) _ _ _ (by omega) (fnd_n e_f (by simp only [qN, Bool.and_eq_true, decide_eq_true_eq]; rintro ⟨h1, h2⟩; first | omega | (rw [if_pos c_11] at h2; omega) | (rw [if_neg c_11] at h2; omega))) (by omega) hP hD hS (lv_sub hl [2, 3, 4, 5, 0] rfl)
          · have hyw : 0 < WW σ j (k : Int) := (lW_gt0 (by omega)).mp c_51
            have hRR := ((hLL (k : Int) (by omega) (by omega)).2 (WW_sd hyw).1).1
            have hR := RR_in hO j (by omega) (k : Int) (by omega)
            have hE : q ≠ 0 → 0 ≤ eff σ a (k : Int) ∧ eff σ a (k : Int) ≤ 126 := fun h => eff_in hO (by omega) (by omega)
            refine lv_iload hx hb dX3_nextWay_55 (lv_at hl 0 rfl) ?_
            refine lv_iload_n hx hb dX3_nextWay_57 rfl (lv_at hl 4 rfl) ?_
            refine z_icmp_ne (a := (eff σ a (k : Int)) + (gr (64 * q + (k : Int)))) (b := d) (tgt := 64) hx hb (by omega) dX3_nextWay_58 (by decide) (fun c_58 => ?_) (fun c_58 => ?_)
            · refine lv_iinc (v := zI ((k : Int) + 1)) (lv' := [(4, .int (zI ((k : Int) + 1))), (5, .int (zI ((eff σ a (k : Int)) + (gr (64 * q + (k : Int)))))), (0, .ref h0), (1, .int (zI (q))), (2, .int (zI (a))), (3, .int (zI (d)))]) hx hb dX3_nextWay_64 hl (k := 5) rfl (zI_add _ _) (by decide) rfl (fun ls hl => ?_)
              refine lv_goto (tgt := 3) hx hb dX3_nextWay_67 (by decide) ?_
              exact ih_a (k + 1) _ _ _ (by omega) (fnd_n e_f (by simp only [qN, Bool.and_eq_true, decide_eq_true_eq]; rintro ⟨h1, h2⟩; first | omega | (rw [if_pos c_11] at h2; omega) | (rw [if_neg c_11] at h2; omega))) (by omega) hP hD hS (lv_sub hl [2, 3, 4, 5, 0] rfl)
            · refine lv_iload hx hb dX3_nextWay_61 (lv_at hl 5 rfl) ?_
              exact hret _ _ _ _ _ () dX3_nextWay_63 (by rw [fnd_y e_f (by simp only [qN, Bool.and_eq_true, decide_eq_true_eq]; refine ⟨hyw, ?_⟩; first | (rw [if_pos c_11]; omega) | (rw [if_neg c_11]; omega)) 64 (by omega)]) hP hS
        · refine lv_iconst (v := zI (0)) hx hb dX3_nextWay_14 rfl ?_
          refine lv_goto (tgt := 25) hx hb dX3_nextWay_15 (by decide) ?_
          refine lv_aload_n hx hb dX3_nextWay_25 rfl (lv_at hl 0 rfl) ?_
          refine va_get (D := D) (ci := 3) (v := .ref a3) (C := RX3) (T := TX3) (N := 7) hx hb hts in_X3_nextWay_X3 hown hK hP 0 rfl rfl 3 (by decide) (hts _ m_X3_nextWay_0) (fun _ h9 => h9) rfl dX3_nextWay_26 ?_
          refine lv_iload_n hx hb dX3_nextWay_29 rfl (lv_at hl 1 rfl) ?_
          refine lv_iload hx hb dX3_nextWay_30 (lv_at hl 4 rfl) ?_
          refine z_Sir (As := [.int (zI (q)), .int (zI ((k : Int)))]) (rest := [.ref a3, .int (zI (0))]) hx hb hml hown hts hA hS hP hD hK hZ hl.1 (c_X3_at l D cI cJ cZ cO _ (q) ((k : Int)) ) (va_cwS 2 hts gX3_nextWay_X3_at rfl rfl rfl (by decide +kernel) ⟨Nat.le_of_ble_eq_true rfl, Nat.le_of_ble_eq_true rfl⟩) [] rfl rfl rfl rfl (Nat.le_of_ble_eq_true rfl) ⟨Nat.zero_le _, Nat.zero_le _⟩ dX3_nextWay_32 (fun r u H locs hw hP hS => ?_)
          subst hw
          refine z_iald (k := 64 * q + (k : Int)) (g := gr) hx hb hK hP 2 0 rfl rfl (by omega) dX3_nextWay_35 ?_
          try dsimp only
          refine z_iadd (a := 0) (b := gr (64 * q + (k : Int))) hx hb dX3_nextWay_36 ?_
          refine lv_istore (lv' := [(5, .int (zI (0 + (gr (64 * q + (k : Int)))))), (0, .ref h0), (1, .int (zI (q))), (2, .int (zI (a))), (3, .int (zI (d))), (4, .int (zI ((k : Int))))]) hx hb dX3_nextWay_37 hl (by decide) rfl (fun ls hl => ?_)
          refine lv_aload_n hx hb dX3_nextWay_39 rfl (lv_at hl 1 rfl) ?_
          refine va_get (D := D) (ci := 3) (v := .ref a4) (C := RX3) (T := TX3) (N := 7) hx hb hts in_X3_nextWay_X3 hown hK hP 0 rfl rfl 4 (by decide) (hts _ m_X3_nextWay_1) (fun _ h9 => h9) rfl dX3_nextWay_40 ?_
          refine lv_iload_n hx hb dX3_nextWay_43 rfl (lv_at hl 2 rfl) ?_
          refine lv_iload hx hb dX3_nextWay_44 (lv_at hl 5 rfl) ?_
          refine z_Sir (As := [.int (zI (q)), .int (zI ((k : Int)))]) (rest := [.ref a4]) hx hb hml hown hts hA hS hP hD hK hZ hl.1 (c_X3_at l D cI cJ cZ cO _ (q) ((k : Int)) ) (va_cwS 2 hts gX3_nextWay_X3_at rfl rfl rfl (by decide +kernel) ⟨Nat.le_of_ble_eq_true rfl, Nat.le_of_ble_eq_true rfl⟩) [] rfl rfl rfl rfl (Nat.le_of_ble_eq_true rfl) ⟨Nat.zero_le _, Nat.zero_le _⟩ dX3_nextWay_46 (fun r u H locs hw hP hS => ?_)
          subst hw
          refine z_lald (k := 64 * q + (k : Int)) (g := gw) hx hb hK hP 3 1 rfl rfl (by omega) dX3_nextWay_49 ?_
          try dsimp only
          refine z_topl (y := lW (WW σ j (k : Int))) ((hLL (k : Int) (by omega) (by omega)).1) ?_
          refine lv_lconst (v := 0) hx hb dX3_nextWay_50 rfl ?_
          refine z_lcmp_le (x := lW (WW σ j (k : Int))) (y := 0) (tgt := 64) hx hb dX3_nextWay_51 dX3_nextWay_52 (by decide) (fun c_51 => ?_) (fun c_51 => ?_)
          · have hnw : ¬ 0 < WW σ j (k : Int) := by have := (lW_le0 (by omega)).mp c_51; omega
            refine lv_iinc (v := zI ((k : Int) + 1)) (lv' := [(4, .int (zI ((k : Int) + 1))), (5, .int (zI (0 + (gr (64 * q + (k : Int)))))), (0, .ref h0), (1, .int (zI (q))), (2, .int (zI (a))), (3, .int (zI (d)))]) hx hb dX3_nextWay_64 hl (k := 5) rfl (zI_add _ _) (by decide) rfl (fun ls hl => ?_)
            refine lv_goto (tgt := 3) hx hb dX3_nextWay_67 (by decide) ?_
            exact ih_a (k + 1) _ _ _ (by omega) (fnd_n e_f (by simp only [qN, Bool.and_eq_true, decide_eq_true_eq]; rintro ⟨h1, h2⟩; first | omega | (rw [if_pos c_11] at h2; omega) | (rw [if_neg c_11] at h2; omega))) (by omega) hP hD hS (lv_sub hl [2, 3, 4, 5, 0] rfl)
          · have hyw : 0 < WW σ j (k : Int) := (lW_gt0 (by omega)).mp c_51
            have hRR := ((hLL (k : Int) (by omega) (by omega)).2 (WW_sd hyw).1).1
            have hR := RR_in hO j (by omega) (k : Int) (by omega)
            have hE : q ≠ 0 → 0 ≤ eff σ a (k : Int) ∧ eff σ a (k : Int) ≤ 126 := fun h => eff_in hO (by omega) (by omega)
            refine lv_iload hx hb dX3_nextWay_55 (lv_at hl 0 rfl) ?_
            refine lv_iload_n hx hb dX3_nextWay_57 rfl (lv_at hl 4 rfl) ?_
            refine z_icmp_ne (a := 0 + (gr (64 * q + (k : Int)))) (b := d) (tgt := 64) hx hb (by omega) dX3_nextWay_58 (by decide) (fun c_58 => ?_) (fun c_58 => ?_)
            · refine lv_iinc (v := zI ((k : Int) + 1)) (lv' := [(4, .int (zI ((k : Int) + 1))), (5, .int (zI (0 + (gr (64 * q + (k : Int)))))), (0, .ref h0), (1, .int (zI (q))), (2, .int (zI (a))), (3, .int (zI (d)))]) hx hb dX3_nextWay_64 hl (k := 5) rfl (zI_add _ _) (by decide) rfl (fun ls hl => ?_)
              refine lv_goto (tgt := 3) hx hb dX3_nextWay_67 (by decide) ?_
              exact ih_a (k + 1) _ _ _ (by omega) (fnd_n e_f (by simp only [qN, Bool.and_eq_true, decide_eq_true_eq]; rintro ⟨h1, h2⟩; first | omega | (rw [if_pos c_11] at h2; omega) | (rw [if_neg c_11] at h2; omega))) (by omega) hP hD hS (lv_sub hl [2, 3, 4, 5, 0] rfl)
            · refine lv_iload hx hb dX3_nextWay_61 (lv_at hl 5 rfl) ?_
              exact hret _ _ _ _ _ () dX3_nextWay_63 (by rw [fnd_y e_f (by simp only [qN, Bool.and_eq_true, decide_eq_true_eq]; refine ⟨hyw, ?_⟩; first | (rw [if_pos c_11]; omega) | (rw [if_neg c_11]; omega)) 64 (by omega)]) hP hS
  exact loop_a 70 (0) _ _ _ (by omega) (rfl) (by omega) hP hD hS (lv_sub hl [1, 2, 3, 4, 0] rfl)
end
section
abbrev rmX3_least : Room := { frames := 6, cells := 0, slots := 0, locals := 137 }
theorem in_X3_least_X3 : ∀ w ∈ wsX30, w ∈ wsX3_least := fun _ h => List.mem_cons_of_mem _ (List.mem_append_right _ h)
theorem m_X3_least_0 : (.fieldLink RX3 7 "BrassWaysModel" "state" "[I" : Cond) ∈ wsX3_least := List.mem_of_getElem? (i := 1) rfl
theorem m_X3_least_1 : (.fieldLink RX3 20 "BrassWaysModel" "rest" "[I" : Cond) ∈ wsX3_least := List.mem_of_getElem? (i := 2) rfl
set_option maxHeartbeats 4000000 in
set_option maxRecDepth 100000 in
theorem c_X3_least (l : Launch) (D : va_G) (cI cJ cZ cO : ClassId) (sz : Nat) (h0 : Nat) (a0 : Nat) (a1 : Nat) (a2 : Nat) (a3 : Nat) (a4 : Nat) (a5 : Nat) (a6 : Nat) (σ : Int → Int) (gr : Int → Int) (gw : Int → Int64) (gl : Int → Int64) (i : Int) (h_i : -2147483648 ≤ i ∧ i < 2147483648) (hO : Ok σ) : Met l yX3_least wsX3_least rmX3_least (zPc D cI cJ cZ cO [(h0, .inr (3, [.ref a0, .ref a1, .ref a2, .ref a3, .ref a4, .ref a5, .ref a6])), (a0, .inl (cI, 22, .inl (zF (σ)))), (a3, .inl (cI, 768, .inl (zF (gr)))), (a4, .inl (cJ, 768, .inr (.inl (zL (gw))))), (a5, .inl (cJ, 768, .inr (.inl (zL (gl)))))] sz [.ref h0, .int (zI (i))]) (zQi D (fun (r : Int32) (_ : (Int → Int) × (Int → Int64) × (Int → Int64)) => r = zI (A_least σ i)) (fun (u : (Int → Int) × (Int → Int64) × (Int → Int64)) => [(h0, .inr (3, [.ref a0, .ref a1, .ref a2, .ref a3, .ref a4, .ref a5, .ref a6])), (a0, .inl (cI, 22, .inl (zF (σ)))), (a3, .inl (cI, 768, .inl (zF (u.1)))), (a4, .inl (cJ, 768, .inr (.inl (zL (u.2.1))))), (a5, .inl (cJ, 768, .inr (.inl (zL (u.2.2)))))]) [(h0, .inr (3, [.ref a0, .ref a1, .ref a2, .ref a3, .ref a4, .ref a5, .ref a6])), (a0, .inl (cI, 22, .inl (zF (σ)))), (a3, .inl (cI, 768, .inl (zF (gr)))), (a4, .inl (cJ, 768, .inr (.inl (zL (gw))))), (a5, .inl (cJ, 768, .inr (.inl (zL (gl)))))] sz) 0 0 (va_A [(h0, .inr (3, [.ref a0, .ref a1, .ref a2, .ref a3, .ref a4, .ref a5, .ref a6])), (a0, .inl (cI, 22, .inl (zF (σ)))), (a3, .inl (cI, 768, .inl (zF (gr)))), (a4, .inl (cJ, 768, .inr (.inl (zL (gw))))), (a5, .inl (cJ, 768, .inr (.inl (zL (gl)))))] sz) := by
  refine z_meti (by decide) rfl (Nat.le_of_ble_eq_true rfl) ?_
  intro p e s m args below meth c A Q ls hx hb hml hown hts hA hS hP hD hK hZ hl hret
  have hl : lv_has ls 6 [(0, .ref h0), (1, .int (zI (i)))] := hl
  have o9 := hO.2.2.2.2.2.2.2.2.2.1
  have hLb := LEAST_in hO
  refine lv_iload_n hx hb dX3_least_0 rfl (lv_at hl 1 rfl) ?_
  refine lv_iconst (v := zI (-1)) hx hb dX3_least_1 rfl ?_
  refine z_icmp_ge (a := i) (b := -1) (tgt := 8) hx hb (by omega) dX3_least_2 (by decide) (fun c_2 => ?_) (fun c_2 => ?_)
  · refine lv_aload_n hx hb dX3_least_8 rfl (lv_at hl 0 rfl) ?_
    refine z_Vvw (As := []) (rest := []) hx hb hml hown hts hA hS hP hD hK hZ hl.1 (c_X3_layAllRests l D cI cJ cZ cO _ (h0) (a0) (a1) (a2) (a3) (a4) (a5) (a6) (σ) (gr) (gw) (gl) hO) (cwV 0 hts gX3_least_X3_layAllRests rfl rfl rfl (by decide +kernel) ⟨Nat.le_of_ble_eq_true rfl, Nat.le_of_ble_eq_true rfl⟩) [0, 1, 2, 3, 4] rfl rfl (fun _ => rfl) 0 3 rfl rfl rfl rfl (Nat.le_of_ble_eq_true rfl) ⟨Nat.zero_le _, Nat.zero_le _⟩ dX3_least_9 (fun u1 H locs hw hP hD hS => ?_)
    have hP : va_P D vwCl [(h0, .inr (3, [.ref a0, .ref a1, .ref a2, .ref a3, .ref a4, .ref a5, .ref a6])), (a0, .inl (cI, 22, .inl (zF (σ)))), (a3, .inl (cI, 768, .inl (zF (u1.1)))), (a4, .inl (cJ, 768, .inr (.inl (zL (u1.2.1))))), (a5, .inl (cJ, 768, .inr (.inl (zL (u1.2.2)))))] H := hP
    have hD : va_D A [(h0, .inr (3, [.ref a0, .ref a1, .ref a2, .ref a3, .ref a4, .ref a5, .ref a6])), (a0, .inl (cI, 22, .inl (zF (σ)))), (a3, .inl (cI, 768, .inl (zF (u1.1)))), (a4, .inl (cJ, 768, .inr (.inl (zL (u1.2.1))))), (a5, .inl (cJ, 768, .inr (.inl (zL (u1.2.2)))))] := hD
    have hLay := hw
    refine lv_aload_n hx hb dX3_least_12 rfl (lv_at hl 0 rfl) ?_
    refine z_Vir (As := []) (rest := []) hx hb hml hown hts hA hS hP hD hK hZ hl.1 (c_X3_leastOfAll l D cI cJ cZ cO _ (h0) (a0) (a1) (a2) (a3) (a4) (a5) (a6) (σ) (u1.1) (u1.2.1) (u1.2.2) hO hw) (cwV 0 hts gX3_least_X3_leastOfAll rfl rfl rfl (by decide +kernel) ⟨Nat.le_of_ble_eq_true rfl, Nat.le_of_ble_eq_true rfl⟩) [0, 1, 2, 3] rfl rfl 0 3 rfl rfl rfl rfl (Nat.le_of_ble_eq_true rfl) ⟨Nat.zero_le _, Nat.zero_le _⟩ dX3_least_13 (fun r u H locs hw hP hS => ?_)
    subst hw
    refine lv_istore_n (lv' := [(2, .int (zI (LEAST σ))), (0, .ref h0), (1, .int (zI (i)))]) hx hb dX3_least_16 rfl hl (by decide) rfl (fun ls hl => ?_)
    refine lv_iload_n hx hb dX3_least_17 rfl (lv_at hl 2 rfl) ?_
    refine lv_iconst (v := zI (-1)) hx hb dX3_least_18 rfl ?_
    refine z_icmp_eq (a := i) (b := -1) (tgt := 37) hx hb (by omega) dX3_least_19 (by decide) (fun c_19 => ?_) (fun c_19 => ?_)
    · refine lv_iload_n hx hb dX3_least_37 rfl (lv_at hl 2 rfl) ?_
      refine lv_iconst (v := zI (-1)) hx hb dX3_least_38 rfl ?_
      refine z_icmp_ne (a := i) (b := -1) (tgt := 46) hx hb (by omega) dX3_least_39 (by decide) (fun c_39 => ?_) (fun c_39 => ?_)
      · refine lv_bipush (v := zI (-6)) hx hb dX3_least_46 (by decide +kernel) ?_
        exact hret _ _ _ _ _ (u1.1, u1.2.1, u1.2.2) dX3_least_48 (by unfold A_least; first | (rw [if_neg (by omega), if_pos c_39]; done) | (rw [if_neg (by omega), if_neg c_39, if_pos (by omega)]; done)) hP hS
      · refine lv_iload_n hx hb dX3_least_42 rfl (lv_at hl 0 rfl) ?_
        refine lv_goto (tgt := 48) hx hb dX3_least_43 (by decide) ?_
        exact hret _ _ _ _ _ (u1.1, u1.2.1, u1.2.2) dX3_least_48 (by unfold A_least; first | (rw [if_neg (by omega), if_pos c_39]; done) | (rw [if_neg (by omega), if_neg c_39, if_pos (by omega)]; done)) hP hS
    · refine lv_iload_n hx hb dX3_least_22 rfl (lv_at hl 0 rfl) ?_
      refine z_if_lt (a := LEAST σ) (tgt := 37) hx hb (by omega) dX3_least_23 (by decide) (fun c_23 => ?_) (fun c_23 => ?_)
      · refine lv_iload_n hx hb dX3_least_37 rfl (lv_at hl 2 rfl) ?_
        refine lv_iconst (v := zI (-1)) hx hb dX3_least_38 rfl ?_
        refine z_icmp_ne (a := i) (b := -1) (tgt := 46) hx hb (by omega) dX3_least_39 (by decide) (fun c_39 => ?_) (fun c_39 => ?_)
        · refine lv_bipush (v := zI (-6)) hx hb dX3_least_46 (by decide +kernel) ?_
          exact hret _ _ _ _ _ (u1.1, u1.2.1, u1.2.2) dX3_least_48 (by unfold A_least; first | (rw [if_neg (by omega), if_pos c_39]; done) | (rw [if_neg (by omega), if_neg c_39, if_pos (by omega)]; done)) hP hS
        · refine lv_iload_n hx hb dX3_least_42 rfl (lv_at hl 0 rfl) ?_
          refine lv_goto (tgt := 48) hx hb dX3_least_43 (by decide) ?_
          exact hret _ _ _ _ _ (u1.1, u1.2.1, u1.2.2) dX3_least_48 (by unfold A_least; first | (rw [if_neg (by omega), if_pos c_39]; done) | (rw [if_neg (by omega), if_neg c_39, if_pos (by omega)]; done)) hP hS
      · refine lv_iload_n hx hb dX3_least_26 rfl (lv_at hl 2 rfl) ?_
        refine lv_aload_n hx hb dX3_least_27 rfl (lv_at hl 1 rfl) ?_
        refine va_get (D := D) (ci := 3) (v := .ref a0) (C := RX3) (T := TX3) (N := 7) hx hb hts in_X3_least_X3 hown hK hP 0 rfl rfl 0 (by decide) (hts _ m_X3_least_0) (fun _ h9 => h9) rfl dX3_least_28 ?_
        refine lv_bipush (v := zI (9)) hx hb dX3_least_31 (by decide +kernel) ?_
        refine z_iald (k := 9) (g := σ) hx hb hK hP 1 0 rfl rfl (by omega) dX3_least_33 ?_
        try dsimp only
        refine z_icmp_lt (a := i) (b := σ 9) (tgt := 49) hx hb (by omega) dX3_least_34 (by decide) (fun c_34 => ?_) (fun c_34 => ?_)
        · have hj0 : ((jP σ 0 : Nat) : Int) = σ 9 - 1 - ((0 : Nat) : Int) := by unfold jP; omega
          refine lv_aload_n hx hb dX3_least_49 rfl (lv_at hl 1 rfl) ?_
          refine lv_iconst (v := zI (0)) hx hb dX3_least_50 rfl ?_
          refine lv_iconst (v := zI (0)) hx hb dX3_least_51 rfl ?_
          refine lv_iload_n hx hb dX3_least_52 rfl (lv_at hl 0 rfl) ?_
          refine z_Vir (As := [.int (zI (0)), .int (zI (0)), .int (zI (LEAST σ))]) (rest := []) hx hb hml hown hts hA hS hP hD hK hZ hl.1 (c_X3_nextWay l D cI cJ cZ cO _ (h0) (a0) (a1) (a2) (a3) (a4) (a5) (a6) (σ) (u1.1) (u1.2.1) (u1.2.2) (jP σ 0) (0) (0) (LEAST σ) (by omega) (by omega) (by omega) (by omega) hO (hLay (jP σ 0) (by omega))) (cwV 3 hts gX3_least_X3_nextWay rfl rfl rfl (by decide +kernel) ⟨Nat.le_of_ble_eq_true rfl, Nat.le_of_ble_eq_true rfl⟩) [0, 1, 2, 3] rfl rfl 0 3 rfl rfl rfl rfl (Nat.le_of_ble_eq_true rfl) ⟨Nat.zero_le _, Nat.zero_le _⟩ dX3_least_53 (fun r u H locs hw hP hS => ?_)
          subst hw
          refine lv_istore_n (lv' := [(3, .int (zI (fnd (qN σ (jP σ 0) 0 0 (LEAST σ)) 64))), (2, .int (zI (LEAST σ))), (0, .ref h0), (1, .int (zI (i)))]) hx hb dX3_least_56 rfl hl (by decide) rfl (fun ls hl => ?_)
          refine lv_iconst (v := zI (1)) hx hb dX3_least_57 rfl ?_
          refine lv_istore (lv' := [(4, .int (zI (1))), (3, .int (zI (fnd (qN σ (jP σ 0) 0 0 (LEAST σ)) 64))), (2, .int (zI (LEAST σ))), (0, .ref h0), (1, .int (zI (i)))]) hx hb dX3_least_58 hl (by decide) rfl (fun ls hl => ?_)
          have loop_a : ∀ (f_a : Nat) (k : Nat) (x : Int) (t : Int) (H : Heap) (locs : List Loc) (ls : Array Slot), (t = (k : Int) + 1) → ((k : Int) ≤ i) → (x = wayAt σ k) → (12 - (k : Int) < (f_a : Int)) → va_P D vwCl [(h0, .inr (3, [.ref a0, .ref a1, .ref a2, .ref a3, .ref a4, .ref a5, .ref a6])), (a0, .inl (cI, 22, .inl (zF (σ)))), (a3, .inl (cI, 768, .inl (zF (u1.1)))), (a4, .inl (cJ, 768, .inr (.inl (zL (u1.2.1))))), (a5, .inl (cJ, 768, .inr (.inl (zL (u1.2.2)))))] H → va_D A [(h0, .inr (3, [.ref a0, .ref a1, .ref a2, .ref a3, .ref a4, .ref a5, .ref a6])), (a0, .inl (cI, 22, .inl (zF (σ)))), (a3, .inl (cI, 768, .inl (zF (u1.1)))), (a4, .inl (cJ, 768, .inr (.inl (zL (u1.2.1))))), (a5, .inl (cJ, 768, .inr (.inl (zL (u1.2.2)))))] → va_S A s.heap H locs → lv_has ls 6 [(0, .ref h0), (1, .int (zI (i))), (2, .int (zI (LEAST σ))), (3, .int (zI (x))), (4, .int (zI (t)))] → W p l e rmX3_least s m args below meth c H locs 0 0 Q (F0 m 60 ls []) := by
            intro f_a
            induction f_a with
            | zero =>
              intros
              exfalso; omega
            | succ f_a ih_a =>
              intro k x t H locs ls e_t e_k e_x hfu_a hP hD hS hl
              have hwk := wayAt_ok hO (by omega) k (by omega)
              rw [← e_x] at hwk
              have hjk : ((jP σ k : Nat) : Int) = σ 9 - 1 - (k : Int) := by unfold jP; omega
              refine lv_iload hx hb dX3_least_60 (lv_at hl 4 rfl) ?_
              refine lv_iload_n hx hb dX3_least_62 rfl (lv_at hl 1 rfl) ?_
              refine z_icmp_gt (a := t) (b := i) (tgt := 115) hx hb (by omega) dX3_least_63 (by decide) (fun c_63 => ?_) (fun c_63 => ?_)
              · refine lv_iload_n hx hb dX3_least_115 rfl (lv_at hl 3 rfl) ?_
                exact hret _ _ _ _ _ (u1.1, u1.2.1, u1.2.2) dX3_least_116 (by unfold A_least; rw [if_neg (by omega), if_neg c_19, if_neg (by omega), e_x, show k = i.toNat by omega]) hP hS
              · have hL1 := hLay (jP σ k) (by omega) x (by omega) (by omega)
                have hRx := (hL1.2 (WW_sd hwk.2).1).1
                rw [hjk, show 64 * (σ 9 - 1 - (σ 9 - 1 - (k : Int))) + x = 64 * (t - 1) + x by omega] at hRx
                have hRb := RR_in hO (jP σ k) (by omega) x hwk.1
                have o10 := hO.2.2.2.2.2.2.2.2.2.2 (k : Int) (by omega) (by omega)
                have hFb := flt_in hO (w := x) (n := σ (10 + (k : Int))) hwk.1 o10
                have e10 : 10 + t - 1 = 10 + (k : Int) := by omega
                have hj1 : ((jP σ (k + 1) : Nat) : Int) = σ 9 - 1 - ((k : Int) + 1) := by unfold jP; omega
                refine lv_aload_n hx hb dX3_least_66 rfl (lv_at hl 0 rfl) ?_
                refine va_get (D := D) (ci := 3) (v := .ref a3) (C := RX3) (T := TX3) (N := 7) hx hb hts in_X3_least_X3 hown hK hP 0 rfl rfl 3 (by decide) (hts _ m_X3_least_1) (fun _ h9 => h9) rfl dX3_least_67 ?_
                refine lv_iload hx hb dX3_least_70 (lv_at hl 4 rfl) ?_
                refine lv_iconst (v := zI (1)) hx hb dX3_least_72 rfl ?_
                refine z_isub (a := t) (b := 1) hx hb dX3_least_73 ?_
                refine lv_iload_n hx hb dX3_least_74 rfl (lv_at hl 3 rfl) ?_
                refine z_Sir (As := [.int (zI (t - 1)), .int (zI (x))]) (rest := [.ref a3]) hx hb hml hown hts hA hS hP hD hK hZ hl.1 (c_X3_at l D cI cJ cZ cO _ (t - 1) (x) ) (va_cwS 2 hts gX3_least_X3_at rfl rfl rfl (by decide +kernel) ⟨Nat.le_of_ble_eq_true rfl, Nat.le_of_ble_eq_true rfl⟩) [] rfl rfl rfl rfl (Nat.le_of_ble_eq_true rfl) ⟨Nat.zero_le _, Nat.zero_le _⟩ dX3_least_75 (fun r u H locs hw hP hS => ?_)
                subst hw
                refine z_iald (k := 64 * (t - 1) + x) (g := u1.1) hx hb hK hP 2 0 rfl rfl (by omega) dX3_least_78 ?_
                try dsimp only
                refine z_top (y := zI (RR σ (jP σ k) x)) (by rw [hRx]) ?_
                refine lv_aload_n hx hb dX3_least_79 rfl (lv_at hl 0 rfl) ?_
                refine lv_iload_n hx hb dX3_least_80 rfl (lv_at hl 3 rfl) ?_
                refine lv_aload_n hx hb dX3_least_81 rfl (lv_at hl 0 rfl) ?_
                refine va_get (D := D) (ci := 3) (v := .ref a0) (C := RX3) (T := TX3) (N := 7) hx hb hts in_X3_least_X3 hown hK hP 0 rfl rfl 0 (by decide) (hts _ m_X3_least_0) (fun _ h9 => h9) rfl dX3_least_82 ?_
                refine lv_bipush (v := zI (10)) hx hb dX3_least_85 (by decide +kernel) ?_
                refine lv_iload hx hb dX3_least_87 (lv_at hl 4 rfl) ?_
                refine z_iadd (a := 10) (b := t) hx hb dX3_least_89 ?_
                refine lv_iconst (v := zI (1)) hx hb dX3_least_90 rfl ?_
                refine z_isub (a := 10 + t) (b := 1) hx hb dX3_least_91 ?_
                refine z_iald (k := (10 + t) - 1) (g := σ) hx hb hK hP 1 0 rfl rfl (by omega) dX3_least_92 ?_
                try dsimp only
                refine z_top (y := zI (σ (10 + (k : Int)))) (by rw [e10]) ?_
                refine z_Vir (As := [.int (zI (x)), .int (zI (σ (10 + (k : Int))))]) (rest := [.int (zI (RR σ (jP σ k) x))]) hx hb hml hown hts hA hS hP hD hK hZ hl.1 (c_X3_faultOf l D cI cJ cZ cO _ (h0) (a0) (a1) (a2) (a3) (a4) (a5) (a6) (σ) (x) (σ (10 + (k : Int))) (by omega) (by omega) hO) (cwV 2 hts gX3_least_X3_faultOf rfl rfl rfl (by decide +kernel) ⟨Nat.le_of_ble_eq_true rfl, Nat.le_of_ble_eq_true rfl⟩) [0, 1] rfl rfl 0 3 rfl rfl rfl rfl (Nat.le_of_ble_eq_true rfl) ⟨Nat.zero_le _, Nat.zero_le _⟩ dX3_least_93 (fun r u H locs hw hP hS => ?_)
                subst hw
                refine z_isub (a := RR σ (jP σ k) x) (b := flt σ x (σ (10 + (k : Int)))) hx hb dX3_least_96 ?_
                refine lv_istore (lv' := [(5, .int (zI ((RR σ (jP σ k) x) - (flt σ x (σ (10 + (k : Int))))))), (0, .ref h0), (1, .int (zI (i))), (2, .int (zI (LEAST σ))), (3, .int (zI (x))), (4, .int (zI (t)))]) hx hb dX3_least_97 hl (by decide) rfl (fun ls hl => ?_)
                refine lv_aload_n hx hb dX3_least_99 rfl (lv_at hl 1 rfl) ?_
                refine lv_iload hx hb dX3_least_100 (lv_at hl 5 rfl) ?_
                refine lv_iload_n hx hb dX3_least_102 rfl (lv_at hl 4 rfl) ?_
                refine lv_iload hx hb dX3_least_103 (lv_at hl 0 rfl) ?_
                refine z_Vir (As := [.int (zI (t)), .int (zI (x)), .int (zI ((RR σ (jP σ k) x) - (flt σ x (σ (10 + (k : Int))))))]) (rest := []) hx hb hml hown hts hA hS hP hD hK hZ hl.1 (c_X3_nextWay l D cI cJ cZ cO _ (h0) (a0) (a1) (a2) (a3) (a4) (a5) (a6) (σ) (u1.1) (u1.2.1) (u1.2.2) (jP σ (k + 1)) (t) (x) ((RR σ (jP σ k) x) - (flt σ x (σ (10 + (k : Int))))) (by omega) (by omega) (by omega) (by omega) hO (hLay (jP σ (k + 1)) (by omega))) (cwV 3 hts gX3_least_X3_nextWay rfl rfl rfl (by decide +kernel) ⟨Nat.le_of_ble_eq_true rfl, Nat.le_of_ble_eq_true rfl⟩) [0, 1, 2, 3] rfl rfl 0 3 rfl rfl rfl rfl (Nat.le_of_ble_eq_true rfl) ⟨Nat.zero_le _, Nat.zero_le _⟩ dX3_least_105 (fun r u H locs hw hP hS => ?_)
                subst hw
                refine lv_istore_n (lv' := [(3, .int (zI (fnd (qN σ (jP σ (k + 1)) t x ((RR σ (jP σ k) x) - (flt σ x (σ (10 + (k : Int)))))) 64))), (5, .int (zI ((RR σ (jP σ k) x) - (flt σ x (σ (10 + (k : Int))))))), (0, .ref h0), (1, .int (zI (i))), (2, .int (zI (LEAST σ))), (4, .int (zI (t)))]) hx hb dX3_least_108 rfl hl (by decide) rfl (fun ls hl => ?_)
                refine lv_iinc (v := zI (t + 1)) (lv' := [(4, .int (zI (t + 1))), (3, .int (zI (fnd (qN σ (jP σ (k + 1)) t x ((RR σ (jP σ k) x) - (flt σ x (σ (10 + (k : Int)))))) 64))), (5, .int (zI ((RR σ (jP σ k) x) - (flt σ x (σ (10 + (k : Int))))))), (0, .ref h0), (1, .int (zI (i))), (2, .int (zI (LEAST σ)))]) hx hb dX3_least_109 hl (k := 5) rfl (zI_add _ _) (by decide) rfl (fun ls hl => ?_)
                refine lv_goto (tgt := 60) hx hb dX3_least_112 (by decide) ?_
                exact ih_a (k + 1) (fnd (qN σ (jP σ (k + 1)) t x ((RR σ (jP σ k) x) - (flt σ x (σ (10 + (k : Int)))))) 64) (t + 1) _ _ _ (by omega) (by omega) (by rw [wayAt_s, e_t, ← e_x]) (by omega) hP hD hS (lv_sub hl [3, 4, 5, 1, 0] rfl)
          exact loop_a 70 (0) (fnd (qN σ (jP σ 0) 0 0 (LEAST σ)) 64) (1) _ _ _ (by omega) (by omega) ((wayAt_0 σ).symm) (by omega) hP hD hS (lv_sub hl [3, 4, 2, 1, 0] rfl)
        · refine lv_iload_n hx hb dX3_least_37 rfl (lv_at hl 2 rfl) ?_
          refine lv_iconst (v := zI (-1)) hx hb dX3_least_38 rfl ?_
          refine z_icmp_ne (a := i) (b := -1) (tgt := 46) hx hb (by omega) dX3_least_39 (by decide) (fun c_39 => ?_) (fun c_39 => ?_)
          · refine lv_bipush (v := zI (-6)) hx hb dX3_least_46 (by decide +kernel) ?_
            exact hret _ _ _ _ _ (u1.1, u1.2.1, u1.2.2) dX3_least_48 (by unfold A_least; first | (rw [if_neg (by omega), if_pos c_39]; done) | (rw [if_neg (by omega), if_neg c_39, if_pos (by omega)]; done)) hP hS
          · refine lv_iload_n hx hb dX3_least_42 rfl (lv_at hl 0 rfl) ?_
            refine lv_goto (tgt := 48) hx hb dX3_least_43 (by decide) ?_
            exact hret _ _ _ _ _ (u1.1, u1.2.1, u1.2.2) dX3_least_48 (by unfold A_least; first | (rw [if_neg (by omega), if_pos c_39]; done) | (rw [if_neg (by omega), if_neg c_39, if_pos (by omega)]; done)) hP hS
  · refine lv_bipush (v := zI (-2)) hx hb dX3_least_5 (by decide +kernel) ?_
    exact hret _ _ _ _ _ (gr, gw, gl) dX3_least_7 (by unfold A_least; rw [if_pos (by omega)]) hP hS
end
