/-! ===== BEGIN printed: names, fields, word lists, decode rows ===== -/
def RX0 : String := "ReleaseHouse$Artefact"
def TX0 : u_T := fun k => match k with
  | 0 => ("ReleaseHouse$Artefact", "number", "I", true)
  | 1 => ("ReleaseHouse$Artefact", "service", "I", true)
  | 2 => ("ReleaseHouse$Artefact", "author", "I", true)
  | 3 => ("ReleaseHouse$Artefact", "keeps", "I", false)
  | 4 => ("ReleaseHouse$Artefact", "needs", "I", false)
  | 5 => ("ReleaseHouse$Artefact", "of", "I", false)
  | 6 => ("ReleaseHouse$Artefact", "reads", "I", false)
  | 7 => ("ReleaseHouse$Artefact", "writes", "I", false)
  | 8 => ("ReleaseHouse$Artefact", "isHotfix", "Z", false)
  | 9 => ("ReleaseHouse$Artefact", "isCode", "Z", false)
  | 10 => ("ReleaseHouse$Artefact", "uses", "I", false)
  | _ => ("ReleaseHouse$Artefact", "sessions", "[I", true)
def tyX0 : Nat → FieldType := fun k => match k with
  | 0 => .int
  | 1 => .int
  | 2 => .int
  | 3 => .int
  | 4 => .int
  | 5 => .int
  | 6 => .int
  | 7 => .int
  | 8 => .boolean
  | 9 => .boolean
  | 10 => .int
  | _ => .array .int
abbrev wsX00 : List Cond := u_ws RX0 TX0 12
theorem nmX0 : ∀ a, a < 12 → ∀ b, b < 12 → a ≠ b → (TX0 a).2.1 ≠ (TX0 b).2.1 := by decide +kernel
theorem tyX0_ok : ∀ k, k < 12 → parseFieldDescriptor (TX0 k).2.2.1 = some (tyX0 k) := by decide +kernel
abbrev cX0_init : ByteArray := prog_2_method_1_code
def yX0_init : MethodName := ⟨RX0, "<init>", "(III)V"⟩
abbrev cX0_clashWith : ByteArray := prog_2_method_2_code
def yX0_clashWith : MethodName := ⟨RX0, "clashWith", "(LReleaseHouse$Artefact;)I"⟩
def RX1 : String := "ReleaseHouse$Experiment"
def TX1 : u_T := fun k => match k with
  | _ => ("", "", "", false)
def tyX1 : Nat → FieldType := fun k => match k with
  | _ => .int
abbrev wsX10 : List Cond := u_ws RX1 TX1 0
theorem nmX1 : ∀ a, a < 0 → ∀ b, b < 0 → a ≠ b → (TX1 a).2.1 ≠ (TX1 b).2.1 := by decide +kernel
theorem tyX1_ok : ∀ k, k < 0 → parseFieldDescriptor (TX1 k).2.2.1 = some (tyX1 k) := by decide +kernel
def RX2 : String := "ReleaseHouse$Flag"
def TX2 : u_T := fun k => match k with
  | 0 => ("ReleaseHouse$Flag", "rules", "Ljava/util/List;", true)
  | 1 => ("ReleaseHouse$Flag", "percentage", "I", false)
  | 2 => ("ReleaseHouse$Flag", "needs", "I", false)
  | 3 => ("ReleaseHouse$Flag", "isKilled", "Z", false)
  | _ => ("ReleaseHouse$Flag", "askedAt", "I", false)
def tyX2 : Nat → FieldType := fun k => match k with
  | 0 => .object "java/util/List"
  | 1 => .int
  | 2 => .int
  | 3 => .boolean
  | _ => .int
abbrev wsX20 : List Cond := u_ws RX2 TX2 5
theorem nmX2 : ∀ a, a < 5 → ∀ b, b < 5 → a ≠ b → (TX2 a).2.1 ≠ (TX2 b).2.1 := by decide +kernel
theorem tyX2_ok : ∀ k, k < 5 → parseFieldDescriptor (TX2 k).2.2.1 = some (tyX2 k) := by decide +kernel
abbrev cX2_init : ByteArray := prog_4_method_1_code
def yX2_init : MethodName := ⟨RX2, "<init>", "()V"⟩
def RX3 : String := "ReleaseHouse$Freeze"
def TX3 : u_T := fun k => match k with
  | _ => ("", "", "", false)
def tyX3 : Nat → FieldType := fun k => match k with
  | _ => .int
abbrev wsX30 : List Cond := u_ws RX3 TX3 0
theorem nmX3 : ∀ a, a < 0 → ∀ b, b < 0 → a ≠ b → (TX3 a).2.1 ≠ (TX3 b).2.1 := by decide +kernel
theorem tyX3_ok : ∀ k, k < 0 → parseFieldDescriptor (TX3 k).2.2.1 = some (tyX3 k) := by decide +kernel
abbrev cX3_holdsFor : ByteArray := prog_5_method_2_code
def yX3_holdsFor : MethodName := ⟨RX3, "holdsFor", "(LReleaseHouse$Artefact;)Z"⟩
def RX4 : String := "ReleaseHouse$Program"
def TX4 : u_T := fun k => match k with
  | 0 => ("ReleaseHouse$Program", "kinds", "[I", true)
  | 1 => ("ReleaseHouse$Program", "ofs", "[I", true)
  | 2 => ("ReleaseHouse$Program", "withs", "[I", true)
  | 3 => ("ReleaseHouse$Program", "length", "I", false)
  | _ => ("ReleaseHouse$Program", "isUsed", "Z", false)
def tyX4 : Nat → FieldType := fun k => match k with
  | 0 => .array .int
  | 1 => .array .int
  | 2 => .array .int
  | 3 => .int
  | _ => .boolean
abbrev wsX40 : List Cond := u_ws RX4 TX4 5
theorem nmX4 : ∀ a, a < 5 → ∀ b, b < 5 → a ≠ b → (TX4 a).2.1 ≠ (TX4 b).2.1 := by decide +kernel
theorem tyX4_ok : ∀ k, k < 5 → parseFieldDescriptor (TX4 k).2.2.1 = some (tyX4 k) := by decide +kernel
abbrev cX4_init : ByteArray := prog_6_method_1_code
def yX4_init : MethodName := ⟨RX4, "<init>", "()V"⟩
abbrev cX4_append : ByteArray := prog_6_method_2_code
def yX4_append : MethodName := ⟨RX4, "append", "(III)V"⟩
def RX5 : String := "ReleaseHouse$Release"
def TX5 : u_T := fun k => match k with
  | 0 => ("ReleaseHouse$Release", "artefact", "LReleaseHouse$Artefact;", true)
  | 1 => ("ReleaseHouse$Release", "program", "LReleaseHouse$Program;", true)
  | 2 => ("ReleaseHouse$Release", "state", "I", false)
  | 3 => ("ReleaseHouse$Release", "at", "I", false)
  | 4 => ("ReleaseHouse$Release", "cameAt", "I", false)
  | 5 => ("ReleaseHouse$Release", "approvals", "I", false)
  | 6 => ("ReleaseHouse$Release", "isExcepted", "Z", false)
  | 7 => ("ReleaseHouse$Release", "boarded", "LReleaseHouse$Train;", false)
  | 8 => ("ReleaseHouse$Release", "isTaken", "Z", false)
  | 9 => ("ReleaseHouse$Release", "didPromote", "[Z", true)
  | _ => ("ReleaseHouse$Release", "stableBefore", "[LReleaseHouse$Artefact;", true)
def tyX5 : Nat → FieldType := fun k => match k with
  | 0 => .object "ReleaseHouse$Artefact"
  | 1 => .object "ReleaseHouse$Program"
  | 2 => .int
  | 3 => .int
  | 4 => .int
  | 5 => .int
  | 6 => .boolean
  | 7 => .object "ReleaseHouse$Train"
  | 8 => .boolean
  | 9 => .array .boolean
  | _ => .array (.object "ReleaseHouse$Artefact")
abbrev wsX50 : List Cond := u_ws RX5 TX5 11
theorem nmX5 : ∀ a, a < 11 → ∀ b, b < 11 → a ≠ b → (TX5 a).2.1 ≠ (TX5 b).2.1 := by decide +kernel
theorem tyX5_ok : ∀ k, k < 11 → parseFieldDescriptor (TX5 k).2.2.1 = some (tyX5 k) := by decide +kernel
abbrev cX5_init : ByteArray := prog_7_method_1_code
def yX5_init : MethodName := ⟨RX5, "<init>", "(LReleaseHouse$Artefact;LReleaseHouse$Program;I)V"⟩
abbrev cX5_hasEnded : ByteArray := prog_7_method_2_code
def yX5_hasEnded : MethodName := ⟨RX5, "hasEnded", "()Z"⟩
abbrev cX5_comeTo : ByteArray := prog_7_method_3_code
def yX5_comeTo : MethodName := ⟨RX5, "comeTo", "(II)V"⟩
abbrev cX5_kindNow : ByteArray := prog_7_method_4_code
def yX5_kindNow : MethodName := ⟨RX5, "kindNow", "()I"⟩
abbrev cX5_ofNow : ByteArray := prog_7_method_5_code
def yX5_ofNow : MethodName := ⟨RX5, "ofNow", "()I"⟩
abbrev cX5_shareNow : ByteArray := prog_7_method_6_code
def yX5_shareNow : MethodName := ⟨RX5, "shareNow", "()I"⟩
def RX6 : String := "ReleaseHouse$Rule"
def TX6 : u_T := fun k => match k with
  | _ => ("", "", "", false)
def tyX6 : Nat → FieldType := fun k => match k with
  | _ => .int
abbrev wsX60 : List Cond := u_ws RX6 TX6 0
theorem nmX6 : ∀ a, a < 0 → ∀ b, b < 0 → a ≠ b → (TX6 a).2.1 ≠ (TX6 b).2.1 := by decide +kernel
theorem tyX6_ok : ∀ k, k < 0 → parseFieldDescriptor (TX6 k).2.2.1 = some (tyX6 k) := by decide +kernel
def RX7 : String := "ReleaseHouse$Sample"
def TX7 : u_T := fun k => match k with
  | 0 => ("ReleaseHouse$Sample", "codes", "[I", false)
  | 1 => ("ReleaseHouse$Sample", "count", "I", false)
  | 2 => ("ReleaseHouse$Sample", "bad", "I", false)
  | _ => ("ReleaseHouse$Sample", "inBucket", "[I", true)
def tyX7 : Nat → FieldType := fun k => match k with
  | 0 => .array .int
  | 1 => .int
  | 2 => .int
  | _ => .array .int
abbrev wsX70 : List Cond := u_ws RX7 TX7 4
theorem nmX7 : ∀ a, a < 4 → ∀ b, b < 4 → a ≠ b → (TX7 a).2.1 ≠ (TX7 b).2.1 := by decide +kernel
theorem tyX7_ok : ∀ k, k < 4 → parseFieldDescriptor (TX7 k).2.2.1 = some (tyX7 k) := by decide +kernel
abbrev cX7_init : ByteArray := prog_9_method_1_code
def yX7_init : MethodName := ⟨RX7, "<init>", "()V"⟩
abbrev cX7_empty : ByteArray := prog_9_method_2_code
def yX7_empty : MethodName := ⟨RX7, "empty", "()V"⟩
abbrev cX7_add : ByteArray := prog_9_method_3_code
def yX7_add : MethodName := ⟨RX7, "add", "(ZI)V"⟩
abbrev cX7_isBad : ByteArray := prog_9_method_4_code
def yX7_isBad : MethodName := ⟨RX7, "isBad", "(I)Z"⟩
abbrev cX7_slowBucket : ByteArray := prog_9_method_5_code
def yX7_slowBucket : MethodName := ⟨RX7, "slowBucket", "()I"⟩
abbrev cX7_slowBucketAnew : ByteArray := prog_9_method_6_code
def yX7_slowBucketAnew : MethodName := ⟨RX7, "slowBucketAnew", "()I"⟩
abbrev cX7_areNineTenths : ByteArray := prog_9_method_7_code
def yX7_areNineTenths : MethodName := ⟨RX7, "areNineTenths", "(I)Z"⟩
def RX8 : String := "ReleaseHouse$Service"
def TX8 : u_T := fun k => match k with
  | 0 => ("ReleaseHouse$Service", "spots", "[LReleaseHouse$Spot;", true)
  | 1 => ("ReleaseHouse$Service", "units", "[I", true)
  | 2 => ("ReleaseHouse$Service", "sessions", "[LReleaseHouse$Artefact;", true)
  | 3 => ("ReleaseHouse$Service", "openSchemas", "I", false)
  | 4 => ("ReleaseHouse$Service", "migratesFrom", "I", false)
  | 5 => ("ReleaseHouse$Service", "migratesTo", "I", false)
  | 6 => ("ReleaseHouse$Service", "moved", "I", false)
  | _ => ("ReleaseHouse$Service", "isHeld", "Z", false)
def tyX8 : Nat → FieldType := fun k => match k with
  | 0 => .array (.object "ReleaseHouse$Spot")
  | 1 => .array .int
  | 2 => .array (.object "ReleaseHouse$Artefact")
  | 3 => .int
  | 4 => .int
  | 5 => .int
  | 6 => .int
  | _ => .boolean
abbrev wsX80 : List Cond := u_ws RX8 TX8 8
theorem nmX8 : ∀ a, a < 8 → ∀ b, b < 8 → a ≠ b → (TX8 a).2.1 ≠ (TX8 b).2.1 := by decide +kernel
theorem tyX8_ok : ∀ k, k < 8 → parseFieldDescriptor (TX8 k).2.2.1 = some (tyX8 k) := by decide +kernel
abbrev cX8_init : ByteArray := prog_10_method_1_code
def yX8_init : MethodName := ⟨RX8, "<init>", "()V"⟩
abbrev cX8_suitsData : ByteArray := prog_10_method_2_code
def yX8_suitsData : MethodName := ⟨RX8, "suitsData", "(LReleaseHouse$Artefact;)Z"⟩
abbrev cX8_growData : ByteArray := prog_10_method_3_code
def yX8_growData : MethodName := ⟨RX8, "growData", "()V"⟩
def RX9 : String := "ReleaseHouse$Spot"
def TX9 : u_T := fun k => match k with
  | 0 => ("ReleaseHouse$Spot", "stable", "LReleaseHouse$Artefact;", false)
  | 1 => ("ReleaseHouse$Spot", "candidate", "LReleaseHouse$Artefact;", false)
  | 2 => ("ReleaseHouse$Spot", "share", "I", false)
  | 3 => ("ReleaseHouse$Spot", "hasChanged", "Z", false)
  | 4 => ("ReleaseHouse$Spot", "capital", "D", false)
  | 5 => ("ReleaseHouse$Spot", "ofCandidate", "LReleaseHouse$Sample;", true)
  | _ => ("ReleaseHouse$Spot", "ofStable", "LReleaseHouse$Sample;", true)
def tyX9 : Nat → FieldType := fun k => match k with
  | 0 => .object "ReleaseHouse$Artefact"
  | 1 => .object "ReleaseHouse$Artefact"
  | 2 => .int
  | 3 => .boolean
  | 4 => .double
  | 5 => .object "ReleaseHouse$Sample"
  | _ => .object "ReleaseHouse$Sample"
abbrev wsX90 : List Cond := u_ws RX9 TX9 7
theorem nmX9 : ∀ a, a < 7 → ∀ b, b < 7 → a ≠ b → (TX9 a).2.1 ≠ (TX9 b).2.1 := by decide +kernel
theorem tyX9_ok : ∀ k, k < 7 → parseFieldDescriptor (TX9 k).2.2.1 = some (tyX9 k) := by decide +kernel
abbrev cX9_init : ByteArray := prog_11_method_1_code
def yX9_init : MethodName := ⟨RX9, "<init>", "()V"⟩
abbrev cX9_hasNewerThan : ByteArray := prog_11_method_2_code
def yX9_hasNewerThan : MethodName := ⟨RX9, "hasNewerThan", "(LReleaseHouse$Artefact;)Z"⟩
abbrev cX9_become : ByteArray := prog_11_method_3_code
def yX9_become : MethodName := ⟨RX9, "become", "(LReleaseHouse$Artefact;LReleaseHouse$Artefact;I)V"⟩
abbrev cX9_addUse : ByteArray := prog_11_method_4_code
def yX9_addUse : MethodName := ⟨RX9, "addUse", "(LReleaseHouse$Artefact;I)V"⟩
abbrev cX9_sampleOf : ByteArray := prog_11_method_5_code
def yX9_sampleOf : MethodName := ⟨RX9, "sampleOf", "(Z)LReleaseHouse$Sample;"⟩
abbrev cX9_takeMeasure : ByteArray := prog_11_method_6_code
def yX9_takeMeasure : MethodName := ⟨RX9, "takeMeasure", "(ZZI)I"⟩
abbrev cX9_capitalBehindPair : ByteArray := prog_11_method_7_code
def yX9_capitalBehindPair : MethodName := ⟨RX9, "capitalBehindPair", "(DI)D"⟩
abbrev cX9_judgement : ByteArray := prog_11_method_8_code
def yX9_judgement : MethodName := ⟨RX9, "judgement", "()I"⟩
abbrev cX9_judgementAnew : ByteArray := prog_11_method_9_code
def yX9_judgementAnew : MethodName := ⟨RX9, "judgementAnew", "()I"⟩
abbrev cX9_judgementBy : ByteArray := prog_11_method_10_code
def yX9_judgementBy : MethodName := ⟨RX9, "judgementBy", "(DII)I"⟩
abbrev cX9_pairs : ByteArray := prog_11_method_11_code
def yX9_pairs : MethodName := ⟨RX9, "pairs", "()I"⟩
def RX10 : String := "ReleaseHouse$Train"
def TX10 : u_T := fun k => match k with
  | _ => ("", "", "", false)
def tyX10 : Nat → FieldType := fun k => match k with
  | _ => .int
abbrev wsX100 : List Cond := u_ws RX10 TX10 0
theorem nmX10 : ∀ a, a < 0 → ∀ b, b < 0 → a ≠ b → (TX10 a).2.1 ≠ (TX10 b).2.1 := by decide +kernel
theorem tyX10_ok : ∀ k, k < 0 → parseFieldDescriptor (TX10 k).2.2.1 = some (tyX10 k) := by decide +kernel
def RX11 : String := "ReleaseHouse"
def TX11 : u_T := fun k => match k with
  | 0 => ("ReleaseHouse", "artefacts", "Ljava/util/List;", true)
  | 1 => ("ReleaseHouse", "programs", "Ljava/util/List;", true)
  | 2 => ("ReleaseHouse", "releases", "Ljava/util/List;", true)
  | 3 => ("ReleaseHouse", "freezes", "Ljava/util/List;", true)
  | 4 => ("ReleaseHouse", "trains", "Ljava/util/List;", true)
  | 5 => ("ReleaseHouse", "experiments", "Ljava/util/List;", true)
  | 6 => ("ReleaseHouse", "services", "[LReleaseHouse$Service;", true)
  | 7 => ("ReleaseHouse", "flags", "[LReleaseHouse$Flag;", true)
  | 8 => ("ReleaseHouse", "lostZones", "[I", true)
  | 9 => ("ReleaseHouse", "surges", "[I", true)
  | 10 => ("ReleaseHouse", "plans", "[I", true)
  | 11 => ("ReleaseHouse", "minute", "I", false)
  | 12 => ("ReleaseHouse", "death", "I", false)
  | 13 => ("ReleaseHouse", "isGone", "Z", false)
  | 14 => ("ReleaseHouse", "effectCount", "I", false)
  | 15 => ("ReleaseHouse", "sessionCount", "I", false)
  | 16 => ("ReleaseHouse", "measureCount", "I", false)
  | _ => ("ReleaseHouse", "exceptionCount", "I", false)
def tyX11 : Nat → FieldType := fun k => match k with
  | 0 => .object "java/util/List"
  | 1 => .object "java/util/List"
  | 2 => .object "java/util/List"
  | 3 => .object "java/util/List"
  | 4 => .object "java/util/List"
  | 5 => .object "java/util/List"
  | 6 => .array (.object "ReleaseHouse$Service")
  | 7 => .array (.object "ReleaseHouse$Flag")
  | 8 => .array .int
  | 9 => .array .int
  | 10 => .array .int
  | 11 => .int
  | 12 => .int
  | 13 => .boolean
  | 14 => .int
  | 15 => .int
  | 16 => .int
  | _ => .int
abbrev wsX110 : List Cond := u_ws RX11 TX11 18
theorem nmX11 : ∀ a, a < 18 → ∀ b, b < 18 → a ≠ b → (TX11 a).2.1 ≠ (TX11 b).2.1 := by decide +kernel
theorem tyX11_ok : ∀ k, k < 18 → parseFieldDescriptor (TX11 k).2.2.1 = some (tyX11 k) := by decide +kernel
abbrev cX11_init : ByteArray := prog_1_method_1_code
def yX11_init : MethodName := ⟨RX11, "<init>", "()V"⟩
abbrev cX11_artefact : ByteArray := prog_1_method_2_code
def yX11_artefact : MethodName := ⟨RX11, "artefact", "(IIIIIIIZZ)I"⟩
abbrev cX11_checkNeeded : ByteArray := prog_1_method_3_code
def yX11_checkNeeded : MethodName := ⟨RX11, "checkNeeded", "(III)V"⟩
abbrev cX11_isLive : ByteArray := prog_1_method_5_code
def yX11_isLive : MethodName := ⟨RX11, "isLive", "(I)Z"⟩
abbrev cX11_mayGo : ByteArray := prog_1_method_6_code
def yX11_mayGo : MethodName := ⟨RX11, "mayGo", "(I)I"⟩
abbrev cX11_reasonNotToGo : ByteArray := prog_1_method_7_code
def yX11_reasonNotToGo : MethodName := ⟨RX11, "reasonNotToGo", "(LReleaseHouse$Artefact;)I"⟩
abbrev cX11_fitsToLive : ByteArray := prog_1_method_8_code
def yX11_fitsToLive : MethodName := ⟨RX11, "fitsToLive", "(LReleaseHouse$Artefact;LReleaseHouse$Artefact;)Z"⟩
abbrev cX11_hasWhatItNeeds : ByteArray := prog_1_method_9_code
def yX11_hasWhatItNeeds : MethodName := ⟨RX11, "hasWhatItNeeds", "(LReleaseHouse$Artefact;)Z"⟩
abbrev cX11_forbidden : ByteArray := prog_1_method_10_code
def yX11_forbidden : MethodName := ⟨RX11, "forbidden", "()I"⟩
abbrev cX11_program : ByteArray := prog_1_method_11_code
def yX11_program : MethodName := ⟨RX11, "program", "()I"⟩
abbrev cX11_step : ByteArray := prog_1_method_12_code
def yX11_step : MethodName := ⟨RX11, "step", "(IIII)I"⟩
abbrev cX11_checkStep : ByteArray := prog_1_method_13_code
def yX11_checkStep : MethodName := ⟨RX11, "checkStep", "(III)V"⟩
abbrev cX11_release : ByteArray := prog_1_method_14_code
def yX11_release : MethodName := ⟨RX11, "release", "(II)I"⟩
abbrev cX11_releaseUnderWay : ByteArray := prog_1_method_15_code
def yX11_releaseUnderWay : MethodName := ⟨RX11, "releaseUnderWay", "(LReleaseHouse$Artefact;)LReleaseHouse$Release;"⟩
abbrev cX11_stop : ByteArray := prog_1_method_17_code
def yX11_stop : MethodName := ⟨RX11, "stop", "(I)I"⟩
abbrev cX11_bringToStop : ByteArray := prog_1_method_18_code
def yX11_bringToStop : MethodName := ⟨RX11, "bringToStop", "(LReleaseHouse$Release;)I"⟩
abbrev cX11_goesBack : ByteArray := prog_1_method_19_code
def yX11_goesBack : MethodName := ⟨RX11, "goesBack", "(LReleaseHouse$Release;I)Z"⟩
abbrev cX11_dropCandidates : ByteArray := prog_1_method_20_code
def yX11_dropCandidates : MethodName := ⟨RX11, "dropCandidates", "(LReleaseHouse$Artefact;)V"⟩
abbrev cX11_bringToEnd : ByteArray := prog_1_method_21_code
def yX11_bringToEnd : MethodName := ⟨RX11, "bringToEnd", "(LReleaseHouse$Release;I)V"⟩
abbrev cX11_countEffects : ByteArray := prog_1_method_22_code
def yX11_countEffects : MethodName := ⟨RX11, "countEffects", "(LReleaseHouse$Service;)V"⟩
abbrev cX11_state : ByteArray := prog_1_method_23_code
def yX11_state : MethodName := ⟨RX11, "state", "(I)I"⟩
abbrev cX11_at : ByteArray := prog_1_method_24_code
def yX11_at : MethodName := ⟨RX11, "at", "(I)I"⟩
abbrev cX11_why : ByteArray := prog_1_method_25_code
def yX11_why : MethodName := ⟨RX11, "why", "(I)I"⟩
abbrev cX11_reasonAtStep : ByteArray := prog_1_method_26_code
def yX11_reasonAtStep : MethodName := ⟨RX11, "reasonAtStep", "(LReleaseHouse$Release;)I"⟩
abbrev cX11_reasonNotToPut : ByteArray := prog_1_method_27_code
def yX11_reasonNotToPut : MethodName := ⟨RX11, "reasonNotToPut", "(LReleaseHouse$Release;II)I"⟩
abbrev cX11_rivalOf : ByteArray := prog_1_method_28_code
def yX11_rivalOf : MethodName := ⟨RX11, "rivalOf", "(LReleaseHouse$Artefact;LReleaseHouse$Spot;)LReleaseHouse$Release;"⟩
abbrev cX11_isFrozen : ByteArray := prog_1_method_29_code
def yX11_isFrozen : MethodName := ⟨RX11, "isFrozen", "(LReleaseHouse$Release;I)Z"⟩
abbrev cX11_hasRoom : ByteArray := prog_1_method_30_code
def yX11_hasRoom : MethodName := ⟨RX11, "hasRoom", "(LReleaseHouse$Artefact;IILReleaseHouse$Release;)Z"⟩
abbrev cX11_placesTaken : ByteArray := prog_1_method_31_code
def yX11_placesTaken : MethodName := ⟨RX11, "placesTaken", "(I)I"⟩
abbrev cX11_placesFor : ByteArray := prog_1_method_32_code
def yX11_placesFor : MethodName := ⟨RX11, "placesFor", "(I)I"⟩
abbrev cX11_placesIn : ByteArray := prog_1_method_33_code
def yX11_placesIn : MethodName := ⟨RX11, "placesIn", "(I)I"⟩
abbrev cX11_isDrained : ByteArray := prog_1_method_34_code
def yX11_isDrained : MethodName := ⟨RX11, "isDrained", "(II)Z"⟩
abbrev cX11_pass : ByteArray := prog_1_method_35_code
def yX11_pass : MethodName := ⟨RX11, "pass", "(I)I"⟩
abbrev cX11_leaveWithTrains : ByteArray := prog_1_method_36_code
def yX11_leaveWithTrains : MethodName := ⟨RX11, "leaveWithTrains", "()V"⟩
abbrev cX11_leaveWith : ByteArray := prog_1_method_37_code
def yX11_leaveWith : MethodName := ⟨RX11, "leaveWith", "(LReleaseHouse$Train;)V"⟩
abbrev cX11_takeTurns : ByteArray := prog_1_method_38_code
def yX11_takeTurns : MethodName := ⟨RX11, "takeTurns", "(Z)I"⟩
abbrev cX11_goOn : ByteArray := prog_1_method_39_code
def yX11_goOn : MethodName := ⟨RX11, "goOn", "(LReleaseHouse$Release;)Z"⟩
abbrev cX11_doEffect : ByteArray := prog_1_method_40_code
def yX11_doEffect : MethodName := ⟨RX11, "doEffect", "(LReleaseHouse$Release;)V"⟩
abbrev cX11_put : ByteArray := prog_1_method_41_code
def yX11_put : MethodName := ⟨RX11, "put", "(LReleaseHouse$Release;II)V"⟩
abbrev cX11_noteStep : ByteArray := prog_1_method_42_code
def yX11_noteStep : MethodName := ⟨RX11, "noteStep", "(LReleaseHouse$Release;)V"⟩
abbrev cX11_die : ByteArray := prog_1_method_43_code
def yX11_die : MethodName := ⟨RX11, "die", "(Z)V"⟩
abbrev cX11_rise : ByteArray := prog_1_method_44_code
def yX11_rise : MethodName := ⟨RX11, "rise", "()I"⟩
abbrev cX11_isDead : ByteArray := prog_1_method_45_code
def yX11_isDead : MethodName := ⟨RX11, "isDead", "()Z"⟩
abbrev cX11_effects : ByteArray := prog_1_method_46_code
def yX11_effects : MethodName := ⟨RX11, "effects", "()I"⟩
abbrev cX11_stable : ByteArray := prog_1_method_47_code
def yX11_stable : MethodName := ⟨RX11, "stable", "(II)I"⟩
abbrev cX11_candidate : ByteArray := prog_1_method_48_code
def yX11_candidate : MethodName := ⟨RX11, "candidate", "(II)I"⟩
abbrev cX11_share : ByteArray := prog_1_method_49_code
def yX11_share : MethodName := ⟨RX11, "share", "(II)I"⟩
abbrev cX11_sees : ByteArray := prog_1_method_50_code
def yX11_sees : MethodName := ⟨RX11, "sees", "(II)I"⟩
abbrev cX11_seenBy : ByteArray := prog_1_method_51_code
def yX11_seenBy : MethodName := ⟨RX11, "seenBy", "(II)LReleaseHouse$Artefact;"⟩
abbrev cX11_seers : ByteArray := prog_1_method_52_code
def yX11_seers : MethodName := ⟨RX11, "seers", "(II)I"⟩
abbrev cX11_begin : ByteArray := prog_1_method_53_code
def yX11_begin : MethodName := ⟨RX11, "begin", "(II)I"⟩
abbrev cX11_end : ByteArray := prog_1_method_54_code
def yX11_end : MethodName := ⟨RX11, "end", "(II)I"⟩
abbrev cX11_wayOut : ByteArray := prog_1_method_55_code
def yX11_wayOut : MethodName := ⟨RX11, "wayOut", "(II)I"⟩
abbrev cX11_measure : ByteArray := prog_1_method_63_code
def yX11_measure : MethodName := ⟨RX11, "measure", "(IIZZI)I"⟩
abbrev cX11_capital : ByteArray := prog_1_method_64_code
def yX11_capital : MethodName := ⟨RX11, "capital", "(II)D"⟩
abbrev cX11_verdict : ByteArray := prog_1_method_65_code
def yX11_verdict : MethodName := ⟨RX11, "verdict", "(II)I"⟩
abbrev cX11_verdictByAll : ByteArray := prog_1_method_66_code
def yX11_verdictByAll : MethodName := ⟨RX11, "verdictByAll", "(II)I"⟩
abbrev cX11_hold : ByteArray := prog_1_method_68_code
def yX11_hold : MethodName := ⟨RX11, "hold", "(I)Z"⟩
abbrev cX11_zone : ByteArray := prog_1_method_71_code
def yX11_zone : MethodName := ⟨RX11, "zone", "(II)Z"⟩
abbrev cX11_surge : ByteArray := prog_1_method_72_code
def yX11_surge : MethodName := ⟨RX11, "surge", "(II)I"⟩
abbrev cX11_left : ByteArray := prog_1_method_73_code
def yX11_left : MethodName := ⟨RX11, "left", "(I)I"⟩
abbrev cX11_checkNumber : ByteArray := prog_1_method_92_code
def yX11_checkNumber : MethodName := ⟨RX11, "checkNumber", "(II)V"⟩
abbrev cX11_checkRange : ByteArray := prog_1_method_93_code
def yX11_checkRange : MethodName := ⟨RX11, "checkRange", "(III)V"⟩
abbrev cX11_spotIn : ByteArray := prog_1_method_94_code
def yX11_spotIn : MethodName := ⟨RX11, "spotIn", "(II)LReleaseHouse$Spot;"⟩
abbrev cX11_isIn : ByteArray := prog_1_method_95_code
def yX11_isIn : MethodName := ⟨RX11, "isIn", "(II)Z"⟩
abbrev cX11_numberOf : ByteArray := prog_1_method_96_code
def yX11_numberOf : MethodName := ⟨RX11, "numberOf", "(LReleaseHouse$Artefact;)I"⟩
abbrev cX11_ringOf : ByteArray := prog_1_method_97_code
def yX11_ringOf : MethodName := ⟨RX11, "ringOf", "(I)I"⟩
def RX12 : String := "ReleaseHouseModel"
def TX12 : u_T := fun k => match k with
  | _ => ("", "", "", false)
def tyX12 : Nat → FieldType := fun k => match k with
  | _ => .int
abbrev wsX120 : List Cond := u_ws RX12 TX12 0
theorem nmX12 : ∀ a, a < 0 → ∀ b, b < 0 → a ≠ b → (TX12 a).2.1 ≠ (TX12 b).2.1 := by decide +kernel
theorem tyX12_ok : ∀ k, k < 0 → parseFieldDescriptor (TX12 k).2.2.1 = some (tyX12 k) := by decide +kernel
def RJx145de : String := "java/io/Serializable"
def TJx145de : u_T := fun k => match k with
  | _ => ("", "", "", false)
def tyJx145de : Nat → FieldType := fun k => match k with
  | _ => .int
abbrev wsJx145de0 : List Cond := u_ws RJx145de TJx145de 0
theorem nmJx145de : ∀ a, a < 0 → ∀ b, b < 0 → a ≠ b → (TJx145de a).2.1 ≠ (TJx145de b).2.1 := by decide +kernel
theorem tyJx145de_ok : ∀ k, k < 0 → parseFieldDescriptor (TJx145de k).2.2.1 = some (tyJx145de k) := by decide +kernel
def RJx8e188 : String := "java/lang/Cloneable"
def TJx8e188 : u_T := fun k => match k with
  | _ => ("", "", "", false)
def tyJx8e188 : Nat → FieldType := fun k => match k with
  | _ => .int
abbrev wsJx8e1880 : List Cond := u_ws RJx8e188 TJx8e188 0
theorem nmJx8e188 : ∀ a, a < 0 → ∀ b, b < 0 → a ≠ b → (TJx8e188 a).2.1 ≠ (TJx8e188 b).2.1 := by decide +kernel
theorem tyJx8e188_ok : ∀ k, k < 0 → parseFieldDescriptor (TJx8e188 k).2.2.1 = some (tyJx8e188 k) := by decide +kernel
def RJ6 : String := "java/lang/Integer"
def TJ6 : u_T := fun k => match k with
  | _ => ("", "", "", false)
def tyJ6 : Nat → FieldType := fun k => match k with
  | _ => .int
abbrev wsJ60 : List Cond := u_ws RJ6 TJ6 0
theorem nmJ6 : ∀ a, a < 0 → ∀ b, b < 0 → a ≠ b → (TJ6 a).2.1 ≠ (TJ6 b).2.1 := by decide +kernel
theorem tyJ6_ok : ∀ k, k < 0 → parseFieldDescriptor (TJ6 k).2.2.1 = some (tyJ6 k) := by decide +kernel
abbrev cJ6_bitCount_0f7a4 : ByteArray := prog_21_method_49_code
def yJ6_bitCount_0f7a4 : MethodName := ⟨RJ6, "bitCount", "(I)I"⟩
def RJxab1ab : String := "java/lang/Iterable"
def TJxab1ab : u_T := fun k => match k with
  | _ => ("", "", "", false)
def tyJxab1ab : Nat → FieldType := fun k => match k with
  | _ => .int
abbrev wsJxab1ab0 : List Cond := u_ws RJxab1ab TJxab1ab 0
theorem nmJxab1ab : ∀ a, a < 0 → ∀ b, b < 0 → a ≠ b → (TJxab1ab a).2.1 ≠ (TJxab1ab b).2.1 := by decide +kernel
theorem tyJxab1ab_ok : ∀ k, k < 0 → parseFieldDescriptor (TJxab1ab k).2.2.1 = some (tyJxab1ab k) := by decide +kernel
def RJ9 : String := "java/lang/Math"
def TJ9 : u_T := fun k => match k with
  | _ => ("", "", "", false)
def tyJ9 : Nat → FieldType := fun k => match k with
  | _ => .int
abbrev wsJ90 : List Cond := u_ws RJ9 TJ9 0
theorem nmJ9 : ∀ a, a < 0 → ∀ b, b < 0 → a ≠ b → (TJ9 a).2.1 ≠ (TJ9 b).2.1 := by decide +kernel
theorem tyJ9_ok : ∀ k, k < 0 → parseFieldDescriptor (TJ9 k).2.2.1 = some (tyJ9 k) := by decide +kernel
abbrev cJ9_max_7cf53 : ByteArray := prog_23_method_65_code
def yJ9_max_7cf53 : MethodName := ⟨RJ9, "max", "(II)I"⟩
abbrev cJ9_min_7cf53 : ByteArray := prog_23_method_69_code
def yJ9_min_7cf53 : MethodName := ⟨RJ9, "min", "(II)I"⟩
def RJ0 : String := "java/lang/String"
def TJ0 : u_T := fun k => match k with
  | _ => ("", "", "", false)
def tyJ0 : Nat → FieldType := fun k => match k with
  | _ => .int
abbrev wsJ00 : List Cond := u_ws RJ0 TJ0 0
theorem nmJ0 : ∀ a, a < 0 → ∀ b, b < 0 → a ≠ b → (TJ0 a).2.1 ≠ (TJ0 b).2.1 := by decide +kernel
theorem tyJ0_ok : ∀ k, k < 0 → parseFieldDescriptor (TJ0 k).2.2.1 = some (tyJ0 k) := by decide +kernel
def RJ10 : String := "java/lang/System"
def TJ10 : u_T := fun k => match k with
  | _ => ("", "", "", false)
def tyJ10 : Nat → FieldType := fun k => match k with
  | _ => .int
abbrev wsJ100 : List Cond := u_ws RJ10 TJ10 0
theorem nmJ10 : ∀ a, a < 0 → ∀ b, b < 0 → a ≠ b → (TJ10 a).2.1 ≠ (TJ10 b).2.1 := by decide +kernel
theorem tyJ10_ok : ∀ k, k < 0 → parseFieldDescriptor (TJ10 k).2.2.1 = some (tyJ10 k) := by decide +kernel
def RJxa1e45 : String := "java/util/AbstractCollection"
def TJxa1e45 : u_T := fun k => match k with
  | _ => ("", "", "", false)
def tyJxa1e45 : Nat → FieldType := fun k => match k with
  | _ => .int
abbrev wsJxa1e450 : List Cond := u_ws RJxa1e45 TJxa1e45 0
theorem nmJxa1e45 : ∀ a, a < 0 → ∀ b, b < 0 → a ≠ b → (TJxa1e45 a).2.1 ≠ (TJxa1e45 b).2.1 := by decide +kernel
theorem tyJxa1e45_ok : ∀ k, k < 0 → parseFieldDescriptor (TJxa1e45 k).2.2.1 = some (tyJxa1e45 k) := by decide +kernel
abbrev cJxa1e45_init_da8c8 : ByteArray := prog_28_method_1_code
def yJxa1e45_init_da8c8 : MethodName := ⟨RJxa1e45, "<init>", "()V"⟩
def RJxc12de : String := "java/util/AbstractList"
def TJxc12de : u_T := fun k => match k with
  | _ => ("", "", "", false)
def tyJxc12de : Nat → FieldType := fun k => match k with
  | _ => .int
abbrev wsJxc12de0 : List Cond := u_ws RJxc12de TJxc12de 0
theorem nmJxc12de : ∀ a, a < 0 → ∀ b, b < 0 → a ≠ b → (TJxc12de a).2.1 ≠ (TJxc12de b).2.1 := by decide +kernel
theorem tyJxc12de_ok : ∀ k, k < 0 → parseFieldDescriptor (TJxc12de k).2.2.1 = some (tyJxc12de k) := by decide +kernel
abbrev cJxc12de_init_da8c8 : ByteArray := prog_29_method_1_code
def yJxc12de_init_da8c8 : MethodName := ⟨RJxc12de, "<init>", "()V"⟩
def RJx4a65c : String := "java/util/ArrayList"
def TJx4a65c : u_T := fun k => match k with
  | 0 => ("java/util/AbstractList", "modCount", "I", false)
  | 1 => ("java/util/ArrayList", "elementData", "[Ljava/lang/Object;", false)
  | _ => ("java/util/ArrayList", "size", "I", false)
def tyJx4a65c : Nat → FieldType := fun k => match k with
  | 0 => .int
  | 1 => .array (.object "java/lang/Object")
  | _ => .int
abbrev wsJx4a65c0 : List Cond := u_ws RJx4a65c TJx4a65c 3
theorem nmJx4a65c : ∀ a, a < 3 → ∀ b, b < 3 → a ≠ b → (TJx4a65c a).2.1 ≠ (TJx4a65c b).2.1 := by decide +kernel
theorem tyJx4a65c_ok : ∀ k, k < 3 → parseFieldDescriptor (TJx4a65c k).2.2.1 = some (tyJx4a65c k) := by decide +kernel
abbrev cJx4a65c_init_da8c8 : ByteArray := prog_30_method_2_code
def yJx4a65c_init_da8c8 : MethodName := ⟨RJx4a65c, "<init>", "()V"⟩
abbrev cJx4a65c_grow_92f84 : ByteArray := prog_30_method_6_code
def yJx4a65c_grow_92f84 : MethodName := ⟨RJx4a65c, "grow", "(I)[Ljava/lang/Object;"⟩
abbrev cJx4a65c_grow_d5877 : ByteArray := prog_30_method_7_code
def yJx4a65c_grow_d5877 : MethodName := ⟨RJx4a65c, "grow", "()[Ljava/lang/Object;"⟩
abbrev cJx4a65c_size_8abf5 : ByteArray := prog_30_method_8_code
def yJx4a65c_size_8abf5 : MethodName := ⟨RJx4a65c, "size", "()I"⟩
abbrev cJx4a65c_elementData_915e3 : ByteArray := prog_30_method_18_code
def yJx4a65c_elementData_915e3 : MethodName := ⟨RJx4a65c, "elementData", "(I)Ljava/lang/Object;"⟩
abbrev cJx4a65c_get_915e3 : ByteArray := prog_30_method_20_code
def yJx4a65c_get_915e3 : MethodName := ⟨RJx4a65c, "get", "(I)Ljava/lang/Object;"⟩
abbrev cJx4a65c_add_72be8 : ByteArray := prog_30_method_24_code
def yJx4a65c_add_72be8 : MethodName := ⟨RJx4a65c, "add", "(Ljava/lang/Object;[Ljava/lang/Object;I)V"⟩
abbrev cJx4a65c_add_9ea2d : ByteArray := prog_30_method_25_code
def yJx4a65c_add_9ea2d : MethodName := ⟨RJx4a65c, "add", "(Ljava/lang/Object;)Z"⟩
def RJ7 : String := "java/util/Arrays"
def TJ7 : u_T := fun k => match k with
  | _ => ("", "", "", false)
def tyJ7 : Nat → FieldType := fun k => match k with
  | _ => .int
abbrev wsJ70 : List Cond := u_ws RJ7 TJ7 0
theorem nmJ7 : ∀ a, a < 0 → ∀ b, b < 0 → a ≠ b → (TJ7 a).2.1 ≠ (TJ7 b).2.1 := by decide +kernel
theorem tyJ7_ok : ∀ k, k < 0 → parseFieldDescriptor (TJ7 k).2.2.1 = some (tyJ7 k) := by decide +kernel
abbrev cJ7_copyOf_1904c : ByteArray := prog_31_method_119_code
def yJ7_copyOf_1904c : MethodName := ⟨RJ7, "copyOf", "([Ljava/lang/Object;I)[Ljava/lang/Object;"⟩
abbrev cJ7_copyOf_6403c : ByteArray := prog_31_method_120_code
def yJ7_copyOf_6403c : MethodName := ⟨RJ7, "copyOf", "([Ljava/lang/Object;ILjava/lang/Class;)[Ljava/lang/Object;"⟩
abbrev cJ7_copyOf_59c91 : ByteArray := prog_31_method_123_code
def yJ7_copyOf_59c91 : MethodName := ⟨RJ7, "copyOf", "([II)[I"⟩
def RJx5ef63 : String := "java/util/Collection"
def TJx5ef63 : u_T := fun k => match k with
  | _ => ("", "", "", false)
def tyJx5ef63 : Nat → FieldType := fun k => match k with
  | _ => .int
abbrev wsJx5ef630 : List Cond := u_ws RJx5ef63 TJx5ef63 0
theorem nmJx5ef63 : ∀ a, a < 0 → ∀ b, b < 0 → a ≠ b → (TJx5ef63 a).2.1 ≠ (TJx5ef63 b).2.1 := by decide +kernel
theorem tyJx5ef63_ok : ∀ k, k < 0 → parseFieldDescriptor (TJx5ef63 k).2.2.1 = some (tyJx5ef63 k) := by decide +kernel
def RJxbd725 : String := "java/util/List"
def TJxbd725 : u_T := fun k => match k with
  | _ => ("", "", "", false)
def tyJxbd725 : Nat → FieldType := fun k => match k with
  | _ => .int
abbrev wsJxbd7250 : List Cond := u_ws RJxbd725 TJxbd725 0
theorem nmJxbd725 : ∀ a, a < 0 → ∀ b, b < 0 → a ≠ b → (TJxbd725 a).2.1 ≠ (TJxbd725 b).2.1 := by decide +kernel
theorem tyJxbd725_ok : ∀ k, k < 0 → parseFieldDescriptor (TJxbd725 k).2.2.1 = some (tyJxbd725 k) := by decide +kernel
def RJ15 : String := "java/util/Objects"
def TJ15 : u_T := fun k => match k with
  | _ => ("", "", "", false)
def tyJ15 : Nat → FieldType := fun k => match k with
  | _ => .int
abbrev wsJ150 : List Cond := u_ws RJ15 TJ15 0
theorem nmJ15 : ∀ a, a < 0 → ∀ b, b < 0 → a ≠ b → (TJ15 a).2.1 ≠ (TJ15 b).2.1 := by decide +kernel
theorem tyJ15_ok : ∀ k, k < 0 → parseFieldDescriptor (TJ15 k).2.2.1 = some (tyJ15 k) := by decide +kernel
abbrev cJ15_checkIndex_7cf53 : ByteArray := prog_34_method_17_code
def yJ15_checkIndex_7cf53 : MethodName := ⟨RJ15, "checkIndex", "(II)I"⟩
def RJxf0a74 : String := "java/util/RandomAccess"
def TJxf0a74 : u_T := fun k => match k with
  | _ => ("", "", "", false)
def tyJxf0a74 : Nat → FieldType := fun k => match k with
  | _ => .int
abbrev wsJxf0a740 : List Cond := u_ws RJxf0a74 TJxf0a74 0
theorem nmJxf0a74 : ∀ a, a < 0 → ∀ b, b < 0 → a ≠ b → (TJxf0a74 a).2.1 ≠ (TJxf0a74 b).2.1 := by decide +kernel
theorem tyJxf0a74_ok : ∀ k, k < 0 → parseFieldDescriptor (TJxf0a74 k).2.2.1 = some (tyJxf0a74 k) := by decide +kernel
def RJxa66e6 : String := "java/util/SequencedCollection"
def TJxa66e6 : u_T := fun k => match k with
  | _ => ("", "", "", false)
def tyJxa66e6 : Nat → FieldType := fun k => match k with
  | _ => .int
abbrev wsJxa66e60 : List Cond := u_ws RJxa66e6 TJxa66e6 0
theorem nmJxa66e6 : ∀ a, a < 0 → ∀ b, b < 0 → a ≠ b → (TJxa66e6 a).2.1 ≠ (TJxa66e6 b).2.1 := by decide +kernel
theorem tyJxa66e6_ok : ∀ k, k < 0 → parseFieldDescriptor (TJxa66e6 k).2.2.1 = some (tyJxa66e6 k) := by decide +kernel
def RJ8 : String := "jdk/internal/util/ArraysSupport"
def TJ8 : u_T := fun k => match k with
  | _ => ("", "", "", false)
def tyJ8 : Nat → FieldType := fun k => match k with
  | _ => .int
abbrev wsJ80 : List Cond := u_ws RJ8 TJ8 0
theorem nmJ8 : ∀ a, a < 0 → ∀ b, b < 0 → a ≠ b → (TJ8 a).2.1 ≠ (TJ8 b).2.1 := by decide +kernel
theorem tyJ8_ok : ∀ k, k < 0 → parseFieldDescriptor (TJ8 k).2.2.1 = some (tyJ8 k) := by decide +kernel
abbrev cJ8_newLength_cabcc : ByteArray := prog_37_method_27_code
def yJ8_newLength_cabcc : MethodName := ⟨RJ8, "newLength", "(III)I"⟩
abbrev cJ8_hugeLength_7cf53 : ByteArray := prog_37_method_28_code
def yJ8_hugeLength_7cf53 : MethodName := ⟨RJ8, "hugeLength", "(II)I"⟩
def RJ3 : String := "jdk/internal/util/Preconditions"
def TJ3 : u_T := fun k => match k with
  | _ => ("", "", "", false)
def tyJ3 : Nat → FieldType := fun k => match k with
  | _ => .int
abbrev wsJ30 : List Cond := u_ws RJ3 TJ3 0
theorem nmJ3 : ∀ a, a < 0 → ∀ b, b < 0 → a ≠ b → (TJ3 a).2.1 ≠ (TJ3 b).2.1 := by decide +kernel
theorem tyJ3_ok : ∀ k, k < 0 → parseFieldDescriptor (TJ3 k).2.2.1 = some (tyJ3 k) := by decide +kernel
abbrev cJ3_checkIndex_8e157 : ByteArray := prog_38_method_11_code
def yJ3_checkIndex_8e157 : MethodName := ⟨RJ3, "checkIndex", "(IILjava/util/function/BiFunction;)I"⟩
def RL : String := "ReleaseHouseLaw"
abbrev cL_cell : ByteArray := method_2_code
def yL_cell : MethodName := ⟨RL, "cell", "([II)I"⟩
abbrev cL_low : ByteArray := method_3_code
def yL_low : MethodName := ⟨RL, "low", "(II)I"⟩
abbrev cL_isRing : ByteArray := method_4_code
def yL_isRing : MethodName := ⟨RL, "isRing", "(LReleaseHouse;II)Z"⟩
abbrev cL_law : ByteArray := code
def yL_law : MethodName := ⟨RL, "law", "([I)Z"⟩
