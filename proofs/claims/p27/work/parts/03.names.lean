def RX0 : String := "SaltRow$Family"
def TX0 : u_T := fun k => match k with
  | 0 => ("SaltRow$Family", "rights", "[I", true)
  | 1 => ("SaltRow$Family", "salt", "I", false)
  | 2 => ("SaltRow$Family", "dirt", "I", false)
  | 3 => ("SaltRow$Family", "coins", "I", false)
  | 4 => ("SaltRow$Family", "saltGot", "I", false)
  | _ => ("SaltRow$Family", "saltSold", "I", false)
def tyX0 : Nat → FieldType := fun k => match k with
  | 0 => .array .int
  | 1 => .int
  | 2 => .int
  | 3 => .int
  | 4 => .int
  | _ => .int
abbrev wsX00 : List Cond := u_ws RX0 TX0 6
theorem nmX0 : ∀ a, a < 6 → ∀ b, b < 6 → a ≠ b → (TX0 a).2.1 ≠ (TX0 b).2.1 := by decide +kernel
theorem tyX0_ok : ∀ k, k < 6 → parseFieldDescriptor (TX0 k).2.2.1 = some (tyX0 k) := by decide +kernel
abbrev cX0_init : ByteArray := prog_2_method_1_code
def yX0_init : MethodName := ⟨RX0, "<init>", "()V"⟩
abbrev cX0_read : ByteArray := prog_2_method_2_code
def yX0_read : MethodName := ⟨RX0, "read", "(I)I"⟩
abbrev cX0_getSalt : ByteArray := prog_2_method_3_code
def yX0_getSalt : MethodName := ⟨RX0, "getSalt", "(II)V"⟩
def RX1 : String := "SaltRow$Pond"
def TX1 : u_T := fun k => match k with
  | 0 => ("SaltRow$Pond", "area", "I", false)
  | 1 => ("SaltRow$Pond", "brine", "I", false)
  | 2 => ("SaltRow$Pond", "salt", "I", false)
  | 3 => ("SaltRow$Pond", "gypsum", "I", false)
  | 4 => ("SaltRow$Pond", "bitter", "I", false)
  | 5 => ("SaltRow$Pond", "fresh", "I", false)
  | 6 => ("SaltRow$Pond", "crustSalt", "I", false)
  | 7 => ("SaltRow$Pond", "crustDirt", "I", false)
  | 8 => ("SaltRow$Pond", "saltFallen", "I", false)
  | 9 => ("SaltRow$Pond", "isOpen", "Z", false)
  | 10 => ("SaltRow$Pond", "isCovered", "Z", false)
  | _ => ("SaltRow$Pond", "wasHarvested", "Z", false)
def tyX1 : Nat → FieldType := fun k => match k with
  | 0 => .int
  | 1 => .int
  | 2 => .int
  | 3 => .int
  | 4 => .int
  | 5 => .int
  | 6 => .int
  | 7 => .int
  | 8 => .int
  | 9 => .boolean
  | 10 => .boolean
  | _ => .boolean
abbrev wsX10 : List Cond := u_ws RX1 TX1 12
theorem nmX1 : ∀ a, a < 12 → ∀ b, b < 12 → a ≠ b → (TX1 a).2.1 ≠ (TX1 b).2.1 := by decide +kernel
theorem tyX1_ok : ∀ k, k < 12 → parseFieldDescriptor (TX1 k).2.2.1 = some (tyX1 k) := by decide +kernel
abbrev cX1_init : ByteArray := prog_3_method_1_code
def yX1_init : MethodName := ⟨RX1, "<init>", "()V"⟩
abbrev cX1_level : ByteArray := prog_3_method_2_code
def yX1_level : MethodName := ⟨RX1, "level", "()I"⟩
abbrev cX1_strength : ByteArray := prog_3_method_3_code
def yX1_strength : MethodName := ⟨RX1, "strength", "()I"⟩
abbrev cX1_read : ByteArray := prog_3_method_4_code
def yX1_read : MethodName := ⟨RX1, "read", "(I)I"⟩
abbrev cX1_copyFrom : ByteArray := prog_3_method_5_code
def yX1_copyFrom : MethodName := ⟨RX1, "copyFrom", "(LSaltRow$Pond;)V"⟩
abbrev cX1_giveBrine : ByteArray := prog_3_method_7_code
def yX1_giveBrine : MethodName := ⟨RX1, "giveBrine", "(LSaltRow$Pond;I)V"⟩
abbrev cX1_takeIn : ByteArray := prog_3_method_8_code
def yX1_takeIn : MethodName := ⟨RX1, "takeIn", "(IIII)V"⟩
abbrev cX1_rainFalls : ByteArray := prog_3_method_9_code
def yX1_rainFalls : MethodName := ⟨RX1, "rainFalls", "(I)V"⟩
abbrev cX1_dryOut : ByteArray := prog_3_method_10_code
def yX1_dryOut : MethodName := ⟨RX1, "dryOut", "(I)V"⟩
abbrev cX1_mixFresh : ByteArray := prog_3_method_11_code
def yX1_mixFresh : MethodName := ⟨RX1, "mixFresh", "()V"⟩
abbrev cX1_dropMinerals : ByteArray := prog_3_method_12_code
def yX1_dropMinerals : MethodName := ⟨RX1, "dropMinerals", "()V"⟩
abbrev cX1_above : ByteArray := prog_3_method_13_code
def yX1_above : MethodName := ⟨RX1, "above", "(II)I"⟩
abbrev cX1_canBeHarvested : ByteArray := prog_3_method_14_code
def yX1_canBeHarvested : MethodName := ⟨RX1, "canBeHarvested", "()Z"⟩
abbrev cX1_saltOfHarvest : ByteArray := prog_3_method_15_code
def yX1_saltOfHarvest : MethodName := ⟨RX1, "saltOfHarvest", "(Z)I"⟩
abbrev cX1_dirtOfCrustWith : ByteArray := prog_3_method_16_code
def yX1_dirtOfCrustWith : MethodName := ⟨RX1, "dirtOfCrustWith", "(I)I"⟩
abbrev cX1_dirtOfFloor : ByteArray := prog_3_method_17_code
def yX1_dirtOfFloor : MethodName := ⟨RX1, "dirtOfFloor", "(Z)I"⟩
def RX2 : String := "SaltRow$Row"
def TX2 : u_T := fun k => match k with
  | 0 => ("SaltRow$Row", "ponds", "[LSaltRow$Pond;", true)
  | 1 => ("SaltRow$Row", "day", "I", false)
  | 2 => ("SaltRow$Row", "sun", "I", false)
  | 3 => ("SaltRow$Row", "wind", "I", false)
  | _ => ("SaltRow$Row", "seaSalt", "I", false)
def tyX2 : Nat → FieldType := fun k => match k with
  | 0 => .array (.object "SaltRow$Pond")
  | 1 => .int
  | 2 => .int
  | 3 => .int
  | _ => .int
abbrev wsX20 : List Cond := u_ws RX2 TX2 5
theorem nmX2 : ∀ a, a < 5 → ∀ b, b < 5 → a ≠ b → (TX2 a).2.1 ≠ (TX2 b).2.1 := by decide +kernel
theorem tyX2_ok : ∀ k, k < 5 → parseFieldDescriptor (TX2 k).2.2.1 = some (tyX2 k) := by decide +kernel
abbrev cX2_init : ByteArray := prog_4_method_1_code
def yX2_init : MethodName := ⟨RX2, "<init>", "()V"⟩
abbrev cX2_copyFrom : ByteArray := prog_4_method_2_code
def yX2_copyFrom : MethodName := ⟨RX2, "copyFrom", "(LSaltRow$Row;)V"⟩
abbrev cX2_letDayGoBy : ByteArray := prog_4_method_3_code
def yX2_letDayGoBy : MethodName := ⟨RX2, "letDayGoBy", "(III)V"⟩
abbrev cX2_letSeaIn : ByteArray := prog_4_method_4_code
def yX2_letSeaIn : MethodName := ⟨RX2, "letSeaIn", "()V"⟩
abbrev cX2_letBrineFlowOn : ByteArray := prog_4_method_5_code
def yX2_letBrineFlowOn : MethodName := ⟨RX2, "letBrineFlowOn", "()V"⟩
abbrev cX2_setGates : ByteArray := prog_4_method_6_code
def yX2_setGates : MethodName := ⟨RX2, "setGates", "(I)V"⟩
abbrev cX2_openGates : ByteArray := prog_4_method_7_code
def yX2_openGates : MethodName := ⟨RX2, "openGates", "()I"⟩
abbrev cX2_coveredPans : ByteArray := prog_4_method_8_code
def yX2_coveredPans : MethodName := ⟨RX2, "coveredPans", "()I"⟩
abbrev cX2_saltFallenInPans : ByteArray := prog_4_method_9_code
def yX2_saltFallenInPans : MethodName := ⟨RX2, "saltFallenInPans", "()I"⟩
abbrev cX2_saltInPans : ByteArray := prog_4_method_10_code
def yX2_saltInPans : MethodName := ⟨RX2, "saltInPans", "()I"⟩
abbrev cX2_sumOfPonds : ByteArray := prog_4_method_11_code
def yX2_sumOfPonds : MethodName := ⟨RX2, "sumOfPonds", "(I)I"⟩
def RX3 : String := "SaltRow"
def TX3 : u_T := fun k => match k with
  | 0 => ("SaltRow", "row", "LSaltRow$Row;", true)
  | 1 => ("SaltRow", "trial", "LSaltRow$Row;", true)
  | 2 => ("SaltRow", "families", "[LSaltRow$Family;", true)
  | 3 => ("SaltRow", "familyCount", "I", false)
  | 4 => ("SaltRow", "skimmed", "I", false)
  | 5 => ("SaltRow", "lostSalt", "I", false)
  | 6 => ("SaltRow", "crownSalt", "I", false)
  | 7 => ("SaltRow", "cloisterSalt", "I", false)
  | 8 => ("SaltRow", "cloisterDirt", "I", false)
  | _ => ("SaltRow", "worksCoins", "I", false)
def tyX3 : Nat → FieldType := fun k => match k with
  | 0 => .object "SaltRow$Row"
  | 1 => .object "SaltRow$Row"
  | 2 => .array (.object "SaltRow$Family")
  | 3 => .int
  | 4 => .int
  | 5 => .int
  | 6 => .int
  | 7 => .int
  | 8 => .int
  | _ => .int
abbrev wsX30 : List Cond := u_ws RX3 TX3 10
theorem nmX3 : ∀ a, a < 10 → ∀ b, b < 10 → a ≠ b → (TX3 a).2.1 ≠ (TX3 b).2.1 := by decide +kernel
theorem tyX3_ok : ∀ k, k < 10 → parseFieldDescriptor (TX3 k).2.2.1 = some (tyX3 k) := by decide +kernel
abbrev cX3_init : ByteArray := prog_1_method_1_code
def yX3_init : MethodName := ⟨RX3, "<init>", "()V"⟩
abbrev cX3_area : ByteArray := prog_1_method_2_code
def yX3_area : MethodName := ⟨RX3, "area", "(II)I"⟩
abbrev cX3_gate : ByteArray := prog_1_method_3_code
def yX3_gate : MethodName := ⟨RX3, "gate", "(IZ)Z"⟩
abbrev cX3_pass : ByteArray := prog_1_method_5_code
def yX3_pass : MethodName := ⟨RX3, "pass", "(IIII)I"⟩
abbrev cX3_skim : ByteArray := prog_1_method_6_code
def yX3_skim : MethodName := ⟨RX3, "skim", "(I)I"⟩
abbrev cX3_family : ByteArray := prog_1_method_9_code
def yX3_family : MethodName := ⟨RX3, "family", "()I"⟩
abbrev cX3_right : ByteArray := prog_1_method_10_code
def yX3_right : MethodName := ⟨RX3, "right", "(III)I"⟩
abbrev cX3_harvest : ByteArray := prog_1_method_11_code
def yX3_harvest : MethodName := ⟨RX3, "harvest", "(IZ)I"⟩
abbrev cX3_wash : ByteArray := prog_1_method_13_code
def yX3_wash : MethodName := ⟨RX3, "wash", "(I)I"⟩
abbrev cX3_ofPond : ByteArray := prog_1_method_15_code
def yX3_ofPond : MethodName := ⟨RX3, "ofPond", "(II)I"⟩
abbrev cX3_ofFamily : ByteArray := prog_1_method_16_code
def yX3_ofFamily : MethodName := ⟨RX3, "ofFamily", "(II)I"⟩
abbrev cX3_rightOf : ByteArray := prog_1_method_17_code
def yX3_rightOf : MethodName := ⟨RX3, "rightOf", "(II)I"⟩
abbrev cX3_many : ByteArray := prog_1_method_19_code
def yX3_many : MethodName := ⟨RX3, "many", "(I)I"⟩
abbrev cX3_crustIn : ByteArray := prog_1_method_21_code
def yX3_crustIn : MethodName := ⟨RX3, "crustIn", "(III)I"⟩
abbrev cX3_bestGates : ByteArray := prog_1_method_22_code
def yX3_bestGates : MethodName := ⟨RX3, "bestGates", "(III)I"⟩
abbrev cX3_tideOn : ByteArray := prog_1_method_24_code
def yX3_tideOn : MethodName := ⟨RX3, "tideOn", "(IZ)I"⟩
abbrev cX3_digest : ByteArray := prog_1_method_25_code
def yX3_digest : MethodName := ⟨RX3, "digest", "()J"⟩
abbrev cX3_digestOfFamily : ByteArray := prog_1_method_26_code
def yX3_digestOfFamily : MethodName := ⟨RX3, "digestOfFamily", "(IJ)J"⟩
abbrev cX3_saltInPansWith : ByteArray := prog_1_method_27_code
def yX3_saltInPansWith : MethodName := ⟨RX3, "saltInPansWith", "(IIII)I"⟩
abbrev cX3_shareOut : ByteArray := prog_1_method_28_code
def yX3_shareOut : MethodName := ⟨RX3, "shareOut", "(III)V"⟩
abbrev cX3_rightsIn : ByteArray := prog_1_method_29_code
def yX3_rightsIn : MethodName := ⟨RX3, "rightsIn", "(I)I"⟩
abbrev cX3_sumOfFamilies : ByteArray := prog_1_method_30_code
def yX3_sumOfFamilies : MethodName := ⟨RX3, "sumOfFamilies", "(I)I"⟩
abbrev cX3_needPond : ByteArray := prog_1_method_31_code
def yX3_needPond : MethodName := ⟨RX3, "needPond", "(I)V"⟩
abbrev cX3_needPan : ByteArray := prog_1_method_32_code
def yX3_needPan : MethodName := ⟨RX3, "needPan", "(I)V"⟩
abbrev cX3_needFamily : ByteArray := prog_1_method_33_code
def yX3_needFamily : MethodName := ⟨RX3, "needFamily", "(I)V"⟩
abbrev cX3_needWeather : ByteArray := prog_1_method_34_code
def yX3_needWeather : MethodName := ⟨RX3, "needWeather", "(II)V"⟩
abbrev cX3_tideAt : ByteArray := prog_1_method_35_code
def yX3_tideAt : MethodName := ⟨RX3, "tideAt", "(I)I"⟩
abbrev cX3_crownsPart : ByteArray := prog_1_method_36_code
def yX3_crownsPart : MethodName := ⟨RX3, "crownsPart", "(I)I"⟩
abbrev cX3_purity : ByteArray := prog_1_method_37_code
def yX3_purity : MethodName := ⟨RX3, "purity", "(II)I"⟩
abbrev cX3_portion : ByteArray := prog_1_method_38_code
def yX3_portion : MethodName := ⟨RX3, "portion", "(JJJ)I"⟩
abbrev cX3_roundedUp : ByteArray := prog_1_method_39_code
def yX3_roundedUp : MethodName := ⟨RX3, "roundedUp", "(II)I"⟩
def wsX0_init : List Cond := .code yX0_init cX0_init 1 none :: ([.methodLink RX0 3 objectInit, .instanceMethod objectInit, .code objectInit ⟨#[0xb1]⟩ 1 none, .arrayClass .int, .fieldLink RX0 9 "SaltRow$Family" "rights" "[I"] ++ wsX00)
def wsX3_portion : List Cond := .code yX3_portion cX3_portion 6 (some .int) :: ([])
def wsX3_purity : List Cond := .code yX3_purity cX3_purity 2 (some .int) :: ([.constantLong RX3 327 (100), .methodLink RX3 214 yX3_portion, .static yX3_portion, .initialized RX3, .code yX3_portion cX3_portion 6 (some .int)])
def wsX0_read : List Cond := .code yX0_read cX0_read 2 (some .int) :: ([.fieldLink RX0 15 "SaltRow$Family" "salt" "I", .fieldLink RX0 19 "SaltRow$Family" "dirt" "I", .fieldLink RX0 26 "SaltRow$Family" "coins" "I", .fieldLink RX0 29 "SaltRow$Family" "saltGot" "I", .fieldLink RX0 32 "SaltRow$Family" "saltSold" "I", .static yX3_purity, .initialized RX3, .code yX3_purity cX3_purity 2 (some .int), .constantLong RX3 327 (100), .methodLink RX3 214 yX3_portion, .static yX3_portion, .code yX3_portion cX3_portion 6 (some .int)] ++ wsX00)
def wsX0_getSalt : List Cond := .code yX0_getSalt cX0_getSalt 3 none :: ([.fieldLink RX0 15 "SaltRow$Family" "salt" "I", .fieldLink RX0 19 "SaltRow$Family" "dirt" "I", .fieldLink RX0 29 "SaltRow$Family" "saltGot" "I"] ++ wsX00)
def wsX1_init : List Cond := .code yX1_init cX1_init 1 none :: ([.methodLink RX1 3 objectInit, .instanceMethod objectInit, .code objectInit ⟨#[0xb1]⟩ 1 none, .fieldLink RX1 9 "SaltRow$Pond" "area" "I"] ++ wsX10)
def wsX1_level : List Cond := .code yX1_level cX1_level 1 (some .int) :: ([.fieldLink RX1 15 "SaltRow$Pond" "brine" "I", .fieldLink RX1 9 "SaltRow$Pond" "area" "I", .static yX3_portion, .initialized RX3, .code yX3_portion cX3_portion 6 (some .int)] ++ wsX10)
def wsX1_strength : List Cond := .code yX1_strength cX1_strength 1 (some .int) :: ([.fieldLink RX1 22 "SaltRow$Pond" "salt" "I", .fieldLink RX1 25 "SaltRow$Pond" "bitter" "I", .constantLong RX1 28 (5), .fieldLink RX1 15 "SaltRow$Pond" "brine" "I", .methodLink RX1 30 Lib.Math.min.name, .static Lib.Math.min.name, .initialized "java/lang/Math", .code Lib.Math.min.name Lib.Math.min.code 2 (some .int), .static yX3_portion, .initialized RX3, .code yX3_portion cX3_portion 6 (some .int)] ++ wsX10)
def wsX1_read_r1 : List Cond := [Cond.fieldLink RX1 9 "SaltRow$Pond" "area" "I", Cond.fieldLink RX1 15 "SaltRow$Pond" "brine" "I", Cond.fieldLink RX1 22 "SaltRow$Pond" "salt" "I", Cond.fieldLink RX1 36 "SaltRow$Pond" "gypsum" "I", Cond.fieldLink RX1 25 "SaltRow$Pond" "bitter" "I", Cond.fieldLink RX1 39 "SaltRow$Pond" "fresh" "I", Cond.fieldLink RX1 42 "SaltRow$Pond" "crustSalt" "I", Cond.fieldLink RX1 45 "SaltRow$Pond" "crustDirt" "I", Cond.fieldLink RX1 55 "SaltRow$Pond" "wasHarvested" "Z", Cond.methodLink RX1 48 yX1_level, Cond.instanceMethod yX1_level, Cond.selects RX1 yX1_level yX1_level, Cond.initialized RX1, Cond.code yX1_level cX1_level 1 (some .int), Cond.static yX3_portion, Cond.initialized RX3, Cond.code yX3_portion cX3_portion 6 (some .int), Cond.methodLink RX1 52 yX1_strength, Cond.instanceMethod yX1_strength, Cond.selects RX1 yX1_strength yX1_strength, Cond.code yX1_strength cX1_strength 1 (some .int), Cond.constantLong RX1 28 (5), Cond.methodLink RX1 30 Lib.Math.min.name, Cond.static Lib.Math.min.name]
def wsX1_read_r2 : List Cond := [Cond.initialized "java/lang/Math", Cond.code Lib.Math.min.name Lib.Math.min.code 2 (some .int)]
def wsX1_read : List Cond := .code yX1_read cX1_read 2 (some .int) :: ((wsX1_read_r1 ++ wsX1_read_r2) ++ wsX10)
def wsX1_copyFrom : List Cond := .code yX1_copyFrom cX1_copyFrom 2 none :: ([.fieldLink RX1 9 "SaltRow$Pond" "area" "I", .fieldLink RX1 15 "SaltRow$Pond" "brine" "I", .fieldLink RX1 22 "SaltRow$Pond" "salt" "I", .fieldLink RX1 36 "SaltRow$Pond" "gypsum" "I", .fieldLink RX1 25 "SaltRow$Pond" "bitter" "I", .fieldLink RX1 39 "SaltRow$Pond" "fresh" "I", .fieldLink RX1 42 "SaltRow$Pond" "crustSalt" "I", .fieldLink RX1 45 "SaltRow$Pond" "crustDirt" "I", .fieldLink RX1 59 "SaltRow$Pond" "saltFallen" "I", .fieldLink RX1 62 "SaltRow$Pond" "isOpen" "Z", .fieldLink RX1 65 "SaltRow$Pond" "isCovered" "Z", .fieldLink RX1 55 "SaltRow$Pond" "wasHarvested" "Z"] ++ wsX10)
def wsX1_takeIn : List Cond := .code yX1_takeIn cX1_takeIn 5 none :: ([.fieldLink RX1 15 "SaltRow$Pond" "brine" "I", .fieldLink RX1 22 "SaltRow$Pond" "salt" "I", .fieldLink RX1 36 "SaltRow$Pond" "gypsum" "I", .fieldLink RX1 25 "SaltRow$Pond" "bitter" "I"] ++ wsX10)
def wsX1_giveBrine : List Cond := .code yX1_giveBrine cX1_giveBrine 6 none :: ([.fieldLink RX1 22 "SaltRow$Pond" "salt" "I", .fieldLink RX1 15 "SaltRow$Pond" "brine" "I", .fieldLink RX1 36 "SaltRow$Pond" "gypsum" "I", .fieldLink RX1 25 "SaltRow$Pond" "bitter" "I", .static yX3_portion, .initialized RX3, .code yX3_portion cX3_portion 6 (some .int), .methodLink RX1 68 yX1_takeIn, .instanceMethod yX1_takeIn, .selects RX1 yX1_takeIn yX1_takeIn, .initialized RX1, .code yX1_takeIn cX1_takeIn 5 none] ++ wsX10)
def wsX1_rainFalls : List Cond := .code yX1_rainFalls cX1_rainFalls 2 none :: ([.fieldLink RX1 65 "SaltRow$Pond" "isCovered" "Z", .fieldLink RX1 39 "SaltRow$Pond" "fresh" "I", .fieldLink RX1 9 "SaltRow$Pond" "area" "I"] ++ wsX10)
def wsX3_roundedUp : List Cond := .code yX3_roundedUp cX3_roundedUp 2 (some .int) :: ([])
def wsX1_dryOut : List Cond := .code yX1_dryOut cX1_dryOut 4 none :: ([.fieldLink RX1 9 "SaltRow$Pond" "area" "I", .fieldLink RX1 39 "SaltRow$Pond" "fresh" "I", .methodLink RX1 30 Lib.Math.min.name, .static Lib.Math.min.name, .initialized "java/lang/Math", .code Lib.Math.min.name Lib.Math.min.code 2 (some .int), .fieldLink RX1 15 "SaltRow$Pond" "brine" "I", .methodLink RX1 52 yX1_strength, .instanceMethod yX1_strength, .selects RX1 yX1_strength yX1_strength, .initialized RX1, .code yX1_strength cX1_strength 1 (some .int), .fieldLink RX1 22 "SaltRow$Pond" "salt" "I", .fieldLink RX1 25 "SaltRow$Pond" "bitter" "I", .constantLong RX1 28 (5), .static yX3_portion, .initialized RX3, .code yX3_portion cX3_portion 6 (some .int), .static yX3_roundedUp, .code yX3_roundedUp cX3_roundedUp 2 (some .int)] ++ wsX10)
def wsX1_mixFresh : List Cond := .code yX1_mixFresh cX1_mixFresh 3 none :: ([.fieldLink RX1 39 "SaltRow$Pond" "fresh" "I", .fieldLink RX1 42 "SaltRow$Pond" "crustSalt" "I", .methodLink RX1 30 Lib.Math.min.name, .static Lib.Math.min.name, .initialized "java/lang/Math", .code Lib.Math.min.name Lib.Math.min.code 2 (some .int), .fieldLink RX1 15 "SaltRow$Pond" "brine" "I", .fieldLink RX1 22 "SaltRow$Pond" "salt" "I", .static yX3_roundedUp, .initialized RX3, .code yX3_roundedUp cX3_roundedUp 2 (some .int)] ++ wsX10)
def wsX1_above : List Cond := .code yX1_above cX1_above 3 (some .int) :: ([.fieldLink RX1 15 "SaltRow$Pond" "brine" "I", .methodLink RX1 78 Lib.MathLoose.max_long.x, .static Lib.MathLoose.max_long.x, .initialized "java/lang/Math", .code Lib.MathLoose.max_long.x Lib.MathLoose.max_long.code 4 (some .long)] ++ wsX10)
def wsX1_dropMinerals : List Cond := .code yX1_dropMinerals cX1_dropMinerals 3 none :: ([.fieldLink RX1 36 "SaltRow$Pond" "gypsum" "I", .fieldLink RX1 25 "SaltRow$Pond" "bitter" "I", .fieldLink RX1 22 "SaltRow$Pond" "salt" "I", .fieldLink RX1 59 "SaltRow$Pond" "saltFallen" "I", .fieldLink RX1 42 "SaltRow$Pond" "crustSalt" "I", .fieldLink RX1 45 "SaltRow$Pond" "crustDirt" "I", .methodLink RX1 75 yX1_above, .instanceMethod yX1_above, .selects RX1 yX1_above yX1_above, .initialized RX1, .code yX1_above cX1_above 3 (some .int), .fieldLink RX1 15 "SaltRow$Pond" "brine" "I", .methodLink RX1 78 Lib.MathLoose.max_long.x, .static Lib.MathLoose.max_long.x, .initialized "java/lang/Math", .code Lib.MathLoose.max_long.x Lib.MathLoose.max_long.code 4 (some .long)] ++ wsX10)
def wsX1_canBeHarvested : List Cond := .code yX1_canBeHarvested cX1_canBeHarvested 1 (some .boolean) :: ([.fieldLink RX1 42 "SaltRow$Pond" "crustSalt" "I", .fieldLink RX1 55 "SaltRow$Pond" "wasHarvested" "Z"] ++ wsX10)
def wsX1_saltOfHarvest : List Cond := .code yX1_saltOfHarvest cX1_saltOfHarvest 2 (some .int) :: ([.fieldLink RX1 42 "SaltRow$Pond" "crustSalt" "I", .fieldLink RX1 9 "SaltRow$Pond" "area" "I", .methodLink RX1 30 Lib.Math.min.name, .static Lib.Math.min.name, .initialized "java/lang/Math", .code Lib.Math.min.name Lib.Math.min.code 2 (some .int)] ++ wsX10)
def wsX1_dirtOfCrustWith : List Cond := .code yX1_dirtOfCrustWith cX1_dirtOfCrustWith 2 (some .int) :: ([.fieldLink RX1 45 "SaltRow$Pond" "crustDirt" "I", .fieldLink RX1 42 "SaltRow$Pond" "crustSalt" "I", .static yX3_portion, .initialized RX3, .code yX3_portion cX3_portion 6 (some .int)] ++ wsX10)
def wsX1_dirtOfFloor : List Cond := .code yX1_dirtOfFloor cX1_dirtOfFloor 2 (some .int) :: ([.fieldLink RX1 9 "SaltRow$Pond" "area" "I"] ++ wsX10)
def wsX2_init : List Cond := .code yX2_init cX2_init 2 none :: ([.methodLink RX2 3 objectInit, .instanceMethod objectInit, .code objectInit ⟨#[0xb1]⟩ 1 none, .classLink RX2 9 RX1, .fieldLink RX2 11 "SaltRow$Row" "ponds" "[LSaltRow$Pond;", .instantiable RX1 12, .initialized RX1, .instanceMethod yX1_init, .code yX1_init cX1_init 1 none, .methodLink RX1 3 objectInit, .fieldLink RX1 9 "SaltRow$Pond" "area" "I"] ++ wsX20 ++ wsX10)
def wsX2_copyFrom : List Cond := .code yX2_copyFrom cX2_copyFrom 3 none :: ([.fieldLink RX2 18 "SaltRow$Row" "day" "I", .fieldLink RX2 22 "SaltRow$Row" "sun" "I", .fieldLink RX2 25 "SaltRow$Row" "wind" "I", .fieldLink RX2 28 "SaltRow$Row" "seaSalt" "I", .fieldLink RX2 11 "SaltRow$Row" "ponds" "[LSaltRow$Pond;", .methodLink RX2 31 yX1_copyFrom, .instanceMethod yX1_copyFrom, .selects RX1 yX1_copyFrom yX1_copyFrom, .initialized RX1, .code yX1_copyFrom cX1_copyFrom 2 none, .fieldLink RX1 9 "SaltRow$Pond" "area" "I", .fieldLink RX1 15 "SaltRow$Pond" "brine" "I", .fieldLink RX1 22 "SaltRow$Pond" "salt" "I", .fieldLink RX1 36 "SaltRow$Pond" "gypsum" "I", .fieldLink RX1 25 "SaltRow$Pond" "bitter" "I", .fieldLink RX1 39 "SaltRow$Pond" "fresh" "I", .fieldLink RX1 42 "SaltRow$Pond" "crustSalt" "I", .fieldLink RX1 45 "SaltRow$Pond" "crustDirt" "I", .fieldLink RX1 59 "SaltRow$Pond" "saltFallen" "I", .fieldLink RX1 62 "SaltRow$Pond" "isOpen" "Z", .fieldLink RX1 65 "SaltRow$Pond" "isCovered" "Z", .fieldLink RX1 55 "SaltRow$Pond" "wasHarvested" "Z"] ++ wsX20 ++ wsX10)
def wsX3_tideAt : List Cond := .code yX3_tideAt cX3_tideAt 1 (some .int) :: ([.methodLink RX3 324 Lib.Math.abs.name, .static Lib.Math.abs.name, .initialized "java/lang/Math", .code Lib.Math.abs.name Lib.Math.abs.code 1 (some .int)])
def wsX2_letSeaIn_r1 : List Cond := [Cond.fieldLink RX2 11 "SaltRow$Row" "ponds" "[LSaltRow$Pond;", Cond.fieldLink RX2 18 "SaltRow$Row" "day" "I", Cond.fieldLink RX2 66 "SaltRow$Pond" "isOpen" "Z", Cond.fieldLink RX2 69 "SaltRow$Pond" "area" "I", Cond.fieldLink RX2 28 "SaltRow$Row" "seaSalt" "I", Cond.static yX3_tideAt, Cond.initialized RX3, Cond.code yX3_tideAt cX3_tideAt 1 (some .int), Cond.methodLink RX3 324 Lib.Math.abs.name, Cond.static Lib.Math.abs.name, Cond.initialized "java/lang/Math", Cond.code Lib.Math.abs.name Lib.Math.abs.code 1 (some .int), Cond.methodLink RX2 62 yX1_level, Cond.instanceMethod yX1_level, Cond.selects RX1 yX1_level yX1_level, Cond.initialized RX1, Cond.code yX1_level cX1_level 1 (some .int), Cond.fieldLink RX1 15 "SaltRow$Pond" "brine" "I", Cond.fieldLink RX1 9 "SaltRow$Pond" "area" "I", Cond.static yX3_portion, Cond.code yX3_portion cX3_portion 6 (some .int), Cond.methodLink RX2 72 yX1_takeIn, Cond.instanceMethod yX1_takeIn, Cond.selects RX1 yX1_takeIn yX1_takeIn]
def wsX2_letSeaIn_r2 : List Cond := [Cond.code yX1_takeIn cX1_takeIn 5 none, Cond.fieldLink RX1 22 "SaltRow$Pond" "salt" "I", Cond.fieldLink RX1 36 "SaltRow$Pond" "gypsum" "I", Cond.fieldLink RX1 25 "SaltRow$Pond" "bitter" "I"]
def wsX2_letSeaIn : List Cond := .code yX2_letSeaIn cX2_letSeaIn 4 none :: ((wsX2_letSeaIn_r1 ++ wsX2_letSeaIn_r2) ++ wsX20 ++ wsX10)
def wsX2_letBrineFlowOn_r1 : List Cond := [Cond.fieldLink RX2 11 "SaltRow$Row" "ponds" "[LSaltRow$Pond;", Cond.fieldLink RX2 66 "SaltRow$Pond" "isOpen" "Z", Cond.fieldLink RX2 69 "SaltRow$Pond" "area" "I", Cond.methodLink RX2 76 Lib.Math.min.name, Cond.static Lib.Math.min.name, Cond.initialized "java/lang/Math", Cond.code Lib.Math.min.name Lib.Math.min.code 2 (some .int), Cond.constantLong RX2 82 (2), Cond.methodLink RX2 62 yX1_level, Cond.instanceMethod yX1_level, Cond.selects RX1 yX1_level yX1_level, Cond.initialized RX1, Cond.code yX1_level cX1_level 1 (some .int), Cond.fieldLink RX1 15 "SaltRow$Pond" "brine" "I", Cond.fieldLink RX1 9 "SaltRow$Pond" "area" "I", Cond.static yX3_portion, Cond.initialized RX3, Cond.code yX3_portion cX3_portion 6 (some .int), Cond.methodLink RX2 88 yX1_giveBrine, Cond.instanceMethod yX1_giveBrine, Cond.selects RX1 yX1_giveBrine yX1_giveBrine, Cond.code yX1_giveBrine cX1_giveBrine 6 none, Cond.fieldLink RX1 22 "SaltRow$Pond" "salt" "I", Cond.fieldLink RX1 36 "SaltRow$Pond" "gypsum" "I"]
def wsX2_letBrineFlowOn_r2 : List Cond := [Cond.fieldLink RX1 25 "SaltRow$Pond" "bitter" "I", Cond.methodLink RX1 68 yX1_takeIn, Cond.instanceMethod yX1_takeIn, Cond.selects RX1 yX1_takeIn yX1_takeIn, Cond.code yX1_takeIn cX1_takeIn 5 none]
def wsX2_letBrineFlowOn : List Cond := .code yX2_letBrineFlowOn cX2_letBrineFlowOn 5 none :: ((wsX2_letBrineFlowOn_r1 ++ wsX2_letBrineFlowOn_r2) ++ wsX20 ++ wsX10)
def wsX2_letDayGoBy_r1 : List Cond := [Cond.fieldLink RX2 18 "SaltRow$Row" "day" "I", Cond.fieldLink RX2 22 "SaltRow$Row" "sun" "I", Cond.fieldLink RX2 25 "SaltRow$Row" "wind" "I", Cond.fieldLink RX2 11 "SaltRow$Row" "ponds" "[LSaltRow$Pond;", Cond.fieldLink RX2 41 "SaltRow$Pond" "wasHarvested" "Z", Cond.methodLink RX2 35 yX2_letSeaIn, Cond.instanceMethod yX2_letSeaIn, Cond.selects RX2 yX2_letSeaIn yX2_letSeaIn, Cond.initialized RX2, Cond.code yX2_letSeaIn cX2_letSeaIn 4 none, Cond.fieldLink RX2 66 "SaltRow$Pond" "isOpen" "Z", Cond.fieldLink RX2 69 "SaltRow$Pond" "area" "I", Cond.fieldLink RX2 28 "SaltRow$Row" "seaSalt" "I", Cond.static yX3_tideAt, Cond.initialized RX3, Cond.code yX3_tideAt cX3_tideAt 1 (some .int), Cond.methodLink RX3 324 Lib.Math.abs.name, Cond.static Lib.Math.abs.name, Cond.initialized "java/lang/Math", Cond.code Lib.Math.abs.name Lib.Math.abs.code 1 (some .int), Cond.methodLink RX2 62 yX1_level, Cond.instanceMethod yX1_level, Cond.selects RX1 yX1_level yX1_level, Cond.initialized RX1]
def wsX2_letDayGoBy_r2 : List Cond := [Cond.code yX1_level cX1_level 1 (some .int), Cond.fieldLink RX1 15 "SaltRow$Pond" "brine" "I", Cond.fieldLink RX1 9 "SaltRow$Pond" "area" "I", Cond.static yX3_portion, Cond.code yX3_portion cX3_portion 6 (some .int), Cond.methodLink RX2 72 yX1_takeIn, Cond.instanceMethod yX1_takeIn, Cond.selects RX1 yX1_takeIn yX1_takeIn, Cond.code yX1_takeIn cX1_takeIn 5 none, Cond.fieldLink RX1 22 "SaltRow$Pond" "salt" "I", Cond.fieldLink RX1 36 "SaltRow$Pond" "gypsum" "I", Cond.fieldLink RX1 25 "SaltRow$Pond" "bitter" "I", Cond.methodLink RX2 38 yX2_letBrineFlowOn, Cond.instanceMethod yX2_letBrineFlowOn, Cond.selects RX2 yX2_letBrineFlowOn yX2_letBrineFlowOn, Cond.code yX2_letBrineFlowOn cX2_letBrineFlowOn 5 none, Cond.methodLink RX2 76 Lib.Math.min.name, Cond.static Lib.Math.min.name, Cond.code Lib.Math.min.name Lib.Math.min.code 2 (some .int), Cond.constantLong RX2 82 (2), Cond.methodLink RX2 88 yX1_giveBrine, Cond.instanceMethod yX1_giveBrine, Cond.selects RX1 yX1_giveBrine yX1_giveBrine, Cond.code yX1_giveBrine cX1_giveBrine 6 none]
def wsX2_letDayGoBy_r3 : List Cond := [Cond.methodLink RX1 68 yX1_takeIn, Cond.methodLink RX2 45 yX1_rainFalls, Cond.instanceMethod yX1_rainFalls, Cond.selects RX1 yX1_rainFalls yX1_rainFalls, Cond.code yX1_rainFalls cX1_rainFalls 2 none, Cond.fieldLink RX1 65 "SaltRow$Pond" "isCovered" "Z", Cond.fieldLink RX1 39 "SaltRow$Pond" "fresh" "I", Cond.methodLink RX2 49 yX1_dryOut, Cond.instanceMethod yX1_dryOut, Cond.selects RX1 yX1_dryOut yX1_dryOut, Cond.code yX1_dryOut cX1_dryOut 4 none, Cond.methodLink RX1 30 Lib.Math.min.name, Cond.methodLink RX1 52 yX1_strength, Cond.instanceMethod yX1_strength, Cond.selects RX1 yX1_strength yX1_strength, Cond.code yX1_strength cX1_strength 1 (some .int), Cond.constantLong RX1 28 (5), Cond.static yX3_roundedUp, Cond.code yX3_roundedUp cX3_roundedUp 2 (some .int), Cond.methodLink RX2 52 yX1_mixFresh, Cond.instanceMethod yX1_mixFresh, Cond.selects RX1 yX1_mixFresh yX1_mixFresh, Cond.code yX1_mixFresh cX1_mixFresh 3 none, Cond.fieldLink RX1 42 "SaltRow$Pond" "crustSalt" "I"]
def wsX2_letDayGoBy_r4 : List Cond := [Cond.methodLink RX2 55 yX1_dropMinerals, Cond.instanceMethod yX1_dropMinerals, Cond.selects RX1 yX1_dropMinerals yX1_dropMinerals, Cond.code yX1_dropMinerals cX1_dropMinerals 3 none, Cond.fieldLink RX1 59 "SaltRow$Pond" "saltFallen" "I", Cond.fieldLink RX1 45 "SaltRow$Pond" "crustDirt" "I", Cond.methodLink RX1 75 yX1_above, Cond.instanceMethod yX1_above, Cond.selects RX1 yX1_above yX1_above, Cond.code yX1_above cX1_above 3 (some .int), Cond.methodLink RX1 78 Lib.MathLoose.max_long.x, Cond.static Lib.MathLoose.max_long.x, Cond.code Lib.MathLoose.max_long.x Lib.MathLoose.max_long.code 4 (some .long)]
def wsX2_letDayGoBy : List Cond := .code yX2_letDayGoBy cX2_letDayGoBy 6 none :: ((wsX2_letDayGoBy_r1 ++ (wsX2_letDayGoBy_r2 ++ (wsX2_letDayGoBy_r3 ++ wsX2_letDayGoBy_r4))) ++ wsX20 ++ wsX10)
def wsX2_setGates : List Cond := .code yX2_setGates cX2_setGates 3 none :: ([.fieldLink RX2 11 "SaltRow$Row" "ponds" "[LSaltRow$Pond;", .fieldLink RX2 66 "SaltRow$Pond" "isOpen" "Z"] ++ wsX20 ++ wsX10)
def wsX2_openGates : List Cond := .code yX2_openGates cX2_openGates 3 (some .int) :: ([.fieldLink RX2 11 "SaltRow$Row" "ponds" "[LSaltRow$Pond;", .fieldLink RX2 66 "SaltRow$Pond" "isOpen" "Z"] ++ wsX20 ++ wsX10)
def wsX2_coveredPans : List Cond := .code yX2_coveredPans cX2_coveredPans 3 (some .int) :: ([.fieldLink RX2 11 "SaltRow$Row" "ponds" "[LSaltRow$Pond;", .fieldLink RX2 92 "SaltRow$Pond" "isCovered" "Z"] ++ wsX20 ++ wsX10)
def wsX2_saltFallenInPans : List Cond := .code yX2_saltFallenInPans cX2_saltFallenInPans 3 (some .int) :: ([.fieldLink RX2 11 "SaltRow$Row" "ponds" "[LSaltRow$Pond;", .fieldLink RX2 95 "SaltRow$Pond" "saltFallen" "I"] ++ wsX20 ++ wsX10)
def wsX2_saltInPans : List Cond := .code yX2_saltInPans cX2_saltInPans 3 (some .int) :: ([.fieldLink RX2 11 "SaltRow$Row" "ponds" "[LSaltRow$Pond;", .fieldLink RX2 98 "SaltRow$Pond" "salt" "I", .fieldLink RX2 101 "SaltRow$Pond" "crustSalt" "I"] ++ wsX20 ++ wsX10)
def wsX2_sumOfPonds_r1 : List Cond := [Cond.fieldLink RX2 11 "SaltRow$Row" "ponds" "[LSaltRow$Pond;", Cond.methodLink RX2 104 yX1_read, Cond.instanceMethod yX1_read, Cond.selects RX1 yX1_read yX1_read, Cond.initialized RX1, Cond.code yX1_read cX1_read 2 (some .int), Cond.fieldLink RX1 9 "SaltRow$Pond" "area" "I", Cond.fieldLink RX1 15 "SaltRow$Pond" "brine" "I", Cond.fieldLink RX1 22 "SaltRow$Pond" "salt" "I", Cond.fieldLink RX1 36 "SaltRow$Pond" "gypsum" "I", Cond.fieldLink RX1 25 "SaltRow$Pond" "bitter" "I", Cond.fieldLink RX1 39 "SaltRow$Pond" "fresh" "I", Cond.fieldLink RX1 42 "SaltRow$Pond" "crustSalt" "I", Cond.fieldLink RX1 45 "SaltRow$Pond" "crustDirt" "I", Cond.fieldLink RX1 55 "SaltRow$Pond" "wasHarvested" "Z", Cond.methodLink RX1 48 yX1_level, Cond.instanceMethod yX1_level, Cond.selects RX1 yX1_level yX1_level, Cond.code yX1_level cX1_level 1 (some .int), Cond.static yX3_portion, Cond.initialized RX3, Cond.code yX3_portion cX3_portion 6 (some .int), Cond.methodLink RX1 52 yX1_strength, Cond.instanceMethod yX1_strength]
def wsX2_sumOfPonds_r2 : List Cond := [Cond.selects RX1 yX1_strength yX1_strength, Cond.code yX1_strength cX1_strength 1 (some .int), Cond.constantLong RX1 28 (5), Cond.methodLink RX1 30 Lib.Math.min.name, Cond.static Lib.Math.min.name, Cond.initialized "java/lang/Math", Cond.code Lib.Math.min.name Lib.Math.min.code 2 (some .int)]
def wsX2_sumOfPonds : List Cond := .code yX2_sumOfPonds cX2_sumOfPonds 4 (some .int) :: ((wsX2_sumOfPonds_r1 ++ wsX2_sumOfPonds_r2) ++ wsX20 ++ wsX10)
def wsX3_init_r1 : List Cond := [Cond.methodLink RX3 1 objectInit, Cond.instanceMethod objectInit, Cond.code objectInit ⟨#[0xb1]⟩ 1 none, Cond.classLink RX3 7 RX2, Cond.instantiable RX2 5, Cond.initialized RX2, Cond.fieldLink RX3 10 "SaltRow" "row" "LSaltRow$Row;", Cond.fieldLink RX3 16 "SaltRow" "trial" "LSaltRow$Row;", Cond.classLink RX3 19 RX0, Cond.fieldLink RX3 21 "SaltRow" "families" "[LSaltRow$Family;", Cond.instantiable RX0 6, Cond.initialized RX0, Cond.methodLink RX3 9 yX2_init, Cond.instanceMethod yX2_init, Cond.code yX2_init cX2_init 2 none, Cond.methodLink RX2 3 objectInit, Cond.classLink RX2 9 RX1, Cond.fieldLink RX2 11 "SaltRow$Row" "ponds" "[LSaltRow$Pond;", Cond.instantiable RX1 12, Cond.initialized RX1, Cond.instanceMethod yX1_init, Cond.code yX1_init cX1_init 1 none, Cond.methodLink RX1 3 objectInit, Cond.fieldLink RX1 9 "SaltRow$Pond" "area" "I"]
def wsX3_init_r2 : List Cond := [Cond.instanceMethod yX0_init, Cond.code yX0_init cX0_init 1 none, Cond.methodLink RX0 3 objectInit, Cond.arrayClass .int, Cond.fieldLink RX0 9 "SaltRow$Family" "rights" "[I"]
def wsX3_init : List Cond := .code yX3_init cX3_init 2 none :: ((wsX3_init_r1 ++ wsX3_init_r2) ++ wsX20 ++ wsX30 ++ wsX00 ++ wsX10)
def wsX3_needPond : List Cond := .code yX3_needPond cX3_needPond 2 none :: ([.classLink RX3 311 "java/lang/IndexOutOfBoundsException", .initialized "java/lang/IndexOutOfBoundsException"] ++ (vx_atS RX3 315 "java/lang/IndexOutOfBoundsException" ["java/lang/RuntimeException", "java/lang/Exception"]).filter goodWord)
def wsX3_area : List Cond := .code yX3_area cX3_area 4 (some .int) :: ([.classLink RX3 30 "java/lang/IllegalArgumentException", .initialized "java/lang/IllegalArgumentException", .classLink RX3 41 "java/lang/IllegalStateException", .initialized "java/lang/IllegalStateException", .fieldLink RX3 10 "SaltRow" "row" "LSaltRow$Row;", .fieldLink RX3 37 "SaltRow$Row" "day" "I", .fieldLink RX3 46 "SaltRow$Row" "ponds" "[LSaltRow$Pond;", .fieldLink RX3 50 "SaltRow$Pond" "area" "I", .methodLink RX3 26 yX3_needPond, .instanceMethod yX3_needPond, .selects RX3 yX3_needPond yX3_needPond, .initialized RX3, .code yX3_needPond cX3_needPond 2 none, .classLink RX3 311 "java/lang/IndexOutOfBoundsException", .initialized "java/lang/IndexOutOfBoundsException"] ++ wsX30 ++ wsX20 ++ wsX10 ++ (vx_atS RX3 34 "java/lang/IllegalArgumentException" ["java/lang/RuntimeException", "java/lang/Exception"]).filter goodWord ++ (vx_atS RX3 45 "java/lang/IllegalStateException" ["java/lang/RuntimeException", "java/lang/Exception"]).filter goodWord ++ (vx_atS RX3 315 "java/lang/IndexOutOfBoundsException" ["java/lang/RuntimeException", "java/lang/Exception"]).filter goodWord)
def wsX3_gate : List Cond := .code yX3_gate cX3_gate 4 (some .boolean) :: ([.fieldLink RX3 10 "SaltRow" "row" "LSaltRow$Row;", .fieldLink RX3 46 "SaltRow$Row" "ponds" "[LSaltRow$Pond;", .fieldLink RX3 55 "SaltRow$Pond" "isOpen" "Z", .methodLink RX3 26 yX3_needPond, .instanceMethod yX3_needPond, .selects RX3 yX3_needPond yX3_needPond, .initialized RX3, .code yX3_needPond cX3_needPond 2 none, .classLink RX3 311 "java/lang/IndexOutOfBoundsException", .initialized "java/lang/IndexOutOfBoundsException"] ++ wsX30 ++ wsX20 ++ wsX10 ++ (vx_atS RX3 315 "java/lang/IndexOutOfBoundsException" ["java/lang/RuntimeException", "java/lang/Exception"]).filter goodWord)
def wsX3_needWeather : List Cond := .code yX3_needWeather cX3_needWeather 3 none :: ([.classLink RX3 30 "java/lang/IllegalArgumentException", .initialized "java/lang/IllegalArgumentException"] ++ (vx_atS RX3 34 "java/lang/IllegalArgumentException" ["java/lang/RuntimeException", "java/lang/Exception"]).filter goodWord)
def wsX3_pass_r1 : List Cond := [Cond.classLink RX3 30 "java/lang/IllegalArgumentException", Cond.initialized "java/lang/IllegalArgumentException", Cond.classLink RX3 41 "java/lang/IllegalStateException", Cond.initialized "java/lang/IllegalStateException", Cond.fieldLink RX3 10 "SaltRow" "row" "LSaltRow$Row;", Cond.fieldLink RX3 37 "SaltRow$Row" "day" "I", Cond.methodLink RX3 67 yX3_needWeather, Cond.instanceMethod yX3_needWeather, Cond.selects RX3 yX3_needWeather yX3_needWeather, Cond.initialized RX3, Cond.code yX3_needWeather cX3_needWeather 3 none, Cond.methodLink RX3 75 yX2_letDayGoBy, Cond.instanceMethod yX2_letDayGoBy, Cond.selects RX2 yX2_letDayGoBy yX2_letDayGoBy, Cond.initialized RX2, Cond.code yX2_letDayGoBy cX2_letDayGoBy 6 none, Cond.fieldLink RX2 18 "SaltRow$Row" "day" "I", Cond.fieldLink RX2 22 "SaltRow$Row" "sun" "I", Cond.fieldLink RX2 25 "SaltRow$Row" "wind" "I", Cond.fieldLink RX2 11 "SaltRow$Row" "ponds" "[LSaltRow$Pond;", Cond.fieldLink RX2 41 "SaltRow$Pond" "wasHarvested" "Z", Cond.methodLink RX2 35 yX2_letSeaIn, Cond.instanceMethod yX2_letSeaIn, Cond.selects RX2 yX2_letSeaIn yX2_letSeaIn]
def wsX3_pass_r2 : List Cond := [Cond.code yX2_letSeaIn cX2_letSeaIn 4 none, Cond.fieldLink RX2 66 "SaltRow$Pond" "isOpen" "Z", Cond.fieldLink RX2 69 "SaltRow$Pond" "area" "I", Cond.fieldLink RX2 28 "SaltRow$Row" "seaSalt" "I", Cond.static yX3_tideAt, Cond.code yX3_tideAt cX3_tideAt 1 (some .int), Cond.methodLink RX3 324 Lib.Math.abs.name, Cond.static Lib.Math.abs.name, Cond.initialized "java/lang/Math", Cond.code Lib.Math.abs.name Lib.Math.abs.code 1 (some .int), Cond.methodLink RX2 62 yX1_level, Cond.instanceMethod yX1_level, Cond.selects RX1 yX1_level yX1_level, Cond.initialized RX1, Cond.code yX1_level cX1_level 1 (some .int), Cond.fieldLink RX1 15 "SaltRow$Pond" "brine" "I", Cond.fieldLink RX1 9 "SaltRow$Pond" "area" "I", Cond.static yX3_portion, Cond.code yX3_portion cX3_portion 6 (some .int), Cond.methodLink RX2 72 yX1_takeIn, Cond.instanceMethod yX1_takeIn, Cond.selects RX1 yX1_takeIn yX1_takeIn, Cond.code yX1_takeIn cX1_takeIn 5 none, Cond.fieldLink RX1 22 "SaltRow$Pond" "salt" "I"]
def wsX3_pass_r3 : List Cond := [Cond.fieldLink RX1 36 "SaltRow$Pond" "gypsum" "I", Cond.fieldLink RX1 25 "SaltRow$Pond" "bitter" "I", Cond.methodLink RX2 38 yX2_letBrineFlowOn, Cond.instanceMethod yX2_letBrineFlowOn, Cond.selects RX2 yX2_letBrineFlowOn yX2_letBrineFlowOn, Cond.code yX2_letBrineFlowOn cX2_letBrineFlowOn 5 none, Cond.methodLink RX2 76 Lib.Math.min.name, Cond.static Lib.Math.min.name, Cond.code Lib.Math.min.name Lib.Math.min.code 2 (some .int), Cond.constantLong RX2 82 (2), Cond.methodLink RX2 88 yX1_giveBrine, Cond.instanceMethod yX1_giveBrine, Cond.selects RX1 yX1_giveBrine yX1_giveBrine, Cond.code yX1_giveBrine cX1_giveBrine 6 none, Cond.methodLink RX1 68 yX1_takeIn, Cond.methodLink RX2 45 yX1_rainFalls, Cond.instanceMethod yX1_rainFalls, Cond.selects RX1 yX1_rainFalls yX1_rainFalls, Cond.code yX1_rainFalls cX1_rainFalls 2 none, Cond.fieldLink RX1 65 "SaltRow$Pond" "isCovered" "Z", Cond.fieldLink RX1 39 "SaltRow$Pond" "fresh" "I", Cond.methodLink RX2 49 yX1_dryOut, Cond.instanceMethod yX1_dryOut, Cond.selects RX1 yX1_dryOut yX1_dryOut]
def wsX3_pass_r4 : List Cond := [Cond.code yX1_dryOut cX1_dryOut 4 none, Cond.methodLink RX1 30 Lib.Math.min.name, Cond.methodLink RX1 52 yX1_strength, Cond.instanceMethod yX1_strength, Cond.selects RX1 yX1_strength yX1_strength, Cond.code yX1_strength cX1_strength 1 (some .int), Cond.constantLong RX1 28 (5), Cond.static yX3_roundedUp, Cond.code yX3_roundedUp cX3_roundedUp 2 (some .int), Cond.methodLink RX2 52 yX1_mixFresh, Cond.instanceMethod yX1_mixFresh, Cond.selects RX1 yX1_mixFresh yX1_mixFresh, Cond.code yX1_mixFresh cX1_mixFresh 3 none, Cond.fieldLink RX1 42 "SaltRow$Pond" "crustSalt" "I", Cond.methodLink RX2 55 yX1_dropMinerals, Cond.instanceMethod yX1_dropMinerals, Cond.selects RX1 yX1_dropMinerals yX1_dropMinerals, Cond.code yX1_dropMinerals cX1_dropMinerals 3 none, Cond.fieldLink RX1 59 "SaltRow$Pond" "saltFallen" "I", Cond.fieldLink RX1 45 "SaltRow$Pond" "crustDirt" "I", Cond.methodLink RX1 75 yX1_above, Cond.instanceMethod yX1_above, Cond.selects RX1 yX1_above yX1_above, Cond.code yX1_above cX1_above 3 (some .int)]
def wsX3_pass_r5 : List Cond := [Cond.methodLink RX1 78 Lib.MathLoose.max_long.x, Cond.static Lib.MathLoose.max_long.x, Cond.code Lib.MathLoose.max_long.x Lib.MathLoose.max_long.code 4 (some .long), Cond.methodLink RX3 79 yX2_saltFallenInPans, Cond.instanceMethod yX2_saltFallenInPans, Cond.selects RX2 yX2_saltFallenInPans yX2_saltFallenInPans, Cond.code yX2_saltFallenInPans cX2_saltFallenInPans 3 (some .int), Cond.fieldLink RX2 95 "SaltRow$Pond" "saltFallen" "I"]
def wsX3_pass : List Cond := .code yX3_pass cX3_pass 7 (some .int) :: ((wsX3_pass_r1 ++ (wsX3_pass_r2 ++ (wsX3_pass_r3 ++ (wsX3_pass_r4 ++ wsX3_pass_r5)))) ++ wsX30 ++ wsX20 ++ wsX10 ++ (vx_atS RX3 34 "java/lang/IllegalArgumentException" ["java/lang/RuntimeException", "java/lang/Exception"]).filter goodWord ++ (vx_atS RX3 45 "java/lang/IllegalStateException" ["java/lang/RuntimeException", "java/lang/Exception"]).filter goodWord)
def wsX3_skim : List Cond := .code yX3_skim cX3_skim 3 (some .int) :: ([.fieldLink RX3 10 "SaltRow" "row" "LSaltRow$Row;", .fieldLink RX3 46 "SaltRow$Row" "ponds" "[LSaltRow$Pond;", .fieldLink RX3 83 "SaltRow$Pond" "fresh" "I", .fieldLink RX3 86 "SaltRow" "skimmed" "I", .methodLink RX3 26 yX3_needPond, .instanceMethod yX3_needPond, .selects RX3 yX3_needPond yX3_needPond, .initialized RX3, .code yX3_needPond cX3_needPond 2 none, .classLink RX3 311 "java/lang/IndexOutOfBoundsException", .initialized "java/lang/IndexOutOfBoundsException"] ++ wsX30 ++ wsX20 ++ wsX10 ++ (vx_atS RX3 315 "java/lang/IndexOutOfBoundsException" ["java/lang/RuntimeException", "java/lang/Exception"]).filter goodWord)
def wsX3_family : List Cond := .code yX3_family cX3_family 1 (some .int) :: ([.classLink RX3 41 "java/lang/IllegalStateException", .initialized "java/lang/IllegalStateException", .fieldLink RX3 129 "SaltRow" "familyCount" "I"] ++ wsX30 ++ (vx_atS RX3 45 "java/lang/IllegalStateException" ["java/lang/RuntimeException", "java/lang/Exception"]).filter goodWord)
def wsX3_needFamily : List Cond := .code yX3_needFamily cX3_needFamily 2 none :: ([.classLink RX3 311 "java/lang/IndexOutOfBoundsException", .initialized "java/lang/IndexOutOfBoundsException", .fieldLink RX3 129 "SaltRow" "familyCount" "I"] ++ wsX30 ++ (vx_atS RX3 315 "java/lang/IndexOutOfBoundsException" ["java/lang/RuntimeException", "java/lang/Exception"]).filter goodWord)
def wsX3_needPan : List Cond := .code yX3_needPan cX3_needPan 2 none :: ([.classLink RX3 311 "java/lang/IndexOutOfBoundsException", .initialized "java/lang/IndexOutOfBoundsException"] ++ (vx_atS RX3 315 "java/lang/IndexOutOfBoundsException" ["java/lang/RuntimeException", "java/lang/Exception"]).filter goodWord)
def wsX3_rightsIn : List Cond := .code yX3_rightsIn cX3_rightsIn 4 (some .int) :: ([.fieldLink RX3 129 "SaltRow" "familyCount" "I", .fieldLink RX3 21 "SaltRow" "families" "[LSaltRow$Family;", .fieldLink RX3 139 "SaltRow$Family" "rights" "[I"] ++ wsX30 ++ wsX00)
def wsX3_right : List Cond := .code yX3_right cX3_right 5 (some .int) :: ([.classLink RX3 30 "java/lang/IllegalArgumentException", .initialized "java/lang/IllegalArgumentException", .classLink RX3 41 "java/lang/IllegalStateException", .initialized "java/lang/IllegalStateException", .fieldLink RX3 21 "SaltRow" "families" "[LSaltRow$Family;", .fieldLink RX3 139 "SaltRow$Family" "rights" "[I", .methodLink RX3 134 yX3_needFamily, .instanceMethod yX3_needFamily, .selects RX3 yX3_needFamily yX3_needFamily, .initialized RX3, .code yX3_needFamily cX3_needFamily 2 none, .classLink RX3 311 "java/lang/IndexOutOfBoundsException", .initialized "java/lang/IndexOutOfBoundsException", .fieldLink RX3 129 "SaltRow" "familyCount" "I", .methodLink RX3 59 yX3_needPan, .instanceMethod yX3_needPan, .selects RX3 yX3_needPan yX3_needPan, .code yX3_needPan cX3_needPan 2 none, .methodLink RX3 143 yX3_rightsIn, .instanceMethod yX3_rightsIn, .selects RX3 yX3_rightsIn yX3_rightsIn, .code yX3_rightsIn cX3_rightsIn 4 (some .int)] ++ wsX30 ++ wsX00 ++ (vx_atS RX3 34 "java/lang/IllegalArgumentException" ["java/lang/RuntimeException", "java/lang/Exception"]).filter goodWord ++ (vx_atS RX3 45 "java/lang/IllegalStateException" ["java/lang/RuntimeException", "java/lang/Exception"]).filter goodWord ++ (vx_atS RX3 315 "java/lang/IndexOutOfBoundsException" ["java/lang/RuntimeException", "java/lang/Exception"]).filter goodWord)
def wsX3_crownsPart : List Cond := .code yX3_crownsPart cX3_crownsPart 1 (some .int) :: ([])
def wsX3_shareOut : List Cond := .code yX3_shareOut cX3_shareOut 10 none :: ([.fieldLink RX3 129 "SaltRow" "familyCount" "I", .fieldLink RX3 21 "SaltRow" "families" "[LSaltRow$Family;", .fieldLink RX3 139 "SaltRow$Family" "rights" "[I", .constantLong RX3 267 (12), .fieldLink RX3 246 "SaltRow" "cloisterSalt" "I", .fieldLink RX3 249 "SaltRow" "cloisterDirt" "I", .methodLink RX3 214 yX3_portion, .static yX3_portion, .initialized RX3, .code yX3_portion cX3_portion 6 (some .int), .methodLink RX3 308 yX0_getSalt, .instanceMethod yX0_getSalt, .selects RX0 yX0_getSalt yX0_getSalt, .initialized RX0, .code yX0_getSalt cX0_getSalt 3 none, .fieldLink RX0 15 "SaltRow$Family" "salt" "I", .fieldLink RX0 19 "SaltRow$Family" "dirt" "I", .fieldLink RX0 29 "SaltRow$Family" "saltGot" "I"] ++ wsX30 ++ wsX00)
def wsX3_harvest_r1 : List Cond := [Cond.classLink RX3 41 "java/lang/IllegalStateException", Cond.initialized "java/lang/IllegalStateException", Cond.fieldLink RX3 10 "SaltRow" "row" "LSaltRow$Row;", Cond.fieldLink RX3 46 "SaltRow$Row" "ponds" "[LSaltRow$Pond;", Cond.fieldLink RX3 164 "SaltRow$Pond" "crustSalt" "I", Cond.fieldLink RX3 167 "SaltRow$Pond" "crustDirt" "I", Cond.fieldLink RX3 170 "SaltRow$Pond" "wasHarvested" "Z", Cond.fieldLink RX3 173 "SaltRow" "crownSalt" "I", Cond.methodLink RX3 59 yX3_needPan, Cond.instanceMethod yX3_needPan, Cond.selects RX3 yX3_needPan yX3_needPan, Cond.initialized RX3, Cond.code yX3_needPan cX3_needPan 2 none, Cond.classLink RX3 311 "java/lang/IndexOutOfBoundsException", Cond.initialized "java/lang/IndexOutOfBoundsException", Cond.methodLink RX3 148 yX1_canBeHarvested, Cond.instanceMethod yX1_canBeHarvested, Cond.selects RX1 yX1_canBeHarvested yX1_canBeHarvested, Cond.initialized RX1, Cond.code yX1_canBeHarvested cX1_canBeHarvested 1 (some .boolean), Cond.fieldLink RX1 42 "SaltRow$Pond" "crustSalt" "I", Cond.fieldLink RX1 55 "SaltRow$Pond" "wasHarvested" "Z", Cond.methodLink RX3 154 yX1_saltOfHarvest, Cond.instanceMethod yX1_saltOfHarvest]
def wsX3_harvest_r2 : List Cond := [Cond.selects RX1 yX1_saltOfHarvest yX1_saltOfHarvest, Cond.code yX1_saltOfHarvest cX1_saltOfHarvest 2 (some .int), Cond.fieldLink RX1 9 "SaltRow$Pond" "area" "I", Cond.methodLink RX1 30 Lib.Math.min.name, Cond.static Lib.Math.min.name, Cond.initialized "java/lang/Math", Cond.code Lib.Math.min.name Lib.Math.min.code 2 (some .int), Cond.methodLink RX3 158 yX1_dirtOfCrustWith, Cond.instanceMethod yX1_dirtOfCrustWith, Cond.selects RX1 yX1_dirtOfCrustWith yX1_dirtOfCrustWith, Cond.code yX1_dirtOfCrustWith cX1_dirtOfCrustWith 2 (some .int), Cond.fieldLink RX1 45 "SaltRow$Pond" "crustDirt" "I", Cond.static yX3_portion, Cond.code yX3_portion cX3_portion 6 (some .int), Cond.methodLink RX3 161 yX1_dirtOfFloor, Cond.instanceMethod yX1_dirtOfFloor, Cond.selects RX1 yX1_dirtOfFloor yX1_dirtOfFloor, Cond.code yX1_dirtOfFloor cX1_dirtOfFloor 2 (some .int), Cond.methodLink RX3 176 yX3_crownsPart, Cond.static yX3_crownsPart, Cond.code yX3_crownsPart cX3_crownsPart 1 (some .int), Cond.methodLink RX3 179 yX3_shareOut, Cond.instanceMethod yX3_shareOut, Cond.selects RX3 yX3_shareOut yX3_shareOut]
def wsX3_harvest_r3 : List Cond := [Cond.code yX3_shareOut cX3_shareOut 10 none, Cond.fieldLink RX3 129 "SaltRow" "familyCount" "I", Cond.fieldLink RX3 21 "SaltRow" "families" "[LSaltRow$Family;", Cond.fieldLink RX3 139 "SaltRow$Family" "rights" "[I", Cond.constantLong RX3 267 (12), Cond.fieldLink RX3 246 "SaltRow" "cloisterSalt" "I", Cond.fieldLink RX3 249 "SaltRow" "cloisterDirt" "I", Cond.methodLink RX3 214 yX3_portion, Cond.methodLink RX3 308 yX0_getSalt, Cond.instanceMethod yX0_getSalt, Cond.selects RX0 yX0_getSalt yX0_getSalt, Cond.initialized RX0, Cond.code yX0_getSalt cX0_getSalt 3 none, Cond.fieldLink RX0 15 "SaltRow$Family" "salt" "I", Cond.fieldLink RX0 19 "SaltRow$Family" "dirt" "I", Cond.fieldLink RX0 29 "SaltRow$Family" "saltGot" "I"]
def wsX3_harvest : List Cond := .code yX3_harvest cX3_harvest 7 (some .int) :: ((wsX3_harvest_r1 ++ (wsX3_harvest_r2 ++ wsX3_harvest_r3)) ++ wsX30 ++ wsX20 ++ wsX10 ++ wsX00 ++ (vx_atS RX3 45 "java/lang/IllegalStateException" ["java/lang/RuntimeException", "java/lang/Exception"]).filter goodWord ++ (vx_atS RX3 315 "java/lang/IndexOutOfBoundsException" ["java/lang/RuntimeException", "java/lang/Exception"]).filter goodWord)
def wsX3_wash : List Cond := .code yX3_wash cX3_wash 4 (some .int) :: ([.classLink RX3 41 "java/lang/IllegalStateException", .initialized "java/lang/IllegalStateException", .fieldLink RX3 21 "SaltRow" "families" "[LSaltRow$Family;", .fieldLink RX3 197 "SaltRow$Family" "salt" "I", .fieldLink RX3 200 "SaltRow$Family" "dirt" "I", .fieldLink RX3 100 "SaltRow" "lostSalt" "I", .methodLink RX3 134 yX3_needFamily, .instanceMethod yX3_needFamily, .selects RX3 yX3_needFamily yX3_needFamily, .initialized RX3, .code yX3_needFamily cX3_needFamily 2 none, .classLink RX3 311 "java/lang/IndexOutOfBoundsException", .initialized "java/lang/IndexOutOfBoundsException", .fieldLink RX3 129 "SaltRow" "familyCount" "I", .methodLink RX3 122 yX3_roundedUp, .static yX3_roundedUp, .code yX3_roundedUp cX3_roundedUp 2 (some .int), .methodLink RX3 203 yX3_purity, .static yX3_purity, .code yX3_purity cX3_purity 2 (some .int), .constantLong RX3 327 (100), .methodLink RX3 214 yX3_portion, .static yX3_portion, .code yX3_portion cX3_portion 6 (some .int)] ++ wsX30 ++ wsX00 ++ (vx_atS RX3 45 "java/lang/IllegalStateException" ["java/lang/RuntimeException", "java/lang/Exception"]).filter goodWord ++ (vx_atS RX3 315 "java/lang/IndexOutOfBoundsException" ["java/lang/RuntimeException", "java/lang/Exception"]).filter goodWord)
def wsX3_ofPond_r1 : List Cond := [Cond.classLink RX3 30 "java/lang/IllegalArgumentException", Cond.initialized "java/lang/IllegalArgumentException", Cond.fieldLink RX3 10 "SaltRow" "row" "LSaltRow$Row;", Cond.fieldLink RX3 46 "SaltRow$Row" "ponds" "[LSaltRow$Pond;", Cond.methodLink RX3 26 yX3_needPond, Cond.instanceMethod yX3_needPond, Cond.selects RX3 yX3_needPond yX3_needPond, Cond.initialized RX3, Cond.code yX3_needPond cX3_needPond 2 none, Cond.classLink RX3 311 "java/lang/IndexOutOfBoundsException", Cond.initialized "java/lang/IndexOutOfBoundsException", Cond.methodLink RX3 223 yX1_read, Cond.instanceMethod yX1_read, Cond.selects RX1 yX1_read yX1_read, Cond.initialized RX1, Cond.code yX1_read cX1_read 2 (some .int), Cond.fieldLink RX1 9 "SaltRow$Pond" "area" "I", Cond.fieldLink RX1 15 "SaltRow$Pond" "brine" "I", Cond.fieldLink RX1 22 "SaltRow$Pond" "salt" "I", Cond.fieldLink RX1 36 "SaltRow$Pond" "gypsum" "I", Cond.fieldLink RX1 25 "SaltRow$Pond" "bitter" "I", Cond.fieldLink RX1 39 "SaltRow$Pond" "fresh" "I", Cond.fieldLink RX1 42 "SaltRow$Pond" "crustSalt" "I", Cond.fieldLink RX1 45 "SaltRow$Pond" "crustDirt" "I"]
def wsX3_ofPond_r2 : List Cond := [Cond.fieldLink RX1 55 "SaltRow$Pond" "wasHarvested" "Z", Cond.methodLink RX1 48 yX1_level, Cond.instanceMethod yX1_level, Cond.selects RX1 yX1_level yX1_level, Cond.code yX1_level cX1_level 1 (some .int), Cond.static yX3_portion, Cond.code yX3_portion cX3_portion 6 (some .int), Cond.methodLink RX1 52 yX1_strength, Cond.instanceMethod yX1_strength, Cond.selects RX1 yX1_strength yX1_strength, Cond.code yX1_strength cX1_strength 1 (some .int), Cond.constantLong RX1 28 (5), Cond.methodLink RX1 30 Lib.Math.min.name, Cond.static Lib.Math.min.name, Cond.initialized "java/lang/Math", Cond.code Lib.Math.min.name Lib.Math.min.code 2 (some .int)]
def wsX3_ofPond : List Cond := .code yX3_ofPond cX3_ofPond 3 (some .int) :: ((wsX3_ofPond_r1 ++ wsX3_ofPond_r2) ++ wsX30 ++ wsX20 ++ wsX10 ++ (vx_atS RX3 34 "java/lang/IllegalArgumentException" ["java/lang/RuntimeException", "java/lang/Exception"]).filter goodWord ++ (vx_atS RX3 315 "java/lang/IndexOutOfBoundsException" ["java/lang/RuntimeException", "java/lang/Exception"]).filter goodWord)
def wsX3_ofFamily_r1 : List Cond := [Cond.classLink RX3 30 "java/lang/IllegalArgumentException", Cond.initialized "java/lang/IllegalArgumentException", Cond.fieldLink RX3 21 "SaltRow" "families" "[LSaltRow$Family;", Cond.methodLink RX3 134 yX3_needFamily, Cond.instanceMethod yX3_needFamily, Cond.selects RX3 yX3_needFamily yX3_needFamily, Cond.initialized RX3, Cond.code yX3_needFamily cX3_needFamily 2 none, Cond.classLink RX3 311 "java/lang/IndexOutOfBoundsException", Cond.initialized "java/lang/IndexOutOfBoundsException", Cond.fieldLink RX3 129 "SaltRow" "familyCount" "I", Cond.methodLink RX3 228 yX0_read, Cond.instanceMethod yX0_read, Cond.selects RX0 yX0_read yX0_read, Cond.initialized RX0, Cond.code yX0_read cX0_read 2 (some .int), Cond.fieldLink RX0 15 "SaltRow$Family" "salt" "I", Cond.fieldLink RX0 19 "SaltRow$Family" "dirt" "I", Cond.fieldLink RX0 26 "SaltRow$Family" "coins" "I", Cond.fieldLink RX0 29 "SaltRow$Family" "saltGot" "I", Cond.fieldLink RX0 32 "SaltRow$Family" "saltSold" "I", Cond.static yX3_purity, Cond.code yX3_purity cX3_purity 2 (some .int), Cond.constantLong RX3 327 (100)]
def wsX3_ofFamily_r2 : List Cond := [Cond.methodLink RX3 214 yX3_portion, Cond.static yX3_portion, Cond.code yX3_portion cX3_portion 6 (some .int)]
def wsX3_ofFamily : List Cond := .code yX3_ofFamily cX3_ofFamily 3 (some .int) :: ((wsX3_ofFamily_r1 ++ wsX3_ofFamily_r2) ++ wsX30 ++ wsX00 ++ (vx_atS RX3 34 "java/lang/IllegalArgumentException" ["java/lang/RuntimeException", "java/lang/Exception"]).filter goodWord ++ (vx_atS RX3 315 "java/lang/IndexOutOfBoundsException" ["java/lang/RuntimeException", "java/lang/Exception"]).filter goodWord)
def wsX3_rightOf : List Cond := .code yX3_rightOf cX3_rightOf 3 (some .int) :: ([.fieldLink RX3 21 "SaltRow" "families" "[LSaltRow$Family;", .fieldLink RX3 139 "SaltRow$Family" "rights" "[I", .methodLink RX3 134 yX3_needFamily, .instanceMethod yX3_needFamily, .selects RX3 yX3_needFamily yX3_needFamily, .initialized RX3, .code yX3_needFamily cX3_needFamily 2 none, .classLink RX3 311 "java/lang/IndexOutOfBoundsException", .initialized "java/lang/IndexOutOfBoundsException", .fieldLink RX3 129 "SaltRow" "familyCount" "I", .methodLink RX3 59 yX3_needPan, .instanceMethod yX3_needPan, .selects RX3 yX3_needPan yX3_needPan, .code yX3_needPan cX3_needPan 2 none] ++ wsX30 ++ wsX00 ++ (vx_atS RX3 315 "java/lang/IndexOutOfBoundsException" ["java/lang/RuntimeException", "java/lang/Exception"]).filter goodWord)
def wsX3_sumOfFamilies : List Cond := .code yX3_sumOfFamilies cX3_sumOfFamilies 4 (some .int) :: ([.fieldLink RX3 129 "SaltRow" "familyCount" "I", .fieldLink RX3 21 "SaltRow" "families" "[LSaltRow$Family;", .methodLink RX3 228 yX0_read, .instanceMethod yX0_read, .selects RX0 yX0_read yX0_read, .initialized RX0, .code yX0_read cX0_read 2 (some .int), .fieldLink RX0 15 "SaltRow$Family" "salt" "I", .fieldLink RX0 19 "SaltRow$Family" "dirt" "I", .fieldLink RX0 26 "SaltRow$Family" "coins" "I", .fieldLink RX0 29 "SaltRow$Family" "saltGot" "I", .fieldLink RX0 32 "SaltRow$Family" "saltSold" "I", .static yX3_purity, .initialized RX3, .code yX3_purity cX3_purity 2 (some .int), .constantLong RX3 327 (100), .methodLink RX3 214 yX3_portion, .static yX3_portion, .code yX3_portion cX3_portion 6 (some .int)] ++ wsX30 ++ wsX00)
def wsX3_many_r1 : List Cond := [Cond.classLink RX3 30 "java/lang/IllegalArgumentException", Cond.initialized "java/lang/IllegalArgumentException", Cond.fieldLink RX3 10 "SaltRow" "row" "LSaltRow$Row;", Cond.fieldLink RX3 37 "SaltRow$Row" "day" "I", Cond.fieldLink RX3 129 "SaltRow" "familyCount" "I", Cond.fieldLink RX3 237 "SaltRow$Row" "seaSalt" "I", Cond.fieldLink RX3 100 "SaltRow" "lostSalt" "I", Cond.fieldLink RX3 173 "SaltRow" "crownSalt" "I", Cond.fieldLink RX3 246 "SaltRow" "cloisterSalt" "I", Cond.fieldLink RX3 249 "SaltRow" "cloisterDirt" "I", Cond.fieldLink RX3 86 "SaltRow" "skimmed" "I", Cond.fieldLink RX3 119 "SaltRow" "worksCoins" "I", Cond.methodLink RX3 231 yX2_openGates, Cond.instanceMethod yX2_openGates, Cond.selects RX2 yX2_openGates yX2_openGates, Cond.initialized RX2, Cond.code yX2_openGates cX2_openGates 3 (some .int), Cond.fieldLink RX2 11 "SaltRow$Row" "ponds" "[LSaltRow$Pond;", Cond.fieldLink RX2 66 "SaltRow$Pond" "isOpen" "Z", Cond.methodLink RX3 234 yX2_coveredPans, Cond.instanceMethod yX2_coveredPans, Cond.selects RX2 yX2_coveredPans yX2_coveredPans, Cond.code yX2_coveredPans cX2_coveredPans 3 (some .int), Cond.fieldLink RX2 92 "SaltRow$Pond" "isCovered" "Z"]
def wsX3_many_r2 : List Cond := [Cond.methodLink RX3 240 yX2_sumOfPonds, Cond.instanceMethod yX2_sumOfPonds, Cond.selects RX2 yX2_sumOfPonds yX2_sumOfPonds, Cond.code yX2_sumOfPonds cX2_sumOfPonds 4 (some .int), Cond.methodLink RX2 104 yX1_read, Cond.instanceMethod yX1_read, Cond.selects RX1 yX1_read yX1_read, Cond.initialized RX1, Cond.code yX1_read cX1_read 2 (some .int), Cond.fieldLink RX1 9 "SaltRow$Pond" "area" "I", Cond.fieldLink RX1 15 "SaltRow$Pond" "brine" "I", Cond.fieldLink RX1 22 "SaltRow$Pond" "salt" "I", Cond.fieldLink RX1 36 "SaltRow$Pond" "gypsum" "I", Cond.fieldLink RX1 25 "SaltRow$Pond" "bitter" "I", Cond.fieldLink RX1 39 "SaltRow$Pond" "fresh" "I", Cond.fieldLink RX1 42 "SaltRow$Pond" "crustSalt" "I", Cond.fieldLink RX1 45 "SaltRow$Pond" "crustDirt" "I", Cond.fieldLink RX1 55 "SaltRow$Pond" "wasHarvested" "Z", Cond.methodLink RX1 48 yX1_level, Cond.instanceMethod yX1_level, Cond.selects RX1 yX1_level yX1_level, Cond.code yX1_level cX1_level 1 (some .int), Cond.static yX3_portion, Cond.initialized RX3]
def wsX3_many_r3 : List Cond := [Cond.code yX3_portion cX3_portion 6 (some .int), Cond.methodLink RX1 52 yX1_strength, Cond.instanceMethod yX1_strength, Cond.selects RX1 yX1_strength yX1_strength, Cond.code yX1_strength cX1_strength 1 (some .int), Cond.constantLong RX1 28 (5), Cond.methodLink RX1 30 Lib.Math.min.name, Cond.static Lib.Math.min.name, Cond.initialized "java/lang/Math", Cond.code Lib.Math.min.name Lib.Math.min.code 2 (some .int), Cond.methodLink RX3 243 yX3_sumOfFamilies, Cond.instanceMethod yX3_sumOfFamilies, Cond.selects RX3 yX3_sumOfFamilies yX3_sumOfFamilies, Cond.code yX3_sumOfFamilies cX3_sumOfFamilies 4 (some .int), Cond.fieldLink RX3 21 "SaltRow" "families" "[LSaltRow$Family;", Cond.methodLink RX3 228 yX0_read, Cond.instanceMethod yX0_read, Cond.selects RX0 yX0_read yX0_read, Cond.initialized RX0, Cond.code yX0_read cX0_read 2 (some .int), Cond.fieldLink RX0 15 "SaltRow$Family" "salt" "I", Cond.fieldLink RX0 19 "SaltRow$Family" "dirt" "I", Cond.fieldLink RX0 26 "SaltRow$Family" "coins" "I", Cond.fieldLink RX0 29 "SaltRow$Family" "saltGot" "I"]
def wsX3_many_r4 : List Cond := [Cond.fieldLink RX0 32 "SaltRow$Family" "saltSold" "I", Cond.static yX3_purity, Cond.code yX3_purity cX3_purity 2 (some .int), Cond.constantLong RX3 327 (100), Cond.methodLink RX3 214 yX3_portion]
def wsX3_many : List Cond := .code yX3_many cX3_many 2 (some .int) :: ((wsX3_many_r1 ++ (wsX3_many_r2 ++ (wsX3_many_r3 ++ wsX3_many_r4))) ++ wsX30 ++ wsX20 ++ wsX10 ++ wsX00 ++ (vx_atS RX3 34 "java/lang/IllegalArgumentException" ["java/lang/RuntimeException", "java/lang/Exception"]).filter goodWord)
def wsX3_crustIn_r1 : List Cond := [Cond.fieldLink RX3 16 "SaltRow" "trial" "LSaltRow$Row;", Cond.fieldLink RX3 10 "SaltRow" "row" "LSaltRow$Row;", Cond.fieldLink RX3 46 "SaltRow$Row" "ponds" "[LSaltRow$Pond;", Cond.fieldLink RX3 258 "SaltRow$Pond" "saltFallen" "I", Cond.methodLink RX3 59 yX3_needPan, Cond.instanceMethod yX3_needPan, Cond.selects RX3 yX3_needPan yX3_needPan, Cond.initialized RX3, Cond.code yX3_needPan cX3_needPan 2 none, Cond.classLink RX3 311 "java/lang/IndexOutOfBoundsException", Cond.initialized "java/lang/IndexOutOfBoundsException", Cond.methodLink RX3 67 yX3_needWeather, Cond.instanceMethod yX3_needWeather, Cond.selects RX3 yX3_needWeather yX3_needWeather, Cond.code yX3_needWeather cX3_needWeather 3 none, Cond.classLink RX3 30 "java/lang/IllegalArgumentException", Cond.initialized "java/lang/IllegalArgumentException", Cond.methodLink RX3 254 yX2_copyFrom, Cond.instanceMethod yX2_copyFrom, Cond.selects RX2 yX2_copyFrom yX2_copyFrom, Cond.initialized RX2, Cond.code yX2_copyFrom cX2_copyFrom 3 none, Cond.fieldLink RX2 18 "SaltRow$Row" "day" "I", Cond.fieldLink RX2 22 "SaltRow$Row" "sun" "I"]
def wsX3_crustIn_r2 : List Cond := [Cond.fieldLink RX2 25 "SaltRow$Row" "wind" "I", Cond.fieldLink RX2 28 "SaltRow$Row" "seaSalt" "I", Cond.fieldLink RX2 11 "SaltRow$Row" "ponds" "[LSaltRow$Pond;", Cond.methodLink RX2 31 yX1_copyFrom, Cond.instanceMethod yX1_copyFrom, Cond.selects RX1 yX1_copyFrom yX1_copyFrom, Cond.initialized RX1, Cond.code yX1_copyFrom cX1_copyFrom 2 none, Cond.fieldLink RX1 9 "SaltRow$Pond" "area" "I", Cond.fieldLink RX1 15 "SaltRow$Pond" "brine" "I", Cond.fieldLink RX1 22 "SaltRow$Pond" "salt" "I", Cond.fieldLink RX1 36 "SaltRow$Pond" "gypsum" "I", Cond.fieldLink RX1 25 "SaltRow$Pond" "bitter" "I", Cond.fieldLink RX1 39 "SaltRow$Pond" "fresh" "I", Cond.fieldLink RX1 42 "SaltRow$Pond" "crustSalt" "I", Cond.fieldLink RX1 45 "SaltRow$Pond" "crustDirt" "I", Cond.fieldLink RX1 59 "SaltRow$Pond" "saltFallen" "I", Cond.fieldLink RX1 62 "SaltRow$Pond" "isOpen" "Z", Cond.fieldLink RX1 65 "SaltRow$Pond" "isCovered" "Z", Cond.fieldLink RX1 55 "SaltRow$Pond" "wasHarvested" "Z", Cond.methodLink RX3 75 yX2_letDayGoBy, Cond.instanceMethod yX2_letDayGoBy, Cond.selects RX2 yX2_letDayGoBy yX2_letDayGoBy, Cond.code yX2_letDayGoBy cX2_letDayGoBy 6 none]
def wsX3_crustIn_r3 : List Cond := [Cond.fieldLink RX2 41 "SaltRow$Pond" "wasHarvested" "Z", Cond.methodLink RX2 35 yX2_letSeaIn, Cond.instanceMethod yX2_letSeaIn, Cond.selects RX2 yX2_letSeaIn yX2_letSeaIn, Cond.code yX2_letSeaIn cX2_letSeaIn 4 none, Cond.fieldLink RX2 66 "SaltRow$Pond" "isOpen" "Z", Cond.fieldLink RX2 69 "SaltRow$Pond" "area" "I", Cond.static yX3_tideAt, Cond.code yX3_tideAt cX3_tideAt 1 (some .int), Cond.methodLink RX3 324 Lib.Math.abs.name, Cond.static Lib.Math.abs.name, Cond.initialized "java/lang/Math", Cond.code Lib.Math.abs.name Lib.Math.abs.code 1 (some .int), Cond.methodLink RX2 62 yX1_level, Cond.instanceMethod yX1_level, Cond.selects RX1 yX1_level yX1_level, Cond.code yX1_level cX1_level 1 (some .int), Cond.static yX3_portion, Cond.code yX3_portion cX3_portion 6 (some .int), Cond.methodLink RX2 72 yX1_takeIn, Cond.instanceMethod yX1_takeIn, Cond.selects RX1 yX1_takeIn yX1_takeIn, Cond.code yX1_takeIn cX1_takeIn 5 none, Cond.methodLink RX2 38 yX2_letBrineFlowOn]
def wsX3_crustIn_r4 : List Cond := [Cond.instanceMethod yX2_letBrineFlowOn, Cond.selects RX2 yX2_letBrineFlowOn yX2_letBrineFlowOn, Cond.code yX2_letBrineFlowOn cX2_letBrineFlowOn 5 none, Cond.methodLink RX2 76 Lib.Math.min.name, Cond.static Lib.Math.min.name, Cond.code Lib.Math.min.name Lib.Math.min.code 2 (some .int), Cond.constantLong RX2 82 (2), Cond.methodLink RX2 88 yX1_giveBrine, Cond.instanceMethod yX1_giveBrine, Cond.selects RX1 yX1_giveBrine yX1_giveBrine, Cond.code yX1_giveBrine cX1_giveBrine 6 none, Cond.methodLink RX1 68 yX1_takeIn, Cond.methodLink RX2 45 yX1_rainFalls, Cond.instanceMethod yX1_rainFalls, Cond.selects RX1 yX1_rainFalls yX1_rainFalls, Cond.code yX1_rainFalls cX1_rainFalls 2 none, Cond.methodLink RX2 49 yX1_dryOut, Cond.instanceMethod yX1_dryOut, Cond.selects RX1 yX1_dryOut yX1_dryOut, Cond.code yX1_dryOut cX1_dryOut 4 none, Cond.methodLink RX1 30 Lib.Math.min.name, Cond.methodLink RX1 52 yX1_strength, Cond.instanceMethod yX1_strength, Cond.selects RX1 yX1_strength yX1_strength]
def wsX3_crustIn_r5 : List Cond := [Cond.code yX1_strength cX1_strength 1 (some .int), Cond.constantLong RX1 28 (5), Cond.static yX3_roundedUp, Cond.code yX3_roundedUp cX3_roundedUp 2 (some .int), Cond.methodLink RX2 52 yX1_mixFresh, Cond.instanceMethod yX1_mixFresh, Cond.selects RX1 yX1_mixFresh yX1_mixFresh, Cond.code yX1_mixFresh cX1_mixFresh 3 none, Cond.methodLink RX2 55 yX1_dropMinerals, Cond.instanceMethod yX1_dropMinerals, Cond.selects RX1 yX1_dropMinerals yX1_dropMinerals, Cond.code yX1_dropMinerals cX1_dropMinerals 3 none, Cond.methodLink RX1 75 yX1_above, Cond.instanceMethod yX1_above, Cond.selects RX1 yX1_above yX1_above, Cond.code yX1_above cX1_above 3 (some .int), Cond.methodLink RX1 78 Lib.MathLoose.max_long.x, Cond.static Lib.MathLoose.max_long.x, Cond.code Lib.MathLoose.max_long.x Lib.MathLoose.max_long.code 4 (some .long)]
def wsX3_crustIn : List Cond := .code yX3_crustIn cX3_crustIn 5 (some .int) :: ((wsX3_crustIn_r1 ++ (wsX3_crustIn_r2 ++ (wsX3_crustIn_r3 ++ (wsX3_crustIn_r4 ++ wsX3_crustIn_r5)))) ++ wsX30 ++ wsX20 ++ wsX10 ++ (vx_atS RX3 315 "java/lang/IndexOutOfBoundsException" ["java/lang/RuntimeException", "java/lang/Exception"]).filter goodWord ++ (vx_atS RX3 34 "java/lang/IllegalArgumentException" ["java/lang/RuntimeException", "java/lang/Exception"]).filter goodWord)
def wsX3_saltInPansWith_r1 : List Cond := [Cond.fieldLink RX3 16 "SaltRow" "trial" "LSaltRow$Row;", Cond.fieldLink RX3 10 "SaltRow" "row" "LSaltRow$Row;", Cond.methodLink RX3 254 yX2_copyFrom, Cond.instanceMethod yX2_copyFrom, Cond.selects RX2 yX2_copyFrom yX2_copyFrom, Cond.initialized RX2, Cond.code yX2_copyFrom cX2_copyFrom 3 none, Cond.fieldLink RX2 18 "SaltRow$Row" "day" "I", Cond.fieldLink RX2 22 "SaltRow$Row" "sun" "I", Cond.fieldLink RX2 25 "SaltRow$Row" "wind" "I", Cond.fieldLink RX2 28 "SaltRow$Row" "seaSalt" "I", Cond.fieldLink RX2 11 "SaltRow$Row" "ponds" "[LSaltRow$Pond;", Cond.methodLink RX2 31 yX1_copyFrom, Cond.instanceMethod yX1_copyFrom, Cond.selects RX1 yX1_copyFrom yX1_copyFrom, Cond.initialized RX1, Cond.code yX1_copyFrom cX1_copyFrom 2 none, Cond.fieldLink RX1 9 "SaltRow$Pond" "area" "I", Cond.fieldLink RX1 15 "SaltRow$Pond" "brine" "I", Cond.fieldLink RX1 22 "SaltRow$Pond" "salt" "I", Cond.fieldLink RX1 36 "SaltRow$Pond" "gypsum" "I", Cond.fieldLink RX1 25 "SaltRow$Pond" "bitter" "I", Cond.fieldLink RX1 39 "SaltRow$Pond" "fresh" "I", Cond.fieldLink RX1 42 "SaltRow$Pond" "crustSalt" "I"]
def wsX3_saltInPansWith_r2 : List Cond := [Cond.fieldLink RX1 45 "SaltRow$Pond" "crustDirt" "I", Cond.fieldLink RX1 59 "SaltRow$Pond" "saltFallen" "I", Cond.fieldLink RX1 62 "SaltRow$Pond" "isOpen" "Z", Cond.fieldLink RX1 65 "SaltRow$Pond" "isCovered" "Z", Cond.fieldLink RX1 55 "SaltRow$Pond" "wasHarvested" "Z", Cond.methodLink RX3 302 yX2_setGates, Cond.instanceMethod yX2_setGates, Cond.selects RX2 yX2_setGates yX2_setGates, Cond.code yX2_setGates cX2_setGates 3 none, Cond.fieldLink RX2 66 "SaltRow$Pond" "isOpen" "Z", Cond.methodLink RX3 75 yX2_letDayGoBy, Cond.instanceMethod yX2_letDayGoBy, Cond.selects RX2 yX2_letDayGoBy yX2_letDayGoBy, Cond.code yX2_letDayGoBy cX2_letDayGoBy 6 none, Cond.fieldLink RX2 41 "SaltRow$Pond" "wasHarvested" "Z", Cond.methodLink RX2 35 yX2_letSeaIn, Cond.instanceMethod yX2_letSeaIn, Cond.selects RX2 yX2_letSeaIn yX2_letSeaIn, Cond.code yX2_letSeaIn cX2_letSeaIn 4 none, Cond.fieldLink RX2 69 "SaltRow$Pond" "area" "I", Cond.static yX3_tideAt, Cond.initialized RX3, Cond.code yX3_tideAt cX3_tideAt 1 (some .int), Cond.methodLink RX3 324 Lib.Math.abs.name]
def wsX3_saltInPansWith_r3 : List Cond := [Cond.static Lib.Math.abs.name, Cond.initialized "java/lang/Math", Cond.code Lib.Math.abs.name Lib.Math.abs.code 1 (some .int), Cond.methodLink RX2 62 yX1_level, Cond.instanceMethod yX1_level, Cond.selects RX1 yX1_level yX1_level, Cond.code yX1_level cX1_level 1 (some .int), Cond.static yX3_portion, Cond.code yX3_portion cX3_portion 6 (some .int), Cond.methodLink RX2 72 yX1_takeIn, Cond.instanceMethod yX1_takeIn, Cond.selects RX1 yX1_takeIn yX1_takeIn, Cond.code yX1_takeIn cX1_takeIn 5 none, Cond.methodLink RX2 38 yX2_letBrineFlowOn, Cond.instanceMethod yX2_letBrineFlowOn, Cond.selects RX2 yX2_letBrineFlowOn yX2_letBrineFlowOn, Cond.code yX2_letBrineFlowOn cX2_letBrineFlowOn 5 none, Cond.methodLink RX2 76 Lib.Math.min.name, Cond.static Lib.Math.min.name, Cond.code Lib.Math.min.name Lib.Math.min.code 2 (some .int), Cond.constantLong RX2 82 (2), Cond.methodLink RX2 88 yX1_giveBrine, Cond.instanceMethod yX1_giveBrine, Cond.selects RX1 yX1_giveBrine yX1_giveBrine]
def wsX3_saltInPansWith_r4 : List Cond := [Cond.code yX1_giveBrine cX1_giveBrine 6 none, Cond.methodLink RX1 68 yX1_takeIn, Cond.methodLink RX2 45 yX1_rainFalls, Cond.instanceMethod yX1_rainFalls, Cond.selects RX1 yX1_rainFalls yX1_rainFalls, Cond.code yX1_rainFalls cX1_rainFalls 2 none, Cond.methodLink RX2 49 yX1_dryOut, Cond.instanceMethod yX1_dryOut, Cond.selects RX1 yX1_dryOut yX1_dryOut, Cond.code yX1_dryOut cX1_dryOut 4 none, Cond.methodLink RX1 30 Lib.Math.min.name, Cond.methodLink RX1 52 yX1_strength, Cond.instanceMethod yX1_strength, Cond.selects RX1 yX1_strength yX1_strength, Cond.code yX1_strength cX1_strength 1 (some .int), Cond.constantLong RX1 28 (5), Cond.static yX3_roundedUp, Cond.code yX3_roundedUp cX3_roundedUp 2 (some .int), Cond.methodLink RX2 52 yX1_mixFresh, Cond.instanceMethod yX1_mixFresh, Cond.selects RX1 yX1_mixFresh yX1_mixFresh, Cond.code yX1_mixFresh cX1_mixFresh 3 none, Cond.methodLink RX2 55 yX1_dropMinerals, Cond.instanceMethod yX1_dropMinerals]
def wsX3_saltInPansWith_r5 : List Cond := [Cond.selects RX1 yX1_dropMinerals yX1_dropMinerals, Cond.code yX1_dropMinerals cX1_dropMinerals 3 none, Cond.methodLink RX1 75 yX1_above, Cond.instanceMethod yX1_above, Cond.selects RX1 yX1_above yX1_above, Cond.code yX1_above cX1_above 3 (some .int), Cond.methodLink RX1 78 Lib.MathLoose.max_long.x, Cond.static Lib.MathLoose.max_long.x, Cond.code Lib.MathLoose.max_long.x Lib.MathLoose.max_long.code 4 (some .long), Cond.methodLink RX3 305 yX2_saltInPans, Cond.instanceMethod yX2_saltInPans, Cond.selects RX2 yX2_saltInPans yX2_saltInPans, Cond.code yX2_saltInPans cX2_saltInPans 3 (some .int), Cond.fieldLink RX2 98 "SaltRow$Pond" "salt" "I", Cond.fieldLink RX2 101 "SaltRow$Pond" "crustSalt" "I"]
def wsX3_saltInPansWith : List Cond := .code yX3_saltInPansWith cX3_saltInPansWith 6 (some .int) :: ((wsX3_saltInPansWith_r1 ++ (wsX3_saltInPansWith_r2 ++ (wsX3_saltInPansWith_r3 ++ (wsX3_saltInPansWith_r4 ++ wsX3_saltInPansWith_r5)))) ++ wsX30 ++ wsX20 ++ wsX10)
def wsX3_bestGates_r1 : List Cond := [Cond.classLink RX3 30 "java/lang/IllegalArgumentException", Cond.initialized "java/lang/IllegalArgumentException", Cond.methodLink RX3 67 yX3_needWeather, Cond.instanceMethod yX3_needWeather, Cond.selects RX3 yX3_needWeather yX3_needWeather, Cond.initialized RX3, Cond.code yX3_needWeather cX3_needWeather 3 none, Cond.methodLink RX3 263 yX3_saltInPansWith, Cond.instanceMethod yX3_saltInPansWith, Cond.selects RX3 yX3_saltInPansWith yX3_saltInPansWith, Cond.code yX3_saltInPansWith cX3_saltInPansWith 6 (some .int), Cond.fieldLink RX3 16 "SaltRow" "trial" "LSaltRow$Row;", Cond.fieldLink RX3 10 "SaltRow" "row" "LSaltRow$Row;", Cond.methodLink RX3 254 yX2_copyFrom, Cond.instanceMethod yX2_copyFrom, Cond.selects RX2 yX2_copyFrom yX2_copyFrom, Cond.initialized RX2, Cond.code yX2_copyFrom cX2_copyFrom 3 none, Cond.fieldLink RX2 18 "SaltRow$Row" "day" "I", Cond.fieldLink RX2 22 "SaltRow$Row" "sun" "I", Cond.fieldLink RX2 25 "SaltRow$Row" "wind" "I", Cond.fieldLink RX2 28 "SaltRow$Row" "seaSalt" "I", Cond.fieldLink RX2 11 "SaltRow$Row" "ponds" "[LSaltRow$Pond;", Cond.methodLink RX2 31 yX1_copyFrom]
def wsX3_bestGates_r2 : List Cond := [Cond.instanceMethod yX1_copyFrom, Cond.selects RX1 yX1_copyFrom yX1_copyFrom, Cond.initialized RX1, Cond.code yX1_copyFrom cX1_copyFrom 2 none, Cond.fieldLink RX1 9 "SaltRow$Pond" "area" "I", Cond.fieldLink RX1 15 "SaltRow$Pond" "brine" "I", Cond.fieldLink RX1 22 "SaltRow$Pond" "salt" "I", Cond.fieldLink RX1 36 "SaltRow$Pond" "gypsum" "I", Cond.fieldLink RX1 25 "SaltRow$Pond" "bitter" "I", Cond.fieldLink RX1 39 "SaltRow$Pond" "fresh" "I", Cond.fieldLink RX1 42 "SaltRow$Pond" "crustSalt" "I", Cond.fieldLink RX1 45 "SaltRow$Pond" "crustDirt" "I", Cond.fieldLink RX1 59 "SaltRow$Pond" "saltFallen" "I", Cond.fieldLink RX1 62 "SaltRow$Pond" "isOpen" "Z", Cond.fieldLink RX1 65 "SaltRow$Pond" "isCovered" "Z", Cond.fieldLink RX1 55 "SaltRow$Pond" "wasHarvested" "Z", Cond.methodLink RX3 302 yX2_setGates, Cond.instanceMethod yX2_setGates, Cond.selects RX2 yX2_setGates yX2_setGates, Cond.code yX2_setGates cX2_setGates 3 none, Cond.fieldLink RX2 66 "SaltRow$Pond" "isOpen" "Z", Cond.methodLink RX3 75 yX2_letDayGoBy, Cond.instanceMethod yX2_letDayGoBy, Cond.selects RX2 yX2_letDayGoBy yX2_letDayGoBy]
def wsX3_bestGates_r3 : List Cond := [Cond.code yX2_letDayGoBy cX2_letDayGoBy 6 none, Cond.fieldLink RX2 41 "SaltRow$Pond" "wasHarvested" "Z", Cond.methodLink RX2 35 yX2_letSeaIn, Cond.instanceMethod yX2_letSeaIn, Cond.selects RX2 yX2_letSeaIn yX2_letSeaIn, Cond.code yX2_letSeaIn cX2_letSeaIn 4 none, Cond.fieldLink RX2 69 "SaltRow$Pond" "area" "I", Cond.static yX3_tideAt, Cond.code yX3_tideAt cX3_tideAt 1 (some .int), Cond.methodLink RX3 324 Lib.Math.abs.name, Cond.static Lib.Math.abs.name, Cond.initialized "java/lang/Math", Cond.code Lib.Math.abs.name Lib.Math.abs.code 1 (some .int), Cond.methodLink RX2 62 yX1_level, Cond.instanceMethod yX1_level, Cond.selects RX1 yX1_level yX1_level, Cond.code yX1_level cX1_level 1 (some .int), Cond.static yX3_portion, Cond.code yX3_portion cX3_portion 6 (some .int), Cond.methodLink RX2 72 yX1_takeIn, Cond.instanceMethod yX1_takeIn, Cond.selects RX1 yX1_takeIn yX1_takeIn, Cond.code yX1_takeIn cX1_takeIn 5 none, Cond.methodLink RX2 38 yX2_letBrineFlowOn]
def wsX3_bestGates_r4 : List Cond := [Cond.instanceMethod yX2_letBrineFlowOn, Cond.selects RX2 yX2_letBrineFlowOn yX2_letBrineFlowOn, Cond.code yX2_letBrineFlowOn cX2_letBrineFlowOn 5 none, Cond.methodLink RX2 76 Lib.Math.min.name, Cond.static Lib.Math.min.name, Cond.code Lib.Math.min.name Lib.Math.min.code 2 (some .int), Cond.constantLong RX2 82 (2), Cond.methodLink RX2 88 yX1_giveBrine, Cond.instanceMethod yX1_giveBrine, Cond.selects RX1 yX1_giveBrine yX1_giveBrine, Cond.code yX1_giveBrine cX1_giveBrine 6 none, Cond.methodLink RX1 68 yX1_takeIn, Cond.methodLink RX2 45 yX1_rainFalls, Cond.instanceMethod yX1_rainFalls, Cond.selects RX1 yX1_rainFalls yX1_rainFalls, Cond.code yX1_rainFalls cX1_rainFalls 2 none, Cond.methodLink RX2 49 yX1_dryOut, Cond.instanceMethod yX1_dryOut, Cond.selects RX1 yX1_dryOut yX1_dryOut, Cond.code yX1_dryOut cX1_dryOut 4 none, Cond.methodLink RX1 30 Lib.Math.min.name, Cond.methodLink RX1 52 yX1_strength, Cond.instanceMethod yX1_strength, Cond.selects RX1 yX1_strength yX1_strength]
def wsX3_bestGates_r5 : List Cond := [Cond.code yX1_strength cX1_strength 1 (some .int), Cond.constantLong RX1 28 (5), Cond.static yX3_roundedUp, Cond.code yX3_roundedUp cX3_roundedUp 2 (some .int), Cond.methodLink RX2 52 yX1_mixFresh, Cond.instanceMethod yX1_mixFresh, Cond.selects RX1 yX1_mixFresh yX1_mixFresh, Cond.code yX1_mixFresh cX1_mixFresh 3 none, Cond.methodLink RX2 55 yX1_dropMinerals, Cond.instanceMethod yX1_dropMinerals, Cond.selects RX1 yX1_dropMinerals yX1_dropMinerals, Cond.code yX1_dropMinerals cX1_dropMinerals 3 none, Cond.methodLink RX1 75 yX1_above, Cond.instanceMethod yX1_above, Cond.selects RX1 yX1_above yX1_above, Cond.code yX1_above cX1_above 3 (some .int), Cond.methodLink RX1 78 Lib.MathLoose.max_long.x, Cond.static Lib.MathLoose.max_long.x, Cond.code Lib.MathLoose.max_long.x Lib.MathLoose.max_long.code 4 (some .long), Cond.methodLink RX3 305 yX2_saltInPans, Cond.instanceMethod yX2_saltInPans, Cond.selects RX2 yX2_saltInPans yX2_saltInPans, Cond.code yX2_saltInPans cX2_saltInPans 3 (some .int), Cond.fieldLink RX2 98 "SaltRow$Pond" "salt" "I"]
def wsX3_bestGates_r6 : List Cond := [Cond.fieldLink RX2 101 "SaltRow$Pond" "crustSalt" "I"]
def wsX3_bestGates : List Cond := .code yX3_bestGates cX3_bestGates 8 (some .int) :: ((wsX3_bestGates_r1 ++ (wsX3_bestGates_r2 ++ (wsX3_bestGates_r3 ++ (wsX3_bestGates_r4 ++ (wsX3_bestGates_r5 ++ wsX3_bestGates_r6))))) ++ wsX30 ++ wsX20 ++ wsX10 ++ (vx_atS RX3 34 "java/lang/IllegalArgumentException" ["java/lang/RuntimeException", "java/lang/Exception"]).filter goodWord)
def wsX3_tideOn : List Cond := .code yX3_tideOn cX3_tideOn 5 (some .int) :: ([.classLink RX3 30 "java/lang/IllegalArgumentException", .initialized "java/lang/IllegalArgumentException", .fieldLink RX3 10 "SaltRow" "row" "LSaltRow$Row;", .fieldLink RX3 37 "SaltRow$Row" "day" "I", .methodLink RX3 94 yX3_tideAt, .static yX3_tideAt, .initialized RX3, .code yX3_tideAt cX3_tideAt 1 (some .int), .methodLink RX3 324 Lib.Math.abs.name, .static Lib.Math.abs.name, .initialized "java/lang/Math", .code Lib.Math.abs.name Lib.Math.abs.code 1 (some .int)] ++ wsX30 ++ wsX20 ++ (vx_atS RX3 34 "java/lang/IllegalArgumentException" ["java/lang/RuntimeException", "java/lang/Exception"]).filter goodWord)
def wsX3_digestOfFamily_r1 : List Cond := [Cond.constantLong RX3 273 (31), Cond.methodLink RX3 296 yX3_ofFamily, Cond.instanceMethod yX3_ofFamily, Cond.selects RX3 yX3_ofFamily yX3_ofFamily, Cond.initialized RX3, Cond.code yX3_ofFamily cX3_ofFamily 3 (some .int), Cond.classLink RX3 30 "java/lang/IllegalArgumentException", Cond.initialized "java/lang/IllegalArgumentException", Cond.fieldLink RX3 21 "SaltRow" "families" "[LSaltRow$Family;", Cond.methodLink RX3 134 yX3_needFamily, Cond.instanceMethod yX3_needFamily, Cond.selects RX3 yX3_needFamily yX3_needFamily, Cond.code yX3_needFamily cX3_needFamily 2 none, Cond.classLink RX3 311 "java/lang/IndexOutOfBoundsException", Cond.initialized "java/lang/IndexOutOfBoundsException", Cond.fieldLink RX3 129 "SaltRow" "familyCount" "I", Cond.methodLink RX3 228 yX0_read, Cond.instanceMethod yX0_read, Cond.selects RX0 yX0_read yX0_read, Cond.initialized RX0, Cond.code yX0_read cX0_read 2 (some .int), Cond.fieldLink RX0 15 "SaltRow$Family" "salt" "I", Cond.fieldLink RX0 19 "SaltRow$Family" "dirt" "I", Cond.fieldLink RX0 26 "SaltRow$Family" "coins" "I"]
def wsX3_digestOfFamily_r2 : List Cond := [Cond.fieldLink RX0 29 "SaltRow$Family" "saltGot" "I", Cond.fieldLink RX0 32 "SaltRow$Family" "saltSold" "I", Cond.static yX3_purity, Cond.code yX3_purity cX3_purity 2 (some .int), Cond.constantLong RX3 327 (100), Cond.methodLink RX3 214 yX3_portion, Cond.static yX3_portion, Cond.code yX3_portion cX3_portion 6 (some .int), Cond.methodLink RX3 299 yX3_rightOf, Cond.instanceMethod yX3_rightOf, Cond.selects RX3 yX3_rightOf yX3_rightOf, Cond.code yX3_rightOf cX3_rightOf 3 (some .int), Cond.fieldLink RX3 139 "SaltRow$Family" "rights" "[I", Cond.methodLink RX3 59 yX3_needPan, Cond.instanceMethod yX3_needPan, Cond.selects RX3 yX3_needPan yX3_needPan, Cond.code yX3_needPan cX3_needPan 2 none]
def wsX3_digestOfFamily : List Cond := .code yX3_digestOfFamily cX3_digestOfFamily 7 (some .long) :: ((wsX3_digestOfFamily_r1 ++ wsX3_digestOfFamily_r2) ++ wsX30 ++ wsX00 ++ (vx_atS RX3 34 "java/lang/IllegalArgumentException" ["java/lang/RuntimeException", "java/lang/Exception"]).filter goodWord ++ (vx_atS RX3 315 "java/lang/IndexOutOfBoundsException" ["java/lang/RuntimeException", "java/lang/Exception"]).filter goodWord)
def wsX3_digest_r1 : List Cond := [Cond.constantLong RX3 271 (7804), Cond.constantLong RX3 273 (31), Cond.fieldLink RX3 129 "SaltRow" "familyCount" "I", Cond.methodLink RX3 275 yX3_many, Cond.instanceMethod yX3_many, Cond.selects RX3 yX3_many yX3_many, Cond.initialized RX3, Cond.code yX3_many cX3_many 2 (some .int), Cond.classLink RX3 30 "java/lang/IllegalArgumentException", Cond.initialized "java/lang/IllegalArgumentException", Cond.fieldLink RX3 10 "SaltRow" "row" "LSaltRow$Row;", Cond.fieldLink RX3 37 "SaltRow$Row" "day" "I", Cond.fieldLink RX3 237 "SaltRow$Row" "seaSalt" "I", Cond.fieldLink RX3 100 "SaltRow" "lostSalt" "I", Cond.fieldLink RX3 173 "SaltRow" "crownSalt" "I", Cond.fieldLink RX3 246 "SaltRow" "cloisterSalt" "I", Cond.fieldLink RX3 249 "SaltRow" "cloisterDirt" "I", Cond.fieldLink RX3 86 "SaltRow" "skimmed" "I", Cond.fieldLink RX3 119 "SaltRow" "worksCoins" "I", Cond.methodLink RX3 231 yX2_openGates, Cond.instanceMethod yX2_openGates, Cond.selects RX2 yX2_openGates yX2_openGates, Cond.initialized RX2, Cond.code yX2_openGates cX2_openGates 3 (some .int)]
def wsX3_digest_r2 : List Cond := [Cond.fieldLink RX2 11 "SaltRow$Row" "ponds" "[LSaltRow$Pond;", Cond.fieldLink RX2 66 "SaltRow$Pond" "isOpen" "Z", Cond.methodLink RX3 234 yX2_coveredPans, Cond.instanceMethod yX2_coveredPans, Cond.selects RX2 yX2_coveredPans yX2_coveredPans, Cond.code yX2_coveredPans cX2_coveredPans 3 (some .int), Cond.fieldLink RX2 92 "SaltRow$Pond" "isCovered" "Z", Cond.methodLink RX3 240 yX2_sumOfPonds, Cond.instanceMethod yX2_sumOfPonds, Cond.selects RX2 yX2_sumOfPonds yX2_sumOfPonds, Cond.code yX2_sumOfPonds cX2_sumOfPonds 4 (some .int), Cond.methodLink RX2 104 yX1_read, Cond.instanceMethod yX1_read, Cond.selects RX1 yX1_read yX1_read, Cond.initialized RX1, Cond.code yX1_read cX1_read 2 (some .int), Cond.fieldLink RX1 9 "SaltRow$Pond" "area" "I", Cond.fieldLink RX1 15 "SaltRow$Pond" "brine" "I", Cond.fieldLink RX1 22 "SaltRow$Pond" "salt" "I", Cond.fieldLink RX1 36 "SaltRow$Pond" "gypsum" "I", Cond.fieldLink RX1 25 "SaltRow$Pond" "bitter" "I", Cond.fieldLink RX1 39 "SaltRow$Pond" "fresh" "I", Cond.fieldLink RX1 42 "SaltRow$Pond" "crustSalt" "I", Cond.fieldLink RX1 45 "SaltRow$Pond" "crustDirt" "I"]
def wsX3_digest_r3 : List Cond := [Cond.fieldLink RX1 55 "SaltRow$Pond" "wasHarvested" "Z", Cond.methodLink RX1 48 yX1_level, Cond.instanceMethod yX1_level, Cond.selects RX1 yX1_level yX1_level, Cond.code yX1_level cX1_level 1 (some .int), Cond.static yX3_portion, Cond.code yX3_portion cX3_portion 6 (some .int), Cond.methodLink RX1 52 yX1_strength, Cond.instanceMethod yX1_strength, Cond.selects RX1 yX1_strength yX1_strength, Cond.code yX1_strength cX1_strength 1 (some .int), Cond.constantLong RX1 28 (5), Cond.methodLink RX1 30 Lib.Math.min.name, Cond.static Lib.Math.min.name, Cond.initialized "java/lang/Math", Cond.code Lib.Math.min.name Lib.Math.min.code 2 (some .int), Cond.methodLink RX3 243 yX3_sumOfFamilies, Cond.instanceMethod yX3_sumOfFamilies, Cond.selects RX3 yX3_sumOfFamilies yX3_sumOfFamilies, Cond.code yX3_sumOfFamilies cX3_sumOfFamilies 4 (some .int), Cond.fieldLink RX3 21 "SaltRow" "families" "[LSaltRow$Family;", Cond.methodLink RX3 228 yX0_read, Cond.instanceMethod yX0_read, Cond.selects RX0 yX0_read yX0_read]
def wsX3_digest_r4 : List Cond := [Cond.initialized RX0, Cond.code yX0_read cX0_read 2 (some .int), Cond.fieldLink RX0 15 "SaltRow$Family" "salt" "I", Cond.fieldLink RX0 19 "SaltRow$Family" "dirt" "I", Cond.fieldLink RX0 26 "SaltRow$Family" "coins" "I", Cond.fieldLink RX0 29 "SaltRow$Family" "saltGot" "I", Cond.fieldLink RX0 32 "SaltRow$Family" "saltSold" "I", Cond.static yX3_purity, Cond.code yX3_purity cX3_purity 2 (some .int), Cond.constantLong RX3 327 (100), Cond.methodLink RX3 214 yX3_portion, Cond.methodLink RX3 278 yX3_ofPond, Cond.instanceMethod yX3_ofPond, Cond.selects RX3 yX3_ofPond yX3_ofPond, Cond.code yX3_ofPond cX3_ofPond 3 (some .int), Cond.fieldLink RX3 46 "SaltRow$Row" "ponds" "[LSaltRow$Pond;", Cond.methodLink RX3 26 yX3_needPond, Cond.instanceMethod yX3_needPond, Cond.selects RX3 yX3_needPond yX3_needPond, Cond.code yX3_needPond cX3_needPond 2 none, Cond.classLink RX3 311 "java/lang/IndexOutOfBoundsException", Cond.initialized "java/lang/IndexOutOfBoundsException", Cond.methodLink RX3 223 yX1_read, Cond.methodLink RX3 281 yX3_digestOfFamily]
def wsX3_digest_r5 : List Cond := [Cond.instanceMethod yX3_digestOfFamily, Cond.selects RX3 yX3_digestOfFamily yX3_digestOfFamily, Cond.code yX3_digestOfFamily cX3_digestOfFamily 7 (some .long), Cond.methodLink RX3 296 yX3_ofFamily, Cond.instanceMethod yX3_ofFamily, Cond.selects RX3 yX3_ofFamily yX3_ofFamily, Cond.code yX3_ofFamily cX3_ofFamily 3 (some .int), Cond.methodLink RX3 134 yX3_needFamily, Cond.instanceMethod yX3_needFamily, Cond.selects RX3 yX3_needFamily yX3_needFamily, Cond.code yX3_needFamily cX3_needFamily 2 none, Cond.methodLink RX3 299 yX3_rightOf, Cond.instanceMethod yX3_rightOf, Cond.selects RX3 yX3_rightOf yX3_rightOf, Cond.code yX3_rightOf cX3_rightOf 3 (some .int), Cond.fieldLink RX3 139 "SaltRow$Family" "rights" "[I", Cond.methodLink RX3 59 yX3_needPan, Cond.instanceMethod yX3_needPan, Cond.selects RX3 yX3_needPan yX3_needPan, Cond.code yX3_needPan cX3_needPan 2 none, Cond.methodLink RX3 285 yX3_crustIn, Cond.instanceMethod yX3_crustIn, Cond.selects RX3 yX3_crustIn yX3_crustIn, Cond.code yX3_crustIn cX3_crustIn 5 (some .int)]
def wsX3_digest_r6 : List Cond := [Cond.fieldLink RX3 16 "SaltRow" "trial" "LSaltRow$Row;", Cond.fieldLink RX3 258 "SaltRow$Pond" "saltFallen" "I", Cond.methodLink RX3 67 yX3_needWeather, Cond.instanceMethod yX3_needWeather, Cond.selects RX3 yX3_needWeather yX3_needWeather, Cond.code yX3_needWeather cX3_needWeather 3 none, Cond.methodLink RX3 254 yX2_copyFrom, Cond.instanceMethod yX2_copyFrom, Cond.selects RX2 yX2_copyFrom yX2_copyFrom, Cond.code yX2_copyFrom cX2_copyFrom 3 none, Cond.fieldLink RX2 18 "SaltRow$Row" "day" "I", Cond.fieldLink RX2 22 "SaltRow$Row" "sun" "I", Cond.fieldLink RX2 25 "SaltRow$Row" "wind" "I", Cond.fieldLink RX2 28 "SaltRow$Row" "seaSalt" "I", Cond.methodLink RX2 31 yX1_copyFrom, Cond.instanceMethod yX1_copyFrom, Cond.selects RX1 yX1_copyFrom yX1_copyFrom, Cond.code yX1_copyFrom cX1_copyFrom 2 none, Cond.fieldLink RX1 59 "SaltRow$Pond" "saltFallen" "I", Cond.fieldLink RX1 62 "SaltRow$Pond" "isOpen" "Z", Cond.fieldLink RX1 65 "SaltRow$Pond" "isCovered" "Z", Cond.methodLink RX3 75 yX2_letDayGoBy, Cond.instanceMethod yX2_letDayGoBy, Cond.selects RX2 yX2_letDayGoBy yX2_letDayGoBy]
def wsX3_digest_r7 : List Cond := [Cond.code yX2_letDayGoBy cX2_letDayGoBy 6 none, Cond.fieldLink RX2 41 "SaltRow$Pond" "wasHarvested" "Z", Cond.methodLink RX2 35 yX2_letSeaIn, Cond.instanceMethod yX2_letSeaIn, Cond.selects RX2 yX2_letSeaIn yX2_letSeaIn, Cond.code yX2_letSeaIn cX2_letSeaIn 4 none, Cond.fieldLink RX2 69 "SaltRow$Pond" "area" "I", Cond.static yX3_tideAt, Cond.code yX3_tideAt cX3_tideAt 1 (some .int), Cond.methodLink RX3 324 Lib.Math.abs.name, Cond.static Lib.Math.abs.name, Cond.code Lib.Math.abs.name Lib.Math.abs.code 1 (some .int), Cond.methodLink RX2 62 yX1_level, Cond.methodLink RX2 72 yX1_takeIn, Cond.instanceMethod yX1_takeIn, Cond.selects RX1 yX1_takeIn yX1_takeIn, Cond.code yX1_takeIn cX1_takeIn 5 none, Cond.methodLink RX2 38 yX2_letBrineFlowOn, Cond.instanceMethod yX2_letBrineFlowOn, Cond.selects RX2 yX2_letBrineFlowOn yX2_letBrineFlowOn, Cond.code yX2_letBrineFlowOn cX2_letBrineFlowOn 5 none, Cond.methodLink RX2 76 Lib.Math.min.name, Cond.constantLong RX2 82 (2), Cond.methodLink RX2 88 yX1_giveBrine]
def wsX3_digest_r8 : List Cond := [Cond.instanceMethod yX1_giveBrine, Cond.selects RX1 yX1_giveBrine yX1_giveBrine, Cond.code yX1_giveBrine cX1_giveBrine 6 none, Cond.methodLink RX1 68 yX1_takeIn, Cond.methodLink RX2 45 yX1_rainFalls, Cond.instanceMethod yX1_rainFalls, Cond.selects RX1 yX1_rainFalls yX1_rainFalls, Cond.code yX1_rainFalls cX1_rainFalls 2 none, Cond.methodLink RX2 49 yX1_dryOut, Cond.instanceMethod yX1_dryOut, Cond.selects RX1 yX1_dryOut yX1_dryOut, Cond.code yX1_dryOut cX1_dryOut 4 none, Cond.static yX3_roundedUp, Cond.code yX3_roundedUp cX3_roundedUp 2 (some .int), Cond.methodLink RX2 52 yX1_mixFresh, Cond.instanceMethod yX1_mixFresh, Cond.selects RX1 yX1_mixFresh yX1_mixFresh, Cond.code yX1_mixFresh cX1_mixFresh 3 none, Cond.methodLink RX2 55 yX1_dropMinerals, Cond.instanceMethod yX1_dropMinerals, Cond.selects RX1 yX1_dropMinerals yX1_dropMinerals, Cond.code yX1_dropMinerals cX1_dropMinerals 3 none, Cond.methodLink RX1 75 yX1_above, Cond.instanceMethod yX1_above]
def wsX3_digest_r9 : List Cond := [Cond.selects RX1 yX1_above yX1_above, Cond.code yX1_above cX1_above 3 (some .int), Cond.methodLink RX1 78 Lib.MathLoose.max_long.x, Cond.static Lib.MathLoose.max_long.x, Cond.code Lib.MathLoose.max_long.x Lib.MathLoose.max_long.code 4 (some .long), Cond.methodLink RX3 289 yX3_bestGates, Cond.instanceMethod yX3_bestGates, Cond.selects RX3 yX3_bestGates yX3_bestGates, Cond.code yX3_bestGates cX3_bestGates 8 (some .int), Cond.methodLink RX3 263 yX3_saltInPansWith, Cond.instanceMethod yX3_saltInPansWith, Cond.selects RX3 yX3_saltInPansWith yX3_saltInPansWith, Cond.code yX3_saltInPansWith cX3_saltInPansWith 6 (some .int), Cond.methodLink RX3 302 yX2_setGates, Cond.instanceMethod yX2_setGates, Cond.selects RX2 yX2_setGates yX2_setGates, Cond.code yX2_setGates cX2_setGates 3 none, Cond.methodLink RX3 305 yX2_saltInPans, Cond.instanceMethod yX2_saltInPans, Cond.selects RX2 yX2_saltInPans yX2_saltInPans, Cond.code yX2_saltInPans cX2_saltInPans 3 (some .int), Cond.fieldLink RX2 98 "SaltRow$Pond" "salt" "I", Cond.fieldLink RX2 101 "SaltRow$Pond" "crustSalt" "I", Cond.methodLink RX3 292 yX3_tideOn]
def wsX3_digest_r10 : List Cond := [Cond.instanceMethod yX3_tideOn, Cond.selects RX3 yX3_tideOn yX3_tideOn, Cond.code yX3_tideOn cX3_tideOn 5 (some .int), Cond.methodLink RX3 94 yX3_tideAt]
def wsX3_digest : List Cond := .code yX3_digest cX3_digest 5 (some .long) :: ((wsX3_digest_r1 ++ (wsX3_digest_r2 ++ (wsX3_digest_r3 ++ (wsX3_digest_r4 ++ (wsX3_digest_r5 ++ (wsX3_digest_r6 ++ (wsX3_digest_r7 ++ (wsX3_digest_r8 ++ (wsX3_digest_r9 ++ wsX3_digest_r10))))))))) ++ wsX30 ++ wsX20 ++ wsX10 ++ wsX00 ++ (vx_atS RX3 34 "java/lang/IllegalArgumentException" ["java/lang/RuntimeException", "java/lang/Exception"]).filter goodWord ++ (vx_atS RX3 315 "java/lang/IndexOutOfBoundsException" ["java/lang/RuntimeException", "java/lang/Exception"]).filter goodWord)
theorem dX0_init_0 : decode cX0_init 0 = .ok (.aload_n 0, 1) := by decide +kernel
theorem dX0_init_1 : decode cX0_init 1 = .ok (.invokespecial 3, 3) := by decide +kernel
theorem dX0_init_4 : decode cX0_init 4 = .ok (.aload_n 0, 1) := by decide +kernel
theorem dX0_init_5 : decode cX0_init 5 = .ok (.iconst 3, 1) := by decide +kernel
theorem dX0_init_6 : decode cX0_init 6 = .ok (.newarray .int, 2) := by decide +kernel
theorem dX0_init_8 : decode cX0_init 8 = .ok (.putfield 9, 3) := by decide +kernel
theorem dX0_init_11 : decode cX0_init 11 = .ok (.return_, 1) := by decide +kernel
set_option maxRecDepth 20000 in
theorem ggX0_read_X3_purity : GoodIn wsX0_read wsX3_purity := goodIn_r _ [8, 9, 10, 11, 7, 12] (by decide +kernel) (by decide +kernel)
set_option maxRecDepth 20000 in
theorem gX0_read_X3_purity_n22 : GoodIn wsX0_read (wsX3_purity) := ggX0_read_X3_purity
theorem dX0_read_0 : decode cX0_read 0 = .ok (.iload_n 1, 1) := by decide +kernel
theorem dX0_read_1 : decode cX0_read 1 = .ok (.tableswitch 67 0 4 #[35, 40, 45, 57, 62], 35) := by decide +kernel
theorem dX0_read_36 : decode cX0_read 36 = .ok (.aload_n 0, 1) := by decide +kernel
theorem dX0_read_37 : decode cX0_read 37 = .ok (.getfield 15, 3) := by decide +kernel
theorem dX0_read_40 : decode cX0_read 40 = .ok (.ireturn, 1) := by decide +kernel
theorem dX0_read_41 : decode cX0_read 41 = .ok (.aload_n 0, 1) := by decide +kernel
theorem dX0_read_42 : decode cX0_read 42 = .ok (.getfield 19, 3) := by decide +kernel
theorem dX0_read_45 : decode cX0_read 45 = .ok (.ireturn, 1) := by decide +kernel
theorem dX0_read_46 : decode cX0_read 46 = .ok (.aload_n 0, 1) := by decide +kernel
theorem dX0_read_47 : decode cX0_read 47 = .ok (.getfield 15, 3) := by decide +kernel
theorem dX0_read_50 : decode cX0_read 50 = .ok (.aload_n 0, 1) := by decide +kernel
theorem dX0_read_51 : decode cX0_read 51 = .ok (.getfield 19, 3) := by decide +kernel
theorem dX0_read_54 : decode cX0_read 54 = .ok (.invokestatic 22, 3) := by decide +kernel
theorem dX0_read_57 : decode cX0_read 57 = .ok (.ireturn, 1) := by decide +kernel
theorem dX0_read_58 : decode cX0_read 58 = .ok (.aload_n 0, 1) := by decide +kernel
theorem dX0_read_59 : decode cX0_read 59 = .ok (.getfield 26, 3) := by decide +kernel
theorem dX0_read_62 : decode cX0_read 62 = .ok (.ireturn, 1) := by decide +kernel
theorem dX0_read_63 : decode cX0_read 63 = .ok (.aload_n 0, 1) := by decide +kernel
theorem dX0_read_64 : decode cX0_read 64 = .ok (.getfield 29, 3) := by decide +kernel
theorem dX0_read_67 : decode cX0_read 67 = .ok (.ireturn, 1) := by decide +kernel
theorem dX0_read_68 : decode cX0_read 68 = .ok (.aload_n 0, 1) := by decide +kernel
theorem dX0_read_69 : decode cX0_read 69 = .ok (.getfield 32, 3) := by decide +kernel
theorem dX0_read_72 : decode cX0_read 72 = .ok (.ireturn, 1) := by decide +kernel
theorem dX0_getSalt_0 : decode cX0_getSalt 0 = .ok (.aload_n 0, 1) := by decide +kernel
theorem dX0_getSalt_1 : decode cX0_getSalt 1 = .ok (.dup, 1) := by decide +kernel
theorem dX0_getSalt_2 : decode cX0_getSalt 2 = .ok (.getfield 15, 3) := by decide +kernel
theorem dX0_getSalt_5 : decode cX0_getSalt 5 = .ok (.iload_n 1, 1) := by decide +kernel
theorem dX0_getSalt_6 : decode cX0_getSalt 6 = .ok (.iadd, 1) := by decide +kernel
theorem dX0_getSalt_7 : decode cX0_getSalt 7 = .ok (.putfield 15, 3) := by decide +kernel
theorem dX0_getSalt_10 : decode cX0_getSalt 10 = .ok (.aload_n 0, 1) := by decide +kernel
theorem dX0_getSalt_11 : decode cX0_getSalt 11 = .ok (.dup, 1) := by decide +kernel
theorem dX0_getSalt_12 : decode cX0_getSalt 12 = .ok (.getfield 19, 3) := by decide +kernel
theorem dX0_getSalt_15 : decode cX0_getSalt 15 = .ok (.iload_n 2, 1) := by decide +kernel
theorem dX0_getSalt_16 : decode cX0_getSalt 16 = .ok (.iadd, 1) := by decide +kernel
theorem dX0_getSalt_17 : decode cX0_getSalt 17 = .ok (.putfield 19, 3) := by decide +kernel
theorem dX0_getSalt_20 : decode cX0_getSalt 20 = .ok (.aload_n 0, 1) := by decide +kernel
theorem dX0_getSalt_21 : decode cX0_getSalt 21 = .ok (.dup, 1) := by decide +kernel
theorem dX0_getSalt_22 : decode cX0_getSalt 22 = .ok (.getfield 29, 3) := by decide +kernel
theorem dX0_getSalt_25 : decode cX0_getSalt 25 = .ok (.iload_n 1, 1) := by decide +kernel
theorem dX0_getSalt_26 : decode cX0_getSalt 26 = .ok (.iadd, 1) := by decide +kernel
theorem dX0_getSalt_27 : decode cX0_getSalt 27 = .ok (.putfield 29, 3) := by decide +kernel
theorem dX0_getSalt_30 : decode cX0_getSalt 30 = .ok (.return_, 1) := by decide +kernel
theorem dX1_init_0 : decode cX1_init 0 = .ok (.aload_n 0, 1) := by decide +kernel
theorem dX1_init_1 : decode cX1_init 1 = .ok (.invokespecial 3, 3) := by decide +kernel
theorem dX1_init_4 : decode cX1_init 4 = .ok (.aload_n 0, 1) := by decide +kernel
theorem dX1_init_5 : decode cX1_init 5 = .ok (.iconst 3, 1) := by decide +kernel
theorem dX1_init_6 : decode cX1_init 6 = .ok (.putfield 9, 3) := by decide +kernel
theorem dX1_init_9 : decode cX1_init 9 = .ok (.return_, 1) := by decide +kernel
set_option maxRecDepth 20000 in
theorem ggX1_level_X3_portion : GoodIn wsX1_level wsX3_portion := goodIn_r _ [5] (by decide +kernel) (by decide +kernel)
set_option maxRecDepth 20000 in
theorem gX1_level_X3_portion_n18 : GoodIn wsX1_level (wsX3_portion) := ggX1_level_X3_portion
theorem dX1_level_0 : decode cX1_level 0 = .ok (.aload_n 0, 1) := by decide +kernel
theorem dX1_level_1 : decode cX1_level 1 = .ok (.getfield 15, 3) := by decide +kernel
theorem dX1_level_4 : decode cX1_level 4 = .ok (.i2l, 1) := by decide +kernel
theorem dX1_level_5 : decode cX1_level 5 = .ok (.lconst 1, 1) := by decide +kernel
theorem dX1_level_6 : decode cX1_level 6 = .ok (.aload_n 0, 1) := by decide +kernel
theorem dX1_level_7 : decode cX1_level 7 = .ok (.getfield 9, 3) := by decide +kernel
theorem dX1_level_10 : decode cX1_level 10 = .ok (.i2l, 1) := by decide +kernel
theorem dX1_level_11 : decode cX1_level 11 = .ok (.invokestatic 18, 3) := by decide +kernel
theorem dX1_level_14 : decode cX1_level 14 = .ok (.ireturn, 1) := by decide +kernel
set_option maxRecDepth 20000 in
theorem ggX1_strength_X3_portion : GoodIn wsX1_strength wsX3_portion := goodIn_r _ [11] (by decide +kernel) (by decide +kernel)
set_option maxRecDepth 20000 in
theorem gX1_strength_X3_portion_n18 : GoodIn wsX1_strength (wsX3_portion) := ggX1_strength_X3_portion
theorem dX1_strength_0 : decode cX1_strength 0 = .ok (.bipush 90, 2) := by decide +kernel
theorem dX1_strength_2 : decode cX1_strength 2 = .ok (.aload_n 0, 1) := by decide +kernel
theorem dX1_strength_3 : decode cX1_strength 3 = .ok (.getfield 22, 3) := by decide +kernel
theorem dX1_strength_6 : decode cX1_strength 6 = .ok (.i2l, 1) := by decide +kernel
theorem dX1_strength_7 : decode cX1_strength 7 = .ok (.aload_n 0, 1) := by decide +kernel
theorem dX1_strength_8 : decode cX1_strength 8 = .ok (.getfield 25, 3) := by decide +kernel
theorem dX1_strength_11 : decode cX1_strength 11 = .ok (.i2l, 1) := by decide +kernel
theorem dX1_strength_12 : decode cX1_strength 12 = .ok (.ladd, 1) := by decide +kernel
theorem dX1_strength_13 : decode cX1_strength 13 = .ok (.lconst 1, 1) := by decide +kernel
theorem dX1_strength_14 : decode cX1_strength 14 = .ok (.ldc2_w 28, 3) := by decide +kernel
theorem dX1_strength_17 : decode cX1_strength 17 = .ok (.aload_n 0, 1) := by decide +kernel
theorem dX1_strength_18 : decode cX1_strength 18 = .ok (.getfield 15, 3) := by decide +kernel
theorem dX1_strength_21 : decode cX1_strength 21 = .ok (.i2l, 1) := by decide +kernel
theorem dX1_strength_22 : decode cX1_strength 22 = .ok (.lmul, 1) := by decide +kernel
theorem dX1_strength_23 : decode cX1_strength 23 = .ok (.invokestatic 18, 3) := by decide +kernel
theorem dX1_strength_26 : decode cX1_strength 26 = .ok (.invokestatic 30, 3) := by decide +kernel
theorem dX1_strength_29 : decode cX1_strength 29 = .ok (.ireturn, 1) := by decide +kernel
set_option maxRecDepth 20000 in
theorem ggX1_read_X1_level : GoodIn wsX1_read wsX1_level := goodIn_r _ [14, 2, 1, 15, 16, 17, 27, 28, 29, 30, 31, 32, 33, 34, 35, 36, 37, 38] (by decide +kernel) (by decide +kernel)
set_option maxRecDepth 20000 in
theorem gX1_read_X1_level : GoodIn wsX1_read (wsV RX1 48 RX1 yX1_level wsX1_level) := goodIn_app (goodIn_of _ (by decide +kernel)) ggX1_read_X1_level
set_option maxRecDepth 20000 in
theorem ggX1_read_X1_strength : GoodIn wsX1_read wsX1_strength := goodIn_r _ [21, 3, 5, 22, 2, 23, 24, 25, 26, 15, 16, 17, 27, 28, 29, 30, 31, 32, 33, 34, 35, 36, 37, 38] (by decide +kernel) (by decide +kernel)
set_option maxRecDepth 20000 in
theorem gX1_read_X1_strength : GoodIn wsX1_read (wsV RX1 52 RX1 yX1_strength wsX1_strength) := goodIn_app (goodIn_of _ (by decide +kernel)) ggX1_read_X1_strength
theorem dX1_read_0 : decode cX1_read 0 = .ok (.iload_n 1, 1) := by decide +kernel
theorem dX1_read_1 : decode cX1_read 1 = .ok (.tableswitch 105 0 9 #[55, 60, 65, 70, 75, 80, 85, 90, 95, 100], 55) := by decide +kernel
theorem dX1_read_56 : decode cX1_read 56 = .ok (.aload_n 0, 1) := by decide +kernel
theorem dX1_read_57 : decode cX1_read 57 = .ok (.getfield 9, 3) := by decide +kernel
theorem dX1_read_60 : decode cX1_read 60 = .ok (.ireturn, 1) := by decide +kernel
theorem dX1_read_61 : decode cX1_read 61 = .ok (.aload_n 0, 1) := by decide +kernel
theorem dX1_read_62 : decode cX1_read 62 = .ok (.getfield 15, 3) := by decide +kernel
theorem dX1_read_65 : decode cX1_read 65 = .ok (.ireturn, 1) := by decide +kernel
theorem dX1_read_66 : decode cX1_read 66 = .ok (.aload_n 0, 1) := by decide +kernel
theorem dX1_read_67 : decode cX1_read 67 = .ok (.getfield 22, 3) := by decide +kernel
theorem dX1_read_70 : decode cX1_read 70 = .ok (.ireturn, 1) := by decide +kernel
theorem dX1_read_71 : decode cX1_read 71 = .ok (.aload_n 0, 1) := by decide +kernel
theorem dX1_read_72 : decode cX1_read 72 = .ok (.getfield 36, 3) := by decide +kernel
theorem dX1_read_75 : decode cX1_read 75 = .ok (.ireturn, 1) := by decide +kernel
theorem dX1_read_76 : decode cX1_read 76 = .ok (.aload_n 0, 1) := by decide +kernel
theorem dX1_read_77 : decode cX1_read 77 = .ok (.getfield 25, 3) := by decide +kernel
theorem dX1_read_80 : decode cX1_read 80 = .ok (.ireturn, 1) := by decide +kernel
theorem dX1_read_81 : decode cX1_read 81 = .ok (.aload_n 0, 1) := by decide +kernel
theorem dX1_read_82 : decode cX1_read 82 = .ok (.getfield 39, 3) := by decide +kernel
theorem dX1_read_85 : decode cX1_read 85 = .ok (.ireturn, 1) := by decide +kernel
theorem dX1_read_86 : decode cX1_read 86 = .ok (.aload_n 0, 1) := by decide +kernel
theorem dX1_read_87 : decode cX1_read 87 = .ok (.getfield 42, 3) := by decide +kernel
theorem dX1_read_90 : decode cX1_read 90 = .ok (.ireturn, 1) := by decide +kernel
theorem dX1_read_91 : decode cX1_read 91 = .ok (.aload_n 0, 1) := by decide +kernel
theorem dX1_read_92 : decode cX1_read 92 = .ok (.getfield 45, 3) := by decide +kernel
theorem dX1_read_95 : decode cX1_read 95 = .ok (.ireturn, 1) := by decide +kernel
theorem dX1_read_96 : decode cX1_read 96 = .ok (.aload_n 0, 1) := by decide +kernel
theorem dX1_read_97 : decode cX1_read 97 = .ok (.invokevirtual 48, 3) := by decide +kernel
theorem dX1_read_100 : decode cX1_read 100 = .ok (.ireturn, 1) := by decide +kernel
theorem dX1_read_101 : decode cX1_read 101 = .ok (.aload_n 0, 1) := by decide +kernel
theorem dX1_read_102 : decode cX1_read 102 = .ok (.invokevirtual 52, 3) := by decide +kernel
theorem dX1_read_105 : decode cX1_read 105 = .ok (.ireturn, 1) := by decide +kernel
theorem dX1_read_106 : decode cX1_read 106 = .ok (.aload_n 0, 1) := by decide +kernel
theorem dX1_read_107 : decode cX1_read 107 = .ok (.getfield 55, 3) := by decide +kernel
theorem dX1_read_110 : decode cX1_read 110 = .ok (.ifCond .eq 7, 3) := by decide +kernel
theorem dX1_read_113 : decode cX1_read 113 = .ok (.iconst 1, 1) := by decide +kernel
theorem dX1_read_114 : decode cX1_read 114 = .ok (.goto 4, 3) := by decide +kernel
theorem dX1_read_117 : decode cX1_read 117 = .ok (.iconst 0, 1) := by decide +kernel
theorem dX1_read_118 : decode cX1_read 118 = .ok (.ireturn, 1) := by decide +kernel
theorem dX1_copyFrom_0 : decode cX1_copyFrom 0 = .ok (.aload_n 0, 1) := by decide +kernel
theorem dX1_copyFrom_1 : decode cX1_copyFrom 1 = .ok (.aload_n 1, 1) := by decide +kernel
theorem dX1_copyFrom_2 : decode cX1_copyFrom 2 = .ok (.getfield 9, 3) := by decide +kernel
theorem dX1_copyFrom_5 : decode cX1_copyFrom 5 = .ok (.putfield 9, 3) := by decide +kernel
theorem dX1_copyFrom_8 : decode cX1_copyFrom 8 = .ok (.aload_n 0, 1) := by decide +kernel
theorem dX1_copyFrom_9 : decode cX1_copyFrom 9 = .ok (.aload_n 1, 1) := by decide +kernel
theorem dX1_copyFrom_10 : decode cX1_copyFrom 10 = .ok (.getfield 15, 3) := by decide +kernel
theorem dX1_copyFrom_13 : decode cX1_copyFrom 13 = .ok (.putfield 15, 3) := by decide +kernel
theorem dX1_copyFrom_16 : decode cX1_copyFrom 16 = .ok (.aload_n 0, 1) := by decide +kernel
theorem dX1_copyFrom_17 : decode cX1_copyFrom 17 = .ok (.aload_n 1, 1) := by decide +kernel
theorem dX1_copyFrom_18 : decode cX1_copyFrom 18 = .ok (.getfield 22, 3) := by decide +kernel
theorem dX1_copyFrom_21 : decode cX1_copyFrom 21 = .ok (.putfield 22, 3) := by decide +kernel
theorem dX1_copyFrom_24 : decode cX1_copyFrom 24 = .ok (.aload_n 0, 1) := by decide +kernel
theorem dX1_copyFrom_25 : decode cX1_copyFrom 25 = .ok (.aload_n 1, 1) := by decide +kernel
theorem dX1_copyFrom_26 : decode cX1_copyFrom 26 = .ok (.getfield 36, 3) := by decide +kernel
theorem dX1_copyFrom_29 : decode cX1_copyFrom 29 = .ok (.putfield 36, 3) := by decide +kernel
theorem dX1_copyFrom_32 : decode cX1_copyFrom 32 = .ok (.aload_n 0, 1) := by decide +kernel
theorem dX1_copyFrom_33 : decode cX1_copyFrom 33 = .ok (.aload_n 1, 1) := by decide +kernel
theorem dX1_copyFrom_34 : decode cX1_copyFrom 34 = .ok (.getfield 25, 3) := by decide +kernel
theorem dX1_copyFrom_37 : decode cX1_copyFrom 37 = .ok (.putfield 25, 3) := by decide +kernel
theorem dX1_copyFrom_40 : decode cX1_copyFrom 40 = .ok (.aload_n 0, 1) := by decide +kernel
theorem dX1_copyFrom_41 : decode cX1_copyFrom 41 = .ok (.aload_n 1, 1) := by decide +kernel
theorem dX1_copyFrom_42 : decode cX1_copyFrom 42 = .ok (.getfield 39, 3) := by decide +kernel
theorem dX1_copyFrom_45 : decode cX1_copyFrom 45 = .ok (.putfield 39, 3) := by decide +kernel
theorem dX1_copyFrom_48 : decode cX1_copyFrom 48 = .ok (.aload_n 0, 1) := by decide +kernel
theorem dX1_copyFrom_49 : decode cX1_copyFrom 49 = .ok (.aload_n 1, 1) := by decide +kernel
theorem dX1_copyFrom_50 : decode cX1_copyFrom 50 = .ok (.getfield 42, 3) := by decide +kernel
theorem dX1_copyFrom_53 : decode cX1_copyFrom 53 = .ok (.putfield 42, 3) := by decide +kernel
theorem dX1_copyFrom_56 : decode cX1_copyFrom 56 = .ok (.aload_n 0, 1) := by decide +kernel
theorem dX1_copyFrom_57 : decode cX1_copyFrom 57 = .ok (.aload_n 1, 1) := by decide +kernel
theorem dX1_copyFrom_58 : decode cX1_copyFrom 58 = .ok (.getfield 45, 3) := by decide +kernel
theorem dX1_copyFrom_61 : decode cX1_copyFrom 61 = .ok (.putfield 45, 3) := by decide +kernel
theorem dX1_copyFrom_64 : decode cX1_copyFrom 64 = .ok (.aload_n 0, 1) := by decide +kernel
theorem dX1_copyFrom_65 : decode cX1_copyFrom 65 = .ok (.aload_n 1, 1) := by decide +kernel
theorem dX1_copyFrom_66 : decode cX1_copyFrom 66 = .ok (.getfield 59, 3) := by decide +kernel
theorem dX1_copyFrom_69 : decode cX1_copyFrom 69 = .ok (.putfield 59, 3) := by decide +kernel
theorem dX1_copyFrom_72 : decode cX1_copyFrom 72 = .ok (.aload_n 0, 1) := by decide +kernel
theorem dX1_copyFrom_73 : decode cX1_copyFrom 73 = .ok (.aload_n 1, 1) := by decide +kernel
theorem dX1_copyFrom_74 : decode cX1_copyFrom 74 = .ok (.getfield 62, 3) := by decide +kernel
theorem dX1_copyFrom_77 : decode cX1_copyFrom 77 = .ok (.putfield 62, 3) := by decide +kernel
theorem dX1_copyFrom_80 : decode cX1_copyFrom 80 = .ok (.aload_n 0, 1) := by decide +kernel
theorem dX1_copyFrom_81 : decode cX1_copyFrom 81 = .ok (.aload_n 1, 1) := by decide +kernel
theorem dX1_copyFrom_82 : decode cX1_copyFrom 82 = .ok (.getfield 65, 3) := by decide +kernel
theorem dX1_copyFrom_85 : decode cX1_copyFrom 85 = .ok (.putfield 65, 3) := by decide +kernel
theorem dX1_copyFrom_88 : decode cX1_copyFrom 88 = .ok (.aload_n 0, 1) := by decide +kernel
theorem dX1_copyFrom_89 : decode cX1_copyFrom 89 = .ok (.aload_n 1, 1) := by decide +kernel
theorem dX1_copyFrom_90 : decode cX1_copyFrom 90 = .ok (.getfield 55, 3) := by decide +kernel
theorem dX1_copyFrom_93 : decode cX1_copyFrom 93 = .ok (.putfield 55, 3) := by decide +kernel
theorem dX1_copyFrom_96 : decode cX1_copyFrom 96 = .ok (.return_, 1) := by decide +kernel
set_option maxRecDepth 20000 in
theorem ggX1_giveBrine_X3_portion : GoodIn wsX1_giveBrine wsX3_portion := goodIn_r _ [7] (by decide +kernel) (by decide +kernel)
set_option maxRecDepth 20000 in
theorem gX1_giveBrine_X3_portion_n18 : GoodIn wsX1_giveBrine (wsX3_portion) := ggX1_giveBrine_X3_portion
set_option maxRecDepth 20000 in
theorem ggX1_giveBrine_X1_takeIn : GoodIn wsX1_giveBrine wsX1_takeIn := goodIn_r _ [12, 2, 1, 3, 4, 13, 14, 15, 16, 17, 18, 19, 20, 21, 22, 23, 24] (by decide +kernel) (by decide +kernel)
set_option maxRecDepth 20000 in
theorem gX1_giveBrine_X1_takeIn : GoodIn wsX1_giveBrine (wsV RX1 68 RX1 yX1_takeIn wsX1_takeIn) := goodIn_app (goodIn_of _ (by decide +kernel)) ggX1_giveBrine_X1_takeIn
theorem dX1_giveBrine_0 : decode cX1_giveBrine 0 = .ok (.aload_n 0, 1) := by decide +kernel
theorem dX1_giveBrine_1 : decode cX1_giveBrine 1 = .ok (.getfield 22, 3) := by decide +kernel
theorem dX1_giveBrine_4 : decode cX1_giveBrine 4 = .ok (.i2l, 1) := by decide +kernel
theorem dX1_giveBrine_5 : decode cX1_giveBrine 5 = .ok (.iload_n 2, 1) := by decide +kernel
theorem dX1_giveBrine_6 : decode cX1_giveBrine 6 = .ok (.i2l, 1) := by decide +kernel
theorem dX1_giveBrine_7 : decode cX1_giveBrine 7 = .ok (.aload_n 0, 1) := by decide +kernel
theorem dX1_giveBrine_8 : decode cX1_giveBrine 8 = .ok (.getfield 15, 3) := by decide +kernel
theorem dX1_giveBrine_11 : decode cX1_giveBrine 11 = .ok (.i2l, 1) := by decide +kernel
theorem dX1_giveBrine_12 : decode cX1_giveBrine 12 = .ok (.invokestatic 18, 3) := by decide +kernel
theorem dX1_giveBrine_15 : decode cX1_giveBrine 15 = .ok (.istore_n 3, 1) := by decide +kernel
theorem dX1_giveBrine_16 : decode cX1_giveBrine 16 = .ok (.aload_n 0, 1) := by decide +kernel
theorem dX1_giveBrine_17 : decode cX1_giveBrine 17 = .ok (.getfield 36, 3) := by decide +kernel
theorem dX1_giveBrine_20 : decode cX1_giveBrine 20 = .ok (.i2l, 1) := by decide +kernel
theorem dX1_giveBrine_21 : decode cX1_giveBrine 21 = .ok (.iload_n 2, 1) := by decide +kernel
theorem dX1_giveBrine_22 : decode cX1_giveBrine 22 = .ok (.i2l, 1) := by decide +kernel
theorem dX1_giveBrine_23 : decode cX1_giveBrine 23 = .ok (.aload_n 0, 1) := by decide +kernel
theorem dX1_giveBrine_24 : decode cX1_giveBrine 24 = .ok (.getfield 15, 3) := by decide +kernel
theorem dX1_giveBrine_27 : decode cX1_giveBrine 27 = .ok (.i2l, 1) := by decide +kernel
theorem dX1_giveBrine_28 : decode cX1_giveBrine 28 = .ok (.invokestatic 18, 3) := by decide +kernel
theorem dX1_giveBrine_31 : decode cX1_giveBrine 31 = .ok (.istore 4, 2) := by decide +kernel
theorem dX1_giveBrine_33 : decode cX1_giveBrine 33 = .ok (.aload_n 0, 1) := by decide +kernel
theorem dX1_giveBrine_34 : decode cX1_giveBrine 34 = .ok (.getfield 25, 3) := by decide +kernel
theorem dX1_giveBrine_37 : decode cX1_giveBrine 37 = .ok (.i2l, 1) := by decide +kernel
theorem dX1_giveBrine_38 : decode cX1_giveBrine 38 = .ok (.iload_n 2, 1) := by decide +kernel
theorem dX1_giveBrine_39 : decode cX1_giveBrine 39 = .ok (.i2l, 1) := by decide +kernel
theorem dX1_giveBrine_40 : decode cX1_giveBrine 40 = .ok (.aload_n 0, 1) := by decide +kernel
theorem dX1_giveBrine_41 : decode cX1_giveBrine 41 = .ok (.getfield 15, 3) := by decide +kernel
theorem dX1_giveBrine_44 : decode cX1_giveBrine 44 = .ok (.i2l, 1) := by decide +kernel
theorem dX1_giveBrine_45 : decode cX1_giveBrine 45 = .ok (.invokestatic 18, 3) := by decide +kernel
theorem dX1_giveBrine_48 : decode cX1_giveBrine 48 = .ok (.istore 5, 2) := by decide +kernel
theorem dX1_giveBrine_50 : decode cX1_giveBrine 50 = .ok (.aload_n 0, 1) := by decide +kernel
theorem dX1_giveBrine_51 : decode cX1_giveBrine 51 = .ok (.iload_n 2, 1) := by decide +kernel
theorem dX1_giveBrine_52 : decode cX1_giveBrine 52 = .ok (.ineg, 1) := by decide +kernel
theorem dX1_giveBrine_53 : decode cX1_giveBrine 53 = .ok (.iload_n 3, 1) := by decide +kernel
theorem dX1_giveBrine_54 : decode cX1_giveBrine 54 = .ok (.ineg, 1) := by decide +kernel
theorem dX1_giveBrine_55 : decode cX1_giveBrine 55 = .ok (.iload 4, 2) := by decide +kernel
theorem dX1_giveBrine_57 : decode cX1_giveBrine 57 = .ok (.ineg, 1) := by decide +kernel
theorem dX1_giveBrine_58 : decode cX1_giveBrine 58 = .ok (.iload 5, 2) := by decide +kernel
theorem dX1_giveBrine_60 : decode cX1_giveBrine 60 = .ok (.ineg, 1) := by decide +kernel
theorem dX1_giveBrine_61 : decode cX1_giveBrine 61 = .ok (.invokevirtual 68, 3) := by decide +kernel
theorem dX1_giveBrine_64 : decode cX1_giveBrine 64 = .ok (.aload_n 1, 1) := by decide +kernel
theorem dX1_giveBrine_65 : decode cX1_giveBrine 65 = .ok (.iload_n 2, 1) := by decide +kernel
theorem dX1_giveBrine_66 : decode cX1_giveBrine 66 = .ok (.iload_n 3, 1) := by decide +kernel
theorem dX1_giveBrine_67 : decode cX1_giveBrine 67 = .ok (.iload 4, 2) := by decide +kernel
theorem dX1_giveBrine_69 : decode cX1_giveBrine 69 = .ok (.iload 5, 2) := by decide +kernel
theorem dX1_giveBrine_71 : decode cX1_giveBrine 71 = .ok (.invokevirtual 68, 3) := by decide +kernel
theorem dX1_giveBrine_74 : decode cX1_giveBrine 74 = .ok (.return_, 1) := by decide +kernel
theorem dX1_takeIn_0 : decode cX1_takeIn 0 = .ok (.aload_n 0, 1) := by decide +kernel
theorem dX1_takeIn_1 : decode cX1_takeIn 1 = .ok (.dup, 1) := by decide +kernel
theorem dX1_takeIn_2 : decode cX1_takeIn 2 = .ok (.getfield 15, 3) := by decide +kernel
theorem dX1_takeIn_5 : decode cX1_takeIn 5 = .ok (.iload_n 1, 1) := by decide +kernel
theorem dX1_takeIn_6 : decode cX1_takeIn 6 = .ok (.iadd, 1) := by decide +kernel
theorem dX1_takeIn_7 : decode cX1_takeIn 7 = .ok (.putfield 15, 3) := by decide +kernel
theorem dX1_takeIn_10 : decode cX1_takeIn 10 = .ok (.aload_n 0, 1) := by decide +kernel
theorem dX1_takeIn_11 : decode cX1_takeIn 11 = .ok (.dup, 1) := by decide +kernel
theorem dX1_takeIn_12 : decode cX1_takeIn 12 = .ok (.getfield 22, 3) := by decide +kernel
theorem dX1_takeIn_15 : decode cX1_takeIn 15 = .ok (.iload_n 2, 1) := by decide +kernel
theorem dX1_takeIn_16 : decode cX1_takeIn 16 = .ok (.iadd, 1) := by decide +kernel
theorem dX1_takeIn_17 : decode cX1_takeIn 17 = .ok (.putfield 22, 3) := by decide +kernel
theorem dX1_takeIn_20 : decode cX1_takeIn 20 = .ok (.aload_n 0, 1) := by decide +kernel
theorem dX1_takeIn_21 : decode cX1_takeIn 21 = .ok (.dup, 1) := by decide +kernel
theorem dX1_takeIn_22 : decode cX1_takeIn 22 = .ok (.getfield 36, 3) := by decide +kernel
theorem dX1_takeIn_25 : decode cX1_takeIn 25 = .ok (.iload_n 3, 1) := by decide +kernel
theorem dX1_takeIn_26 : decode cX1_takeIn 26 = .ok (.iadd, 1) := by decide +kernel
theorem dX1_takeIn_27 : decode cX1_takeIn 27 = .ok (.putfield 36, 3) := by decide +kernel
theorem dX1_takeIn_30 : decode cX1_takeIn 30 = .ok (.aload_n 0, 1) := by decide +kernel
theorem dX1_takeIn_31 : decode cX1_takeIn 31 = .ok (.dup, 1) := by decide +kernel
theorem dX1_takeIn_32 : decode cX1_takeIn 32 = .ok (.getfield 25, 3) := by decide +kernel
theorem dX1_takeIn_35 : decode cX1_takeIn 35 = .ok (.iload 4, 2) := by decide +kernel
theorem dX1_takeIn_37 : decode cX1_takeIn 37 = .ok (.iadd, 1) := by decide +kernel
theorem dX1_takeIn_38 : decode cX1_takeIn 38 = .ok (.putfield 25, 3) := by decide +kernel
theorem dX1_takeIn_41 : decode cX1_takeIn 41 = .ok (.return_, 1) := by decide +kernel
theorem dX1_rainFalls_0 : decode cX1_rainFalls 0 = .ok (.aload_n 0, 1) := by decide +kernel
theorem dX1_rainFalls_1 : decode cX1_rainFalls 1 = .ok (.getfield 65, 3) := by decide +kernel
theorem dX1_rainFalls_4 : decode cX1_rainFalls 4 = .ok (.ifCond .ne 21, 3) := by decide +kernel
theorem dX1_rainFalls_7 : decode cX1_rainFalls 7 = .ok (.aload_n 0, 1) := by decide +kernel
theorem dX1_rainFalls_8 : decode cX1_rainFalls 8 = .ok (.dup, 1) := by decide +kernel
theorem dX1_rainFalls_9 : decode cX1_rainFalls 9 = .ok (.getfield 39, 3) := by decide +kernel
theorem dX1_rainFalls_12 : decode cX1_rainFalls 12 = .ok (.iload_n 1, 1) := by decide +kernel
theorem dX1_rainFalls_13 : decode cX1_rainFalls 13 = .ok (.aload_n 0, 1) := by decide +kernel
theorem dX1_rainFalls_14 : decode cX1_rainFalls 14 = .ok (.getfield 9, 3) := by decide +kernel
theorem dX1_rainFalls_17 : decode cX1_rainFalls 17 = .ok (.imul, 1) := by decide +kernel
theorem dX1_rainFalls_18 : decode cX1_rainFalls 18 = .ok (.bipush 10, 2) := by decide +kernel
theorem dX1_rainFalls_20 : decode cX1_rainFalls 20 = .ok (.idiv, 1) := by decide +kernel
theorem dX1_rainFalls_21 : decode cX1_rainFalls 21 = .ok (.iadd, 1) := by decide +kernel
theorem dX1_rainFalls_22 : decode cX1_rainFalls 22 = .ok (.putfield 39, 3) := by decide +kernel
theorem dX1_rainFalls_25 : decode cX1_rainFalls 25 = .ok (.return_, 1) := by decide +kernel
set_option maxRecDepth 20000 in
theorem ggX1_dryOut_X1_strength : GoodIn wsX1_dryOut wsX1_strength := goodIn_r _ [12, 13, 14, 15, 7, 3, 4, 5, 6, 16, 17, 18, 21, 22, 23, 24, 25, 26, 27, 28, 29, 30, 31, 32] (by decide +kernel) (by decide +kernel)
set_option maxRecDepth 20000 in
theorem gX1_dryOut_X1_strength : GoodIn wsX1_dryOut (wsV RX1 52 RX1 yX1_strength wsX1_strength) := goodIn_app (goodIn_of _ (by decide +kernel)) ggX1_dryOut_X1_strength
set_option maxRecDepth 20000 in
theorem ggX1_dryOut_X3_roundedUp : GoodIn wsX1_dryOut wsX3_roundedUp := goodIn_r _ [20] (by decide +kernel) (by decide +kernel)
set_option maxRecDepth 20000 in
theorem gX1_dryOut_X3_roundedUp_n72 : GoodIn wsX1_dryOut (wsX3_roundedUp) := ggX1_dryOut_X3_roundedUp
theorem dX1_dryOut_0 : decode cX1_dryOut 0 = .ok (.aload_n 0, 1) := by decide +kernel
theorem dX1_dryOut_1 : decode cX1_dryOut 1 = .ok (.getfield 9, 3) := by decide +kernel
theorem dX1_dryOut_4 : decode cX1_dryOut 4 = .ok (.iload_n 1, 1) := by decide +kernel
theorem dX1_dryOut_5 : decode cX1_dryOut 5 = .ok (.imul, 1) := by decide +kernel
theorem dX1_dryOut_6 : decode cX1_dryOut 6 = .ok (.istore_n 2, 1) := by decide +kernel
theorem dX1_dryOut_7 : decode cX1_dryOut 7 = .ok (.aload_n 0, 1) := by decide +kernel
theorem dX1_dryOut_8 : decode cX1_dryOut 8 = .ok (.getfield 39, 3) := by decide +kernel
theorem dX1_dryOut_11 : decode cX1_dryOut 11 = .ok (.iload_n 2, 1) := by decide +kernel
theorem dX1_dryOut_12 : decode cX1_dryOut 12 = .ok (.bipush 10, 2) := by decide +kernel
theorem dX1_dryOut_14 : decode cX1_dryOut 14 = .ok (.idiv, 1) := by decide +kernel
theorem dX1_dryOut_15 : decode cX1_dryOut 15 = .ok (.invokestatic 30, 3) := by decide +kernel
theorem dX1_dryOut_18 : decode cX1_dryOut 18 = .ok (.istore_n 3, 1) := by decide +kernel
theorem dX1_dryOut_19 : decode cX1_dryOut 19 = .ok (.aload_n 0, 1) := by decide +kernel
theorem dX1_dryOut_20 : decode cX1_dryOut 20 = .ok (.dup, 1) := by decide +kernel
theorem dX1_dryOut_21 : decode cX1_dryOut 21 = .ok (.getfield 39, 3) := by decide +kernel
theorem dX1_dryOut_24 : decode cX1_dryOut 24 = .ok (.iload_n 3, 1) := by decide +kernel
theorem dX1_dryOut_25 : decode cX1_dryOut 25 = .ok (.isub, 1) := by decide +kernel
theorem dX1_dryOut_26 : decode cX1_dryOut 26 = .ok (.putfield 39, 3) := by decide +kernel
theorem dX1_dryOut_29 : decode cX1_dryOut 29 = .ok (.iload_n 2, 1) := by decide +kernel
theorem dX1_dryOut_30 : decode cX1_dryOut 30 = .ok (.bipush 10, 2) := by decide +kernel
theorem dX1_dryOut_32 : decode cX1_dryOut 32 = .ok (.iload_n 3, 1) := by decide +kernel
theorem dX1_dryOut_33 : decode cX1_dryOut 33 = .ok (.imul, 1) := by decide +kernel
theorem dX1_dryOut_34 : decode cX1_dryOut 34 = .ok (.isub, 1) := by decide +kernel
theorem dX1_dryOut_35 : decode cX1_dryOut 35 = .ok (.istore_n 2, 1) := by decide +kernel
theorem dX1_dryOut_36 : decode cX1_dryOut 36 = .ok (.aload_n 0, 1) := by decide +kernel
theorem dX1_dryOut_37 : decode cX1_dryOut 37 = .ok (.dup, 1) := by decide +kernel
theorem dX1_dryOut_38 : decode cX1_dryOut 38 = .ok (.getfield 15, 3) := by decide +kernel
theorem dX1_dryOut_41 : decode cX1_dryOut 41 = .ok (.aload_n 0, 1) := by decide +kernel
theorem dX1_dryOut_42 : decode cX1_dryOut 42 = .ok (.getfield 15, 3) := by decide +kernel
theorem dX1_dryOut_45 : decode cX1_dryOut 45 = .ok (.iconst 2, 1) := by decide +kernel
theorem dX1_dryOut_46 : decode cX1_dryOut 46 = .ok (.idiv, 1) := by decide +kernel
theorem dX1_dryOut_47 : decode cX1_dryOut 47 = .ok (.iload_n 2, 1) := by decide +kernel
theorem dX1_dryOut_48 : decode cX1_dryOut 48 = .ok (.bipush 100, 2) := by decide +kernel
theorem dX1_dryOut_50 : decode cX1_dryOut 50 = .ok (.aload_n 0, 1) := by decide +kernel
theorem dX1_dryOut_51 : decode cX1_dryOut 51 = .ok (.invokevirtual 52, 3) := by decide +kernel
theorem dX1_dryOut_54 : decode cX1_dryOut 54 = .ok (.isub, 1) := by decide +kernel
theorem dX1_dryOut_55 : decode cX1_dryOut 55 = .ok (.imul, 1) := by decide +kernel
theorem dX1_dryOut_56 : decode cX1_dryOut 56 = .ok (.sipush 1000, 3) := by decide +kernel
theorem dX1_dryOut_59 : decode cX1_dryOut 59 = .ok (.invokestatic 72, 3) := by decide +kernel
theorem dX1_dryOut_62 : decode cX1_dryOut 62 = .ok (.invokestatic 30, 3) := by decide +kernel
theorem dX1_dryOut_65 : decode cX1_dryOut 65 = .ok (.isub, 1) := by decide +kernel
theorem dX1_dryOut_66 : decode cX1_dryOut 66 = .ok (.putfield 15, 3) := by decide +kernel
theorem dX1_dryOut_69 : decode cX1_dryOut 69 = .ok (.return_, 1) := by decide +kernel
set_option maxRecDepth 20000 in
theorem ggX1_mixFresh_X3_roundedUp : GoodIn wsX1_mixFresh wsX3_roundedUp := goodIn_r _ [11] (by decide +kernel) (by decide +kernel)
set_option maxRecDepth 20000 in
theorem gX1_mixFresh_X3_roundedUp_n72 : GoodIn wsX1_mixFresh (wsX3_roundedUp) := ggX1_mixFresh_X3_roundedUp
theorem dX1_mixFresh_0 : decode cX1_mixFresh 0 = .ok (.aload_n 0, 1) := by decide +kernel
theorem dX1_mixFresh_1 : decode cX1_mixFresh 1 = .ok (.getfield 39, 3) := by decide +kernel
theorem dX1_mixFresh_4 : decode cX1_mixFresh 4 = .ok (.iconst 2, 1) := by decide +kernel
theorem dX1_mixFresh_5 : decode cX1_mixFresh 5 = .ok (.invokestatic 72, 3) := by decide +kernel
theorem dX1_mixFresh_8 : decode cX1_mixFresh 8 = .ok (.istore_n 1, 1) := by decide +kernel
theorem dX1_mixFresh_9 : decode cX1_mixFresh 9 = .ok (.aload_n 0, 1) := by decide +kernel
theorem dX1_mixFresh_10 : decode cX1_mixFresh 10 = .ok (.getfield 42, 3) := by decide +kernel
theorem dX1_mixFresh_13 : decode cX1_mixFresh 13 = .ok (.iconst 4, 1) := by decide +kernel
theorem dX1_mixFresh_14 : decode cX1_mixFresh 14 = .ok (.iload_n 1, 1) := by decide +kernel
theorem dX1_mixFresh_15 : decode cX1_mixFresh 15 = .ok (.imul, 1) := by decide +kernel
theorem dX1_mixFresh_16 : decode cX1_mixFresh 16 = .ok (.invokestatic 30, 3) := by decide +kernel
theorem dX1_mixFresh_19 : decode cX1_mixFresh 19 = .ok (.istore_n 2, 1) := by decide +kernel
theorem dX1_mixFresh_20 : decode cX1_mixFresh 20 = .ok (.aload_n 0, 1) := by decide +kernel
theorem dX1_mixFresh_21 : decode cX1_mixFresh 21 = .ok (.dup, 1) := by decide +kernel
theorem dX1_mixFresh_22 : decode cX1_mixFresh 22 = .ok (.getfield 39, 3) := by decide +kernel
theorem dX1_mixFresh_25 : decode cX1_mixFresh 25 = .ok (.iload_n 1, 1) := by decide +kernel
theorem dX1_mixFresh_26 : decode cX1_mixFresh 26 = .ok (.isub, 1) := by decide +kernel
theorem dX1_mixFresh_27 : decode cX1_mixFresh 27 = .ok (.putfield 39, 3) := by decide +kernel
theorem dX1_mixFresh_30 : decode cX1_mixFresh 30 = .ok (.aload_n 0, 1) := by decide +kernel
theorem dX1_mixFresh_31 : decode cX1_mixFresh 31 = .ok (.dup, 1) := by decide +kernel
theorem dX1_mixFresh_32 : decode cX1_mixFresh 32 = .ok (.getfield 15, 3) := by decide +kernel
theorem dX1_mixFresh_35 : decode cX1_mixFresh 35 = .ok (.iload_n 1, 1) := by decide +kernel
theorem dX1_mixFresh_36 : decode cX1_mixFresh 36 = .ok (.iadd, 1) := by decide +kernel
theorem dX1_mixFresh_37 : decode cX1_mixFresh 37 = .ok (.putfield 15, 3) := by decide +kernel
theorem dX1_mixFresh_40 : decode cX1_mixFresh 40 = .ok (.aload_n 0, 1) := by decide +kernel
theorem dX1_mixFresh_41 : decode cX1_mixFresh 41 = .ok (.dup, 1) := by decide +kernel
theorem dX1_mixFresh_42 : decode cX1_mixFresh 42 = .ok (.getfield 42, 3) := by decide +kernel
theorem dX1_mixFresh_45 : decode cX1_mixFresh 45 = .ok (.iload_n 2, 1) := by decide +kernel
theorem dX1_mixFresh_46 : decode cX1_mixFresh 46 = .ok (.isub, 1) := by decide +kernel
theorem dX1_mixFresh_47 : decode cX1_mixFresh 47 = .ok (.putfield 42, 3) := by decide +kernel
theorem dX1_mixFresh_50 : decode cX1_mixFresh 50 = .ok (.aload_n 0, 1) := by decide +kernel
theorem dX1_mixFresh_51 : decode cX1_mixFresh 51 = .ok (.dup, 1) := by decide +kernel
theorem dX1_mixFresh_52 : decode cX1_mixFresh 52 = .ok (.getfield 22, 3) := by decide +kernel
theorem dX1_mixFresh_55 : decode cX1_mixFresh 55 = .ok (.iload_n 2, 1) := by decide +kernel
theorem dX1_mixFresh_56 : decode cX1_mixFresh 56 = .ok (.iadd, 1) := by decide +kernel
theorem dX1_mixFresh_57 : decode cX1_mixFresh 57 = .ok (.putfield 22, 3) := by decide +kernel
theorem dX1_mixFresh_60 : decode cX1_mixFresh 60 = .ok (.return_, 1) := by decide +kernel
set_option maxRecDepth 20000 in
theorem ggX1_dropMinerals_X1_above : GoodIn wsX1_dropMinerals wsX1_above := goodIn_r _ [11, 12, 13, 14, 15, 16, 17, 18, 19, 20, 21, 22, 23, 24, 25, 26, 27, 28] (by decide +kernel) (by decide +kernel)
set_option maxRecDepth 20000 in
theorem gX1_dropMinerals_X1_above : GoodIn wsX1_dropMinerals (wsV RX1 75 RX1 yX1_above wsX1_above) := goodIn_app (goodIn_of _ (by decide +kernel)) ggX1_dropMinerals_X1_above
theorem dX1_dropMinerals_0 : decode cX1_dropMinerals 0 = .ok (.aload_n 0, 1) := by decide +kernel
theorem dX1_dropMinerals_1 : decode cX1_dropMinerals 1 = .ok (.aload_n 0, 1) := by decide +kernel
theorem dX1_dropMinerals_2 : decode cX1_dropMinerals 2 = .ok (.getfield 36, 3) := by decide +kernel
theorem dX1_dropMinerals_5 : decode cX1_dropMinerals 5 = .ok (.bipush 8, 2) := by decide +kernel
theorem dX1_dropMinerals_7 : decode cX1_dropMinerals 7 = .ok (.invokevirtual 75, 3) := by decide +kernel
theorem dX1_dropMinerals_10 : decode cX1_dropMinerals 10 = .ok (.istore_n 1, 1) := by decide +kernel
theorem dX1_dropMinerals_11 : decode cX1_dropMinerals 11 = .ok (.aload_n 0, 1) := by decide +kernel
theorem dX1_dropMinerals_12 : decode cX1_dropMinerals 12 = .ok (.aload_n 0, 1) := by decide +kernel
theorem dX1_dropMinerals_13 : decode cX1_dropMinerals 13 = .ok (.getfield 25, 3) := by decide +kernel
theorem dX1_dropMinerals_16 : decode cX1_dropMinerals 16 = .ok (.sipush 200, 3) := by decide +kernel
theorem dX1_dropMinerals_19 : decode cX1_dropMinerals 19 = .ok (.invokevirtual 75, 3) := by decide +kernel
theorem dX1_dropMinerals_22 : decode cX1_dropMinerals 22 = .ok (.istore_n 2, 1) := by decide +kernel
theorem dX1_dropMinerals_23 : decode cX1_dropMinerals 23 = .ok (.aload_n 0, 1) := by decide +kernel
theorem dX1_dropMinerals_24 : decode cX1_dropMinerals 24 = .ok (.aload_n 0, 1) := by decide +kernel
theorem dX1_dropMinerals_25 : decode cX1_dropMinerals 25 = .ok (.aload_n 0, 1) := by decide +kernel
theorem dX1_dropMinerals_26 : decode cX1_dropMinerals 26 = .ok (.getfield 22, 3) := by decide +kernel
theorem dX1_dropMinerals_29 : decode cX1_dropMinerals 29 = .ok (.sipush 300, 3) := by decide +kernel
theorem dX1_dropMinerals_32 : decode cX1_dropMinerals 32 = .ok (.invokevirtual 75, 3) := by decide +kernel
theorem dX1_dropMinerals_35 : decode cX1_dropMinerals 35 = .ok (.putfield 59, 3) := by decide +kernel
theorem dX1_dropMinerals_38 : decode cX1_dropMinerals 38 = .ok (.aload_n 0, 1) := by decide +kernel
theorem dX1_dropMinerals_39 : decode cX1_dropMinerals 39 = .ok (.dup, 1) := by decide +kernel
theorem dX1_dropMinerals_40 : decode cX1_dropMinerals 40 = .ok (.getfield 36, 3) := by decide +kernel
theorem dX1_dropMinerals_43 : decode cX1_dropMinerals 43 = .ok (.iload_n 1, 1) := by decide +kernel
theorem dX1_dropMinerals_44 : decode cX1_dropMinerals 44 = .ok (.isub, 1) := by decide +kernel
theorem dX1_dropMinerals_45 : decode cX1_dropMinerals 45 = .ok (.putfield 36, 3) := by decide +kernel
theorem dX1_dropMinerals_48 : decode cX1_dropMinerals 48 = .ok (.aload_n 0, 1) := by decide +kernel
theorem dX1_dropMinerals_49 : decode cX1_dropMinerals 49 = .ok (.dup, 1) := by decide +kernel
theorem dX1_dropMinerals_50 : decode cX1_dropMinerals 50 = .ok (.getfield 22, 3) := by decide +kernel
theorem dX1_dropMinerals_53 : decode cX1_dropMinerals 53 = .ok (.aload_n 0, 1) := by decide +kernel
theorem dX1_dropMinerals_54 : decode cX1_dropMinerals 54 = .ok (.getfield 59, 3) := by decide +kernel
theorem dX1_dropMinerals_57 : decode cX1_dropMinerals 57 = .ok (.isub, 1) := by decide +kernel
theorem dX1_dropMinerals_58 : decode cX1_dropMinerals 58 = .ok (.putfield 22, 3) := by decide +kernel
theorem dX1_dropMinerals_61 : decode cX1_dropMinerals 61 = .ok (.aload_n 0, 1) := by decide +kernel
theorem dX1_dropMinerals_62 : decode cX1_dropMinerals 62 = .ok (.dup, 1) := by decide +kernel
theorem dX1_dropMinerals_63 : decode cX1_dropMinerals 63 = .ok (.getfield 25, 3) := by decide +kernel
theorem dX1_dropMinerals_66 : decode cX1_dropMinerals 66 = .ok (.iload_n 2, 1) := by decide +kernel
theorem dX1_dropMinerals_67 : decode cX1_dropMinerals 67 = .ok (.isub, 1) := by decide +kernel
theorem dX1_dropMinerals_68 : decode cX1_dropMinerals 68 = .ok (.putfield 25, 3) := by decide +kernel
theorem dX1_dropMinerals_71 : decode cX1_dropMinerals 71 = .ok (.aload_n 0, 1) := by decide +kernel
theorem dX1_dropMinerals_72 : decode cX1_dropMinerals 72 = .ok (.dup, 1) := by decide +kernel
theorem dX1_dropMinerals_73 : decode cX1_dropMinerals 73 = .ok (.getfield 42, 3) := by decide +kernel
theorem dX1_dropMinerals_76 : decode cX1_dropMinerals 76 = .ok (.aload_n 0, 1) := by decide +kernel
theorem dX1_dropMinerals_77 : decode cX1_dropMinerals 77 = .ok (.getfield 59, 3) := by decide +kernel
theorem dX1_dropMinerals_80 : decode cX1_dropMinerals 80 = .ok (.iadd, 1) := by decide +kernel
theorem dX1_dropMinerals_81 : decode cX1_dropMinerals 81 = .ok (.putfield 42, 3) := by decide +kernel
theorem dX1_dropMinerals_84 : decode cX1_dropMinerals 84 = .ok (.aload_n 0, 1) := by decide +kernel
theorem dX1_dropMinerals_85 : decode cX1_dropMinerals 85 = .ok (.dup, 1) := by decide +kernel
theorem dX1_dropMinerals_86 : decode cX1_dropMinerals 86 = .ok (.getfield 45, 3) := by decide +kernel
theorem dX1_dropMinerals_89 : decode cX1_dropMinerals 89 = .ok (.iload_n 1, 1) := by decide +kernel
theorem dX1_dropMinerals_90 : decode cX1_dropMinerals 90 = .ok (.iload_n 2, 1) := by decide +kernel
theorem dX1_dropMinerals_91 : decode cX1_dropMinerals 91 = .ok (.iadd, 1) := by decide +kernel
theorem dX1_dropMinerals_92 : decode cX1_dropMinerals 92 = .ok (.iadd, 1) := by decide +kernel
theorem dX1_dropMinerals_93 : decode cX1_dropMinerals 93 = .ok (.putfield 45, 3) := by decide +kernel
theorem dX1_dropMinerals_96 : decode cX1_dropMinerals 96 = .ok (.return_, 1) := by decide +kernel
theorem dX1_above_0 : decode cX1_above 0 = .ok (.lconst 0, 1) := by decide +kernel
theorem dX1_above_1 : decode cX1_above 1 = .ok (.iload_n 1, 1) := by decide +kernel
theorem dX1_above_2 : decode cX1_above 2 = .ok (.i2l, 1) := by decide +kernel
theorem dX1_above_3 : decode cX1_above 3 = .ok (.iload_n 2, 1) := by decide +kernel
theorem dX1_above_4 : decode cX1_above 4 = .ok (.i2l, 1) := by decide +kernel
theorem dX1_above_5 : decode cX1_above 5 = .ok (.aload_n 0, 1) := by decide +kernel
theorem dX1_above_6 : decode cX1_above 6 = .ok (.getfield 15, 3) := by decide +kernel
theorem dX1_above_9 : decode cX1_above 9 = .ok (.i2l, 1) := by decide +kernel
theorem dX1_above_10 : decode cX1_above 10 = .ok (.lmul, 1) := by decide +kernel
theorem dX1_above_11 : decode cX1_above 11 = .ok (.lsub, 1) := by decide +kernel
theorem dX1_above_12 : decode cX1_above 12 = .ok (.invokestatic 78, 3) := by decide +kernel
theorem dX1_above_15 : decode cX1_above 15 = .ok (.l2i, 1) := by decide +kernel
theorem dX1_above_16 : decode cX1_above 16 = .ok (.ireturn, 1) := by decide +kernel
theorem dX1_canBeHarvested_0 : decode cX1_canBeHarvested 0 = .ok (.aload_n 0, 1) := by decide +kernel
theorem dX1_canBeHarvested_1 : decode cX1_canBeHarvested 1 = .ok (.getfield 42, 3) := by decide +kernel
theorem dX1_canBeHarvested_4 : decode cX1_canBeHarvested 4 = .ok (.ifCond .le 14, 3) := by decide +kernel
theorem dX1_canBeHarvested_7 : decode cX1_canBeHarvested 7 = .ok (.aload_n 0, 1) := by decide +kernel
theorem dX1_canBeHarvested_8 : decode cX1_canBeHarvested 8 = .ok (.getfield 55, 3) := by decide +kernel
theorem dX1_canBeHarvested_11 : decode cX1_canBeHarvested 11 = .ok (.ifCond .ne 7, 3) := by decide +kernel
theorem dX1_canBeHarvested_14 : decode cX1_canBeHarvested 14 = .ok (.iconst 1, 1) := by decide +kernel
theorem dX1_canBeHarvested_15 : decode cX1_canBeHarvested 15 = .ok (.goto 4, 3) := by decide +kernel
theorem dX1_canBeHarvested_18 : decode cX1_canBeHarvested 18 = .ok (.iconst 0, 1) := by decide +kernel
theorem dX1_canBeHarvested_19 : decode cX1_canBeHarvested 19 = .ok (.ireturn, 1) := by decide +kernel
theorem dX1_saltOfHarvest_0 : decode cX1_saltOfHarvest 0 = .ok (.iload_n 1, 1) := by decide +kernel
theorem dX1_saltOfHarvest_1 : decode cX1_saltOfHarvest 1 = .ok (.ifCond .eq 10, 3) := by decide +kernel
theorem dX1_saltOfHarvest_4 : decode cX1_saltOfHarvest 4 = .ok (.aload_n 0, 1) := by decide +kernel
theorem dX1_saltOfHarvest_5 : decode cX1_saltOfHarvest 5 = .ok (.getfield 42, 3) := by decide +kernel
theorem dX1_saltOfHarvest_8 : decode cX1_saltOfHarvest 8 = .ok (.goto 18, 3) := by decide +kernel
theorem dX1_saltOfHarvest_11 : decode cX1_saltOfHarvest 11 = .ok (.aload_n 0, 1) := by decide +kernel
theorem dX1_saltOfHarvest_12 : decode cX1_saltOfHarvest 12 = .ok (.getfield 42, 3) := by decide +kernel
theorem dX1_saltOfHarvest_15 : decode cX1_saltOfHarvest 15 = .ok (.sipush 200, 3) := by decide +kernel
theorem dX1_saltOfHarvest_18 : decode cX1_saltOfHarvest 18 = .ok (.aload_n 0, 1) := by decide +kernel
theorem dX1_saltOfHarvest_19 : decode cX1_saltOfHarvest 19 = .ok (.getfield 9, 3) := by decide +kernel
theorem dX1_saltOfHarvest_22 : decode cX1_saltOfHarvest 22 = .ok (.imul, 1) := by decide +kernel
theorem dX1_saltOfHarvest_23 : decode cX1_saltOfHarvest 23 = .ok (.invokestatic 30, 3) := by decide +kernel
theorem dX1_saltOfHarvest_26 : decode cX1_saltOfHarvest 26 = .ok (.ireturn, 1) := by decide +kernel
set_option maxRecDepth 20000 in
theorem ggX1_dirtOfCrustWith_X3_portion : GoodIn wsX1_dirtOfCrustWith wsX3_portion := goodIn_r _ [5] (by decide +kernel) (by decide +kernel)
set_option maxRecDepth 20000 in
theorem gX1_dirtOfCrustWith_X3_portion_n18 : GoodIn wsX1_dirtOfCrustWith (wsX3_portion) := ggX1_dirtOfCrustWith_X3_portion
theorem dX1_dirtOfCrustWith_0 : decode cX1_dirtOfCrustWith 0 = .ok (.aload_n 0, 1) := by decide +kernel
theorem dX1_dirtOfCrustWith_1 : decode cX1_dirtOfCrustWith 1 = .ok (.getfield 45, 3) := by decide +kernel
theorem dX1_dirtOfCrustWith_4 : decode cX1_dirtOfCrustWith 4 = .ok (.i2l, 1) := by decide +kernel
theorem dX1_dirtOfCrustWith_5 : decode cX1_dirtOfCrustWith 5 = .ok (.iload_n 1, 1) := by decide +kernel
theorem dX1_dirtOfCrustWith_6 : decode cX1_dirtOfCrustWith 6 = .ok (.i2l, 1) := by decide +kernel
theorem dX1_dirtOfCrustWith_7 : decode cX1_dirtOfCrustWith 7 = .ok (.aload_n 0, 1) := by decide +kernel
theorem dX1_dirtOfCrustWith_8 : decode cX1_dirtOfCrustWith 8 = .ok (.getfield 42, 3) := by decide +kernel
theorem dX1_dirtOfCrustWith_11 : decode cX1_dirtOfCrustWith 11 = .ok (.i2l, 1) := by decide +kernel
theorem dX1_dirtOfCrustWith_12 : decode cX1_dirtOfCrustWith 12 = .ok (.invokestatic 18, 3) := by decide +kernel
theorem dX1_dirtOfCrustWith_15 : decode cX1_dirtOfCrustWith 15 = .ok (.ireturn, 1) := by decide +kernel
theorem dX1_dirtOfFloor_0 : decode cX1_dirtOfFloor 0 = .ok (.iload_n 1, 1) := by decide +kernel
theorem dX1_dirtOfFloor_1 : decode cX1_dirtOfFloor 1 = .ok (.ifCond .eq 13, 3) := by decide +kernel
theorem dX1_dirtOfFloor_4 : decode cX1_dirtOfFloor 4 = .ok (.bipush 10, 2) := by decide +kernel
theorem dX1_dirtOfFloor_6 : decode cX1_dirtOfFloor 6 = .ok (.aload_n 0, 1) := by decide +kernel
theorem dX1_dirtOfFloor_7 : decode cX1_dirtOfFloor 7 = .ok (.getfield 9, 3) := by decide +kernel
theorem dX1_dirtOfFloor_10 : decode cX1_dirtOfFloor 10 = .ok (.imul, 1) := by decide +kernel
theorem dX1_dirtOfFloor_11 : decode cX1_dirtOfFloor 11 = .ok (.goto 4, 3) := by decide +kernel
theorem dX1_dirtOfFloor_14 : decode cX1_dirtOfFloor 14 = .ok (.iconst 0, 1) := by decide +kernel
theorem dX1_dirtOfFloor_15 : decode cX1_dirtOfFloor 15 = .ok (.ireturn, 1) := by decide +kernel
set_option maxRecDepth 20000 in
theorem ggX2_init_X1_init : GoodIn wsX2_init wsX1_init := goodIn_r _ [9, 10, 2, 3, 11, 17, 18, 19, 20, 21, 22, 23, 24, 25, 26, 27, 28] (by decide +kernel) (by decide +kernel)
set_option maxRecDepth 20000 in
theorem gX2_init_X1_init_n17 : GoodIn wsX2_init (wsX1_init) := ggX2_init_X1_init
theorem dX2_init_0 : decode cX2_init 0 = .ok (.aload_n 0, 1) := by decide +kernel
theorem dX2_init_1 : decode cX2_init 1 = .ok (.invokespecial 3, 3) := by decide +kernel
theorem dX2_init_4 : decode cX2_init 4 = .ok (.aload_n 0, 1) := by decide +kernel
theorem dX2_init_5 : decode cX2_init 5 = .ok (.bipush 8, 2) := by decide +kernel
theorem dX2_init_7 : decode cX2_init 7 = .ok (.anewarray 9, 3) := by decide +kernel
theorem dX2_init_10 : decode cX2_init 10 = .ok (.putfield 11, 3) := by decide +kernel
theorem dX2_init_13 : decode cX2_init 13 = .ok (.iconst 0, 1) := by decide +kernel
theorem dX2_init_14 : decode cX2_init 14 = .ok (.istore_n 1, 1) := by decide +kernel
theorem dX2_init_15 : decode cX2_init 15 = .ok (.iload_n 1, 1) := by decide +kernel
theorem dX2_init_16 : decode cX2_init 16 = .ok (.aload_n 0, 1) := by decide +kernel
theorem dX2_init_17 : decode cX2_init 17 = .ok (.getfield 11, 3) := by decide +kernel
theorem dX2_init_20 : decode cX2_init 20 = .ok (.arraylength, 1) := by decide +kernel
theorem dX2_init_21 : decode cX2_init 21 = .ok (.if_icmp .ge 22, 3) := by decide +kernel
theorem dX2_init_24 : decode cX2_init 24 = .ok (.aload_n 0, 1) := by decide +kernel
theorem dX2_init_25 : decode cX2_init 25 = .ok (.getfield 11, 3) := by decide +kernel
theorem dX2_init_28 : decode cX2_init 28 = .ok (.iload_n 1, 1) := by decide +kernel
theorem dX2_init_29 : decode cX2_init 29 = .ok (.new 9, 3) := by decide +kernel
theorem dX2_init_32 : decode cX2_init 32 = .ok (.dup, 1) := by decide +kernel
theorem dX2_init_33 : decode cX2_init 33 = .ok (.invokespecial 17, 3) := by decide +kernel
theorem dX2_init_36 : decode cX2_init 36 = .ok (.aastore, 1) := by decide +kernel
theorem dX2_init_37 : decode cX2_init 37 = .ok (.iinc 1 1, 3) := by decide +kernel
theorem dX2_init_40 : decode cX2_init 40 = .ok (.goto (-25), 3) := by decide +kernel
theorem dX2_init_43 : decode cX2_init 43 = .ok (.return_, 1) := by decide +kernel
set_option maxRecDepth 20000 in
theorem ggX2_copyFrom_X1_copyFrom : GoodIn wsX2_copyFrom wsX1_copyFrom := goodIn_r _ [10, 11, 12, 13, 14, 15, 16, 17, 18, 19, 20, 21, 22, 28, 29, 30, 31, 32, 33, 34, 35, 36, 37, 38, 39] (by decide +kernel) (by decide +kernel)
set_option maxRecDepth 20000 in
theorem gX2_copyFrom_X1_copyFrom : GoodIn wsX2_copyFrom (wsV RX2 31 RX1 yX1_copyFrom wsX1_copyFrom) := goodIn_app (goodIn_of _ (by decide +kernel)) ggX2_copyFrom_X1_copyFrom
theorem dX2_copyFrom_0 : decode cX2_copyFrom 0 = .ok (.aload_n 0, 1) := by decide +kernel
theorem dX2_copyFrom_1 : decode cX2_copyFrom 1 = .ok (.aload_n 1, 1) := by decide +kernel
theorem dX2_copyFrom_2 : decode cX2_copyFrom 2 = .ok (.getfield 18, 3) := by decide +kernel
theorem dX2_copyFrom_5 : decode cX2_copyFrom 5 = .ok (.putfield 18, 3) := by decide +kernel
theorem dX2_copyFrom_8 : decode cX2_copyFrom 8 = .ok (.aload_n 0, 1) := by decide +kernel
theorem dX2_copyFrom_9 : decode cX2_copyFrom 9 = .ok (.aload_n 1, 1) := by decide +kernel
theorem dX2_copyFrom_10 : decode cX2_copyFrom 10 = .ok (.getfield 22, 3) := by decide +kernel
theorem dX2_copyFrom_13 : decode cX2_copyFrom 13 = .ok (.putfield 22, 3) := by decide +kernel
theorem dX2_copyFrom_16 : decode cX2_copyFrom 16 = .ok (.aload_n 0, 1) := by decide +kernel
theorem dX2_copyFrom_17 : decode cX2_copyFrom 17 = .ok (.aload_n 1, 1) := by decide +kernel
theorem dX2_copyFrom_18 : decode cX2_copyFrom 18 = .ok (.getfield 25, 3) := by decide +kernel
theorem dX2_copyFrom_21 : decode cX2_copyFrom 21 = .ok (.putfield 25, 3) := by decide +kernel
theorem dX2_copyFrom_24 : decode cX2_copyFrom 24 = .ok (.aload_n 0, 1) := by decide +kernel
theorem dX2_copyFrom_25 : decode cX2_copyFrom 25 = .ok (.aload_n 1, 1) := by decide +kernel
theorem dX2_copyFrom_26 : decode cX2_copyFrom 26 = .ok (.getfield 28, 3) := by decide +kernel
theorem dX2_copyFrom_29 : decode cX2_copyFrom 29 = .ok (.putfield 28, 3) := by decide +kernel
theorem dX2_copyFrom_32 : decode cX2_copyFrom 32 = .ok (.iconst 0, 1) := by decide +kernel
theorem dX2_copyFrom_33 : decode cX2_copyFrom 33 = .ok (.istore_n 2, 1) := by decide +kernel
theorem dX2_copyFrom_34 : decode cX2_copyFrom 34 = .ok (.iload_n 2, 1) := by decide +kernel
theorem dX2_copyFrom_35 : decode cX2_copyFrom 35 = .ok (.bipush 8, 2) := by decide +kernel
theorem dX2_copyFrom_37 : decode cX2_copyFrom 37 = .ok (.if_icmp .ge 24, 3) := by decide +kernel
theorem dX2_copyFrom_40 : decode cX2_copyFrom 40 = .ok (.aload_n 0, 1) := by decide +kernel
theorem dX2_copyFrom_41 : decode cX2_copyFrom 41 = .ok (.getfield 11, 3) := by decide +kernel
theorem dX2_copyFrom_44 : decode cX2_copyFrom 44 = .ok (.iload_n 2, 1) := by decide +kernel
theorem dX2_copyFrom_45 : decode cX2_copyFrom 45 = .ok (.aaload, 1) := by decide +kernel
theorem dX2_copyFrom_46 : decode cX2_copyFrom 46 = .ok (.aload_n 1, 1) := by decide +kernel
theorem dX2_copyFrom_47 : decode cX2_copyFrom 47 = .ok (.getfield 11, 3) := by decide +kernel
theorem dX2_copyFrom_50 : decode cX2_copyFrom 50 = .ok (.iload_n 2, 1) := by decide +kernel
theorem dX2_copyFrom_51 : decode cX2_copyFrom 51 = .ok (.aaload, 1) := by decide +kernel
theorem dX2_copyFrom_52 : decode cX2_copyFrom 52 = .ok (.invokevirtual 31, 3) := by decide +kernel
theorem dX2_copyFrom_55 : decode cX2_copyFrom 55 = .ok (.iinc 2 1, 3) := by decide +kernel
theorem dX2_copyFrom_58 : decode cX2_copyFrom 58 = .ok (.goto (-24), 3) := by decide +kernel
theorem dX2_copyFrom_61 : decode cX2_copyFrom 61 = .ok (.return_, 1) := by decide +kernel
set_option maxRecDepth 20000 in
theorem ggX2_letDayGoBy_X2_letSeaIn : GoodIn wsX2_letDayGoBy wsX2_letSeaIn := goodIn_r _ [10, 4, 1, 11, 12, 13, 14, 15, 16, 17, 18, 19, 20, 21, 22, 23, 24, 25, 26, 27, 28, 29, 30, 31, 32, 33, 34, 35, 36, 86, 87, 88, 89, 90, 91, 92, 93, 94, 95, 96, 97, 98, 99, 100, 101, 102] (by decide +kernel) (by decide +kernel)
set_option maxRecDepth 20000 in
theorem gX2_letDayGoBy_X2_letSeaIn : GoodIn wsX2_letDayGoBy (wsV RX2 35 RX2 yX2_letSeaIn wsX2_letSeaIn) := goodIn_app (goodIn_of _ (by decide +kernel)) ggX2_letDayGoBy_X2_letSeaIn
set_option maxRecDepth 20000 in
theorem ggX2_letDayGoBy_X2_letBrineFlowOn : GoodIn wsX2_letDayGoBy wsX2_letBrineFlowOn := goodIn_r _ [40, 4, 11, 12, 41, 42, 19, 43, 44, 21, 22, 23, 24, 25, 26, 27, 28, 15, 29, 45, 46, 47, 48, 34, 35, 36, 49, 31, 32, 33, 86, 87, 88, 89, 90, 91, 92, 93, 94, 95, 96, 97, 98, 99, 100, 101, 102] (by decide +kernel) (by decide +kernel)
set_option maxRecDepth 20000 in
theorem gX2_letDayGoBy_X2_letBrineFlowOn : GoodIn wsX2_letDayGoBy (wsV RX2 38 RX2 yX2_letBrineFlowOn wsX2_letBrineFlowOn) := goodIn_app (goodIn_of _ (by decide +kernel)) ggX2_letDayGoBy_X2_letBrineFlowOn
set_option maxRecDepth 20000 in
theorem ggX2_letDayGoBy_X1_rainFalls : GoodIn wsX2_letDayGoBy wsX1_rainFalls := goodIn_r _ [53, 54, 55, 27, 91, 92, 93, 94, 95, 96, 97, 98, 99, 100, 101, 102] (by decide +kernel) (by decide +kernel)
set_option maxRecDepth 20000 in
theorem gX2_letDayGoBy_X1_rainFalls : GoodIn wsX2_letDayGoBy (wsV RX2 45 RX1 yX1_rainFalls wsX1_rainFalls) := goodIn_app (goodIn_of _ (by decide +kernel)) ggX2_letDayGoBy_X1_rainFalls
set_option maxRecDepth 20000 in
theorem ggX2_letDayGoBy_X1_dryOut : GoodIn wsX2_letDayGoBy wsX1_dryOut := goodIn_r _ [59, 27, 55, 60, 42, 19, 43, 26, 61, 62, 63, 24, 64, 34, 36, 65, 28, 15, 29, 66, 67, 91, 92, 93, 94, 95, 96, 97, 98, 99, 100, 101, 102] (by decide +kernel) (by decide +kernel)
set_option maxRecDepth 20000 in
theorem gX2_letDayGoBy_X1_dryOut : GoodIn wsX2_letDayGoBy (wsV RX2 49 RX1 yX1_dryOut wsX1_dryOut) := goodIn_app (goodIn_of _ (by decide +kernel)) ggX2_letDayGoBy_X1_dryOut
set_option maxRecDepth 20000 in
theorem ggX2_letDayGoBy_X1_mixFresh : GoodIn wsX2_letDayGoBy wsX1_mixFresh := goodIn_r _ [71, 55, 72, 60, 42, 19, 43, 26, 34, 66, 15, 67, 91, 92, 93, 94, 95, 96, 97, 98, 99, 100, 101, 102] (by decide +kernel) (by decide +kernel)
set_option maxRecDepth 20000 in
theorem gX2_letDayGoBy_X1_mixFresh : GoodIn wsX2_letDayGoBy (wsV RX2 52 RX1 yX1_mixFresh wsX1_mixFresh) := goodIn_app (goodIn_of _ (by decide +kernel)) ggX2_letDayGoBy_X1_mixFresh
set_option maxRecDepth 20000 in
theorem ggX2_letDayGoBy_X1_dropMinerals : GoodIn wsX2_letDayGoBy wsX1_dropMinerals := goodIn_r _ [76, 35, 36, 34, 77, 72, 78, 79, 80, 81, 24, 82, 26, 83, 84, 19, 85, 91, 92, 93, 94, 95, 96, 97, 98, 99, 100, 101, 102] (by decide +kernel) (by decide +kernel)
set_option maxRecDepth 20000 in
theorem gX2_letDayGoBy_X1_dropMinerals : GoodIn wsX2_letDayGoBy (wsV RX2 55 RX1 yX1_dropMinerals wsX1_dropMinerals) := goodIn_app (goodIn_of _ (by decide +kernel)) ggX2_letDayGoBy_X1_dropMinerals
theorem dX2_letDayGoBy_0 : decode cX2_letDayGoBy 0 = .ok (.aload_n 0, 1) := by decide +kernel
theorem dX2_letDayGoBy_1 : decode cX2_letDayGoBy 1 = .ok (.dup, 1) := by decide +kernel
theorem dX2_letDayGoBy_2 : decode cX2_letDayGoBy 2 = .ok (.getfield 18, 3) := by decide +kernel
theorem dX2_letDayGoBy_5 : decode cX2_letDayGoBy 5 = .ok (.iconst 1, 1) := by decide +kernel
theorem dX2_letDayGoBy_6 : decode cX2_letDayGoBy 6 = .ok (.iadd, 1) := by decide +kernel
theorem dX2_letDayGoBy_7 : decode cX2_letDayGoBy 7 = .ok (.putfield 18, 3) := by decide +kernel
theorem dX2_letDayGoBy_10 : decode cX2_letDayGoBy 10 = .ok (.aload_n 0, 1) := by decide +kernel
theorem dX2_letDayGoBy_11 : decode cX2_letDayGoBy 11 = .ok (.iload_n 1, 1) := by decide +kernel
theorem dX2_letDayGoBy_12 : decode cX2_letDayGoBy 12 = .ok (.putfield 22, 3) := by decide +kernel
theorem dX2_letDayGoBy_15 : decode cX2_letDayGoBy 15 = .ok (.aload_n 0, 1) := by decide +kernel
theorem dX2_letDayGoBy_16 : decode cX2_letDayGoBy 16 = .ok (.iload_n 2, 1) := by decide +kernel
theorem dX2_letDayGoBy_17 : decode cX2_letDayGoBy 17 = .ok (.putfield 25, 3) := by decide +kernel
theorem dX2_letDayGoBy_20 : decode cX2_letDayGoBy 20 = .ok (.aload_n 0, 1) := by decide +kernel
theorem dX2_letDayGoBy_21 : decode cX2_letDayGoBy 21 = .ok (.invokevirtual 35, 3) := by decide +kernel
theorem dX2_letDayGoBy_24 : decode cX2_letDayGoBy 24 = .ok (.aload_n 0, 1) := by decide +kernel
theorem dX2_letDayGoBy_25 : decode cX2_letDayGoBy 25 = .ok (.invokevirtual 38, 3) := by decide +kernel
theorem dX2_letDayGoBy_28 : decode cX2_letDayGoBy 28 = .ok (.iconst 0, 1) := by decide +kernel
theorem dX2_letDayGoBy_29 : decode cX2_letDayGoBy 29 = .ok (.istore 4, 2) := by decide +kernel
theorem dX2_letDayGoBy_31 : decode cX2_letDayGoBy 31 = .ok (.iload 4, 2) := by decide +kernel
theorem dX2_letDayGoBy_33 : decode cX2_letDayGoBy 33 = .ok (.bipush 8, 2) := by decide +kernel
theorem dX2_letDayGoBy_35 : decode cX2_letDayGoBy 35 = .ok (.if_icmp .ge 54, 3) := by decide +kernel
theorem dX2_letDayGoBy_38 : decode cX2_letDayGoBy 38 = .ok (.aload_n 0, 1) := by decide +kernel
theorem dX2_letDayGoBy_39 : decode cX2_letDayGoBy 39 = .ok (.getfield 11, 3) := by decide +kernel
theorem dX2_letDayGoBy_42 : decode cX2_letDayGoBy 42 = .ok (.iload 4, 2) := by decide +kernel
theorem dX2_letDayGoBy_44 : decode cX2_letDayGoBy 44 = .ok (.aaload, 1) := by decide +kernel
theorem dX2_letDayGoBy_45 : decode cX2_letDayGoBy 45 = .ok (.astore 5, 2) := by decide +kernel
theorem dX2_letDayGoBy_47 : decode cX2_letDayGoBy 47 = .ok (.aload 5, 2) := by decide +kernel
theorem dX2_letDayGoBy_49 : decode cX2_letDayGoBy 49 = .ok (.iconst 0, 1) := by decide +kernel
theorem dX2_letDayGoBy_50 : decode cX2_letDayGoBy 50 = .ok (.putfield 41, 3) := by decide +kernel
theorem dX2_letDayGoBy_53 : decode cX2_letDayGoBy 53 = .ok (.aload 5, 2) := by decide +kernel
theorem dX2_letDayGoBy_55 : decode cX2_letDayGoBy 55 = .ok (.iload_n 3, 1) := by decide +kernel
theorem dX2_letDayGoBy_56 : decode cX2_letDayGoBy 56 = .ok (.invokevirtual 45, 3) := by decide +kernel
theorem dX2_letDayGoBy_59 : decode cX2_letDayGoBy 59 = .ok (.aload 5, 2) := by decide +kernel
theorem dX2_letDayGoBy_61 : decode cX2_letDayGoBy 61 = .ok (.aload_n 0, 1) := by decide +kernel
theorem dX2_letDayGoBy_62 : decode cX2_letDayGoBy 62 = .ok (.getfield 22, 3) := by decide +kernel
theorem dX2_letDayGoBy_65 : decode cX2_letDayGoBy 65 = .ok (.aload_n 0, 1) := by decide +kernel
theorem dX2_letDayGoBy_66 : decode cX2_letDayGoBy 66 = .ok (.getfield 25, 3) := by decide +kernel
theorem dX2_letDayGoBy_69 : decode cX2_letDayGoBy 69 = .ok (.iadd, 1) := by decide +kernel
theorem dX2_letDayGoBy_70 : decode cX2_letDayGoBy 70 = .ok (.invokevirtual 49, 3) := by decide +kernel
theorem dX2_letDayGoBy_73 : decode cX2_letDayGoBy 73 = .ok (.aload 5, 2) := by decide +kernel
theorem dX2_letDayGoBy_75 : decode cX2_letDayGoBy 75 = .ok (.invokevirtual 52, 3) := by decide +kernel
theorem dX2_letDayGoBy_78 : decode cX2_letDayGoBy 78 = .ok (.aload 5, 2) := by decide +kernel
theorem dX2_letDayGoBy_80 : decode cX2_letDayGoBy 80 = .ok (.invokevirtual 55, 3) := by decide +kernel
theorem dX2_letDayGoBy_83 : decode cX2_letDayGoBy 83 = .ok (.iinc 4 1, 3) := by decide +kernel
theorem dX2_letDayGoBy_86 : decode cX2_letDayGoBy 86 = .ok (.goto (-55), 3) := by decide +kernel
theorem dX2_letDayGoBy_89 : decode cX2_letDayGoBy 89 = .ok (.return_, 1) := by decide +kernel
set_option maxRecDepth 20000 in
theorem ggX2_letSeaIn_X3_tideAt : GoodIn wsX2_letSeaIn wsX3_tideAt := goodIn_r _ [8, 9, 10, 11, 12] (by decide +kernel) (by decide +kernel)
set_option maxRecDepth 20000 in
theorem gX2_letSeaIn_X3_tideAt_n58 : GoodIn wsX2_letSeaIn (wsX3_tideAt) := ggX2_letSeaIn_X3_tideAt
set_option maxRecDepth 20000 in
theorem ggX2_letSeaIn_X1_level : GoodIn wsX2_letSeaIn wsX1_level := goodIn_r _ [17, 18, 19, 20, 7, 21, 34, 35, 36, 37, 38, 39, 40, 41, 42, 43, 44, 45] (by decide +kernel) (by decide +kernel)
set_option maxRecDepth 20000 in
theorem gX2_letSeaIn_X1_level : GoodIn wsX2_letSeaIn (wsV RX2 62 RX1 yX1_level wsX1_level) := goodIn_app (goodIn_of _ (by decide +kernel)) ggX2_letSeaIn_X1_level
set_option maxRecDepth 20000 in
theorem ggX2_letSeaIn_X1_takeIn : GoodIn wsX2_letSeaIn wsX1_takeIn := goodIn_r _ [25, 18, 26, 27, 28, 34, 35, 36, 37, 38, 39, 40, 41, 42, 43, 44, 45] (by decide +kernel) (by decide +kernel)
set_option maxRecDepth 20000 in
theorem gX2_letSeaIn_X1_takeIn : GoodIn wsX2_letSeaIn (wsV RX2 72 RX1 yX1_takeIn wsX1_takeIn) := goodIn_app (goodIn_of _ (by decide +kernel)) ggX2_letSeaIn_X1_takeIn
theorem dX2_letSeaIn_0 : decode cX2_letSeaIn 0 = .ok (.aload_n 0, 1) := by decide +kernel
theorem dX2_letSeaIn_1 : decode cX2_letSeaIn 1 = .ok (.getfield 11, 3) := by decide +kernel
theorem dX2_letSeaIn_4 : decode cX2_letSeaIn 4 = .ok (.iconst 0, 1) := by decide +kernel
theorem dX2_letSeaIn_5 : decode cX2_letSeaIn 5 = .ok (.aaload, 1) := by decide +kernel
theorem dX2_letSeaIn_6 : decode cX2_letSeaIn 6 = .ok (.astore_n 1, 1) := by decide +kernel
theorem dX2_letSeaIn_7 : decode cX2_letSeaIn 7 = .ok (.bipush 10, 2) := by decide +kernel
theorem dX2_letSeaIn_9 : decode cX2_letSeaIn 9 = .ok (.aload_n 0, 1) := by decide +kernel
theorem dX2_letSeaIn_10 : decode cX2_letSeaIn 10 = .ok (.getfield 18, 3) := by decide +kernel
theorem dX2_letSeaIn_13 : decode cX2_letSeaIn 13 = .ok (.invokestatic 58, 3) := by decide +kernel
theorem dX2_letSeaIn_16 : decode cX2_letSeaIn 16 = .ok (.imul, 1) := by decide +kernel
theorem dX2_letSeaIn_17 : decode cX2_letSeaIn 17 = .ok (.aload_n 1, 1) := by decide +kernel
theorem dX2_letSeaIn_18 : decode cX2_letSeaIn 18 = .ok (.invokevirtual 62, 3) := by decide +kernel
theorem dX2_letSeaIn_21 : decode cX2_letSeaIn 21 = .ok (.isub, 1) := by decide +kernel
theorem dX2_letSeaIn_22 : decode cX2_letSeaIn 22 = .ok (.istore_n 2, 1) := by decide +kernel
theorem dX2_letSeaIn_23 : decode cX2_letSeaIn 23 = .ok (.aload_n 1, 1) := by decide +kernel
theorem dX2_letSeaIn_24 : decode cX2_letSeaIn 24 = .ok (.getfield 66, 3) := by decide +kernel
theorem dX2_letSeaIn_27 : decode cX2_letSeaIn 27 = .ok (.ifCond .eq 45, 3) := by decide +kernel
theorem dX2_letSeaIn_30 : decode cX2_letSeaIn 30 = .ok (.iload_n 2, 1) := by decide +kernel
theorem dX2_letSeaIn_31 : decode cX2_letSeaIn 31 = .ok (.ifCond .le 41, 3) := by decide +kernel
theorem dX2_letSeaIn_34 : decode cX2_letSeaIn 34 = .ok (.iload_n 2, 1) := by decide +kernel
theorem dX2_letSeaIn_35 : decode cX2_letSeaIn 35 = .ok (.aload_n 1, 1) := by decide +kernel
theorem dX2_letSeaIn_36 : decode cX2_letSeaIn 36 = .ok (.getfield 69, 3) := by decide +kernel
theorem dX2_letSeaIn_39 : decode cX2_letSeaIn 39 = .ok (.imul, 1) := by decide +kernel
theorem dX2_letSeaIn_40 : decode cX2_letSeaIn 40 = .ok (.iconst 4, 1) := by decide +kernel
theorem dX2_letSeaIn_41 : decode cX2_letSeaIn 41 = .ok (.idiv, 1) := by decide +kernel
theorem dX2_letSeaIn_42 : decode cX2_letSeaIn 42 = .ok (.istore_n 3, 1) := by decide +kernel
theorem dX2_letSeaIn_43 : decode cX2_letSeaIn 43 = .ok (.aload_n 1, 1) := by decide +kernel
theorem dX2_letSeaIn_44 : decode cX2_letSeaIn 44 = .ok (.iload_n 3, 1) := by decide +kernel
theorem dX2_letSeaIn_45 : decode cX2_letSeaIn 45 = .ok (.bipush 30, 2) := by decide +kernel
theorem dX2_letSeaIn_47 : decode cX2_letSeaIn 47 = .ok (.iload_n 3, 1) := by decide +kernel
theorem dX2_letSeaIn_48 : decode cX2_letSeaIn 48 = .ok (.imul, 1) := by decide +kernel
theorem dX2_letSeaIn_49 : decode cX2_letSeaIn 49 = .ok (.iconst 2, 1) := by decide +kernel
theorem dX2_letSeaIn_50 : decode cX2_letSeaIn 50 = .ok (.iload_n 3, 1) := by decide +kernel
theorem dX2_letSeaIn_51 : decode cX2_letSeaIn 51 = .ok (.imul, 1) := by decide +kernel
theorem dX2_letSeaIn_52 : decode cX2_letSeaIn 52 = .ok (.bipush 6, 2) := by decide +kernel
theorem dX2_letSeaIn_54 : decode cX2_letSeaIn 54 = .ok (.iload_n 3, 1) := by decide +kernel
theorem dX2_letSeaIn_55 : decode cX2_letSeaIn 55 = .ok (.imul, 1) := by decide +kernel
theorem dX2_letSeaIn_56 : decode cX2_letSeaIn 56 = .ok (.invokevirtual 72, 3) := by decide +kernel
theorem dX2_letSeaIn_59 : decode cX2_letSeaIn 59 = .ok (.aload_n 0, 1) := by decide +kernel
theorem dX2_letSeaIn_60 : decode cX2_letSeaIn 60 = .ok (.dup, 1) := by decide +kernel
theorem dX2_letSeaIn_61 : decode cX2_letSeaIn 61 = .ok (.getfield 28, 3) := by decide +kernel
theorem dX2_letSeaIn_64 : decode cX2_letSeaIn 64 = .ok (.bipush 30, 2) := by decide +kernel
theorem dX2_letSeaIn_66 : decode cX2_letSeaIn 66 = .ok (.iload_n 3, 1) := by decide +kernel
theorem dX2_letSeaIn_67 : decode cX2_letSeaIn 67 = .ok (.imul, 1) := by decide +kernel
theorem dX2_letSeaIn_68 : decode cX2_letSeaIn 68 = .ok (.iadd, 1) := by decide +kernel
theorem dX2_letSeaIn_69 : decode cX2_letSeaIn 69 = .ok (.putfield 28, 3) := by decide +kernel
theorem dX2_letSeaIn_72 : decode cX2_letSeaIn 72 = .ok (.return_, 1) := by decide +kernel
set_option maxRecDepth 20000 in
theorem ggX2_letBrineFlowOn_X1_level : GoodIn wsX2_letBrineFlowOn wsX1_level := goodIn_r _ [13, 14, 15, 16, 17, 18, 35, 36, 37, 38, 39, 40, 41, 42, 43, 44, 45, 46] (by decide +kernel) (by decide +kernel)
set_option maxRecDepth 20000 in
theorem gX2_letBrineFlowOn_X1_level : GoodIn wsX2_letBrineFlowOn (wsV RX2 62 RX1 yX1_level wsX1_level) := goodIn_app (goodIn_of _ (by decide +kernel)) ggX2_letBrineFlowOn_X1_level
set_option maxRecDepth 20000 in
theorem ggX2_letBrineFlowOn_X3_portion : GoodIn wsX2_letBrineFlowOn wsX3_portion := goodIn_r _ [18] (by decide +kernel) (by decide +kernel)
set_option maxRecDepth 20000 in
theorem gX2_letBrineFlowOn_X3_portion_n84 : GoodIn wsX2_letBrineFlowOn (wsX3_portion) := ggX2_letBrineFlowOn_X3_portion
set_option maxRecDepth 20000 in
theorem ggX2_letBrineFlowOn_X1_giveBrine : GoodIn wsX2_letBrineFlowOn wsX1_giveBrine := goodIn_r _ [22, 23, 14, 24, 25, 16, 17, 18, 26, 27, 28, 12, 29, 35, 36, 37, 38, 39, 40, 41, 42, 43, 44, 45, 46] (by decide +kernel) (by decide +kernel)
set_option maxRecDepth 20000 in
theorem gX2_letBrineFlowOn_X1_giveBrine : GoodIn wsX2_letBrineFlowOn (wsV RX2 88 RX1 yX1_giveBrine wsX1_giveBrine) := goodIn_app (goodIn_of _ (by decide +kernel)) ggX2_letBrineFlowOn_X1_giveBrine
theorem dX2_letBrineFlowOn_0 : decode cX2_letBrineFlowOn 0 = .ok (.bipush 7, 2) := by decide +kernel
theorem dX2_letBrineFlowOn_2 : decode cX2_letBrineFlowOn 2 = .ok (.istore_n 1, 1) := by decide +kernel
theorem dX2_letBrineFlowOn_3 : decode cX2_letBrineFlowOn 3 = .ok (.iload_n 1, 1) := by decide +kernel
theorem dX2_letBrineFlowOn_4 : decode cX2_letBrineFlowOn 4 = .ok (.ifCond .le 74, 3) := by decide +kernel
theorem dX2_letBrineFlowOn_7 : decode cX2_letBrineFlowOn 7 = .ok (.aload_n 0, 1) := by decide +kernel
theorem dX2_letBrineFlowOn_8 : decode cX2_letBrineFlowOn 8 = .ok (.getfield 11, 3) := by decide +kernel
theorem dX2_letBrineFlowOn_11 : decode cX2_letBrineFlowOn 11 = .ok (.iload_n 1, 1) := by decide +kernel
theorem dX2_letBrineFlowOn_12 : decode cX2_letBrineFlowOn 12 = .ok (.iconst 1, 1) := by decide +kernel
theorem dX2_letBrineFlowOn_13 : decode cX2_letBrineFlowOn 13 = .ok (.isub, 1) := by decide +kernel
theorem dX2_letBrineFlowOn_14 : decode cX2_letBrineFlowOn 14 = .ok (.aaload, 1) := by decide +kernel
theorem dX2_letBrineFlowOn_15 : decode cX2_letBrineFlowOn 15 = .ok (.astore_n 2, 1) := by decide +kernel
theorem dX2_letBrineFlowOn_16 : decode cX2_letBrineFlowOn 16 = .ok (.aload_n 0, 1) := by decide +kernel
theorem dX2_letBrineFlowOn_17 : decode cX2_letBrineFlowOn 17 = .ok (.getfield 11, 3) := by decide +kernel
theorem dX2_letBrineFlowOn_20 : decode cX2_letBrineFlowOn 20 = .ok (.iload_n 1, 1) := by decide +kernel
theorem dX2_letBrineFlowOn_21 : decode cX2_letBrineFlowOn 21 = .ok (.aaload, 1) := by decide +kernel
theorem dX2_letBrineFlowOn_22 : decode cX2_letBrineFlowOn 22 = .ok (.astore_n 3, 1) := by decide +kernel
theorem dX2_letBrineFlowOn_23 : decode cX2_letBrineFlowOn 23 = .ok (.aload_n 2, 1) := by decide +kernel
theorem dX2_letBrineFlowOn_24 : decode cX2_letBrineFlowOn 24 = .ok (.invokevirtual 62, 3) := by decide +kernel
theorem dX2_letBrineFlowOn_27 : decode cX2_letBrineFlowOn 27 = .ok (.aload_n 3, 1) := by decide +kernel
theorem dX2_letBrineFlowOn_28 : decode cX2_letBrineFlowOn 28 = .ok (.invokevirtual 62, 3) := by decide +kernel
theorem dX2_letBrineFlowOn_31 : decode cX2_letBrineFlowOn 31 = .ok (.isub, 1) := by decide +kernel
theorem dX2_letBrineFlowOn_32 : decode cX2_letBrineFlowOn 32 = .ok (.istore 4, 2) := by decide +kernel
theorem dX2_letBrineFlowOn_34 : decode cX2_letBrineFlowOn 34 = .ok (.aload_n 3, 1) := by decide +kernel
theorem dX2_letBrineFlowOn_35 : decode cX2_letBrineFlowOn 35 = .ok (.getfield 66, 3) := by decide +kernel
theorem dX2_letBrineFlowOn_38 : decode cX2_letBrineFlowOn 38 = .ok (.ifCond .eq 34, 3) := by decide +kernel
theorem dX2_letBrineFlowOn_41 : decode cX2_letBrineFlowOn 41 = .ok (.iload 4, 2) := by decide +kernel
theorem dX2_letBrineFlowOn_43 : decode cX2_letBrineFlowOn 43 = .ok (.ifCond .le 29, 3) := by decide +kernel
theorem dX2_letBrineFlowOn_46 : decode cX2_letBrineFlowOn 46 = .ok (.aload_n 2, 1) := by decide +kernel
theorem dX2_letBrineFlowOn_47 : decode cX2_letBrineFlowOn 47 = .ok (.aload_n 3, 1) := by decide +kernel
theorem dX2_letBrineFlowOn_48 : decode cX2_letBrineFlowOn 48 = .ok (.iload 4, 2) := by decide +kernel
theorem dX2_letBrineFlowOn_50 : decode cX2_letBrineFlowOn 50 = .ok (.i2l, 1) := by decide +kernel
theorem dX2_letBrineFlowOn_51 : decode cX2_letBrineFlowOn 51 = .ok (.aload_n 2, 1) := by decide +kernel
theorem dX2_letBrineFlowOn_52 : decode cX2_letBrineFlowOn 52 = .ok (.getfield 69, 3) := by decide +kernel
theorem dX2_letBrineFlowOn_55 : decode cX2_letBrineFlowOn 55 = .ok (.aload_n 3, 1) := by decide +kernel
theorem dX2_letBrineFlowOn_56 : decode cX2_letBrineFlowOn 56 = .ok (.getfield 69, 3) := by decide +kernel
theorem dX2_letBrineFlowOn_59 : decode cX2_letBrineFlowOn 59 = .ok (.invokestatic 76, 3) := by decide +kernel
theorem dX2_letBrineFlowOn_62 : decode cX2_letBrineFlowOn 62 = .ok (.i2l, 1) := by decide +kernel
theorem dX2_letBrineFlowOn_63 : decode cX2_letBrineFlowOn 63 = .ok (.ldc2_w 82, 3) := by decide +kernel
theorem dX2_letBrineFlowOn_66 : decode cX2_letBrineFlowOn 66 = .ok (.invokestatic 84, 3) := by decide +kernel
theorem dX2_letBrineFlowOn_69 : decode cX2_letBrineFlowOn 69 = .ok (.invokevirtual 88, 3) := by decide +kernel
theorem dX2_letBrineFlowOn_72 : decode cX2_letBrineFlowOn 72 = .ok (.iinc 1 (-1), 3) := by decide +kernel
theorem dX2_letBrineFlowOn_75 : decode cX2_letBrineFlowOn 75 = .ok (.goto (-72), 3) := by decide +kernel
theorem dX2_letBrineFlowOn_78 : decode cX2_letBrineFlowOn 78 = .ok (.return_, 1) := by decide +kernel
theorem dX2_setGates_0 : decode cX2_setGates 0 = .ok (.iconst 0, 1) := by decide +kernel
theorem dX2_setGates_1 : decode cX2_setGates 1 = .ok (.istore_n 2, 1) := by decide +kernel
theorem dX2_setGates_2 : decode cX2_setGates 2 = .ok (.iload_n 2, 1) := by decide +kernel
theorem dX2_setGates_3 : decode cX2_setGates 3 = .ok (.bipush 8, 2) := by decide +kernel
theorem dX2_setGates_5 : decode cX2_setGates 5 = .ok (.if_icmp .ge 32, 3) := by decide +kernel
theorem dX2_setGates_8 : decode cX2_setGates 8 = .ok (.aload_n 0, 1) := by decide +kernel
theorem dX2_setGates_9 : decode cX2_setGates 9 = .ok (.getfield 11, 3) := by decide +kernel
theorem dX2_setGates_12 : decode cX2_setGates 12 = .ok (.iload_n 2, 1) := by decide +kernel
theorem dX2_setGates_13 : decode cX2_setGates 13 = .ok (.aaload, 1) := by decide +kernel
theorem dX2_setGates_14 : decode cX2_setGates 14 = .ok (.iload_n 1, 1) := by decide +kernel
theorem dX2_setGates_15 : decode cX2_setGates 15 = .ok (.iload_n 2, 1) := by decide +kernel
theorem dX2_setGates_16 : decode cX2_setGates 16 = .ok (.ishr, 1) := by decide +kernel
theorem dX2_setGates_17 : decode cX2_setGates 17 = .ok (.iconst 1, 1) := by decide +kernel
theorem dX2_setGates_18 : decode cX2_setGates 18 = .ok (.iand, 1) := by decide +kernel
theorem dX2_setGates_19 : decode cX2_setGates 19 = .ok (.iconst 1, 1) := by decide +kernel
theorem dX2_setGates_20 : decode cX2_setGates 20 = .ok (.if_icmp .ne 7, 3) := by decide +kernel
theorem dX2_setGates_23 : decode cX2_setGates 23 = .ok (.iconst 1, 1) := by decide +kernel
theorem dX2_setGates_24 : decode cX2_setGates 24 = .ok (.goto 4, 3) := by decide +kernel
theorem dX2_setGates_27 : decode cX2_setGates 27 = .ok (.iconst 0, 1) := by decide +kernel
theorem dX2_setGates_28 : decode cX2_setGates 28 = .ok (.putfield 66, 3) := by decide +kernel
theorem dX2_setGates_31 : decode cX2_setGates 31 = .ok (.iinc 2 1, 3) := by decide +kernel
theorem dX2_setGates_34 : decode cX2_setGates 34 = .ok (.goto (-32), 3) := by decide +kernel
theorem dX2_setGates_37 : decode cX2_setGates 37 = .ok (.return_, 1) := by decide +kernel
theorem dX2_openGates_0 : decode cX2_openGates 0 = .ok (.iconst 0, 1) := by decide +kernel
theorem dX2_openGates_1 : decode cX2_openGates 1 = .ok (.istore_n 1, 1) := by decide +kernel
theorem dX2_openGates_2 : decode cX2_openGates 2 = .ok (.iconst 0, 1) := by decide +kernel
theorem dX2_openGates_3 : decode cX2_openGates 3 = .ok (.istore_n 2, 1) := by decide +kernel
theorem dX2_openGates_4 : decode cX2_openGates 4 = .ok (.iload_n 2, 1) := by decide +kernel
theorem dX2_openGates_5 : decode cX2_openGates 5 = .ok (.bipush 8, 2) := by decide +kernel
theorem dX2_openGates_7 : decode cX2_openGates 7 = .ok (.if_icmp .ge 31, 3) := by decide +kernel
theorem dX2_openGates_10 : decode cX2_openGates 10 = .ok (.iload_n 1, 1) := by decide +kernel
theorem dX2_openGates_11 : decode cX2_openGates 11 = .ok (.aload_n 0, 1) := by decide +kernel
theorem dX2_openGates_12 : decode cX2_openGates 12 = .ok (.getfield 11, 3) := by decide +kernel
theorem dX2_openGates_15 : decode cX2_openGates 15 = .ok (.iload_n 2, 1) := by decide +kernel
theorem dX2_openGates_16 : decode cX2_openGates 16 = .ok (.aaload, 1) := by decide +kernel
theorem dX2_openGates_17 : decode cX2_openGates 17 = .ok (.getfield 66, 3) := by decide +kernel
theorem dX2_openGates_20 : decode cX2_openGates 20 = .ok (.ifCond .eq 9, 3) := by decide +kernel
theorem dX2_openGates_23 : decode cX2_openGates 23 = .ok (.iconst 1, 1) := by decide +kernel
theorem dX2_openGates_24 : decode cX2_openGates 24 = .ok (.iload_n 2, 1) := by decide +kernel
theorem dX2_openGates_25 : decode cX2_openGates 25 = .ok (.ishl, 1) := by decide +kernel
theorem dX2_openGates_26 : decode cX2_openGates 26 = .ok (.goto 4, 3) := by decide +kernel
theorem dX2_openGates_29 : decode cX2_openGates 29 = .ok (.iconst 0, 1) := by decide +kernel
theorem dX2_openGates_30 : decode cX2_openGates 30 = .ok (.iadd, 1) := by decide +kernel
theorem dX2_openGates_31 : decode cX2_openGates 31 = .ok (.istore_n 1, 1) := by decide +kernel
theorem dX2_openGates_32 : decode cX2_openGates 32 = .ok (.iinc 2 1, 3) := by decide +kernel
theorem dX2_openGates_35 : decode cX2_openGates 35 = .ok (.goto (-31), 3) := by decide +kernel
theorem dX2_openGates_38 : decode cX2_openGates 38 = .ok (.iload_n 1, 1) := by decide +kernel
theorem dX2_openGates_39 : decode cX2_openGates 39 = .ok (.ireturn, 1) := by decide +kernel
theorem dX2_coveredPans_0 : decode cX2_coveredPans 0 = .ok (.iconst 0, 1) := by decide +kernel
theorem dX2_coveredPans_1 : decode cX2_coveredPans 1 = .ok (.istore_n 1, 1) := by decide +kernel
theorem dX2_coveredPans_2 : decode cX2_coveredPans 2 = .ok (.iconst 0, 1) := by decide +kernel
theorem dX2_coveredPans_3 : decode cX2_coveredPans 3 = .ok (.istore_n 2, 1) := by decide +kernel
theorem dX2_coveredPans_4 : decode cX2_coveredPans 4 = .ok (.iload_n 2, 1) := by decide +kernel
theorem dX2_coveredPans_5 : decode cX2_coveredPans 5 = .ok (.bipush 8, 2) := by decide +kernel
theorem dX2_coveredPans_7 : decode cX2_coveredPans 7 = .ok (.if_icmp .ge 31, 3) := by decide +kernel
theorem dX2_coveredPans_10 : decode cX2_coveredPans 10 = .ok (.iload_n 1, 1) := by decide +kernel
theorem dX2_coveredPans_11 : decode cX2_coveredPans 11 = .ok (.aload_n 0, 1) := by decide +kernel
theorem dX2_coveredPans_12 : decode cX2_coveredPans 12 = .ok (.getfield 11, 3) := by decide +kernel
theorem dX2_coveredPans_15 : decode cX2_coveredPans 15 = .ok (.iload_n 2, 1) := by decide +kernel
theorem dX2_coveredPans_16 : decode cX2_coveredPans 16 = .ok (.aaload, 1) := by decide +kernel
theorem dX2_coveredPans_17 : decode cX2_coveredPans 17 = .ok (.getfield 92, 3) := by decide +kernel
theorem dX2_coveredPans_20 : decode cX2_coveredPans 20 = .ok (.ifCond .eq 9, 3) := by decide +kernel
theorem dX2_coveredPans_23 : decode cX2_coveredPans 23 = .ok (.iconst 1, 1) := by decide +kernel
theorem dX2_coveredPans_24 : decode cX2_coveredPans 24 = .ok (.iload_n 2, 1) := by decide +kernel
theorem dX2_coveredPans_25 : decode cX2_coveredPans 25 = .ok (.ishl, 1) := by decide +kernel
theorem dX2_coveredPans_26 : decode cX2_coveredPans 26 = .ok (.goto 4, 3) := by decide +kernel
theorem dX2_coveredPans_29 : decode cX2_coveredPans 29 = .ok (.iconst 0, 1) := by decide +kernel
theorem dX2_coveredPans_30 : decode cX2_coveredPans 30 = .ok (.iadd, 1) := by decide +kernel
theorem dX2_coveredPans_31 : decode cX2_coveredPans 31 = .ok (.istore_n 1, 1) := by decide +kernel
theorem dX2_coveredPans_32 : decode cX2_coveredPans 32 = .ok (.iinc 2 1, 3) := by decide +kernel
theorem dX2_coveredPans_35 : decode cX2_coveredPans 35 = .ok (.goto (-31), 3) := by decide +kernel
theorem dX2_coveredPans_38 : decode cX2_coveredPans 38 = .ok (.iload_n 1, 1) := by decide +kernel
theorem dX2_coveredPans_39 : decode cX2_coveredPans 39 = .ok (.ireturn, 1) := by decide +kernel
theorem dX2_saltFallenInPans_0 : decode cX2_saltFallenInPans 0 = .ok (.iconst 0, 1) := by decide +kernel
theorem dX2_saltFallenInPans_1 : decode cX2_saltFallenInPans 1 = .ok (.istore_n 1, 1) := by decide +kernel
theorem dX2_saltFallenInPans_2 : decode cX2_saltFallenInPans 2 = .ok (.iconst 5, 1) := by decide +kernel
theorem dX2_saltFallenInPans_3 : decode cX2_saltFallenInPans 3 = .ok (.istore_n 2, 1) := by decide +kernel
theorem dX2_saltFallenInPans_4 : decode cX2_saltFallenInPans 4 = .ok (.iload_n 2, 1) := by decide +kernel
theorem dX2_saltFallenInPans_5 : decode cX2_saltFallenInPans 5 = .ok (.bipush 8, 2) := by decide +kernel
theorem dX2_saltFallenInPans_7 : decode cX2_saltFallenInPans 7 = .ok (.if_icmp .ge 21, 3) := by decide +kernel
theorem dX2_saltFallenInPans_10 : decode cX2_saltFallenInPans 10 = .ok (.iload_n 1, 1) := by decide +kernel
theorem dX2_saltFallenInPans_11 : decode cX2_saltFallenInPans 11 = .ok (.aload_n 0, 1) := by decide +kernel
theorem dX2_saltFallenInPans_12 : decode cX2_saltFallenInPans 12 = .ok (.getfield 11, 3) := by decide +kernel
theorem dX2_saltFallenInPans_15 : decode cX2_saltFallenInPans 15 = .ok (.iload_n 2, 1) := by decide +kernel
theorem dX2_saltFallenInPans_16 : decode cX2_saltFallenInPans 16 = .ok (.aaload, 1) := by decide +kernel
theorem dX2_saltFallenInPans_17 : decode cX2_saltFallenInPans 17 = .ok (.getfield 95, 3) := by decide +kernel
theorem dX2_saltFallenInPans_20 : decode cX2_saltFallenInPans 20 = .ok (.iadd, 1) := by decide +kernel
theorem dX2_saltFallenInPans_21 : decode cX2_saltFallenInPans 21 = .ok (.istore_n 1, 1) := by decide +kernel
theorem dX2_saltFallenInPans_22 : decode cX2_saltFallenInPans 22 = .ok (.iinc 2 1, 3) := by decide +kernel
theorem dX2_saltFallenInPans_25 : decode cX2_saltFallenInPans 25 = .ok (.goto (-21), 3) := by decide +kernel
theorem dX2_saltFallenInPans_28 : decode cX2_saltFallenInPans 28 = .ok (.iload_n 1, 1) := by decide +kernel
theorem dX2_saltFallenInPans_29 : decode cX2_saltFallenInPans 29 = .ok (.ireturn, 1) := by decide +kernel
theorem dX2_saltInPans_0 : decode cX2_saltInPans 0 = .ok (.iconst 0, 1) := by decide +kernel
theorem dX2_saltInPans_1 : decode cX2_saltInPans 1 = .ok (.istore_n 1, 1) := by decide +kernel
theorem dX2_saltInPans_2 : decode cX2_saltInPans 2 = .ok (.iconst 5, 1) := by decide +kernel
theorem dX2_saltInPans_3 : decode cX2_saltInPans 3 = .ok (.istore_n 2, 1) := by decide +kernel
theorem dX2_saltInPans_4 : decode cX2_saltInPans 4 = .ok (.iload_n 2, 1) := by decide +kernel
theorem dX2_saltInPans_5 : decode cX2_saltInPans 5 = .ok (.bipush 8, 2) := by decide +kernel
theorem dX2_saltInPans_7 : decode cX2_saltInPans 7 = .ok (.if_icmp .ge 31, 3) := by decide +kernel
theorem dX2_saltInPans_10 : decode cX2_saltInPans 10 = .ok (.iload_n 1, 1) := by decide +kernel
theorem dX2_saltInPans_11 : decode cX2_saltInPans 11 = .ok (.aload_n 0, 1) := by decide +kernel
theorem dX2_saltInPans_12 : decode cX2_saltInPans 12 = .ok (.getfield 11, 3) := by decide +kernel
theorem dX2_saltInPans_15 : decode cX2_saltInPans 15 = .ok (.iload_n 2, 1) := by decide +kernel
theorem dX2_saltInPans_16 : decode cX2_saltInPans 16 = .ok (.aaload, 1) := by decide +kernel
theorem dX2_saltInPans_17 : decode cX2_saltInPans 17 = .ok (.getfield 98, 3) := by decide +kernel
theorem dX2_saltInPans_20 : decode cX2_saltInPans 20 = .ok (.aload_n 0, 1) := by decide +kernel
theorem dX2_saltInPans_21 : decode cX2_saltInPans 21 = .ok (.getfield 11, 3) := by decide +kernel
theorem dX2_saltInPans_24 : decode cX2_saltInPans 24 = .ok (.iload_n 2, 1) := by decide +kernel
theorem dX2_saltInPans_25 : decode cX2_saltInPans 25 = .ok (.aaload, 1) := by decide +kernel
theorem dX2_saltInPans_26 : decode cX2_saltInPans 26 = .ok (.getfield 101, 3) := by decide +kernel
theorem dX2_saltInPans_29 : decode cX2_saltInPans 29 = .ok (.iadd, 1) := by decide +kernel
theorem dX2_saltInPans_30 : decode cX2_saltInPans 30 = .ok (.iadd, 1) := by decide +kernel
theorem dX2_saltInPans_31 : decode cX2_saltInPans 31 = .ok (.istore_n 1, 1) := by decide +kernel
theorem dX2_saltInPans_32 : decode cX2_saltInPans 32 = .ok (.iinc 2 1, 3) := by decide +kernel
theorem dX2_saltInPans_35 : decode cX2_saltInPans 35 = .ok (.goto (-31), 3) := by decide +kernel
theorem dX2_saltInPans_38 : decode cX2_saltInPans 38 = .ok (.iload_n 1, 1) := by decide +kernel
theorem dX2_saltInPans_39 : decode cX2_saltInPans 39 = .ok (.ireturn, 1) := by decide +kernel
set_option maxRecDepth 20000 in
theorem ggX2_sumOfPonds_X1_read : GoodIn wsX2_sumOfPonds wsX1_read := goodIn_r _ [6, 7, 8, 9, 10, 11, 12, 13, 14, 15, 16, 17, 18, 5, 19, 20, 21, 22, 23, 24, 25, 26, 27, 28, 29, 30, 31, 37, 38, 39, 40, 41, 42, 43, 44, 45, 46, 47, 48] (by decide +kernel) (by decide +kernel)
set_option maxRecDepth 20000 in
theorem gX2_sumOfPonds_X1_read : GoodIn wsX2_sumOfPonds (wsV RX2 104 RX1 yX1_read wsX1_read) := goodIn_app (goodIn_of _ (by decide +kernel)) ggX2_sumOfPonds_X1_read
theorem dX2_sumOfPonds_0 : decode cX2_sumOfPonds 0 = .ok (.iconst 0, 1) := by decide +kernel
theorem dX2_sumOfPonds_1 : decode cX2_sumOfPonds 1 = .ok (.istore_n 2, 1) := by decide +kernel
theorem dX2_sumOfPonds_2 : decode cX2_sumOfPonds 2 = .ok (.iconst 0, 1) := by decide +kernel
theorem dX2_sumOfPonds_3 : decode cX2_sumOfPonds 3 = .ok (.istore_n 3, 1) := by decide +kernel
theorem dX2_sumOfPonds_4 : decode cX2_sumOfPonds 4 = .ok (.iload_n 3, 1) := by decide +kernel
theorem dX2_sumOfPonds_5 : decode cX2_sumOfPonds 5 = .ok (.bipush 8, 2) := by decide +kernel
theorem dX2_sumOfPonds_7 : decode cX2_sumOfPonds 7 = .ok (.if_icmp .ge 22, 3) := by decide +kernel
theorem dX2_sumOfPonds_10 : decode cX2_sumOfPonds 10 = .ok (.iload_n 2, 1) := by decide +kernel
theorem dX2_sumOfPonds_11 : decode cX2_sumOfPonds 11 = .ok (.aload_n 0, 1) := by decide +kernel
theorem dX2_sumOfPonds_12 : decode cX2_sumOfPonds 12 = .ok (.getfield 11, 3) := by decide +kernel
theorem dX2_sumOfPonds_15 : decode cX2_sumOfPonds 15 = .ok (.iload_n 3, 1) := by decide +kernel
theorem dX2_sumOfPonds_16 : decode cX2_sumOfPonds 16 = .ok (.aaload, 1) := by decide +kernel
theorem dX2_sumOfPonds_17 : decode cX2_sumOfPonds 17 = .ok (.iload_n 1, 1) := by decide +kernel
theorem dX2_sumOfPonds_18 : decode cX2_sumOfPonds 18 = .ok (.invokevirtual 104, 3) := by decide +kernel
theorem dX2_sumOfPonds_21 : decode cX2_sumOfPonds 21 = .ok (.iadd, 1) := by decide +kernel
theorem dX2_sumOfPonds_22 : decode cX2_sumOfPonds 22 = .ok (.istore_n 2, 1) := by decide +kernel
theorem dX2_sumOfPonds_23 : decode cX2_sumOfPonds 23 = .ok (.iinc 3 1, 3) := by decide +kernel
theorem dX2_sumOfPonds_26 : decode cX2_sumOfPonds 26 = .ok (.goto (-22), 3) := by decide +kernel
theorem dX2_sumOfPonds_29 : decode cX2_sumOfPonds 29 = .ok (.iload_n 2, 1) := by decide +kernel
theorem dX2_sumOfPonds_30 : decode cX2_sumOfPonds 30 = .ok (.ireturn, 1) := by decide +kernel
set_option maxRecDepth 20000 in
theorem ggX3_init_X2_init : GoodIn wsX3_init wsX2_init := goodIn_r _ [15, 16, 2, 3, 17, 18, 19, 20, 21, 22, 23, 24, 30, 31, 32, 33, 34, 51, 52, 53, 54, 55, 56, 57, 58, 59, 60, 61, 62] (by decide +kernel) (by decide +kernel)
set_option maxRecDepth 20000 in
theorem gX3_init_X2_init : GoodIn wsX3_init (wsX2_init) := ggX3_init_X2_init
set_option maxRecDepth 20000 in
theorem ggX3_init_X0_init : GoodIn wsX3_init wsX0_init := goodIn_r _ [26, 27, 2, 3, 28, 29, 45, 46, 47, 48, 49, 50] (by decide +kernel) (by decide +kernel)
set_option maxRecDepth 20000 in
theorem gX3_init_X0_init_n25 : GoodIn wsX3_init (wsX0_init) := ggX3_init_X0_init
theorem dX3_init_0 : decode cX3_init 0 = .ok (.aload_n 0, 1) := by decide +kernel
theorem dX3_init_1 : decode cX3_init 1 = .ok (.invokespecial 1, 3) := by decide +kernel
theorem dX3_init_4 : decode cX3_init 4 = .ok (.aload_n 0, 1) := by decide +kernel
theorem dX3_init_5 : decode cX3_init 5 = .ok (.new 7, 3) := by decide +kernel
theorem dX3_init_8 : decode cX3_init 8 = .ok (.dup, 1) := by decide +kernel
theorem dX3_init_9 : decode cX3_init 9 = .ok (.invokespecial 9, 3) := by decide +kernel
theorem dX3_init_12 : decode cX3_init 12 = .ok (.putfield 10, 3) := by decide +kernel
theorem dX3_init_15 : decode cX3_init 15 = .ok (.aload_n 0, 1) := by decide +kernel
theorem dX3_init_16 : decode cX3_init 16 = .ok (.new 7, 3) := by decide +kernel
theorem dX3_init_19 : decode cX3_init 19 = .ok (.dup, 1) := by decide +kernel
theorem dX3_init_20 : decode cX3_init 20 = .ok (.invokespecial 9, 3) := by decide +kernel
theorem dX3_init_23 : decode cX3_init 23 = .ok (.putfield 16, 3) := by decide +kernel
theorem dX3_init_26 : decode cX3_init 26 = .ok (.aload_n 0, 1) := by decide +kernel
theorem dX3_init_27 : decode cX3_init 27 = .ok (.bipush 6, 2) := by decide +kernel
theorem dX3_init_29 : decode cX3_init 29 = .ok (.anewarray 19, 3) := by decide +kernel
theorem dX3_init_32 : decode cX3_init 32 = .ok (.putfield 21, 3) := by decide +kernel
theorem dX3_init_35 : decode cX3_init 35 = .ok (.iconst 0, 1) := by decide +kernel
theorem dX3_init_36 : decode cX3_init 36 = .ok (.istore_n 1, 1) := by decide +kernel
theorem dX3_init_37 : decode cX3_init 37 = .ok (.iload_n 1, 1) := by decide +kernel
theorem dX3_init_38 : decode cX3_init 38 = .ok (.aload_n 0, 1) := by decide +kernel
theorem dX3_init_39 : decode cX3_init 39 = .ok (.getfield 21, 3) := by decide +kernel
theorem dX3_init_42 : decode cX3_init 42 = .ok (.arraylength, 1) := by decide +kernel
theorem dX3_init_43 : decode cX3_init 43 = .ok (.if_icmp .ge 22, 3) := by decide +kernel
theorem dX3_init_46 : decode cX3_init 46 = .ok (.aload_n 0, 1) := by decide +kernel
theorem dX3_init_47 : decode cX3_init 47 = .ok (.getfield 21, 3) := by decide +kernel
theorem dX3_init_50 : decode cX3_init 50 = .ok (.iload_n 1, 1) := by decide +kernel
theorem dX3_init_51 : decode cX3_init 51 = .ok (.new 19, 3) := by decide +kernel
theorem dX3_init_54 : decode cX3_init 54 = .ok (.dup, 1) := by decide +kernel
theorem dX3_init_55 : decode cX3_init 55 = .ok (.invokespecial 25, 3) := by decide +kernel
theorem dX3_init_58 : decode cX3_init 58 = .ok (.aastore, 1) := by decide +kernel
theorem dX3_init_59 : decode cX3_init 59 = .ok (.iinc 1 1, 3) := by decide +kernel
theorem dX3_init_62 : decode cX3_init 62 = .ok (.goto (-25), 3) := by decide +kernel
theorem dX3_init_65 : decode cX3_init 65 = .ok (.return_, 1) := by decide +kernel
set_option maxRecDepth 20000 in
theorem ggX3_area_X3_needPond : GoodIn wsX3_area wsX3_needPond := goodIn_ca (goodIn_r _ [13, 14, 15] (by decide +kernel) (by decide +kernel)) (goodIn_sub (fun _ h => List.mem_cons_of_mem _ (List.mem_append_right _ h)) (by decide +kernel))
set_option maxRecDepth 20000 in
theorem gX3_area_X3_needPond : GoodIn wsX3_area (wsV RX3 26 RX3 yX3_needPond wsX3_needPond) := goodIn_app (goodIn_of _ (by decide +kernel)) ggX3_area_X3_needPond
theorem dX3_area_0 : decode cX3_area 0 = .ok (.aload_n 0, 1) := by decide +kernel
theorem dX3_area_1 : decode cX3_area 1 = .ok (.iload_n 1, 1) := by decide +kernel
theorem dX3_area_2 : decode cX3_area 2 = .ok (.invokevirtual 26, 3) := by decide +kernel
theorem dX3_area_5 : decode cX3_area 5 = .ok (.iload_n 2, 1) := by decide +kernel
theorem dX3_area_6 : decode cX3_area 6 = .ok (.iconst 1, 1) := by decide +kernel
theorem dX3_area_7 : decode cX3_area 7 = .ok (.if_icmp .lt 9, 3) := by decide +kernel
theorem dX3_area_10 : decode cX3_area 10 = .ok (.iload_n 2, 1) := by decide +kernel
theorem dX3_area_11 : decode cX3_area 11 = .ok (.bipush 9, 2) := by decide +kernel
theorem dX3_area_13 : decode cX3_area 13 = .ok (.if_icmp .le 13, 3) := by decide +kernel
theorem dX3_area_16 : decode cX3_area 16 = .ok (.new 30, 3) := by decide +kernel
theorem dX3_area_19 : decode cX3_area 19 = .ok (.dup, 1) := by decide +kernel
theorem dX3_area_20 : decode cX3_area 20 = .ok (.ldc 32, 2) := by decide +kernel
theorem dX3_area_22 : decode cX3_area 22 = .ok (.invokespecial 34, 3) := by decide +kernel
theorem dX3_area_25 : decode cX3_area 25 = .ok (.athrow, 1) := by decide +kernel
theorem dX3_area_26 : decode cX3_area 26 = .ok (.aload_n 0, 1) := by decide +kernel
theorem dX3_area_27 : decode cX3_area 27 = .ok (.getfield 10, 3) := by decide +kernel
theorem dX3_area_30 : decode cX3_area 30 = .ok (.getfield 37, 3) := by decide +kernel
theorem dX3_area_33 : decode cX3_area 33 = .ok (.ifCond .le 13, 3) := by decide +kernel
theorem dX3_area_36 : decode cX3_area 36 = .ok (.new 41, 3) := by decide +kernel
theorem dX3_area_39 : decode cX3_area 39 = .ok (.dup, 1) := by decide +kernel
theorem dX3_area_40 : decode cX3_area 40 = .ok (.ldc 43, 2) := by decide +kernel
theorem dX3_area_42 : decode cX3_area 42 = .ok (.invokespecial 45, 3) := by decide +kernel
theorem dX3_area_45 : decode cX3_area 45 = .ok (.athrow, 1) := by decide +kernel
theorem dX3_area_46 : decode cX3_area 46 = .ok (.aload_n 0, 1) := by decide +kernel
theorem dX3_area_47 : decode cX3_area 47 = .ok (.getfield 10, 3) := by decide +kernel
theorem dX3_area_50 : decode cX3_area 50 = .ok (.getfield 46, 3) := by decide +kernel
theorem dX3_area_53 : decode cX3_area 53 = .ok (.iload_n 1, 1) := by decide +kernel
theorem dX3_area_54 : decode cX3_area 54 = .ok (.aaload, 1) := by decide +kernel
theorem dX3_area_55 : decode cX3_area 55 = .ok (.getfield 50, 3) := by decide +kernel
theorem dX3_area_58 : decode cX3_area 58 = .ok (.istore_n 3, 1) := by decide +kernel
theorem dX3_area_59 : decode cX3_area 59 = .ok (.aload_n 0, 1) := by decide +kernel
theorem dX3_area_60 : decode cX3_area 60 = .ok (.getfield 10, 3) := by decide +kernel
theorem dX3_area_63 : decode cX3_area 63 = .ok (.getfield 46, 3) := by decide +kernel
theorem dX3_area_66 : decode cX3_area 66 = .ok (.iload_n 1, 1) := by decide +kernel
theorem dX3_area_67 : decode cX3_area 67 = .ok (.aaload, 1) := by decide +kernel
theorem dX3_area_68 : decode cX3_area 68 = .ok (.iload_n 2, 1) := by decide +kernel
theorem dX3_area_69 : decode cX3_area 69 = .ok (.putfield 50, 3) := by decide +kernel
theorem dX3_area_72 : decode cX3_area 72 = .ok (.iload_n 3, 1) := by decide +kernel
theorem dX3_area_73 : decode cX3_area 73 = .ok (.ireturn, 1) := by decide +kernel
set_option maxRecDepth 20000 in
theorem ggX3_gate_X3_needPond : GoodIn wsX3_gate wsX3_needPond := goodIn_ca (goodIn_r _ [8, 9, 10] (by decide +kernel) (by decide +kernel)) (goodIn_sub (fun _ h => List.mem_cons_of_mem _ (List.mem_append_right _ h)) (by decide +kernel))
set_option maxRecDepth 20000 in
theorem gX3_gate_X3_needPond : GoodIn wsX3_gate (wsV RX3 26 RX3 yX3_needPond wsX3_needPond) := goodIn_app (goodIn_of _ (by decide +kernel)) ggX3_gate_X3_needPond
theorem dX3_gate_0 : decode cX3_gate 0 = .ok (.aload_n 0, 1) := by decide +kernel
theorem dX3_gate_1 : decode cX3_gate 1 = .ok (.iload_n 1, 1) := by decide +kernel
theorem dX3_gate_2 : decode cX3_gate 2 = .ok (.invokevirtual 26, 3) := by decide +kernel
theorem dX3_gate_5 : decode cX3_gate 5 = .ok (.aload_n 0, 1) := by decide +kernel
theorem dX3_gate_6 : decode cX3_gate 6 = .ok (.getfield 10, 3) := by decide +kernel
theorem dX3_gate_9 : decode cX3_gate 9 = .ok (.getfield 46, 3) := by decide +kernel
theorem dX3_gate_12 : decode cX3_gate 12 = .ok (.iload_n 1, 1) := by decide +kernel
theorem dX3_gate_13 : decode cX3_gate 13 = .ok (.aaload, 1) := by decide +kernel
theorem dX3_gate_14 : decode cX3_gate 14 = .ok (.getfield 55, 3) := by decide +kernel
theorem dX3_gate_17 : decode cX3_gate 17 = .ok (.istore_n 3, 1) := by decide +kernel
theorem dX3_gate_18 : decode cX3_gate 18 = .ok (.aload_n 0, 1) := by decide +kernel
theorem dX3_gate_19 : decode cX3_gate 19 = .ok (.getfield 10, 3) := by decide +kernel
theorem dX3_gate_22 : decode cX3_gate 22 = .ok (.getfield 46, 3) := by decide +kernel
theorem dX3_gate_25 : decode cX3_gate 25 = .ok (.iload_n 1, 1) := by decide +kernel
theorem dX3_gate_26 : decode cX3_gate 26 = .ok (.aaload, 1) := by decide +kernel
theorem dX3_gate_27 : decode cX3_gate 27 = .ok (.iload_n 2, 1) := by decide +kernel
theorem dX3_gate_28 : decode cX3_gate 28 = .ok (.putfield 55, 3) := by decide +kernel
theorem dX3_gate_31 : decode cX3_gate 31 = .ok (.iload_n 3, 1) := by decide +kernel
theorem dX3_gate_32 : decode cX3_gate 32 = .ok (.ireturn, 1) := by decide +kernel
set_option maxRecDepth 20000 in
theorem ggX3_pass_X3_needWeather : GoodIn wsX3_pass wsX3_needWeather := goodIn_ca (goodIn_r _ [11, 1, 2] (by decide +kernel) (by decide +kernel)) (goodIn_sub (fun _ h => List.mem_cons_of_mem _ (List.mem_append_left _ (List.mem_append_right _ h))) (by decide +kernel))
set_option maxRecDepth 20000 in
theorem gX3_pass_X3_needWeather : GoodIn wsX3_pass (wsV RX3 67 RX3 yX3_needWeather wsX3_needWeather) := goodIn_app (goodIn_of _ (by decide +kernel)) ggX3_pass_X3_needWeather
set_option maxRecDepth 20000 in
theorem ggX3_pass_X2_letDayGoBy : GoodIn wsX3_pass wsX2_letDayGoBy := goodIn_r _ [16, 17, 18, 19, 20, 21, 22, 23, 24, 15, 25, 26, 27, 28, 29, 10, 30, 31, 32, 33, 34, 35, 36, 37, 38, 39, 40, 41, 42, 43, 44, 45, 46, 47, 48, 49, 50, 51, 52, 53, 54, 55, 56, 57, 58, 59, 60, 61, 62, 63, 64, 65, 66, 67, 68, 69, 70, 71, 72, 73, 74, 75, 76, 77, 78, 79, 80, 81, 82, 83, 84, 85, 86, 87, 88, 89, 90, 91, 92, 93, 94, 95, 96, 97, 98, 99, 115, 116, 117, 118, 119, 120, 121, 122, 123, 124, 125, 126, 127, 128, 129, 130, 131] (by decide +kernel) (by decide +kernel)
set_option maxRecDepth 20000 in
theorem gX3_pass_X2_letDayGoBy : GoodIn wsX3_pass (wsV RX3 75 RX2 yX2_letDayGoBy wsX2_letDayGoBy) := goodIn_app (goodIn_of _ (by decide +kernel)) ggX3_pass_X2_letDayGoBy
set_option maxRecDepth 20000 in
theorem ggX3_pass_X2_saltFallenInPans : GoodIn wsX3_pass wsX2_saltFallenInPans := goodIn_r _ [103, 20, 104, 115, 116, 117, 118, 119, 120, 121, 122, 123, 124, 125, 126, 127, 128, 129, 130, 131] (by decide +kernel) (by decide +kernel)
set_option maxRecDepth 20000 in
theorem gX3_pass_X2_saltFallenInPans : GoodIn wsX3_pass (wsV RX3 79 RX2 yX2_saltFallenInPans wsX2_saltFallenInPans) := goodIn_app (goodIn_of _ (by decide +kernel)) ggX3_pass_X2_saltFallenInPans
theorem dX3_pass_0 : decode cX3_pass 0 = .ok (.iload_n 1, 1) := by decide +kernel
theorem dX3_pass_1 : decode cX3_pass 1 = .ok (.iconst 1, 1) := by decide +kernel
theorem dX3_pass_2 : decode cX3_pass 2 = .ok (.if_icmp .lt 9, 3) := by decide +kernel
theorem dX3_pass_5 : decode cX3_pass 5 = .ok (.iload_n 1, 1) := by decide +kernel
theorem dX3_pass_6 : decode cX3_pass 6 = .ok (.bipush 30, 2) := by decide +kernel
theorem dX3_pass_8 : decode cX3_pass 8 = .ok (.if_icmp .le 13, 3) := by decide +kernel
theorem dX3_pass_11 : decode cX3_pass 11 = .ok (.new 30, 3) := by decide +kernel
theorem dX3_pass_14 : decode cX3_pass 14 = .ok (.dup, 1) := by decide +kernel
theorem dX3_pass_15 : decode cX3_pass 15 = .ok (.ldc 65, 2) := by decide +kernel
theorem dX3_pass_17 : decode cX3_pass 17 = .ok (.invokespecial 34, 3) := by decide +kernel
theorem dX3_pass_20 : decode cX3_pass 20 = .ok (.athrow, 1) := by decide +kernel
theorem dX3_pass_21 : decode cX3_pass 21 = .ok (.aload_n 0, 1) := by decide +kernel
theorem dX3_pass_22 : decode cX3_pass 22 = .ok (.iload_n 2, 1) := by decide +kernel
theorem dX3_pass_23 : decode cX3_pass 23 = .ok (.iload_n 3, 1) := by decide +kernel
theorem dX3_pass_24 : decode cX3_pass 24 = .ok (.invokevirtual 67, 3) := by decide +kernel
theorem dX3_pass_27 : decode cX3_pass 27 = .ok (.iload 4, 2) := by decide +kernel
theorem dX3_pass_29 : decode cX3_pass 29 = .ok (.ifCond .lt 10, 3) := by decide +kernel
theorem dX3_pass_32 : decode cX3_pass 32 = .ok (.iload 4, 2) := by decide +kernel
theorem dX3_pass_34 : decode cX3_pass 34 = .ok (.bipush 40, 2) := by decide +kernel
theorem dX3_pass_36 : decode cX3_pass 36 = .ok (.if_icmp .le 13, 3) := by decide +kernel
theorem dX3_pass_39 : decode cX3_pass 39 = .ok (.new 30, 3) := by decide +kernel
theorem dX3_pass_42 : decode cX3_pass 42 = .ok (.dup, 1) := by decide +kernel
theorem dX3_pass_43 : decode cX3_pass 43 = .ok (.ldc 71, 2) := by decide +kernel
theorem dX3_pass_45 : decode cX3_pass 45 = .ok (.invokespecial 34, 3) := by decide +kernel
theorem dX3_pass_48 : decode cX3_pass 48 = .ok (.athrow, 1) := by decide +kernel
theorem dX3_pass_49 : decode cX3_pass 49 = .ok (.aload_n 0, 1) := by decide +kernel
theorem dX3_pass_50 : decode cX3_pass 50 = .ok (.getfield 10, 3) := by decide +kernel
theorem dX3_pass_53 : decode cX3_pass 53 = .ok (.getfield 37, 3) := by decide +kernel
theorem dX3_pass_56 : decode cX3_pass 56 = .ok (.iload_n 1, 1) := by decide +kernel
theorem dX3_pass_57 : decode cX3_pass 57 = .ok (.iadd, 1) := by decide +kernel
theorem dX3_pass_58 : decode cX3_pass 58 = .ok (.sipush 5000, 3) := by decide +kernel
theorem dX3_pass_61 : decode cX3_pass 61 = .ok (.if_icmp .le 13, 3) := by decide +kernel
theorem dX3_pass_64 : decode cX3_pass 64 = .ok (.new 41, 3) := by decide +kernel
theorem dX3_pass_67 : decode cX3_pass 67 = .ok (.dup, 1) := by decide +kernel
theorem dX3_pass_68 : decode cX3_pass 68 = .ok (.ldc 73, 2) := by decide +kernel
theorem dX3_pass_70 : decode cX3_pass 70 = .ok (.invokespecial 45, 3) := by decide +kernel
theorem dX3_pass_73 : decode cX3_pass 73 = .ok (.athrow, 1) := by decide +kernel
theorem dX3_pass_74 : decode cX3_pass 74 = .ok (.iconst 0, 1) := by decide +kernel
theorem dX3_pass_75 : decode cX3_pass 75 = .ok (.istore 5, 2) := by decide +kernel
theorem dX3_pass_77 : decode cX3_pass 77 = .ok (.iconst 0, 1) := by decide +kernel
theorem dX3_pass_78 : decode cX3_pass 78 = .ok (.istore 6, 2) := by decide +kernel
theorem dX3_pass_80 : decode cX3_pass 80 = .ok (.iload 6, 2) := by decide +kernel
theorem dX3_pass_82 : decode cX3_pass 82 = .ok (.iload_n 1, 1) := by decide +kernel
theorem dX3_pass_83 : decode cX3_pass 83 = .ok (.if_icmp .ge 32, 3) := by decide +kernel
theorem dX3_pass_86 : decode cX3_pass 86 = .ok (.aload_n 0, 1) := by decide +kernel
theorem dX3_pass_87 : decode cX3_pass 87 = .ok (.getfield 10, 3) := by decide +kernel
theorem dX3_pass_90 : decode cX3_pass 90 = .ok (.iload_n 2, 1) := by decide +kernel
theorem dX3_pass_91 : decode cX3_pass 91 = .ok (.iload_n 3, 1) := by decide +kernel
theorem dX3_pass_92 : decode cX3_pass 92 = .ok (.iload 4, 2) := by decide +kernel
theorem dX3_pass_94 : decode cX3_pass 94 = .ok (.invokevirtual 75, 3) := by decide +kernel
theorem dX3_pass_97 : decode cX3_pass 97 = .ok (.iload 5, 2) := by decide +kernel
theorem dX3_pass_99 : decode cX3_pass 99 = .ok (.aload_n 0, 1) := by decide +kernel
theorem dX3_pass_100 : decode cX3_pass 100 = .ok (.getfield 10, 3) := by decide +kernel
theorem dX3_pass_103 : decode cX3_pass 103 = .ok (.invokevirtual 79, 3) := by decide +kernel
theorem dX3_pass_106 : decode cX3_pass 106 = .ok (.iadd, 1) := by decide +kernel
theorem dX3_pass_107 : decode cX3_pass 107 = .ok (.istore 5, 2) := by decide +kernel
theorem dX3_pass_109 : decode cX3_pass 109 = .ok (.iinc 6 1, 3) := by decide +kernel
theorem dX3_pass_112 : decode cX3_pass 112 = .ok (.goto (-32), 3) := by decide +kernel
theorem dX3_pass_115 : decode cX3_pass 115 = .ok (.iload 5, 2) := by decide +kernel
theorem dX3_pass_117 : decode cX3_pass 117 = .ok (.ireturn, 1) := by decide +kernel
set_option maxRecDepth 20000 in
theorem ggX3_skim_X3_needPond : GoodIn wsX3_skim wsX3_needPond := goodIn_ca (goodIn_r _ [9, 10, 11] (by decide +kernel) (by decide +kernel)) (goodIn_sub (fun _ h => List.mem_cons_of_mem _ (List.mem_append_right _ h)) (by decide +kernel))
set_option maxRecDepth 20000 in
theorem gX3_skim_X3_needPond : GoodIn wsX3_skim (wsV RX3 26 RX3 yX3_needPond wsX3_needPond) := goodIn_app (goodIn_of _ (by decide +kernel)) ggX3_skim_X3_needPond
theorem dX3_skim_0 : decode cX3_skim 0 = .ok (.aload_n 0, 1) := by decide +kernel
theorem dX3_skim_1 : decode cX3_skim 1 = .ok (.iload_n 1, 1) := by decide +kernel
theorem dX3_skim_2 : decode cX3_skim 2 = .ok (.invokevirtual 26, 3) := by decide +kernel
theorem dX3_skim_5 : decode cX3_skim 5 = .ok (.aload_n 0, 1) := by decide +kernel
theorem dX3_skim_6 : decode cX3_skim 6 = .ok (.getfield 10, 3) := by decide +kernel
theorem dX3_skim_9 : decode cX3_skim 9 = .ok (.getfield 46, 3) := by decide +kernel
theorem dX3_skim_12 : decode cX3_skim 12 = .ok (.iload_n 1, 1) := by decide +kernel
theorem dX3_skim_13 : decode cX3_skim 13 = .ok (.aaload, 1) := by decide +kernel
theorem dX3_skim_14 : decode cX3_skim 14 = .ok (.getfield 83, 3) := by decide +kernel
theorem dX3_skim_17 : decode cX3_skim 17 = .ok (.istore_n 2, 1) := by decide +kernel
theorem dX3_skim_18 : decode cX3_skim 18 = .ok (.aload_n 0, 1) := by decide +kernel
theorem dX3_skim_19 : decode cX3_skim 19 = .ok (.getfield 10, 3) := by decide +kernel
theorem dX3_skim_22 : decode cX3_skim 22 = .ok (.getfield 46, 3) := by decide +kernel
theorem dX3_skim_25 : decode cX3_skim 25 = .ok (.iload_n 1, 1) := by decide +kernel
theorem dX3_skim_26 : decode cX3_skim 26 = .ok (.aaload, 1) := by decide +kernel
theorem dX3_skim_27 : decode cX3_skim 27 = .ok (.iconst 0, 1) := by decide +kernel
theorem dX3_skim_28 : decode cX3_skim 28 = .ok (.putfield 83, 3) := by decide +kernel
theorem dX3_skim_31 : decode cX3_skim 31 = .ok (.aload_n 0, 1) := by decide +kernel
theorem dX3_skim_32 : decode cX3_skim 32 = .ok (.dup, 1) := by decide +kernel
theorem dX3_skim_33 : decode cX3_skim 33 = .ok (.getfield 86, 3) := by decide +kernel
theorem dX3_skim_36 : decode cX3_skim 36 = .ok (.iload_n 2, 1) := by decide +kernel
theorem dX3_skim_37 : decode cX3_skim 37 = .ok (.iadd, 1) := by decide +kernel
theorem dX3_skim_38 : decode cX3_skim 38 = .ok (.putfield 86, 3) := by decide +kernel
theorem dX3_skim_41 : decode cX3_skim 41 = .ok (.iload_n 2, 1) := by decide +kernel
theorem dX3_skim_42 : decode cX3_skim 42 = .ok (.ireturn, 1) := by decide +kernel
theorem dX3_family_0 : decode cX3_family 0 = .ok (.aload_n 0, 1) := by decide +kernel
theorem dX3_family_1 : decode cX3_family 1 = .ok (.getfield 129, 3) := by decide +kernel
theorem dX3_family_4 : decode cX3_family 4 = .ok (.bipush 6, 2) := by decide +kernel
theorem dX3_family_6 : decode cX3_family 6 = .ok (.if_icmp .lt 13, 3) := by decide +kernel
theorem dX3_family_9 : decode cX3_family 9 = .ok (.new 41, 3) := by decide +kernel
theorem dX3_family_12 : decode cX3_family 12 = .ok (.dup, 1) := by decide +kernel
theorem dX3_family_13 : decode cX3_family 13 = .ok (.ldc 132, 2) := by decide +kernel
theorem dX3_family_15 : decode cX3_family 15 = .ok (.invokespecial 45, 3) := by decide +kernel
theorem dX3_family_18 : decode cX3_family 18 = .ok (.athrow, 1) := by decide +kernel
theorem dX3_family_19 : decode cX3_family 19 = .ok (.aload_n 0, 1) := by decide +kernel
theorem dX3_family_20 : decode cX3_family 20 = .ok (.dup, 1) := by decide +kernel
theorem dX3_family_21 : decode cX3_family 21 = .ok (.getfield 129, 3) := by decide +kernel
theorem dX3_family_24 : decode cX3_family 24 = .ok (.iconst 1, 1) := by decide +kernel
theorem dX3_family_25 : decode cX3_family 25 = .ok (.iadd, 1) := by decide +kernel
theorem dX3_family_26 : decode cX3_family 26 = .ok (.putfield 129, 3) := by decide +kernel
theorem dX3_family_29 : decode cX3_family 29 = .ok (.aload_n 0, 1) := by decide +kernel
theorem dX3_family_30 : decode cX3_family 30 = .ok (.getfield 129, 3) := by decide +kernel
theorem dX3_family_33 : decode cX3_family 33 = .ok (.iconst 1, 1) := by decide +kernel
theorem dX3_family_34 : decode cX3_family 34 = .ok (.isub, 1) := by decide +kernel
theorem dX3_family_35 : decode cX3_family 35 = .ok (.ireturn, 1) := by decide +kernel
set_option maxRecDepth 20000 in
theorem ggX3_right_X3_needFamily : GoodIn wsX3_right wsX3_needFamily := goodIn_ca (goodIn_r _ [11, 12, 13, 14, 23, 24, 25, 26, 27, 28, 29, 30, 31, 32] (by decide +kernel) (by decide +kernel)) (goodIn_sub (fun _ h => List.mem_cons_of_mem _ (List.mem_append_right _ h)) (by decide +kernel))
set_option maxRecDepth 20000 in
theorem gX3_right_X3_needFamily : GoodIn wsX3_right (wsV RX3 134 RX3 yX3_needFamily wsX3_needFamily) := goodIn_app (goodIn_of _ (by decide +kernel)) ggX3_right_X3_needFamily
set_option maxRecDepth 20000 in
theorem ggX3_right_X3_needPan : GoodIn wsX3_right wsX3_needPan := goodIn_ca (goodIn_r _ [18, 12, 13] (by decide +kernel) (by decide +kernel)) (goodIn_sub (fun _ h => List.mem_cons_of_mem _ (List.mem_append_right _ h)) (by decide +kernel))
set_option maxRecDepth 20000 in
theorem gX3_right_X3_needPan : GoodIn wsX3_right (wsV RX3 59 RX3 yX3_needPan wsX3_needPan) := goodIn_app (goodIn_of _ (by decide +kernel)) ggX3_right_X3_needPan
set_option maxRecDepth 20000 in
theorem ggX3_right_X3_rightsIn : GoodIn wsX3_right wsX3_rightsIn := goodIn_r _ [22, 14, 5, 6, 23, 24, 25, 26, 27, 28, 29, 30, 31, 32, 33, 34, 35, 36, 37, 38] (by decide +kernel) (by decide +kernel)
set_option maxRecDepth 20000 in
theorem gX3_right_X3_rightsIn : GoodIn wsX3_right (wsV RX3 143 RX3 yX3_rightsIn wsX3_rightsIn) := goodIn_app (goodIn_of _ (by decide +kernel)) ggX3_right_X3_rightsIn
theorem dX3_right_0 : decode cX3_right 0 = .ok (.aload_n 0, 1) := by decide +kernel
theorem dX3_right_1 : decode cX3_right 1 = .ok (.iload_n 1, 1) := by decide +kernel
theorem dX3_right_2 : decode cX3_right 2 = .ok (.invokevirtual 134, 3) := by decide +kernel
theorem dX3_right_5 : decode cX3_right 5 = .ok (.aload_n 0, 1) := by decide +kernel
theorem dX3_right_6 : decode cX3_right 6 = .ok (.iload_n 2, 1) := by decide +kernel
theorem dX3_right_7 : decode cX3_right 7 = .ok (.invokevirtual 59, 3) := by decide +kernel
theorem dX3_right_10 : decode cX3_right 10 = .ok (.iload_n 3, 1) := by decide +kernel
theorem dX3_right_11 : decode cX3_right 11 = .ok (.ifCond .lt 9, 3) := by decide +kernel
theorem dX3_right_14 : decode cX3_right 14 = .ok (.iload_n 3, 1) := by decide +kernel
theorem dX3_right_15 : decode cX3_right 15 = .ok (.bipush 12, 2) := by decide +kernel
theorem dX3_right_17 : decode cX3_right 17 = .ok (.if_icmp .le 13, 3) := by decide +kernel
theorem dX3_right_20 : decode cX3_right 20 = .ok (.new 30, 3) := by decide +kernel
theorem dX3_right_23 : decode cX3_right 23 = .ok (.dup, 1) := by decide +kernel
theorem dX3_right_24 : decode cX3_right 24 = .ok (.ldc 137, 2) := by decide +kernel
theorem dX3_right_26 : decode cX3_right 26 = .ok (.invokespecial 34, 3) := by decide +kernel
theorem dX3_right_29 : decode cX3_right 29 = .ok (.athrow, 1) := by decide +kernel
theorem dX3_right_30 : decode cX3_right 30 = .ok (.aload_n 0, 1) := by decide +kernel
theorem dX3_right_31 : decode cX3_right 31 = .ok (.getfield 21, 3) := by decide +kernel
theorem dX3_right_34 : decode cX3_right 34 = .ok (.iload_n 1, 1) := by decide +kernel
theorem dX3_right_35 : decode cX3_right 35 = .ok (.aaload, 1) := by decide +kernel
theorem dX3_right_36 : decode cX3_right 36 = .ok (.getfield 139, 3) := by decide +kernel
theorem dX3_right_39 : decode cX3_right 39 = .ok (.iload_n 2, 1) := by decide +kernel
theorem dX3_right_40 : decode cX3_right 40 = .ok (.iconst 5, 1) := by decide +kernel
theorem dX3_right_41 : decode cX3_right 41 = .ok (.isub, 1) := by decide +kernel
theorem dX3_right_42 : decode cX3_right 42 = .ok (.iaload, 1) := by decide +kernel
theorem dX3_right_43 : decode cX3_right 43 = .ok (.istore 4, 2) := by decide +kernel
theorem dX3_right_45 : decode cX3_right 45 = .ok (.aload_n 0, 1) := by decide +kernel
theorem dX3_right_46 : decode cX3_right 46 = .ok (.iload_n 2, 1) := by decide +kernel
theorem dX3_right_47 : decode cX3_right 47 = .ok (.invokevirtual 143, 3) := by decide +kernel
theorem dX3_right_50 : decode cX3_right 50 = .ok (.iload 4, 2) := by decide +kernel
theorem dX3_right_52 : decode cX3_right 52 = .ok (.isub, 1) := by decide +kernel
theorem dX3_right_53 : decode cX3_right 53 = .ok (.iload_n 3, 1) := by decide +kernel
theorem dX3_right_54 : decode cX3_right 54 = .ok (.iadd, 1) := by decide +kernel
theorem dX3_right_55 : decode cX3_right 55 = .ok (.bipush 12, 2) := by decide +kernel
theorem dX3_right_57 : decode cX3_right 57 = .ok (.if_icmp .le 13, 3) := by decide +kernel
theorem dX3_right_60 : decode cX3_right 60 = .ok (.new 41, 3) := by decide +kernel
theorem dX3_right_63 : decode cX3_right 63 = .ok (.dup, 1) := by decide +kernel
theorem dX3_right_64 : decode cX3_right 64 = .ok (.ldc 146, 2) := by decide +kernel
theorem dX3_right_66 : decode cX3_right 66 = .ok (.invokespecial 45, 3) := by decide +kernel
theorem dX3_right_69 : decode cX3_right 69 = .ok (.athrow, 1) := by decide +kernel
theorem dX3_right_70 : decode cX3_right 70 = .ok (.aload_n 0, 1) := by decide +kernel
theorem dX3_right_71 : decode cX3_right 71 = .ok (.getfield 21, 3) := by decide +kernel
theorem dX3_right_74 : decode cX3_right 74 = .ok (.iload_n 1, 1) := by decide +kernel
theorem dX3_right_75 : decode cX3_right 75 = .ok (.aaload, 1) := by decide +kernel
theorem dX3_right_76 : decode cX3_right 76 = .ok (.getfield 139, 3) := by decide +kernel
theorem dX3_right_79 : decode cX3_right 79 = .ok (.iload_n 2, 1) := by decide +kernel
theorem dX3_right_80 : decode cX3_right 80 = .ok (.iconst 5, 1) := by decide +kernel
theorem dX3_right_81 : decode cX3_right 81 = .ok (.isub, 1) := by decide +kernel
theorem dX3_right_82 : decode cX3_right 82 = .ok (.iload_n 3, 1) := by decide +kernel
theorem dX3_right_83 : decode cX3_right 83 = .ok (.iastore, 1) := by decide +kernel
theorem dX3_right_84 : decode cX3_right 84 = .ok (.iload 4, 2) := by decide +kernel
theorem dX3_right_86 : decode cX3_right 86 = .ok (.ireturn, 1) := by decide +kernel
set_option maxRecDepth 20000 in
theorem ggX3_harvest_X3_needPan : GoodIn wsX3_harvest wsX3_needPan := goodIn_ca (goodIn_r _ [13, 14, 15] (by decide +kernel) (by decide +kernel)) (goodIn_sub (fun _ h => List.mem_cons_of_mem _ (List.mem_append_right _ h)) (by decide +kernel))
set_option maxRecDepth 20000 in
theorem gX3_harvest_X3_needPan : GoodIn wsX3_harvest (wsV RX3 59 RX3 yX3_needPan wsX3_needPan) := goodIn_app (goodIn_of _ (by decide +kernel)) ggX3_harvest_X3_needPan
set_option maxRecDepth 20000 in
theorem ggX3_harvest_X1_canBeHarvested : GoodIn wsX3_harvest wsX1_canBeHarvested := goodIn_r _ [20, 21, 22, 80, 81, 82, 83, 84, 85, 86, 87, 88, 89, 90, 91] (by decide +kernel) (by decide +kernel)
set_option maxRecDepth 20000 in
theorem gX3_harvest_X1_canBeHarvested : GoodIn wsX3_harvest (wsV RX3 148 RX1 yX1_canBeHarvested wsX1_canBeHarvested) := goodIn_app (goodIn_of _ (by decide +kernel)) ggX3_harvest_X1_canBeHarvested
set_option maxRecDepth 20000 in
theorem ggX3_harvest_X1_saltOfHarvest : GoodIn wsX3_harvest wsX1_saltOfHarvest := goodIn_r _ [26, 21, 27, 28, 29, 30, 31, 80, 81, 82, 83, 84, 85, 86, 87, 88, 89, 90, 91] (by decide +kernel) (by decide +kernel)
set_option maxRecDepth 20000 in
theorem gX3_harvest_X1_saltOfHarvest : GoodIn wsX3_harvest (wsV RX3 154 RX1 yX1_saltOfHarvest wsX1_saltOfHarvest) := goodIn_app (goodIn_of _ (by decide +kernel)) ggX3_harvest_X1_saltOfHarvest
set_option maxRecDepth 20000 in
theorem ggX3_harvest_X1_dirtOfCrustWith : GoodIn wsX3_harvest wsX1_dirtOfCrustWith := goodIn_r _ [35, 36, 21, 37, 12, 38, 80, 81, 82, 83, 84, 85, 86, 87, 88, 89, 90, 91] (by decide +kernel) (by decide +kernel)
set_option maxRecDepth 20000 in
theorem gX3_harvest_X1_dirtOfCrustWith : GoodIn wsX3_harvest (wsV RX3 158 RX1 yX1_dirtOfCrustWith wsX1_dirtOfCrustWith) := goodIn_app (goodIn_of _ (by decide +kernel)) ggX3_harvest_X1_dirtOfCrustWith
set_option maxRecDepth 20000 in
theorem ggX3_harvest_X1_dirtOfFloor : GoodIn wsX3_harvest wsX1_dirtOfFloor := goodIn_r _ [42, 27, 80, 81, 82, 83, 84, 85, 86, 87, 88, 89, 90, 91] (by decide +kernel) (by decide +kernel)
set_option maxRecDepth 20000 in
theorem gX3_harvest_X1_dirtOfFloor : GoodIn wsX3_harvest (wsV RX3 161 RX1 yX1_dirtOfFloor wsX1_dirtOfFloor) := goodIn_app (goodIn_of _ (by decide +kernel)) ggX3_harvest_X1_dirtOfFloor
set_option maxRecDepth 20000 in
theorem ggX3_harvest_X3_crownsPart : GoodIn wsX3_harvest wsX3_crownsPart := goodIn_r _ [45] (by decide +kernel) (by decide +kernel)
set_option maxRecDepth 20000 in
theorem gX3_harvest_X3_crownsPart : GoodIn wsX3_harvest (va_wsS RX3 176 yX3_crownsPart wsX3_crownsPart) := goodIn_app (goodIn_of _ (by decide +kernel)) ggX3_harvest_X3_crownsPart
set_option maxRecDepth 20000 in
theorem ggX3_harvest_X3_shareOut : GoodIn wsX3_harvest wsX3_shareOut := goodIn_r _ [49, 50, 51, 52, 53, 54, 55, 56, 37, 12, 38, 57, 58, 59, 60, 61, 62, 63, 64, 65, 66, 67, 68, 69, 70, 71, 72, 73, 74, 92, 93, 94, 95, 96, 97] (by decide +kernel) (by decide +kernel)
set_option maxRecDepth 20000 in
theorem gX3_harvest_X3_shareOut : GoodIn wsX3_harvest (wsV RX3 179 RX3 yX3_shareOut wsX3_shareOut) := goodIn_app (goodIn_of _ (by decide +kernel)) ggX3_harvest_X3_shareOut
theorem dX3_harvest_0 : decode cX3_harvest 0 = .ok (.aload_n 0, 1) := by decide +kernel
theorem dX3_harvest_1 : decode cX3_harvest 1 = .ok (.iload_n 1, 1) := by decide +kernel
theorem dX3_harvest_2 : decode cX3_harvest 2 = .ok (.invokevirtual 59, 3) := by decide +kernel
theorem dX3_harvest_5 : decode cX3_harvest 5 = .ok (.aload_n 0, 1) := by decide +kernel
theorem dX3_harvest_6 : decode cX3_harvest 6 = .ok (.getfield 10, 3) := by decide +kernel
theorem dX3_harvest_9 : decode cX3_harvest 9 = .ok (.getfield 46, 3) := by decide +kernel
theorem dX3_harvest_12 : decode cX3_harvest 12 = .ok (.iload_n 1, 1) := by decide +kernel
theorem dX3_harvest_13 : decode cX3_harvest 13 = .ok (.aaload, 1) := by decide +kernel
theorem dX3_harvest_14 : decode cX3_harvest 14 = .ok (.astore_n 3, 1) := by decide +kernel
theorem dX3_harvest_15 : decode cX3_harvest 15 = .ok (.aload_n 3, 1) := by decide +kernel
theorem dX3_harvest_16 : decode cX3_harvest 16 = .ok (.invokevirtual 148, 3) := by decide +kernel
theorem dX3_harvest_19 : decode cX3_harvest 19 = .ok (.ifCond .ne 13, 3) := by decide +kernel
theorem dX3_harvest_22 : decode cX3_harvest 22 = .ok (.new 41, 3) := by decide +kernel
theorem dX3_harvest_25 : decode cX3_harvest 25 = .ok (.dup, 1) := by decide +kernel
theorem dX3_harvest_26 : decode cX3_harvest 26 = .ok (.ldc 152, 2) := by decide +kernel
theorem dX3_harvest_28 : decode cX3_harvest 28 = .ok (.invokespecial 45, 3) := by decide +kernel
theorem dX3_harvest_31 : decode cX3_harvest 31 = .ok (.athrow, 1) := by decide +kernel
theorem dX3_harvest_32 : decode cX3_harvest 32 = .ok (.aload_n 3, 1) := by decide +kernel
theorem dX3_harvest_33 : decode cX3_harvest 33 = .ok (.iload_n 2, 1) := by decide +kernel
theorem dX3_harvest_34 : decode cX3_harvest 34 = .ok (.invokevirtual 154, 3) := by decide +kernel
theorem dX3_harvest_37 : decode cX3_harvest 37 = .ok (.istore 4, 2) := by decide +kernel
theorem dX3_harvest_39 : decode cX3_harvest 39 = .ok (.aload_n 3, 1) := by decide +kernel
theorem dX3_harvest_40 : decode cX3_harvest 40 = .ok (.iload 4, 2) := by decide +kernel
theorem dX3_harvest_42 : decode cX3_harvest 42 = .ok (.invokevirtual 158, 3) := by decide +kernel
theorem dX3_harvest_45 : decode cX3_harvest 45 = .ok (.istore 5, 2) := by decide +kernel
theorem dX3_harvest_47 : decode cX3_harvest 47 = .ok (.iload 5, 2) := by decide +kernel
theorem dX3_harvest_49 : decode cX3_harvest 49 = .ok (.aload_n 3, 1) := by decide +kernel
theorem dX3_harvest_50 : decode cX3_harvest 50 = .ok (.iload_n 2, 1) := by decide +kernel
theorem dX3_harvest_51 : decode cX3_harvest 51 = .ok (.invokevirtual 161, 3) := by decide +kernel
theorem dX3_harvest_54 : decode cX3_harvest 54 = .ok (.iadd, 1) := by decide +kernel
theorem dX3_harvest_55 : decode cX3_harvest 55 = .ok (.istore 6, 2) := by decide +kernel
theorem dX3_harvest_57 : decode cX3_harvest 57 = .ok (.aload_n 3, 1) := by decide +kernel
theorem dX3_harvest_58 : decode cX3_harvest 58 = .ok (.dup, 1) := by decide +kernel
theorem dX3_harvest_59 : decode cX3_harvest 59 = .ok (.getfield 164, 3) := by decide +kernel
theorem dX3_harvest_62 : decode cX3_harvest 62 = .ok (.iload 4, 2) := by decide +kernel
theorem dX3_harvest_64 : decode cX3_harvest 64 = .ok (.isub, 1) := by decide +kernel
theorem dX3_harvest_65 : decode cX3_harvest 65 = .ok (.putfield 164, 3) := by decide +kernel
theorem dX3_harvest_68 : decode cX3_harvest 68 = .ok (.aload_n 3, 1) := by decide +kernel
theorem dX3_harvest_69 : decode cX3_harvest 69 = .ok (.dup, 1) := by decide +kernel
theorem dX3_harvest_70 : decode cX3_harvest 70 = .ok (.getfield 167, 3) := by decide +kernel
theorem dX3_harvest_73 : decode cX3_harvest 73 = .ok (.iload 5, 2) := by decide +kernel
theorem dX3_harvest_75 : decode cX3_harvest 75 = .ok (.isub, 1) := by decide +kernel
theorem dX3_harvest_76 : decode cX3_harvest 76 = .ok (.putfield 167, 3) := by decide +kernel
theorem dX3_harvest_79 : decode cX3_harvest 79 = .ok (.aload_n 3, 1) := by decide +kernel
theorem dX3_harvest_80 : decode cX3_harvest 80 = .ok (.iconst 1, 1) := by decide +kernel
theorem dX3_harvest_81 : decode cX3_harvest 81 = .ok (.putfield 170, 3) := by decide +kernel
theorem dX3_harvest_84 : decode cX3_harvest 84 = .ok (.aload_n 0, 1) := by decide +kernel
theorem dX3_harvest_85 : decode cX3_harvest 85 = .ok (.dup, 1) := by decide +kernel
theorem dX3_harvest_86 : decode cX3_harvest 86 = .ok (.getfield 173, 3) := by decide +kernel
theorem dX3_harvest_89 : decode cX3_harvest 89 = .ok (.iload 4, 2) := by decide +kernel
theorem dX3_harvest_91 : decode cX3_harvest 91 = .ok (.invokestatic 176, 3) := by decide +kernel
theorem dX3_harvest_94 : decode cX3_harvest 94 = .ok (.iadd, 1) := by decide +kernel
theorem dX3_harvest_95 : decode cX3_harvest 95 = .ok (.putfield 173, 3) := by decide +kernel
theorem dX3_harvest_98 : decode cX3_harvest 98 = .ok (.aload_n 0, 1) := by decide +kernel
theorem dX3_harvest_99 : decode cX3_harvest 99 = .ok (.iload_n 1, 1) := by decide +kernel
theorem dX3_harvest_100 : decode cX3_harvest 100 = .ok (.iload 4, 2) := by decide +kernel
theorem dX3_harvest_102 : decode cX3_harvest 102 = .ok (.iload 4, 2) := by decide +kernel
theorem dX3_harvest_104 : decode cX3_harvest 104 = .ok (.invokestatic 176, 3) := by decide +kernel
theorem dX3_harvest_107 : decode cX3_harvest 107 = .ok (.isub, 1) := by decide +kernel
theorem dX3_harvest_108 : decode cX3_harvest 108 = .ok (.iload 6, 2) := by decide +kernel
theorem dX3_harvest_110 : decode cX3_harvest 110 = .ok (.invokevirtual 179, 3) := by decide +kernel
theorem dX3_harvest_113 : decode cX3_harvest 113 = .ok (.iload 4, 2) := by decide +kernel
theorem dX3_harvest_115 : decode cX3_harvest 115 = .ok (.ireturn, 1) := by decide +kernel
set_option maxRecDepth 20000 in
theorem ggX3_wash_X3_needFamily : GoodIn wsX3_wash wsX3_needFamily := goodIn_ca (goodIn_r _ [11, 12, 13, 14, 25, 26, 27, 28, 29, 30, 31, 32, 33, 34] (by decide +kernel) (by decide +kernel)) (goodIn_sub (fun _ h => List.mem_cons_of_mem _ (List.mem_append_right _ h)) (by decide +kernel))
set_option maxRecDepth 20000 in
theorem gX3_wash_X3_needFamily : GoodIn wsX3_wash (wsV RX3 134 RX3 yX3_needFamily wsX3_needFamily) := goodIn_app (goodIn_of _ (by decide +kernel)) ggX3_wash_X3_needFamily
set_option maxRecDepth 20000 in
theorem ggX3_wash_X3_roundedUp : GoodIn wsX3_wash wsX3_roundedUp := goodIn_r _ [17] (by decide +kernel) (by decide +kernel)
set_option maxRecDepth 20000 in
theorem gX3_wash_X3_roundedUp : GoodIn wsX3_wash (va_wsS RX3 122 yX3_roundedUp wsX3_roundedUp) := goodIn_app (goodIn_of _ (by decide +kernel)) ggX3_wash_X3_roundedUp
set_option maxRecDepth 20000 in
theorem ggX3_wash_X3_purity : GoodIn wsX3_wash wsX3_purity := goodIn_r _ [20, 21, 22, 23, 10, 24] (by decide +kernel) (by decide +kernel)
set_option maxRecDepth 20000 in
theorem gX3_wash_X3_purity : GoodIn wsX3_wash (va_wsS RX3 203 yX3_purity wsX3_purity) := goodIn_app (goodIn_of _ (by decide +kernel)) ggX3_wash_X3_purity
theorem dX3_wash_0 : decode cX3_wash 0 = .ok (.aload_n 0, 1) := by decide +kernel
theorem dX3_wash_1 : decode cX3_wash 1 = .ok (.iload_n 1, 1) := by decide +kernel
theorem dX3_wash_2 : decode cX3_wash 2 = .ok (.invokevirtual 134, 3) := by decide +kernel
theorem dX3_wash_5 : decode cX3_wash 5 = .ok (.aload_n 0, 1) := by decide +kernel
theorem dX3_wash_6 : decode cX3_wash 6 = .ok (.getfield 21, 3) := by decide +kernel
theorem dX3_wash_9 : decode cX3_wash 9 = .ok (.iload_n 1, 1) := by decide +kernel
theorem dX3_wash_10 : decode cX3_wash 10 = .ok (.aaload, 1) := by decide +kernel
theorem dX3_wash_11 : decode cX3_wash 11 = .ok (.astore_n 2, 1) := by decide +kernel
theorem dX3_wash_12 : decode cX3_wash 12 = .ok (.aload_n 2, 1) := by decide +kernel
theorem dX3_wash_13 : decode cX3_wash 13 = .ok (.getfield 197, 3) := by decide +kernel
theorem dX3_wash_16 : decode cX3_wash 16 = .ok (.iconst 1, 1) := by decide +kernel
theorem dX3_wash_17 : decode cX3_wash 17 = .ok (.if_icmp .ge 13, 3) := by decide +kernel
theorem dX3_wash_20 : decode cX3_wash 20 = .ok (.new 41, 3) := by decide +kernel
theorem dX3_wash_23 : decode cX3_wash 23 = .ok (.dup, 1) := by decide +kernel
theorem dX3_wash_24 : decode cX3_wash 24 = .ok (.ldc 198, 2) := by decide +kernel
theorem dX3_wash_26 : decode cX3_wash 26 = .ok (.invokespecial 45, 3) := by decide +kernel
theorem dX3_wash_29 : decode cX3_wash 29 = .ok (.athrow, 1) := by decide +kernel
theorem dX3_wash_30 : decode cX3_wash 30 = .ok (.aload_n 2, 1) := by decide +kernel
theorem dX3_wash_31 : decode cX3_wash 31 = .ok (.getfield 197, 3) := by decide +kernel
theorem dX3_wash_34 : decode cX3_wash 34 = .ok (.bipush 20, 2) := by decide +kernel
theorem dX3_wash_36 : decode cX3_wash 36 = .ok (.invokestatic 122, 3) := by decide +kernel
theorem dX3_wash_39 : decode cX3_wash 39 = .ok (.istore_n 3, 1) := by decide +kernel
theorem dX3_wash_40 : decode cX3_wash 40 = .ok (.aload_n 2, 1) := by decide +kernel
theorem dX3_wash_41 : decode cX3_wash 41 = .ok (.dup, 1) := by decide +kernel
theorem dX3_wash_42 : decode cX3_wash 42 = .ok (.getfield 200, 3) := by decide +kernel
theorem dX3_wash_45 : decode cX3_wash 45 = .ok (.aload_n 2, 1) := by decide +kernel
theorem dX3_wash_46 : decode cX3_wash 46 = .ok (.getfield 200, 3) := by decide +kernel
theorem dX3_wash_49 : decode cX3_wash 49 = .ok (.iconst 2, 1) := by decide +kernel
theorem dX3_wash_50 : decode cX3_wash 50 = .ok (.invokestatic 122, 3) := by decide +kernel
theorem dX3_wash_53 : decode cX3_wash 53 = .ok (.isub, 1) := by decide +kernel
theorem dX3_wash_54 : decode cX3_wash 54 = .ok (.putfield 200, 3) := by decide +kernel
theorem dX3_wash_57 : decode cX3_wash 57 = .ok (.aload_n 2, 1) := by decide +kernel
theorem dX3_wash_58 : decode cX3_wash 58 = .ok (.dup, 1) := by decide +kernel
theorem dX3_wash_59 : decode cX3_wash 59 = .ok (.getfield 197, 3) := by decide +kernel
theorem dX3_wash_62 : decode cX3_wash 62 = .ok (.iload_n 3, 1) := by decide +kernel
theorem dX3_wash_63 : decode cX3_wash 63 = .ok (.isub, 1) := by decide +kernel
theorem dX3_wash_64 : decode cX3_wash 64 = .ok (.putfield 197, 3) := by decide +kernel
theorem dX3_wash_67 : decode cX3_wash 67 = .ok (.aload_n 0, 1) := by decide +kernel
theorem dX3_wash_68 : decode cX3_wash 68 = .ok (.dup, 1) := by decide +kernel
theorem dX3_wash_69 : decode cX3_wash 69 = .ok (.getfield 100, 3) := by decide +kernel
theorem dX3_wash_72 : decode cX3_wash 72 = .ok (.iload_n 3, 1) := by decide +kernel
theorem dX3_wash_73 : decode cX3_wash 73 = .ok (.iadd, 1) := by decide +kernel
theorem dX3_wash_74 : decode cX3_wash 74 = .ok (.putfield 100, 3) := by decide +kernel
theorem dX3_wash_77 : decode cX3_wash 77 = .ok (.aload_n 2, 1) := by decide +kernel
theorem dX3_wash_78 : decode cX3_wash 78 = .ok (.getfield 197, 3) := by decide +kernel
theorem dX3_wash_81 : decode cX3_wash 81 = .ok (.aload_n 2, 1) := by decide +kernel
theorem dX3_wash_82 : decode cX3_wash 82 = .ok (.getfield 200, 3) := by decide +kernel
theorem dX3_wash_85 : decode cX3_wash 85 = .ok (.invokestatic 203, 3) := by decide +kernel
theorem dX3_wash_88 : decode cX3_wash 88 = .ok (.ireturn, 1) := by decide +kernel
set_option maxRecDepth 20000 in
theorem ggX3_ofPond_X3_needPond : GoodIn wsX3_ofPond wsX3_needPond := goodIn_ca (goodIn_r _ [9, 10, 11] (by decide +kernel) (by decide +kernel)) (goodIn_sub (fun _ h => List.mem_cons_of_mem _ (List.mem_append_right _ h)) (by decide +kernel))
set_option maxRecDepth 20000 in
theorem gX3_ofPond_X3_needPond : GoodIn wsX3_ofPond (wsV RX3 26 RX3 yX3_needPond wsX3_needPond) := goodIn_app (goodIn_of _ (by decide +kernel)) ggX3_ofPond_X3_needPond
set_option maxRecDepth 20000 in
theorem ggX3_ofPond_X1_read : GoodIn wsX3_ofPond wsX1_read := goodIn_r _ [16, 17, 18, 19, 20, 21, 22, 23, 24, 25, 26, 27, 28, 15, 29, 30, 8, 31, 32, 33, 34, 35, 36, 37, 38, 39, 40, 56, 57, 58, 59, 60, 61, 62, 63, 64, 65, 66, 67] (by decide +kernel) (by decide +kernel)
set_option maxRecDepth 20000 in
theorem gX3_ofPond_X1_read : GoodIn wsX3_ofPond (wsV RX3 223 RX1 yX1_read wsX1_read) := goodIn_app (goodIn_of _ (by decide +kernel)) ggX3_ofPond_X1_read
theorem dX3_ofPond_0 : decode cX3_ofPond 0 = .ok (.aload_n 0, 1) := by decide +kernel
theorem dX3_ofPond_1 : decode cX3_ofPond 1 = .ok (.iload_n 1, 1) := by decide +kernel
theorem dX3_ofPond_2 : decode cX3_ofPond 2 = .ok (.invokevirtual 26, 3) := by decide +kernel
theorem dX3_ofPond_5 : decode cX3_ofPond 5 = .ok (.iload_n 2, 1) := by decide +kernel
theorem dX3_ofPond_6 : decode cX3_ofPond 6 = .ok (.ifCond .lt 9, 3) := by decide +kernel
theorem dX3_ofPond_9 : decode cX3_ofPond 9 = .ok (.iload_n 2, 1) := by decide +kernel
theorem dX3_ofPond_10 : decode cX3_ofPond 10 = .ok (.bipush 10, 2) := by decide +kernel
theorem dX3_ofPond_12 : decode cX3_ofPond 12 = .ok (.if_icmp .le 13, 3) := by decide +kernel
theorem dX3_ofPond_15 : decode cX3_ofPond 15 = .ok (.new 30, 3) := by decide +kernel
theorem dX3_ofPond_18 : decode cX3_ofPond 18 = .ok (.dup, 1) := by decide +kernel
theorem dX3_ofPond_19 : decode cX3_ofPond 19 = .ok (.ldc 221, 2) := by decide +kernel
theorem dX3_ofPond_21 : decode cX3_ofPond 21 = .ok (.invokespecial 34, 3) := by decide +kernel
theorem dX3_ofPond_24 : decode cX3_ofPond 24 = .ok (.athrow, 1) := by decide +kernel
theorem dX3_ofPond_25 : decode cX3_ofPond 25 = .ok (.aload_n 0, 1) := by decide +kernel
theorem dX3_ofPond_26 : decode cX3_ofPond 26 = .ok (.getfield 10, 3) := by decide +kernel
theorem dX3_ofPond_29 : decode cX3_ofPond 29 = .ok (.getfield 46, 3) := by decide +kernel
theorem dX3_ofPond_32 : decode cX3_ofPond 32 = .ok (.iload_n 1, 1) := by decide +kernel
theorem dX3_ofPond_33 : decode cX3_ofPond 33 = .ok (.aaload, 1) := by decide +kernel
theorem dX3_ofPond_34 : decode cX3_ofPond 34 = .ok (.iload_n 2, 1) := by decide +kernel
theorem dX3_ofPond_35 : decode cX3_ofPond 35 = .ok (.invokevirtual 223, 3) := by decide +kernel
theorem dX3_ofPond_38 : decode cX3_ofPond 38 = .ok (.ireturn, 1) := by decide +kernel
set_option maxRecDepth 20000 in
theorem ggX3_ofFamily_X3_needFamily : GoodIn wsX3_ofFamily wsX3_needFamily := goodIn_ca (goodIn_r _ [8, 9, 10, 11, 28, 29, 30, 31, 32, 33, 34, 35, 36, 37] (by decide +kernel) (by decide +kernel)) (goodIn_sub (fun _ h => List.mem_cons_of_mem _ (List.mem_append_right _ h)) (by decide +kernel))
set_option maxRecDepth 20000 in
theorem gX3_ofFamily_X3_needFamily : GoodIn wsX3_ofFamily (wsV RX3 134 RX3 yX3_needFamily wsX3_needFamily) := goodIn_app (goodIn_of _ (by decide +kernel)) ggX3_ofFamily_X3_needFamily
set_option maxRecDepth 20000 in
theorem ggX3_ofFamily_X0_read : GoodIn wsX3_ofFamily wsX0_read := goodIn_r _ [16, 17, 18, 19, 20, 21, 22, 7, 23, 24, 25, 26, 27, 38, 39, 40, 41, 42, 43] (by decide +kernel) (by decide +kernel)
set_option maxRecDepth 20000 in
theorem gX3_ofFamily_X0_read : GoodIn wsX3_ofFamily (wsV RX3 228 RX0 yX0_read wsX0_read) := goodIn_app (goodIn_of _ (by decide +kernel)) ggX3_ofFamily_X0_read
theorem dX3_ofFamily_0 : decode cX3_ofFamily 0 = .ok (.aload_n 0, 1) := by decide +kernel
theorem dX3_ofFamily_1 : decode cX3_ofFamily 1 = .ok (.iload_n 1, 1) := by decide +kernel
theorem dX3_ofFamily_2 : decode cX3_ofFamily 2 = .ok (.invokevirtual 134, 3) := by decide +kernel
theorem dX3_ofFamily_5 : decode cX3_ofFamily 5 = .ok (.iload_n 2, 1) := by decide +kernel
theorem dX3_ofFamily_6 : decode cX3_ofFamily 6 = .ok (.ifCond .lt 8, 3) := by decide +kernel
theorem dX3_ofFamily_9 : decode cX3_ofFamily 9 = .ok (.iload_n 2, 1) := by decide +kernel
theorem dX3_ofFamily_10 : decode cX3_ofFamily 10 = .ok (.iconst 5, 1) := by decide +kernel
theorem dX3_ofFamily_11 : decode cX3_ofFamily 11 = .ok (.if_icmp .le 13, 3) := by decide +kernel
theorem dX3_ofFamily_14 : decode cX3_ofFamily 14 = .ok (.new 30, 3) := by decide +kernel
theorem dX3_ofFamily_17 : decode cX3_ofFamily 17 = .ok (.dup, 1) := by decide +kernel
theorem dX3_ofFamily_18 : decode cX3_ofFamily 18 = .ok (.ldc 226, 2) := by decide +kernel
theorem dX3_ofFamily_20 : decode cX3_ofFamily 20 = .ok (.invokespecial 34, 3) := by decide +kernel
theorem dX3_ofFamily_23 : decode cX3_ofFamily 23 = .ok (.athrow, 1) := by decide +kernel
theorem dX3_ofFamily_24 : decode cX3_ofFamily 24 = .ok (.aload_n 0, 1) := by decide +kernel
theorem dX3_ofFamily_25 : decode cX3_ofFamily 25 = .ok (.getfield 21, 3) := by decide +kernel
theorem dX3_ofFamily_28 : decode cX3_ofFamily 28 = .ok (.iload_n 1, 1) := by decide +kernel
theorem dX3_ofFamily_29 : decode cX3_ofFamily 29 = .ok (.aaload, 1) := by decide +kernel
theorem dX3_ofFamily_30 : decode cX3_ofFamily 30 = .ok (.iload_n 2, 1) := by decide +kernel
theorem dX3_ofFamily_31 : decode cX3_ofFamily 31 = .ok (.invokevirtual 228, 3) := by decide +kernel
theorem dX3_ofFamily_34 : decode cX3_ofFamily 34 = .ok (.ireturn, 1) := by decide +kernel
set_option maxRecDepth 20000 in
theorem ggX3_rightOf_X3_needFamily : GoodIn wsX3_rightOf wsX3_needFamily := goodIn_ca (goodIn_r _ [7, 8, 9, 10, 15, 16, 17, 18, 19, 20, 21, 22, 23, 24] (by decide +kernel) (by decide +kernel)) (goodIn_sub (fun _ h => List.mem_cons_of_mem _ (List.mem_append_right _ h)) (by decide +kernel))
set_option maxRecDepth 20000 in
theorem gX3_rightOf_X3_needFamily : GoodIn wsX3_rightOf (wsV RX3 134 RX3 yX3_needFamily wsX3_needFamily) := goodIn_app (goodIn_of _ (by decide +kernel)) ggX3_rightOf_X3_needFamily
set_option maxRecDepth 20000 in
theorem ggX3_rightOf_X3_needPan : GoodIn wsX3_rightOf wsX3_needPan := goodIn_ca (goodIn_r _ [14, 8, 9] (by decide +kernel) (by decide +kernel)) (goodIn_sub (fun _ h => List.mem_cons_of_mem _ (List.mem_append_right _ h)) (by decide +kernel))
set_option maxRecDepth 20000 in
theorem gX3_rightOf_X3_needPan : GoodIn wsX3_rightOf (wsV RX3 59 RX3 yX3_needPan wsX3_needPan) := goodIn_app (goodIn_of _ (by decide +kernel)) ggX3_rightOf_X3_needPan
theorem dX3_rightOf_0 : decode cX3_rightOf 0 = .ok (.aload_n 0, 1) := by decide +kernel
theorem dX3_rightOf_1 : decode cX3_rightOf 1 = .ok (.iload_n 1, 1) := by decide +kernel
theorem dX3_rightOf_2 : decode cX3_rightOf 2 = .ok (.invokevirtual 134, 3) := by decide +kernel
theorem dX3_rightOf_5 : decode cX3_rightOf 5 = .ok (.aload_n 0, 1) := by decide +kernel
theorem dX3_rightOf_6 : decode cX3_rightOf 6 = .ok (.iload_n 2, 1) := by decide +kernel
theorem dX3_rightOf_7 : decode cX3_rightOf 7 = .ok (.invokevirtual 59, 3) := by decide +kernel
theorem dX3_rightOf_10 : decode cX3_rightOf 10 = .ok (.aload_n 0, 1) := by decide +kernel
theorem dX3_rightOf_11 : decode cX3_rightOf 11 = .ok (.getfield 21, 3) := by decide +kernel
theorem dX3_rightOf_14 : decode cX3_rightOf 14 = .ok (.iload_n 1, 1) := by decide +kernel
theorem dX3_rightOf_15 : decode cX3_rightOf 15 = .ok (.aaload, 1) := by decide +kernel
theorem dX3_rightOf_16 : decode cX3_rightOf 16 = .ok (.getfield 139, 3) := by decide +kernel
theorem dX3_rightOf_19 : decode cX3_rightOf 19 = .ok (.iload_n 2, 1) := by decide +kernel
theorem dX3_rightOf_20 : decode cX3_rightOf 20 = .ok (.iconst 5, 1) := by decide +kernel
theorem dX3_rightOf_21 : decode cX3_rightOf 21 = .ok (.isub, 1) := by decide +kernel
theorem dX3_rightOf_22 : decode cX3_rightOf 22 = .ok (.iaload, 1) := by decide +kernel
theorem dX3_rightOf_23 : decode cX3_rightOf 23 = .ok (.ireturn, 1) := by decide +kernel
set_option maxRecDepth 20000 in
theorem ggX3_many_X2_openGates : GoodIn wsX3_many wsX2_openGates := goodIn_r _ [17, 18, 19, 88, 89, 90, 91, 92, 93, 94, 95, 96, 97, 98, 99, 100, 101, 102, 103, 104] (by decide +kernel) (by decide +kernel)
set_option maxRecDepth 20000 in
theorem gX3_many_X2_openGates : GoodIn wsX3_many (wsV RX3 231 RX2 yX2_openGates wsX2_openGates) := goodIn_app (goodIn_of _ (by decide +kernel)) ggX3_many_X2_openGates
set_option maxRecDepth 20000 in
theorem ggX3_many_X2_coveredPans : GoodIn wsX3_many wsX2_coveredPans := goodIn_r _ [23, 18, 24, 88, 89, 90, 91, 92, 93, 94, 95, 96, 97, 98, 99, 100, 101, 102, 103, 104] (by decide +kernel) (by decide +kernel)
set_option maxRecDepth 20000 in
theorem gX3_many_X2_coveredPans : GoodIn wsX3_many (wsV RX3 234 RX2 yX2_coveredPans wsX2_coveredPans) := goodIn_app (goodIn_of _ (by decide +kernel)) ggX3_many_X2_coveredPans
set_option maxRecDepth 20000 in
theorem ggX3_many_X2_sumOfPonds : GoodIn wsX3_many wsX2_sumOfPonds := goodIn_r _ [28, 18, 29, 30, 31, 32, 33, 34, 35, 36, 37, 38, 39, 40, 41, 42, 43, 44, 45, 46, 47, 48, 49, 50, 51, 52, 53, 54, 55, 56, 57, 58, 88, 89, 90, 91, 92, 93, 94, 95, 96, 97, 98, 99, 100, 101, 102, 103, 104] (by decide +kernel) (by decide +kernel)
set_option maxRecDepth 20000 in
theorem gX3_many_X2_sumOfPonds : GoodIn wsX3_many (wsV RX3 240 RX2 yX2_sumOfPonds wsX2_sumOfPonds) := goodIn_app (goodIn_of _ (by decide +kernel)) ggX3_many_X2_sumOfPonds
set_option maxRecDepth 20000 in
theorem ggX3_many_X3_sumOfFamilies : GoodIn wsX3_many wsX3_sumOfFamilies := goodIn_r _ [62, 5, 63, 64, 65, 66, 67, 68, 69, 70, 71, 72, 73, 74, 48, 75, 76, 77, 47, 49, 78, 79, 80, 81, 82, 83, 84, 85, 86, 87, 105, 106, 107, 108, 109, 110] (by decide +kernel) (by decide +kernel)
set_option maxRecDepth 20000 in
theorem gX3_many_X3_sumOfFamilies : GoodIn wsX3_many (wsV RX3 243 RX3 yX3_sumOfFamilies wsX3_sumOfFamilies) := goodIn_app (goodIn_of _ (by decide +kernel)) ggX3_many_X3_sumOfFamilies
theorem dX3_many_0 : decode cX3_many 0 = .ok (.iload_n 1, 1) := by decide +kernel
theorem dX3_many_1 : decode cX3_many 1 = .ok (.tableswitch 213 0 17 #[87, 95, 100, 108, 116, 124, 133, 143, 149, 155, 160, 165, 170, 180, 185, 194, 203, 208], 87) := by decide +kernel
theorem dX3_many_88 : decode cX3_many 88 = .ok (.aload_n 0, 1) := by decide +kernel
theorem dX3_many_89 : decode cX3_many 89 = .ok (.getfield 10, 3) := by decide +kernel
theorem dX3_many_92 : decode cX3_many 92 = .ok (.getfield 37, 3) := by decide +kernel
theorem dX3_many_95 : decode cX3_many 95 = .ok (.ireturn, 1) := by decide +kernel
theorem dX3_many_96 : decode cX3_many 96 = .ok (.aload_n 0, 1) := by decide +kernel
theorem dX3_many_97 : decode cX3_many 97 = .ok (.getfield 129, 3) := by decide +kernel
theorem dX3_many_100 : decode cX3_many 100 = .ok (.ireturn, 1) := by decide +kernel
theorem dX3_many_101 : decode cX3_many 101 = .ok (.aload_n 0, 1) := by decide +kernel
theorem dX3_many_102 : decode cX3_many 102 = .ok (.getfield 10, 3) := by decide +kernel
theorem dX3_many_105 : decode cX3_many 105 = .ok (.invokevirtual 231, 3) := by decide +kernel
theorem dX3_many_108 : decode cX3_many 108 = .ok (.ireturn, 1) := by decide +kernel
theorem dX3_many_109 : decode cX3_many 109 = .ok (.aload_n 0, 1) := by decide +kernel
theorem dX3_many_110 : decode cX3_many 110 = .ok (.getfield 10, 3) := by decide +kernel
theorem dX3_many_113 : decode cX3_many 113 = .ok (.invokevirtual 234, 3) := by decide +kernel
theorem dX3_many_116 : decode cX3_many 116 = .ok (.ireturn, 1) := by decide +kernel
theorem dX3_many_117 : decode cX3_many 117 = .ok (.aload_n 0, 1) := by decide +kernel
theorem dX3_many_118 : decode cX3_many 118 = .ok (.getfield 10, 3) := by decide +kernel
theorem dX3_many_121 : decode cX3_many 121 = .ok (.getfield 237, 3) := by decide +kernel
theorem dX3_many_124 : decode cX3_many 124 = .ok (.ireturn, 1) := by decide +kernel
theorem dX3_many_125 : decode cX3_many 125 = .ok (.aload_n 0, 1) := by decide +kernel
theorem dX3_many_126 : decode cX3_many 126 = .ok (.getfield 10, 3) := by decide +kernel
theorem dX3_many_129 : decode cX3_many 129 = .ok (.iconst 2, 1) := by decide +kernel
theorem dX3_many_130 : decode cX3_many 130 = .ok (.invokevirtual 240, 3) := by decide +kernel
theorem dX3_many_133 : decode cX3_many 133 = .ok (.ireturn, 1) := by decide +kernel
theorem dX3_many_134 : decode cX3_many 134 = .ok (.aload_n 0, 1) := by decide +kernel
theorem dX3_many_135 : decode cX3_many 135 = .ok (.getfield 10, 3) := by decide +kernel
theorem dX3_many_138 : decode cX3_many 138 = .ok (.bipush 6, 2) := by decide +kernel
theorem dX3_many_140 : decode cX3_many 140 = .ok (.invokevirtual 240, 3) := by decide +kernel
theorem dX3_many_143 : decode cX3_many 143 = .ok (.ireturn, 1) := by decide +kernel
theorem dX3_many_144 : decode cX3_many 144 = .ok (.aload_n 0, 1) := by decide +kernel
theorem dX3_many_145 : decode cX3_many 145 = .ok (.iconst 0, 1) := by decide +kernel
theorem dX3_many_146 : decode cX3_many 146 = .ok (.invokevirtual 243, 3) := by decide +kernel
theorem dX3_many_149 : decode cX3_many 149 = .ok (.ireturn, 1) := by decide +kernel
theorem dX3_many_150 : decode cX3_many 150 = .ok (.aload_n 0, 1) := by decide +kernel
theorem dX3_many_151 : decode cX3_many 151 = .ok (.iconst 5, 1) := by decide +kernel
theorem dX3_many_152 : decode cX3_many 152 = .ok (.invokevirtual 243, 3) := by decide +kernel
theorem dX3_many_155 : decode cX3_many 155 = .ok (.ireturn, 1) := by decide +kernel
theorem dX3_many_156 : decode cX3_many 156 = .ok (.aload_n 0, 1) := by decide +kernel
theorem dX3_many_157 : decode cX3_many 157 = .ok (.getfield 100, 3) := by decide +kernel
theorem dX3_many_160 : decode cX3_many 160 = .ok (.ireturn, 1) := by decide +kernel
theorem dX3_many_161 : decode cX3_many 161 = .ok (.aload_n 0, 1) := by decide +kernel
theorem dX3_many_162 : decode cX3_many 162 = .ok (.getfield 173, 3) := by decide +kernel
theorem dX3_many_165 : decode cX3_many 165 = .ok (.ireturn, 1) := by decide +kernel
theorem dX3_many_166 : decode cX3_many 166 = .ok (.aload_n 0, 1) := by decide +kernel
theorem dX3_many_167 : decode cX3_many 167 = .ok (.getfield 246, 3) := by decide +kernel
theorem dX3_many_170 : decode cX3_many 170 = .ok (.ireturn, 1) := by decide +kernel
theorem dX3_many_171 : decode cX3_many 171 = .ok (.aload_n 0, 1) := by decide +kernel
theorem dX3_many_172 : decode cX3_many 172 = .ok (.getfield 10, 3) := by decide +kernel
theorem dX3_many_175 : decode cX3_many 175 = .ok (.bipush 7, 2) := by decide +kernel
theorem dX3_many_177 : decode cX3_many 177 = .ok (.invokevirtual 240, 3) := by decide +kernel
theorem dX3_many_180 : decode cX3_many 180 = .ok (.ireturn, 1) := by decide +kernel
theorem dX3_many_181 : decode cX3_many 181 = .ok (.aload_n 0, 1) := by decide +kernel
theorem dX3_many_182 : decode cX3_many 182 = .ok (.getfield 249, 3) := by decide +kernel
theorem dX3_many_185 : decode cX3_many 185 = .ok (.ireturn, 1) := by decide +kernel
theorem dX3_many_186 : decode cX3_many 186 = .ok (.aload_n 0, 1) := by decide +kernel
theorem dX3_many_187 : decode cX3_many 187 = .ok (.getfield 10, 3) := by decide +kernel
theorem dX3_many_190 : decode cX3_many 190 = .ok (.iconst 1, 1) := by decide +kernel
theorem dX3_many_191 : decode cX3_many 191 = .ok (.invokevirtual 240, 3) := by decide +kernel
theorem dX3_many_194 : decode cX3_many 194 = .ok (.ireturn, 1) := by decide +kernel
theorem dX3_many_195 : decode cX3_many 195 = .ok (.aload_n 0, 1) := by decide +kernel
theorem dX3_many_196 : decode cX3_many 196 = .ok (.getfield 10, 3) := by decide +kernel
theorem dX3_many_199 : decode cX3_many 199 = .ok (.iconst 5, 1) := by decide +kernel
theorem dX3_many_200 : decode cX3_many 200 = .ok (.invokevirtual 240, 3) := by decide +kernel
theorem dX3_many_203 : decode cX3_many 203 = .ok (.ireturn, 1) := by decide +kernel
theorem dX3_many_204 : decode cX3_many 204 = .ok (.aload_n 0, 1) := by decide +kernel
theorem dX3_many_205 : decode cX3_many 205 = .ok (.getfield 86, 3) := by decide +kernel
theorem dX3_many_208 : decode cX3_many 208 = .ok (.ireturn, 1) := by decide +kernel
theorem dX3_many_209 : decode cX3_many 209 = .ok (.aload_n 0, 1) := by decide +kernel
theorem dX3_many_210 : decode cX3_many 210 = .ok (.getfield 119, 3) := by decide +kernel
theorem dX3_many_213 : decode cX3_many 213 = .ok (.ireturn, 1) := by decide +kernel
theorem dX3_many_214 : decode cX3_many 214 = .ok (.new 30, 3) := by decide +kernel
theorem dX3_many_217 : decode cX3_many 217 = .ok (.dup, 1) := by decide +kernel
theorem dX3_many_218 : decode cX3_many 218 = .ok (.ldc 252, 2) := by decide +kernel
theorem dX3_many_220 : decode cX3_many 220 = .ok (.invokespecial 34, 3) := by decide +kernel
theorem dX3_many_223 : decode cX3_many 223 = .ok (.athrow, 1) := by decide +kernel
set_option maxRecDepth 20000 in
theorem ggX3_crustIn_X3_needPan : GoodIn wsX3_crustIn wsX3_needPan := goodIn_ca (goodIn_r _ [9, 10, 11] (by decide +kernel) (by decide +kernel)) (goodIn_sub (fun _ h => List.mem_cons_of_mem _ (List.mem_append_left _ (List.mem_append_right _ h))) (by decide +kernel))
set_option maxRecDepth 20000 in
theorem gX3_crustIn_X3_needPan : GoodIn wsX3_crustIn (wsV RX3 59 RX3 yX3_needPan wsX3_needPan) := goodIn_app (goodIn_of _ (by decide +kernel)) ggX3_crustIn_X3_needPan
set_option maxRecDepth 20000 in
theorem ggX3_crustIn_X3_needWeather : GoodIn wsX3_crustIn wsX3_needWeather := goodIn_ca (goodIn_r _ [15, 16, 17] (by decide +kernel) (by decide +kernel)) (goodIn_sub (fun _ h => List.mem_cons_of_mem _ (List.mem_append_right _ h)) (by decide +kernel))
set_option maxRecDepth 20000 in
theorem gX3_crustIn_X3_needWeather : GoodIn wsX3_crustIn (wsV RX3 67 RX3 yX3_needWeather wsX3_needWeather) := goodIn_app (goodIn_of _ (by decide +kernel)) ggX3_crustIn_X3_needWeather
set_option maxRecDepth 20000 in
theorem ggX3_crustIn_X2_copyFrom : GoodIn wsX3_crustIn wsX2_copyFrom := goodIn_r _ [22, 23, 24, 25, 26, 27, 28, 29, 30, 31, 32, 33, 34, 35, 36, 37, 38, 39, 40, 41, 42, 43, 44, 126, 127, 128, 129, 130, 131, 132, 133, 134, 135, 136, 137, 138, 139, 140, 141, 142] (by decide +kernel) (by decide +kernel)
set_option maxRecDepth 20000 in
theorem gX3_crustIn_X2_copyFrom : GoodIn wsX3_crustIn (wsV RX3 254 RX2 yX2_copyFrom wsX2_copyFrom) := goodIn_app (goodIn_of _ (by decide +kernel)) ggX3_crustIn_X2_copyFrom
set_option maxRecDepth 20000 in
theorem ggX3_crustIn_X2_letDayGoBy : GoodIn wsX3_crustIn wsX2_letDayGoBy := goodIn_r _ [48, 23, 24, 25, 27, 49, 50, 51, 52, 21, 53, 54, 55, 26, 56, 8, 57, 58, 59, 60, 61, 62, 63, 64, 31, 65, 34, 33, 66, 67, 68, 69, 70, 71, 35, 36, 37, 72, 73, 74, 75, 76, 77, 78, 79, 80, 81, 82, 83, 84, 85, 86, 87, 88, 43, 38, 89, 90, 91, 92, 93, 94, 95, 96, 97, 98, 99, 100, 101, 102, 103, 104, 39, 105, 106, 107, 108, 41, 40, 109, 110, 111, 112, 113, 114, 115, 126, 127, 128, 129, 130, 131, 132, 133, 134, 135, 136, 137, 138, 139, 140, 141, 142] (by decide +kernel) (by decide +kernel)
set_option maxRecDepth 20000 in
theorem gX3_crustIn_X2_letDayGoBy : GoodIn wsX3_crustIn (wsV RX3 75 RX2 yX2_letDayGoBy wsX2_letDayGoBy) := goodIn_app (goodIn_of _ (by decide +kernel)) ggX3_crustIn_X2_letDayGoBy
theorem dX3_crustIn_0 : decode cX3_crustIn 0 = .ok (.aload_n 0, 1) := by decide +kernel
theorem dX3_crustIn_1 : decode cX3_crustIn 1 = .ok (.iload_n 1, 1) := by decide +kernel
theorem dX3_crustIn_2 : decode cX3_crustIn 2 = .ok (.invokevirtual 59, 3) := by decide +kernel
theorem dX3_crustIn_5 : decode cX3_crustIn 5 = .ok (.aload_n 0, 1) := by decide +kernel
theorem dX3_crustIn_6 : decode cX3_crustIn 6 = .ok (.iload_n 2, 1) := by decide +kernel
theorem dX3_crustIn_7 : decode cX3_crustIn 7 = .ok (.iload_n 3, 1) := by decide +kernel
theorem dX3_crustIn_8 : decode cX3_crustIn 8 = .ok (.invokevirtual 67, 3) := by decide +kernel
theorem dX3_crustIn_11 : decode cX3_crustIn 11 = .ok (.aload_n 0, 1) := by decide +kernel
theorem dX3_crustIn_12 : decode cX3_crustIn 12 = .ok (.getfield 16, 3) := by decide +kernel
theorem dX3_crustIn_15 : decode cX3_crustIn 15 = .ok (.aload_n 0, 1) := by decide +kernel
theorem dX3_crustIn_16 : decode cX3_crustIn 16 = .ok (.getfield 10, 3) := by decide +kernel
theorem dX3_crustIn_19 : decode cX3_crustIn 19 = .ok (.invokevirtual 254, 3) := by decide +kernel
theorem dX3_crustIn_22 : decode cX3_crustIn 22 = .ok (.iconst 1, 1) := by decide +kernel
theorem dX3_crustIn_23 : decode cX3_crustIn 23 = .ok (.istore 4, 2) := by decide +kernel
theorem dX3_crustIn_25 : decode cX3_crustIn 25 = .ok (.iload 4, 2) := by decide +kernel
theorem dX3_crustIn_27 : decode cX3_crustIn 27 = .ok (.bipush 60, 2) := by decide +kernel
theorem dX3_crustIn_29 : decode cX3_crustIn 29 = .ok (.if_icmp .gt 37, 3) := by decide +kernel
theorem dX3_crustIn_32 : decode cX3_crustIn 32 = .ok (.aload_n 0, 1) := by decide +kernel
theorem dX3_crustIn_33 : decode cX3_crustIn 33 = .ok (.getfield 16, 3) := by decide +kernel
theorem dX3_crustIn_36 : decode cX3_crustIn 36 = .ok (.iload_n 2, 1) := by decide +kernel
theorem dX3_crustIn_37 : decode cX3_crustIn 37 = .ok (.iload_n 3, 1) := by decide +kernel
theorem dX3_crustIn_38 : decode cX3_crustIn 38 = .ok (.iconst 0, 1) := by decide +kernel
theorem dX3_crustIn_39 : decode cX3_crustIn 39 = .ok (.invokevirtual 75, 3) := by decide +kernel
theorem dX3_crustIn_42 : decode cX3_crustIn 42 = .ok (.aload_n 0, 1) := by decide +kernel
theorem dX3_crustIn_43 : decode cX3_crustIn 43 = .ok (.getfield 16, 3) := by decide +kernel
theorem dX3_crustIn_46 : decode cX3_crustIn 46 = .ok (.getfield 46, 3) := by decide +kernel
theorem dX3_crustIn_49 : decode cX3_crustIn 49 = .ok (.iload_n 1, 1) := by decide +kernel
theorem dX3_crustIn_50 : decode cX3_crustIn 50 = .ok (.aaload, 1) := by decide +kernel
theorem dX3_crustIn_51 : decode cX3_crustIn 51 = .ok (.getfield 258, 3) := by decide +kernel
theorem dX3_crustIn_54 : decode cX3_crustIn 54 = .ok (.ifCond .le 6, 3) := by decide +kernel
theorem dX3_crustIn_57 : decode cX3_crustIn 57 = .ok (.iload 4, 2) := by decide +kernel
theorem dX3_crustIn_59 : decode cX3_crustIn 59 = .ok (.ireturn, 1) := by decide +kernel
theorem dX3_crustIn_60 : decode cX3_crustIn 60 = .ok (.iinc 4 1, 3) := by decide +kernel
theorem dX3_crustIn_63 : decode cX3_crustIn 63 = .ok (.goto (-38), 3) := by decide +kernel
theorem dX3_crustIn_66 : decode cX3_crustIn 66 = .ok (.iconst (-1), 1) := by decide +kernel
theorem dX3_crustIn_67 : decode cX3_crustIn 67 = .ok (.ireturn, 1) := by decide +kernel
set_option maxRecDepth 20000 in
theorem ggX3_bestGates_X3_needWeather : GoodIn wsX3_bestGates wsX3_needWeather := goodIn_ca (goodIn_r _ [7, 1, 2] (by decide +kernel) (by decide +kernel)) (goodIn_sub (fun _ h => List.mem_cons_of_mem _ (List.mem_append_right _ h)) (by decide +kernel))
set_option maxRecDepth 20000 in
theorem gX3_bestGates_X3_needWeather : GoodIn wsX3_bestGates (wsV RX3 67 RX3 yX3_needWeather wsX3_needWeather) := goodIn_app (goodIn_of _ (by decide +kernel)) ggX3_bestGates_X3_needWeather
set_option maxRecDepth 20000 in
theorem ggX3_bestGates_X3_saltInPansWith : GoodIn wsX3_bestGates wsX3_saltInPansWith := goodIn_r _ [11, 12, 13, 14, 15, 16, 17, 18, 19, 20, 21, 22, 23, 24, 25, 26, 27, 28, 29, 30, 31, 32, 33, 34, 35, 36, 37, 38, 39, 40, 41, 42, 43, 44, 45, 46, 47, 48, 49, 50, 51, 52, 53, 54, 55, 56, 6, 57, 58, 59, 60, 61, 62, 63, 64, 65, 66, 67, 68, 69, 70, 71, 72, 73, 74, 75, 76, 77, 78, 79, 80, 81, 82, 83, 84, 85, 86, 87, 88, 89, 90, 91, 92, 93, 94, 95, 96, 97, 98, 99, 100, 101, 102, 103, 104, 105, 106, 107, 108, 109, 110, 111, 112, 113, 114, 115, 116, 117, 118, 119, 120, 121, 122, 123, 124, 125, 126, 127, 128, 129, 130, 131, 132, 133, 134, 135, 136, 137, 138, 139, 140, 141, 142, 143, 144, 145, 146, 147, 148] (by decide +kernel) (by decide +kernel)
set_option maxRecDepth 20000 in
theorem gX3_bestGates_X3_saltInPansWith : GoodIn wsX3_bestGates (wsV RX3 263 RX3 yX3_saltInPansWith wsX3_saltInPansWith) := goodIn_app (goodIn_of _ (by decide +kernel)) ggX3_bestGates_X3_saltInPansWith
theorem dX3_bestGates_0 : decode cX3_bestGates 0 = .ok (.iload_n 1, 1) := by decide +kernel
theorem dX3_bestGates_1 : decode cX3_bestGates 1 = .ok (.iconst 1, 1) := by decide +kernel
theorem dX3_bestGates_2 : decode cX3_bestGates 2 = .ok (.if_icmp .lt 9, 3) := by decide +kernel
theorem dX3_bestGates_5 : decode cX3_bestGates 5 = .ok (.iload_n 1, 1) := by decide +kernel
theorem dX3_bestGates_6 : decode cX3_bestGates 6 = .ok (.bipush 9, 2) := by decide +kernel
theorem dX3_bestGates_8 : decode cX3_bestGates 8 = .ok (.if_icmp .le 14, 3) := by decide +kernel
theorem dX3_bestGates_11 : decode cX3_bestGates 11 = .ok (.new 30, 3) := by decide +kernel
theorem dX3_bestGates_14 : decode cX3_bestGates 14 = .ok (.dup, 1) := by decide +kernel
theorem dX3_bestGates_15 : decode cX3_bestGates 15 = .ok (.ldc_w 261, 3) := by decide +kernel
theorem dX3_bestGates_18 : decode cX3_bestGates 18 = .ok (.invokespecial 34, 3) := by decide +kernel
theorem dX3_bestGates_21 : decode cX3_bestGates 21 = .ok (.athrow, 1) := by decide +kernel
theorem dX3_bestGates_22 : decode cX3_bestGates 22 = .ok (.aload_n 0, 1) := by decide +kernel
theorem dX3_bestGates_23 : decode cX3_bestGates 23 = .ok (.iload_n 2, 1) := by decide +kernel
theorem dX3_bestGates_24 : decode cX3_bestGates 24 = .ok (.iload_n 3, 1) := by decide +kernel
theorem dX3_bestGates_25 : decode cX3_bestGates 25 = .ok (.invokevirtual 67, 3) := by decide +kernel
theorem dX3_bestGates_28 : decode cX3_bestGates 28 = .ok (.iconst 0, 1) := by decide +kernel
theorem dX3_bestGates_29 : decode cX3_bestGates 29 = .ok (.istore 4, 2) := by decide +kernel
theorem dX3_bestGates_31 : decode cX3_bestGates 31 = .ok (.iconst (-1), 1) := by decide +kernel
theorem dX3_bestGates_32 : decode cX3_bestGates 32 = .ok (.istore 5, 2) := by decide +kernel
theorem dX3_bestGates_34 : decode cX3_bestGates 34 = .ok (.iconst 0, 1) := by decide +kernel
theorem dX3_bestGates_35 : decode cX3_bestGates 35 = .ok (.istore 6, 2) := by decide +kernel
theorem dX3_bestGates_37 : decode cX3_bestGates 37 = .ok (.iload 6, 2) := by decide +kernel
theorem dX3_bestGates_39 : decode cX3_bestGates 39 = .ok (.sipush 256, 3) := by decide +kernel
theorem dX3_bestGates_42 : decode cX3_bestGates 42 = .ok (.if_icmp .ge 35, 3) := by decide +kernel
theorem dX3_bestGates_45 : decode cX3_bestGates 45 = .ok (.aload_n 0, 1) := by decide +kernel
theorem dX3_bestGates_46 : decode cX3_bestGates 46 = .ok (.iload 6, 2) := by decide +kernel
theorem dX3_bestGates_48 : decode cX3_bestGates 48 = .ok (.iload_n 1, 1) := by decide +kernel
theorem dX3_bestGates_49 : decode cX3_bestGates 49 = .ok (.iload_n 2, 1) := by decide +kernel
theorem dX3_bestGates_50 : decode cX3_bestGates 50 = .ok (.iload_n 3, 1) := by decide +kernel
theorem dX3_bestGates_51 : decode cX3_bestGates 51 = .ok (.invokevirtual 263, 3) := by decide +kernel
theorem dX3_bestGates_54 : decode cX3_bestGates 54 = .ok (.istore 7, 2) := by decide +kernel
theorem dX3_bestGates_56 : decode cX3_bestGates 56 = .ok (.iload 7, 2) := by decide +kernel
theorem dX3_bestGates_58 : decode cX3_bestGates 58 = .ok (.iload 5, 2) := by decide +kernel
theorem dX3_bestGates_60 : decode cX3_bestGates 60 = .ok (.if_icmp .le 11, 3) := by decide +kernel
theorem dX3_bestGates_63 : decode cX3_bestGates 63 = .ok (.iload 7, 2) := by decide +kernel
theorem dX3_bestGates_65 : decode cX3_bestGates 65 = .ok (.istore 5, 2) := by decide +kernel
theorem dX3_bestGates_67 : decode cX3_bestGates 67 = .ok (.iload 6, 2) := by decide +kernel
theorem dX3_bestGates_69 : decode cX3_bestGates 69 = .ok (.istore 4, 2) := by decide +kernel
theorem dX3_bestGates_71 : decode cX3_bestGates 71 = .ok (.iinc 6 1, 3) := by decide +kernel
theorem dX3_bestGates_74 : decode cX3_bestGates 74 = .ok (.goto (-37), 3) := by decide +kernel
theorem dX3_bestGates_77 : decode cX3_bestGates 77 = .ok (.iload 4, 2) := by decide +kernel
theorem dX3_bestGates_79 : decode cX3_bestGates 79 = .ok (.ireturn, 1) := by decide +kernel
set_option maxRecDepth 20000 in
theorem ggX3_tideOn_X3_tideAt : GoodIn wsX3_tideOn wsX3_tideAt := goodIn_r _ [8, 9, 10, 11, 12] (by decide +kernel) (by decide +kernel)
set_option maxRecDepth 20000 in
theorem gX3_tideOn_X3_tideAt : GoodIn wsX3_tideOn (va_wsS RX3 94 yX3_tideAt wsX3_tideAt) := goodIn_app (goodIn_of _ (by decide +kernel)) ggX3_tideOn_X3_tideAt
theorem dX3_tideOn_0 : decode cX3_tideOn 0 = .ok (.iload_n 1, 1) := by decide +kernel
theorem dX3_tideOn_1 : decode cX3_tideOn 1 = .ok (.ifCond .lt 9, 3) := by decide +kernel
theorem dX3_tideOn_4 : decode cX3_tideOn 4 = .ok (.iload_n 1, 1) := by decide +kernel
theorem dX3_tideOn_5 : decode cX3_tideOn 5 = .ok (.bipush 20, 2) := by decide +kernel
theorem dX3_tideOn_7 : decode cX3_tideOn 7 = .ok (.if_icmp .le 14, 3) := by decide +kernel
theorem dX3_tideOn_10 : decode cX3_tideOn 10 = .ok (.new 30, 3) := by decide +kernel
theorem dX3_tideOn_13 : decode cX3_tideOn 13 = .ok (.dup, 1) := by decide +kernel
theorem dX3_tideOn_14 : decode cX3_tideOn 14 = .ok (.ldc_w 269, 3) := by decide +kernel
theorem dX3_tideOn_17 : decode cX3_tideOn 17 = .ok (.invokespecial 34, 3) := by decide +kernel
theorem dX3_tideOn_20 : decode cX3_tideOn 20 = .ok (.athrow, 1) := by decide +kernel
theorem dX3_tideOn_21 : decode cX3_tideOn 21 = .ok (.iconst 0, 1) := by decide +kernel
theorem dX3_tideOn_22 : decode cX3_tideOn 22 = .ok (.istore_n 3, 1) := by decide +kernel
theorem dX3_tideOn_23 : decode cX3_tideOn 23 = .ok (.iload_n 3, 1) := by decide +kernel
theorem dX3_tideOn_24 : decode cX3_tideOn 24 = .ok (.bipush 14, 2) := by decide +kernel
theorem dX3_tideOn_26 : decode cX3_tideOn 26 = .ok (.if_icmp .ge 52, 3) := by decide +kernel
theorem dX3_tideOn_29 : decode cX3_tideOn 29 = .ok (.aload_n 0, 1) := by decide +kernel
theorem dX3_tideOn_30 : decode cX3_tideOn 30 = .ok (.getfield 10, 3) := by decide +kernel
theorem dX3_tideOn_33 : decode cX3_tideOn 33 = .ok (.getfield 37, 3) := by decide +kernel
theorem dX3_tideOn_36 : decode cX3_tideOn 36 = .ok (.iload_n 3, 1) := by decide +kernel
theorem dX3_tideOn_37 : decode cX3_tideOn 37 = .ok (.iadd, 1) := by decide +kernel
theorem dX3_tideOn_38 : decode cX3_tideOn 38 = .ok (.invokestatic 94, 3) := by decide +kernel
theorem dX3_tideOn_41 : decode cX3_tideOn 41 = .ok (.istore 4, 2) := by decide +kernel
theorem dX3_tideOn_43 : decode cX3_tideOn 43 = .ok (.iload_n 2, 1) := by decide +kernel
theorem dX3_tideOn_44 : decode cX3_tideOn 44 = .ok (.ifCond .eq 12, 3) := by decide +kernel
theorem dX3_tideOn_47 : decode cX3_tideOn 47 = .ok (.iload 4, 2) := by decide +kernel
theorem dX3_tideOn_49 : decode cX3_tideOn 49 = .ok (.iload_n 1, 1) := by decide +kernel
theorem dX3_tideOn_50 : decode cX3_tideOn 50 = .ok (.if_icmp .lt 22, 3) := by decide +kernel
theorem dX3_tideOn_53 : decode cX3_tideOn 53 = .ok (.goto 9, 3) := by decide +kernel
theorem dX3_tideOn_56 : decode cX3_tideOn 56 = .ok (.iload 4, 2) := by decide +kernel
theorem dX3_tideOn_58 : decode cX3_tideOn 58 = .ok (.iload_n 1, 1) := by decide +kernel
theorem dX3_tideOn_59 : decode cX3_tideOn 59 = .ok (.if_icmp .gt 13, 3) := by decide +kernel
theorem dX3_tideOn_62 : decode cX3_tideOn 62 = .ok (.aload_n 0, 1) := by decide +kernel
theorem dX3_tideOn_63 : decode cX3_tideOn 63 = .ok (.getfield 10, 3) := by decide +kernel
theorem dX3_tideOn_66 : decode cX3_tideOn 66 = .ok (.getfield 37, 3) := by decide +kernel
theorem dX3_tideOn_69 : decode cX3_tideOn 69 = .ok (.iload_n 3, 1) := by decide +kernel
theorem dX3_tideOn_70 : decode cX3_tideOn 70 = .ok (.iadd, 1) := by decide +kernel
theorem dX3_tideOn_71 : decode cX3_tideOn 71 = .ok (.ireturn, 1) := by decide +kernel
theorem dX3_tideOn_72 : decode cX3_tideOn 72 = .ok (.iinc 3 1, 3) := by decide +kernel
theorem dX3_tideOn_75 : decode cX3_tideOn 75 = .ok (.goto (-52), 3) := by decide +kernel
theorem dX3_tideOn_78 : decode cX3_tideOn 78 = .ok (.iconst (-1), 1) := by decide +kernel
theorem dX3_tideOn_79 : decode cX3_tideOn 79 = .ok (.ireturn, 1) := by decide +kernel
set_option maxRecDepth 20000 in
theorem ggX3_digest_X3_many : GoodIn wsX3_digest wsX3_many := goodIn_ca (goodIn_r _ [8, 9, 10, 11, 12, 3, 13, 14, 15, 16, 17, 18, 19, 20, 21, 22, 23, 24, 25, 26, 27, 28, 29, 30, 31, 32, 33, 34, 35, 36, 37, 38, 39, 40, 41, 42, 43, 44, 45, 46, 47, 48, 49, 50, 51, 52, 53, 54, 7, 55, 56, 57, 58, 59, 60, 61, 62, 63, 64, 65, 66, 67, 68, 69, 70, 71, 72, 73, 74, 75, 76, 77, 78, 79, 80, 81, 82, 83, 221, 222, 223, 224, 225, 226, 227, 228, 229, 230, 231, 232, 233, 234, 235, 236, 237, 238, 239, 240, 241, 242, 243, 244, 245, 246, 247, 248, 249, 250, 251, 252, 253] (by decide +kernel) (by decide +kernel)) (goodIn_sub (fun _ h => List.mem_cons_of_mem _ (List.mem_append_left _ (List.mem_append_right _ h))) (by decide +kernel))
set_option maxRecDepth 20000 in
theorem gX3_digest_X3_many : GoodIn wsX3_digest (wsV RX3 275 RX3 yX3_many wsX3_many) := goodIn_app (goodIn_of _ (by decide +kernel)) ggX3_digest_X3_many
set_option maxRecDepth 20000 in
theorem ggX3_digest_X3_ofPond : GoodIn wsX3_digest wsX3_ofPond := goodIn_ca (goodIn_ca (goodIn_r _ [87, 9, 10, 11, 88, 89, 90, 91, 7, 92, 93, 94, 95, 37, 38, 39, 40, 41, 42, 43, 44, 45, 46, 47, 48, 49, 50, 51, 52, 53, 54, 55, 56, 57, 58, 59, 60, 61, 62, 63, 64, 221, 222, 223, 224, 225, 226, 227, 228, 229, 230, 231, 232, 233, 234, 235, 236, 237, 238, 239, 240, 241, 242, 243, 244, 245, 246, 247] (by decide +kernel) (by decide +kernel)) (goodIn_sub (fun _ h => List.mem_cons_of_mem _ (List.mem_append_left _ (List.mem_append_right _ h))) (by decide +kernel))) (goodIn_sub (fun _ h => List.mem_cons_of_mem _ (List.mem_append_right _ h)) (by decide +kernel))
set_option maxRecDepth 20000 in
theorem gX3_digest_X3_ofPond : GoodIn wsX3_digest (wsV RX3 278 RX3 yX3_ofPond wsX3_ofPond) := goodIn_app (goodIn_of _ (by decide +kernel)) ggX3_digest_X3_ofPond
set_option maxRecDepth 20000 in
theorem ggX3_digest_X3_digestOfFamily : GoodIn wsX3_digest wsX3_digestOfFamily := goodIn_ca (goodIn_ca (goodIn_r _ [99, 2, 100, 101, 102, 7, 103, 9, 10, 69, 104, 105, 106, 107, 93, 94, 3, 70, 71, 72, 73, 74, 75, 76, 77, 78, 79, 80, 81, 82, 83, 54, 55, 108, 109, 110, 111, 112, 113, 114, 115, 116, 221, 222, 223, 224, 225, 226, 227, 228, 229, 230, 248, 249, 250, 251, 252, 253] (by decide +kernel) (by decide +kernel)) (goodIn_sub (fun _ h => List.mem_cons_of_mem _ (List.mem_append_left _ (List.mem_append_right _ h))) (by decide +kernel))) (goodIn_sub (fun _ h => List.mem_cons_of_mem _ (List.mem_append_right _ h)) (by decide +kernel))
set_option maxRecDepth 20000 in
theorem gX3_digest_X3_digestOfFamily : GoodIn wsX3_digest (wsV RX3 281 RX3 yX3_digestOfFamily wsX3_digestOfFamily) := goodIn_app (goodIn_of _ (by decide +kernel)) ggX3_digest_X3_digestOfFamily
set_option maxRecDepth 20000 in
theorem ggX3_digest_X3_crustIn : GoodIn wsX3_digest wsX3_crustIn := goodIn_ca (goodIn_ca (goodIn_r _ [120, 121, 11, 88, 122, 113, 114, 115, 7, 116, 93, 94, 123, 124, 125, 126, 9, 10, 127, 128, 129, 23, 130, 131, 132, 133, 134, 25, 135, 136, 137, 39, 138, 41, 42, 43, 44, 45, 46, 47, 48, 139, 140, 141, 49, 142, 143, 144, 145, 146, 147, 148, 149, 150, 26, 151, 152, 153, 154, 155, 63, 156, 157, 51, 52, 53, 54, 55, 158, 159, 160, 161, 162, 163, 164, 165, 166, 62, 64, 167, 168, 169, 170, 171, 172, 173, 174, 175, 176, 177, 178, 179, 180, 61, 56, 57, 58, 59, 60, 181, 182, 183, 184, 185, 186, 187, 188, 189, 190, 191, 192, 193, 194, 195, 196, 197, 221, 222, 223, 224, 225, 226, 227, 228, 229, 230, 231, 232, 233, 234, 235, 236, 237, 238, 239, 240, 241, 242, 243, 244, 245, 246, 247] (by decide +kernel) (by decide +kernel)) (goodIn_sub (fun _ h => List.mem_cons_of_mem _ (List.mem_append_right _ h)) (by decide +kernel))) (goodIn_sub (fun _ h => List.mem_cons_of_mem _ (List.mem_append_left _ (List.mem_append_right _ h))) (by decide +kernel))
set_option maxRecDepth 20000 in
theorem gX3_digest_X3_crustIn : GoodIn wsX3_digest (wsV RX3 285 RX3 yX3_crustIn wsX3_crustIn) := goodIn_app (goodIn_of _ (by decide +kernel)) ggX3_digest_X3_crustIn
set_option maxRecDepth 20000 in
theorem ggX3_digest_X3_bestGates : GoodIn wsX3_digest wsX3_bestGates := goodIn_ca (goodIn_r _ [201, 9, 10, 123, 124, 125, 7, 126, 202, 203, 204, 205, 121, 11, 127, 128, 129, 23, 130, 131, 132, 133, 134, 25, 135, 136, 137, 39, 138, 41, 42, 43, 44, 45, 46, 47, 48, 139, 140, 141, 49, 206, 207, 208, 209, 26, 142, 143, 144, 145, 146, 147, 148, 149, 150, 151, 152, 153, 154, 155, 63, 156, 157, 51, 52, 53, 54, 55, 158, 159, 160, 161, 162, 163, 164, 165, 166, 62, 64, 167, 168, 169, 170, 171, 172, 173, 174, 175, 176, 177, 178, 179, 180, 61, 56, 57, 58, 59, 60, 181, 182, 183, 184, 185, 186, 187, 188, 189, 190, 191, 192, 193, 194, 195, 196, 197, 210, 211, 212, 213, 214, 215, 221, 222, 223, 224, 225, 226, 227, 228, 229, 230, 231, 232, 233, 234, 235, 236, 237, 238, 239, 240, 241, 242, 243, 244, 245, 246, 247] (by decide +kernel) (by decide +kernel)) (goodIn_sub (fun _ h => List.mem_cons_of_mem _ (List.mem_append_left _ (List.mem_append_right _ h))) (by decide +kernel))
set_option maxRecDepth 20000 in
theorem gX3_digest_X3_bestGates : GoodIn wsX3_digest (wsV RX3 289 RX3 yX3_bestGates wsX3_bestGates) := goodIn_app (goodIn_of _ (by decide +kernel)) ggX3_digest_X3_bestGates
set_option maxRecDepth 20000 in
theorem ggX3_digest_X3_tideOn : GoodIn wsX3_digest wsX3_tideOn := goodIn_ca (goodIn_r _ [219, 9, 10, 11, 12, 220, 152, 7, 153, 154, 155, 63, 156, 221, 222, 223, 224, 225, 226, 227, 228, 229, 230, 231, 232, 233, 234, 235] (by decide +kernel) (by decide +kernel)) (goodIn_sub (fun _ h => List.mem_cons_of_mem _ (List.mem_append_left _ (List.mem_append_right _ h))) (by decide +kernel))
set_option maxRecDepth 20000 in
theorem gX3_digest_X3_tideOn : GoodIn wsX3_digest (wsV RX3 292 RX3 yX3_tideOn wsX3_tideOn) := goodIn_app (goodIn_of _ (by decide +kernel)) ggX3_digest_X3_tideOn
theorem dX3_digest_0 : decode cX3_digest 0 = .ok (.ldc2_w 271, 3) := by decide +kernel
theorem dX3_digest_3 : decode cX3_digest 3 = .ok (.lstore_n 1, 1) := by decide +kernel
theorem dX3_digest_4 : decode cX3_digest 4 = .ok (.iconst 0, 1) := by decide +kernel
theorem dX3_digest_5 : decode cX3_digest 5 = .ok (.istore_n 3, 1) := by decide +kernel
theorem dX3_digest_6 : decode cX3_digest 6 = .ok (.iload_n 3, 1) := by decide +kernel
theorem dX3_digest_7 : decode cX3_digest 7 = .ok (.bipush 17, 2) := by decide +kernel
theorem dX3_digest_9 : decode cX3_digest 9 = .ok (.if_icmp .gt 22, 3) := by decide +kernel
theorem dX3_digest_12 : decode cX3_digest 12 = .ok (.lload_n 1, 1) := by decide +kernel
theorem dX3_digest_13 : decode cX3_digest 13 = .ok (.ldc2_w 273, 3) := by decide +kernel
theorem dX3_digest_16 : decode cX3_digest 16 = .ok (.lmul, 1) := by decide +kernel
theorem dX3_digest_17 : decode cX3_digest 17 = .ok (.aload_n 0, 1) := by decide +kernel
theorem dX3_digest_18 : decode cX3_digest 18 = .ok (.iload_n 3, 1) := by decide +kernel
theorem dX3_digest_19 : decode cX3_digest 19 = .ok (.invokevirtual 275, 3) := by decide +kernel
theorem dX3_digest_22 : decode cX3_digest 22 = .ok (.i2l, 1) := by decide +kernel
theorem dX3_digest_23 : decode cX3_digest 23 = .ok (.ladd, 1) := by decide +kernel
theorem dX3_digest_24 : decode cX3_digest 24 = .ok (.lstore_n 1, 1) := by decide +kernel
theorem dX3_digest_25 : decode cX3_digest 25 = .ok (.iinc 3 1, 3) := by decide +kernel
theorem dX3_digest_28 : decode cX3_digest 28 = .ok (.goto (-22), 3) := by decide +kernel
theorem dX3_digest_31 : decode cX3_digest 31 = .ok (.iconst 0, 1) := by decide +kernel
theorem dX3_digest_32 : decode cX3_digest 32 = .ok (.istore_n 3, 1) := by decide +kernel
theorem dX3_digest_33 : decode cX3_digest 33 = .ok (.iload_n 3, 1) := by decide +kernel
theorem dX3_digest_34 : decode cX3_digest 34 = .ok (.bipush 8, 2) := by decide +kernel
theorem dX3_digest_36 : decode cX3_digest 36 = .ok (.if_icmp .ge 40, 3) := by decide +kernel
theorem dX3_digest_39 : decode cX3_digest 39 = .ok (.iconst 0, 1) := by decide +kernel
theorem dX3_digest_40 : decode cX3_digest 40 = .ok (.istore 4, 2) := by decide +kernel
theorem dX3_digest_42 : decode cX3_digest 42 = .ok (.iload 4, 2) := by decide +kernel
theorem dX3_digest_44 : decode cX3_digest 44 = .ok (.bipush 10, 2) := by decide +kernel
theorem dX3_digest_46 : decode cX3_digest 46 = .ok (.if_icmp .gt 24, 3) := by decide +kernel
theorem dX3_digest_49 : decode cX3_digest 49 = .ok (.lload_n 1, 1) := by decide +kernel
theorem dX3_digest_50 : decode cX3_digest 50 = .ok (.ldc2_w 273, 3) := by decide +kernel
theorem dX3_digest_53 : decode cX3_digest 53 = .ok (.lmul, 1) := by decide +kernel
theorem dX3_digest_54 : decode cX3_digest 54 = .ok (.aload_n 0, 1) := by decide +kernel
theorem dX3_digest_55 : decode cX3_digest 55 = .ok (.iload_n 3, 1) := by decide +kernel
theorem dX3_digest_56 : decode cX3_digest 56 = .ok (.iload 4, 2) := by decide +kernel
theorem dX3_digest_58 : decode cX3_digest 58 = .ok (.invokevirtual 278, 3) := by decide +kernel
theorem dX3_digest_61 : decode cX3_digest 61 = .ok (.i2l, 1) := by decide +kernel
theorem dX3_digest_62 : decode cX3_digest 62 = .ok (.ladd, 1) := by decide +kernel
theorem dX3_digest_63 : decode cX3_digest 63 = .ok (.lstore_n 1, 1) := by decide +kernel
theorem dX3_digest_64 : decode cX3_digest 64 = .ok (.iinc 4 1, 3) := by decide +kernel
theorem dX3_digest_67 : decode cX3_digest 67 = .ok (.goto (-25), 3) := by decide +kernel
theorem dX3_digest_70 : decode cX3_digest 70 = .ok (.iinc 3 1, 3) := by decide +kernel
theorem dX3_digest_73 : decode cX3_digest 73 = .ok (.goto (-40), 3) := by decide +kernel
theorem dX3_digest_76 : decode cX3_digest 76 = .ok (.iconst 0, 1) := by decide +kernel
theorem dX3_digest_77 : decode cX3_digest 77 = .ok (.istore_n 3, 1) := by decide +kernel
theorem dX3_digest_78 : decode cX3_digest 78 = .ok (.iload_n 3, 1) := by decide +kernel
theorem dX3_digest_79 : decode cX3_digest 79 = .ok (.aload_n 0, 1) := by decide +kernel
theorem dX3_digest_80 : decode cX3_digest 80 = .ok (.getfield 129, 3) := by decide +kernel
theorem dX3_digest_83 : decode cX3_digest 83 = .ok (.if_icmp .ge 16, 3) := by decide +kernel
theorem dX3_digest_86 : decode cX3_digest 86 = .ok (.aload_n 0, 1) := by decide +kernel
theorem dX3_digest_87 : decode cX3_digest 87 = .ok (.iload_n 3, 1) := by decide +kernel
theorem dX3_digest_88 : decode cX3_digest 88 = .ok (.lload_n 1, 1) := by decide +kernel
theorem dX3_digest_89 : decode cX3_digest 89 = .ok (.invokevirtual 281, 3) := by decide +kernel
theorem dX3_digest_92 : decode cX3_digest 92 = .ok (.lstore_n 1, 1) := by decide +kernel
theorem dX3_digest_93 : decode cX3_digest 93 = .ok (.iinc 3 1, 3) := by decide +kernel
theorem dX3_digest_96 : decode cX3_digest 96 = .ok (.goto (-18), 3) := by decide +kernel
theorem dX3_digest_99 : decode cX3_digest 99 = .ok (.iconst 5, 1) := by decide +kernel
theorem dX3_digest_100 : decode cX3_digest 100 = .ok (.istore_n 3, 1) := by decide +kernel
theorem dX3_digest_101 : decode cX3_digest 101 = .ok (.iload_n 3, 1) := by decide +kernel
theorem dX3_digest_102 : decode cX3_digest 102 = .ok (.bipush 8, 2) := by decide +kernel
theorem dX3_digest_104 : decode cX3_digest 104 = .ok (.if_icmp .ge 25, 3) := by decide +kernel
theorem dX3_digest_107 : decode cX3_digest 107 = .ok (.lload_n 1, 1) := by decide +kernel
theorem dX3_digest_108 : decode cX3_digest 108 = .ok (.ldc2_w 273, 3) := by decide +kernel
theorem dX3_digest_111 : decode cX3_digest 111 = .ok (.lmul, 1) := by decide +kernel
theorem dX3_digest_112 : decode cX3_digest 112 = .ok (.aload_n 0, 1) := by decide +kernel
theorem dX3_digest_113 : decode cX3_digest 113 = .ok (.iload_n 3, 1) := by decide +kernel
theorem dX3_digest_114 : decode cX3_digest 114 = .ok (.bipush 7, 2) := by decide +kernel
theorem dX3_digest_116 : decode cX3_digest 116 = .ok (.iconst 3, 1) := by decide +kernel
theorem dX3_digest_117 : decode cX3_digest 117 = .ok (.invokevirtual 285, 3) := by decide +kernel
theorem dX3_digest_120 : decode cX3_digest 120 = .ok (.i2l, 1) := by decide +kernel
theorem dX3_digest_121 : decode cX3_digest 121 = .ok (.ladd, 1) := by decide +kernel
theorem dX3_digest_122 : decode cX3_digest 122 = .ok (.lstore_n 1, 1) := by decide +kernel
theorem dX3_digest_123 : decode cX3_digest 123 = .ok (.iinc 3 1, 3) := by decide +kernel
theorem dX3_digest_126 : decode cX3_digest 126 = .ok (.goto (-25), 3) := by decide +kernel
theorem dX3_digest_129 : decode cX3_digest 129 = .ok (.lload_n 1, 1) := by decide +kernel
theorem dX3_digest_130 : decode cX3_digest 130 = .ok (.ldc2_w 273, 3) := by decide +kernel
theorem dX3_digest_133 : decode cX3_digest 133 = .ok (.lmul, 1) := by decide +kernel
theorem dX3_digest_134 : decode cX3_digest 134 = .ok (.aload_n 0, 1) := by decide +kernel
theorem dX3_digest_135 : decode cX3_digest 135 = .ok (.iconst 3, 1) := by decide +kernel
theorem dX3_digest_136 : decode cX3_digest 136 = .ok (.bipush 6, 2) := by decide +kernel
theorem dX3_digest_138 : decode cX3_digest 138 = .ok (.iconst 2, 1) := by decide +kernel
theorem dX3_digest_139 : decode cX3_digest 139 = .ok (.invokevirtual 289, 3) := by decide +kernel
theorem dX3_digest_142 : decode cX3_digest 142 = .ok (.i2l, 1) := by decide +kernel
theorem dX3_digest_143 : decode cX3_digest 143 = .ok (.ladd, 1) := by decide +kernel
theorem dX3_digest_144 : decode cX3_digest 144 = .ok (.lstore_n 1, 1) := by decide +kernel
theorem dX3_digest_145 : decode cX3_digest 145 = .ok (.lload_n 1, 1) := by decide +kernel
theorem dX3_digest_146 : decode cX3_digest 146 = .ok (.ldc2_w 273, 3) := by decide +kernel
theorem dX3_digest_149 : decode cX3_digest 149 = .ok (.lmul, 1) := by decide +kernel
theorem dX3_digest_150 : decode cX3_digest 150 = .ok (.aload_n 0, 1) := by decide +kernel
theorem dX3_digest_151 : decode cX3_digest 151 = .ok (.bipush 9, 2) := by decide +kernel
theorem dX3_digest_153 : decode cX3_digest 153 = .ok (.iconst 1, 1) := by decide +kernel
theorem dX3_digest_154 : decode cX3_digest 154 = .ok (.invokevirtual 292, 3) := by decide +kernel
theorem dX3_digest_157 : decode cX3_digest 157 = .ok (.i2l, 1) := by decide +kernel
theorem dX3_digest_158 : decode cX3_digest 158 = .ok (.ladd, 1) := by decide +kernel
theorem dX3_digest_159 : decode cX3_digest 159 = .ok (.lstore_n 1, 1) := by decide +kernel
theorem dX3_digest_160 : decode cX3_digest 160 = .ok (.lload_n 1, 1) := by decide +kernel
theorem dX3_digest_161 : decode cX3_digest 161 = .ok (.ldc2_w 273, 3) := by decide +kernel
theorem dX3_digest_164 : decode cX3_digest 164 = .ok (.lmul, 1) := by decide +kernel
theorem dX3_digest_165 : decode cX3_digest 165 = .ok (.aload_n 0, 1) := by decide +kernel
theorem dX3_digest_166 : decode cX3_digest 166 = .ok (.iconst 3, 1) := by decide +kernel
theorem dX3_digest_167 : decode cX3_digest 167 = .ok (.iconst 0, 1) := by decide +kernel
theorem dX3_digest_168 : decode cX3_digest 168 = .ok (.invokevirtual 292, 3) := by decide +kernel
theorem dX3_digest_171 : decode cX3_digest 171 = .ok (.i2l, 1) := by decide +kernel
theorem dX3_digest_172 : decode cX3_digest 172 = .ok (.ladd, 1) := by decide +kernel
theorem dX3_digest_173 : decode cX3_digest 173 = .ok (.lreturn, 1) := by decide +kernel
set_option maxRecDepth 20000 in
theorem ggX3_digestOfFamily_X3_ofFamily : GoodIn wsX3_digestOfFamily wsX3_ofFamily := goodIn_ca (goodIn_ca (goodIn_r _ [6, 7, 8, 9, 10, 11, 12, 5, 13, 14, 15, 16, 17, 18, 19, 20, 21, 22, 23, 24, 25, 26, 27, 28, 29, 30, 31, 32, 42, 43, 44, 45, 46, 47, 48, 49, 50, 51, 52, 53, 54, 55, 56, 57] (by decide +kernel) (by decide +kernel)) (goodIn_sub (fun _ h => List.mem_cons_of_mem _ (List.mem_append_left _ (List.mem_append_right _ h))) (by decide +kernel))) (goodIn_sub (fun _ h => List.mem_cons_of_mem _ (List.mem_append_right _ h)) (by decide +kernel))
set_option maxRecDepth 20000 in
theorem gX3_digestOfFamily_X3_ofFamily : GoodIn wsX3_digestOfFamily (wsV RX3 296 RX3 yX3_ofFamily wsX3_ofFamily) := goodIn_app (goodIn_of _ (by decide +kernel)) ggX3_digestOfFamily_X3_ofFamily
set_option maxRecDepth 20000 in
theorem ggX3_digestOfFamily_X3_rightOf : GoodIn wsX3_digestOfFamily wsX3_rightOf := goodIn_ca (goodIn_r _ [36, 9, 37, 10, 11, 12, 5, 13, 14, 15, 16, 38, 39, 40, 41, 42, 43, 44, 45, 46, 47, 48, 49, 50, 51, 52, 53, 54, 55, 56, 57] (by decide +kernel) (by decide +kernel)) (goodIn_sub (fun _ h => List.mem_cons_of_mem _ (List.mem_append_right _ h)) (by decide +kernel))
set_option maxRecDepth 20000 in
theorem gX3_digestOfFamily_X3_rightOf : GoodIn wsX3_digestOfFamily (wsV RX3 299 RX3 yX3_rightOf wsX3_rightOf) := goodIn_app (goodIn_of _ (by decide +kernel)) ggX3_digestOfFamily_X3_rightOf
theorem dX3_digestOfFamily_0 : decode cX3_digestOfFamily 0 = .ok (.lload_n 2, 1) := by decide +kernel
theorem dX3_digestOfFamily_1 : decode cX3_digestOfFamily 1 = .ok (.lstore 4, 2) := by decide +kernel
theorem dX3_digestOfFamily_3 : decode cX3_digestOfFamily 3 = .ok (.iconst 0, 1) := by decide +kernel
theorem dX3_digestOfFamily_4 : decode cX3_digestOfFamily 4 = .ok (.istore 6, 2) := by decide +kernel
theorem dX3_digestOfFamily_6 : decode cX3_digestOfFamily 6 = .ok (.iload 6, 2) := by decide +kernel
theorem dX3_digestOfFamily_8 : decode cX3_digestOfFamily 8 = .ok (.iconst 5, 1) := by decide +kernel
theorem dX3_digestOfFamily_9 : decode cX3_digestOfFamily 9 = .ok (.if_icmp .gt 26, 3) := by decide +kernel
theorem dX3_digestOfFamily_12 : decode cX3_digestOfFamily 12 = .ok (.lload 4, 2) := by decide +kernel
theorem dX3_digestOfFamily_14 : decode cX3_digestOfFamily 14 = .ok (.ldc2_w 273, 3) := by decide +kernel
theorem dX3_digestOfFamily_17 : decode cX3_digestOfFamily 17 = .ok (.lmul, 1) := by decide +kernel
theorem dX3_digestOfFamily_18 : decode cX3_digestOfFamily 18 = .ok (.aload_n 0, 1) := by decide +kernel
theorem dX3_digestOfFamily_19 : decode cX3_digestOfFamily 19 = .ok (.iload_n 1, 1) := by decide +kernel
theorem dX3_digestOfFamily_20 : decode cX3_digestOfFamily 20 = .ok (.iload 6, 2) := by decide +kernel
theorem dX3_digestOfFamily_22 : decode cX3_digestOfFamily 22 = .ok (.invokevirtual 296, 3) := by decide +kernel
theorem dX3_digestOfFamily_25 : decode cX3_digestOfFamily 25 = .ok (.i2l, 1) := by decide +kernel
theorem dX3_digestOfFamily_26 : decode cX3_digestOfFamily 26 = .ok (.ladd, 1) := by decide +kernel
theorem dX3_digestOfFamily_27 : decode cX3_digestOfFamily 27 = .ok (.lstore 4, 2) := by decide +kernel
theorem dX3_digestOfFamily_29 : decode cX3_digestOfFamily 29 = .ok (.iinc 6 1, 3) := by decide +kernel
theorem dX3_digestOfFamily_32 : decode cX3_digestOfFamily 32 = .ok (.goto (-26), 3) := by decide +kernel
theorem dX3_digestOfFamily_35 : decode cX3_digestOfFamily 35 = .ok (.iconst 5, 1) := by decide +kernel
theorem dX3_digestOfFamily_36 : decode cX3_digestOfFamily 36 = .ok (.istore 6, 2) := by decide +kernel
theorem dX3_digestOfFamily_38 : decode cX3_digestOfFamily 38 = .ok (.iload 6, 2) := by decide +kernel
theorem dX3_digestOfFamily_40 : decode cX3_digestOfFamily 40 = .ok (.bipush 8, 2) := by decide +kernel
theorem dX3_digestOfFamily_42 : decode cX3_digestOfFamily 42 = .ok (.if_icmp .ge 26, 3) := by decide +kernel
theorem dX3_digestOfFamily_45 : decode cX3_digestOfFamily 45 = .ok (.lload 4, 2) := by decide +kernel
theorem dX3_digestOfFamily_47 : decode cX3_digestOfFamily 47 = .ok (.ldc2_w 273, 3) := by decide +kernel
theorem dX3_digestOfFamily_50 : decode cX3_digestOfFamily 50 = .ok (.lmul, 1) := by decide +kernel
theorem dX3_digestOfFamily_51 : decode cX3_digestOfFamily 51 = .ok (.aload_n 0, 1) := by decide +kernel
theorem dX3_digestOfFamily_52 : decode cX3_digestOfFamily 52 = .ok (.iload_n 1, 1) := by decide +kernel
theorem dX3_digestOfFamily_53 : decode cX3_digestOfFamily 53 = .ok (.iload 6, 2) := by decide +kernel
theorem dX3_digestOfFamily_55 : decode cX3_digestOfFamily 55 = .ok (.invokevirtual 299, 3) := by decide +kernel
theorem dX3_digestOfFamily_58 : decode cX3_digestOfFamily 58 = .ok (.i2l, 1) := by decide +kernel
theorem dX3_digestOfFamily_59 : decode cX3_digestOfFamily 59 = .ok (.ladd, 1) := by decide +kernel
theorem dX3_digestOfFamily_60 : decode cX3_digestOfFamily 60 = .ok (.lstore 4, 2) := by decide +kernel
theorem dX3_digestOfFamily_62 : decode cX3_digestOfFamily 62 = .ok (.iinc 6 1, 3) := by decide +kernel
theorem dX3_digestOfFamily_65 : decode cX3_digestOfFamily 65 = .ok (.goto (-27), 3) := by decide +kernel
theorem dX3_digestOfFamily_68 : decode cX3_digestOfFamily 68 = .ok (.lload 4, 2) := by decide +kernel
theorem dX3_digestOfFamily_70 : decode cX3_digestOfFamily 70 = .ok (.lreturn, 1) := by decide +kernel
set_option maxRecDepth 20000 in
theorem ggX3_saltInPansWith_X2_copyFrom : GoodIn wsX3_saltInPansWith wsX2_copyFrom := goodIn_r _ [7, 8, 9, 10, 11, 12, 13, 14, 15, 16, 17, 18, 19, 20, 21, 22, 23, 24, 25, 26, 27, 28, 29, 122, 123, 124, 125, 126, 127, 128, 129, 130, 131, 132, 133, 134, 135, 136, 137, 138] (by decide +kernel) (by decide +kernel)
set_option maxRecDepth 20000 in
theorem gX3_saltInPansWith_X2_copyFrom : GoodIn wsX3_saltInPansWith (wsV RX3 254 RX2 yX2_copyFrom wsX2_copyFrom) := goodIn_app (goodIn_of _ (by decide +kernel)) ggX3_saltInPansWith_X2_copyFrom
set_option maxRecDepth 20000 in
theorem ggX3_saltInPansWith_X2_setGates : GoodIn wsX3_saltInPansWith wsX2_setGates := goodIn_r _ [33, 12, 34, 122, 123, 124, 125, 126, 127, 128, 129, 130, 131, 132, 133, 134, 135, 136, 137, 138] (by decide +kernel) (by decide +kernel)
set_option maxRecDepth 20000 in
theorem gX3_saltInPansWith_X2_setGates : GoodIn wsX3_saltInPansWith (wsV RX3 302 RX2 yX2_setGates wsX2_setGates) := goodIn_app (goodIn_of _ (by decide +kernel)) ggX3_saltInPansWith_X2_setGates
set_option maxRecDepth 20000 in
theorem ggX3_saltInPansWith_X2_letDayGoBy : GoodIn wsX3_saltInPansWith wsX2_letDayGoBy := goodIn_r _ [38, 8, 9, 10, 12, 39, 40, 41, 42, 6, 43, 34, 44, 11, 45, 46, 47, 48, 49, 50, 51, 52, 53, 54, 16, 55, 19, 18, 56, 57, 58, 59, 60, 61, 20, 21, 22, 62, 63, 64, 65, 66, 67, 68, 69, 70, 71, 72, 73, 74, 75, 76, 77, 78, 28, 23, 79, 80, 81, 82, 83, 84, 85, 86, 87, 88, 89, 90, 91, 92, 93, 94, 24, 95, 96, 97, 98, 26, 25, 99, 100, 101, 102, 103, 104, 105, 122, 123, 124, 125, 126, 127, 128, 129, 130, 131, 132, 133, 134, 135, 136, 137, 138] (by decide +kernel) (by decide +kernel)
set_option maxRecDepth 20000 in
theorem gX3_saltInPansWith_X2_letDayGoBy : GoodIn wsX3_saltInPansWith (wsV RX3 75 RX2 yX2_letDayGoBy wsX2_letDayGoBy) := goodIn_app (goodIn_of _ (by decide +kernel)) ggX3_saltInPansWith_X2_letDayGoBy
set_option maxRecDepth 20000 in
theorem ggX3_saltInPansWith_X2_saltInPans : GoodIn wsX3_saltInPansWith wsX2_saltInPans := goodIn_r _ [109, 12, 110, 111, 122, 123, 124, 125, 126, 127, 128, 129, 130, 131, 132, 133, 134, 135, 136, 137, 138] (by decide +kernel) (by decide +kernel)
set_option maxRecDepth 20000 in
theorem gX3_saltInPansWith_X2_saltInPans : GoodIn wsX3_saltInPansWith (wsV RX3 305 RX2 yX2_saltInPans wsX2_saltInPans) := goodIn_app (goodIn_of _ (by decide +kernel)) ggX3_saltInPansWith_X2_saltInPans
theorem dX3_saltInPansWith_0 : decode cX3_saltInPansWith 0 = .ok (.aload_n 0, 1) := by decide +kernel
theorem dX3_saltInPansWith_1 : decode cX3_saltInPansWith 1 = .ok (.getfield 16, 3) := by decide +kernel
theorem dX3_saltInPansWith_4 : decode cX3_saltInPansWith 4 = .ok (.aload_n 0, 1) := by decide +kernel
theorem dX3_saltInPansWith_5 : decode cX3_saltInPansWith 5 = .ok (.getfield 10, 3) := by decide +kernel
theorem dX3_saltInPansWith_8 : decode cX3_saltInPansWith 8 = .ok (.invokevirtual 254, 3) := by decide +kernel
theorem dX3_saltInPansWith_11 : decode cX3_saltInPansWith 11 = .ok (.aload_n 0, 1) := by decide +kernel
theorem dX3_saltInPansWith_12 : decode cX3_saltInPansWith 12 = .ok (.getfield 16, 3) := by decide +kernel
theorem dX3_saltInPansWith_15 : decode cX3_saltInPansWith 15 = .ok (.iload_n 1, 1) := by decide +kernel
theorem dX3_saltInPansWith_16 : decode cX3_saltInPansWith 16 = .ok (.invokevirtual 302, 3) := by decide +kernel
theorem dX3_saltInPansWith_19 : decode cX3_saltInPansWith 19 = .ok (.iconst 0, 1) := by decide +kernel
theorem dX3_saltInPansWith_20 : decode cX3_saltInPansWith 20 = .ok (.istore 5, 2) := by decide +kernel
theorem dX3_saltInPansWith_22 : decode cX3_saltInPansWith 22 = .ok (.iload 5, 2) := by decide +kernel
theorem dX3_saltInPansWith_24 : decode cX3_saltInPansWith 24 = .ok (.iload_n 2, 1) := by decide +kernel
theorem dX3_saltInPansWith_25 : decode cX3_saltInPansWith 25 = .ok (.if_icmp .ge 20, 3) := by decide +kernel
theorem dX3_saltInPansWith_28 : decode cX3_saltInPansWith 28 = .ok (.aload_n 0, 1) := by decide +kernel
theorem dX3_saltInPansWith_29 : decode cX3_saltInPansWith 29 = .ok (.getfield 16, 3) := by decide +kernel
theorem dX3_saltInPansWith_32 : decode cX3_saltInPansWith 32 = .ok (.iload_n 3, 1) := by decide +kernel
theorem dX3_saltInPansWith_33 : decode cX3_saltInPansWith 33 = .ok (.iload 4, 2) := by decide +kernel
theorem dX3_saltInPansWith_35 : decode cX3_saltInPansWith 35 = .ok (.iconst 0, 1) := by decide +kernel
theorem dX3_saltInPansWith_36 : decode cX3_saltInPansWith 36 = .ok (.invokevirtual 75, 3) := by decide +kernel
theorem dX3_saltInPansWith_39 : decode cX3_saltInPansWith 39 = .ok (.iinc 5 1, 3) := by decide +kernel
theorem dX3_saltInPansWith_42 : decode cX3_saltInPansWith 42 = .ok (.goto (-20), 3) := by decide +kernel
theorem dX3_saltInPansWith_45 : decode cX3_saltInPansWith 45 = .ok (.aload_n 0, 1) := by decide +kernel
theorem dX3_saltInPansWith_46 : decode cX3_saltInPansWith 46 = .ok (.getfield 16, 3) := by decide +kernel
theorem dX3_saltInPansWith_49 : decode cX3_saltInPansWith 49 = .ok (.invokevirtual 305, 3) := by decide +kernel
theorem dX3_saltInPansWith_52 : decode cX3_saltInPansWith 52 = .ok (.ireturn, 1) := by decide +kernel
set_option maxRecDepth 20000 in
theorem ggX3_shareOut_X3_portion : GoodIn wsX3_shareOut wsX3_portion := goodIn_r _ [10] (by decide +kernel) (by decide +kernel)
set_option maxRecDepth 20000 in
theorem gX3_shareOut_X3_portion : GoodIn wsX3_shareOut (va_wsS RX3 214 yX3_portion wsX3_portion) := goodIn_app (goodIn_of _ (by decide +kernel)) ggX3_shareOut_X3_portion
set_option maxRecDepth 20000 in
theorem ggX3_shareOut_X0_getSalt : GoodIn wsX3_shareOut wsX0_getSalt := goodIn_r _ [15, 16, 17, 18, 29, 30, 31, 32, 33, 34] (by decide +kernel) (by decide +kernel)
set_option maxRecDepth 20000 in
theorem gX3_shareOut_X0_getSalt : GoodIn wsX3_shareOut (wsV RX3 308 RX0 yX0_getSalt wsX0_getSalt) := goodIn_app (goodIn_of _ (by decide +kernel)) ggX3_shareOut_X0_getSalt
theorem dX3_shareOut_0 : decode cX3_shareOut 0 = .ok (.iload_n 2, 1) := by decide +kernel
theorem dX3_shareOut_1 : decode cX3_shareOut 1 = .ok (.istore 4, 2) := by decide +kernel
theorem dX3_shareOut_3 : decode cX3_shareOut 3 = .ok (.iload_n 3, 1) := by decide +kernel
theorem dX3_shareOut_4 : decode cX3_shareOut 4 = .ok (.istore 5, 2) := by decide +kernel
theorem dX3_shareOut_6 : decode cX3_shareOut 6 = .ok (.iconst 0, 1) := by decide +kernel
theorem dX3_shareOut_7 : decode cX3_shareOut 7 = .ok (.istore 6, 2) := by decide +kernel
theorem dX3_shareOut_9 : decode cX3_shareOut 9 = .ok (.iload 6, 2) := by decide +kernel
theorem dX3_shareOut_11 : decode cX3_shareOut 11 = .ok (.aload_n 0, 1) := by decide +kernel
theorem dX3_shareOut_12 : decode cX3_shareOut 12 = .ok (.getfield 129, 3) := by decide +kernel
theorem dX3_shareOut_15 : decode cX3_shareOut 15 = .ok (.if_icmp .ge 79, 3) := by decide +kernel
theorem dX3_shareOut_18 : decode cX3_shareOut 18 = .ok (.aload_n 0, 1) := by decide +kernel
theorem dX3_shareOut_19 : decode cX3_shareOut 19 = .ok (.getfield 21, 3) := by decide +kernel
theorem dX3_shareOut_22 : decode cX3_shareOut 22 = .ok (.iload 6, 2) := by decide +kernel
theorem dX3_shareOut_24 : decode cX3_shareOut 24 = .ok (.aaload, 1) := by decide +kernel
theorem dX3_shareOut_25 : decode cX3_shareOut 25 = .ok (.getfield 139, 3) := by decide +kernel
theorem dX3_shareOut_28 : decode cX3_shareOut 28 = .ok (.iload_n 1, 1) := by decide +kernel
theorem dX3_shareOut_29 : decode cX3_shareOut 29 = .ok (.iconst 5, 1) := by decide +kernel
theorem dX3_shareOut_30 : decode cX3_shareOut 30 = .ok (.isub, 1) := by decide +kernel
theorem dX3_shareOut_31 : decode cX3_shareOut 31 = .ok (.iaload, 1) := by decide +kernel
theorem dX3_shareOut_32 : decode cX3_shareOut 32 = .ok (.istore 7, 2) := by decide +kernel
theorem dX3_shareOut_34 : decode cX3_shareOut 34 = .ok (.iload_n 2, 1) := by decide +kernel
theorem dX3_shareOut_35 : decode cX3_shareOut 35 = .ok (.i2l, 1) := by decide +kernel
theorem dX3_shareOut_36 : decode cX3_shareOut 36 = .ok (.iload 7, 2) := by decide +kernel
theorem dX3_shareOut_38 : decode cX3_shareOut 38 = .ok (.i2l, 1) := by decide +kernel
theorem dX3_shareOut_39 : decode cX3_shareOut 39 = .ok (.ldc2_w 267, 3) := by decide +kernel
theorem dX3_shareOut_42 : decode cX3_shareOut 42 = .ok (.invokestatic 214, 3) := by decide +kernel
theorem dX3_shareOut_45 : decode cX3_shareOut 45 = .ok (.istore 8, 2) := by decide +kernel
theorem dX3_shareOut_47 : decode cX3_shareOut 47 = .ok (.iload_n 3, 1) := by decide +kernel
theorem dX3_shareOut_48 : decode cX3_shareOut 48 = .ok (.i2l, 1) := by decide +kernel
theorem dX3_shareOut_49 : decode cX3_shareOut 49 = .ok (.iload 7, 2) := by decide +kernel
theorem dX3_shareOut_51 : decode cX3_shareOut 51 = .ok (.i2l, 1) := by decide +kernel
theorem dX3_shareOut_52 : decode cX3_shareOut 52 = .ok (.ldc2_w 267, 3) := by decide +kernel
theorem dX3_shareOut_55 : decode cX3_shareOut 55 = .ok (.invokestatic 214, 3) := by decide +kernel
theorem dX3_shareOut_58 : decode cX3_shareOut 58 = .ok (.istore 9, 2) := by decide +kernel
theorem dX3_shareOut_60 : decode cX3_shareOut 60 = .ok (.aload_n 0, 1) := by decide +kernel
theorem dX3_shareOut_61 : decode cX3_shareOut 61 = .ok (.getfield 21, 3) := by decide +kernel
theorem dX3_shareOut_64 : decode cX3_shareOut 64 = .ok (.iload 6, 2) := by decide +kernel
theorem dX3_shareOut_66 : decode cX3_shareOut 66 = .ok (.aaload, 1) := by decide +kernel
theorem dX3_shareOut_67 : decode cX3_shareOut 67 = .ok (.iload 8, 2) := by decide +kernel
theorem dX3_shareOut_69 : decode cX3_shareOut 69 = .ok (.iload 9, 2) := by decide +kernel
theorem dX3_shareOut_71 : decode cX3_shareOut 71 = .ok (.invokevirtual 308, 3) := by decide +kernel
theorem dX3_shareOut_74 : decode cX3_shareOut 74 = .ok (.iload 4, 2) := by decide +kernel
theorem dX3_shareOut_76 : decode cX3_shareOut 76 = .ok (.iload 8, 2) := by decide +kernel
theorem dX3_shareOut_78 : decode cX3_shareOut 78 = .ok (.isub, 1) := by decide +kernel
theorem dX3_shareOut_79 : decode cX3_shareOut 79 = .ok (.istore 4, 2) := by decide +kernel
theorem dX3_shareOut_81 : decode cX3_shareOut 81 = .ok (.iload 5, 2) := by decide +kernel
theorem dX3_shareOut_83 : decode cX3_shareOut 83 = .ok (.iload 9, 2) := by decide +kernel
theorem dX3_shareOut_85 : decode cX3_shareOut 85 = .ok (.isub, 1) := by decide +kernel
theorem dX3_shareOut_86 : decode cX3_shareOut 86 = .ok (.istore 5, 2) := by decide +kernel
theorem dX3_shareOut_88 : decode cX3_shareOut 88 = .ok (.iinc 6 1, 3) := by decide +kernel
theorem dX3_shareOut_91 : decode cX3_shareOut 91 = .ok (.goto (-82), 3) := by decide +kernel
theorem dX3_shareOut_94 : decode cX3_shareOut 94 = .ok (.aload_n 0, 1) := by decide +kernel
theorem dX3_shareOut_95 : decode cX3_shareOut 95 = .ok (.dup, 1) := by decide +kernel
theorem dX3_shareOut_96 : decode cX3_shareOut 96 = .ok (.getfield 246, 3) := by decide +kernel
theorem dX3_shareOut_99 : decode cX3_shareOut 99 = .ok (.iload 4, 2) := by decide +kernel
theorem dX3_shareOut_101 : decode cX3_shareOut 101 = .ok (.iadd, 1) := by decide +kernel
theorem dX3_shareOut_102 : decode cX3_shareOut 102 = .ok (.putfield 246, 3) := by decide +kernel
theorem dX3_shareOut_105 : decode cX3_shareOut 105 = .ok (.aload_n 0, 1) := by decide +kernel
theorem dX3_shareOut_106 : decode cX3_shareOut 106 = .ok (.dup, 1) := by decide +kernel
theorem dX3_shareOut_107 : decode cX3_shareOut 107 = .ok (.getfield 249, 3) := by decide +kernel
theorem dX3_shareOut_110 : decode cX3_shareOut 110 = .ok (.iload 5, 2) := by decide +kernel
theorem dX3_shareOut_112 : decode cX3_shareOut 112 = .ok (.iadd, 1) := by decide +kernel
theorem dX3_shareOut_113 : decode cX3_shareOut 113 = .ok (.putfield 249, 3) := by decide +kernel
theorem dX3_shareOut_116 : decode cX3_shareOut 116 = .ok (.return_, 1) := by decide +kernel
theorem dX3_rightsIn_0 : decode cX3_rightsIn 0 = .ok (.iconst 0, 1) := by decide +kernel
theorem dX3_rightsIn_1 : decode cX3_rightsIn 1 = .ok (.istore_n 2, 1) := by decide +kernel
theorem dX3_rightsIn_2 : decode cX3_rightsIn 2 = .ok (.iconst 0, 1) := by decide +kernel
theorem dX3_rightsIn_3 : decode cX3_rightsIn 3 = .ok (.istore_n 3, 1) := by decide +kernel
theorem dX3_rightsIn_4 : decode cX3_rightsIn 4 = .ok (.iload_n 3, 1) := by decide +kernel
theorem dX3_rightsIn_5 : decode cX3_rightsIn 5 = .ok (.aload_n 0, 1) := by decide +kernel
theorem dX3_rightsIn_6 : decode cX3_rightsIn 6 = .ok (.getfield 129, 3) := by decide +kernel
theorem dX3_rightsIn_9 : decode cX3_rightsIn 9 = .ok (.if_icmp .ge 25, 3) := by decide +kernel
theorem dX3_rightsIn_12 : decode cX3_rightsIn 12 = .ok (.iload_n 2, 1) := by decide +kernel
theorem dX3_rightsIn_13 : decode cX3_rightsIn 13 = .ok (.aload_n 0, 1) := by decide +kernel
theorem dX3_rightsIn_14 : decode cX3_rightsIn 14 = .ok (.getfield 21, 3) := by decide +kernel
theorem dX3_rightsIn_17 : decode cX3_rightsIn 17 = .ok (.iload_n 3, 1) := by decide +kernel
theorem dX3_rightsIn_18 : decode cX3_rightsIn 18 = .ok (.aaload, 1) := by decide +kernel
theorem dX3_rightsIn_19 : decode cX3_rightsIn 19 = .ok (.getfield 139, 3) := by decide +kernel
theorem dX3_rightsIn_22 : decode cX3_rightsIn 22 = .ok (.iload_n 1, 1) := by decide +kernel
theorem dX3_rightsIn_23 : decode cX3_rightsIn 23 = .ok (.iconst 5, 1) := by decide +kernel
theorem dX3_rightsIn_24 : decode cX3_rightsIn 24 = .ok (.isub, 1) := by decide +kernel
theorem dX3_rightsIn_25 : decode cX3_rightsIn 25 = .ok (.iaload, 1) := by decide +kernel
theorem dX3_rightsIn_26 : decode cX3_rightsIn 26 = .ok (.iadd, 1) := by decide +kernel
theorem dX3_rightsIn_27 : decode cX3_rightsIn 27 = .ok (.istore_n 2, 1) := by decide +kernel
theorem dX3_rightsIn_28 : decode cX3_rightsIn 28 = .ok (.iinc 3 1, 3) := by decide +kernel
theorem dX3_rightsIn_31 : decode cX3_rightsIn 31 = .ok (.goto (-27), 3) := by decide +kernel
theorem dX3_rightsIn_34 : decode cX3_rightsIn 34 = .ok (.iload_n 2, 1) := by decide +kernel
theorem dX3_rightsIn_35 : decode cX3_rightsIn 35 = .ok (.ireturn, 1) := by decide +kernel
set_option maxRecDepth 20000 in
theorem ggX3_sumOfFamilies_X0_read : GoodIn wsX3_sumOfFamilies wsX0_read := goodIn_r _ [7, 8, 9, 10, 11, 12, 13, 14, 15, 16, 17, 18, 19, 30, 31, 32, 33, 34, 35] (by decide +kernel) (by decide +kernel)
set_option maxRecDepth 20000 in
theorem gX3_sumOfFamilies_X0_read : GoodIn wsX3_sumOfFamilies (wsV RX3 228 RX0 yX0_read wsX0_read) := goodIn_app (goodIn_of _ (by decide +kernel)) ggX3_sumOfFamilies_X0_read
theorem dX3_sumOfFamilies_0 : decode cX3_sumOfFamilies 0 = .ok (.iconst 0, 1) := by decide +kernel
theorem dX3_sumOfFamilies_1 : decode cX3_sumOfFamilies 1 = .ok (.istore_n 2, 1) := by decide +kernel
theorem dX3_sumOfFamilies_2 : decode cX3_sumOfFamilies 2 = .ok (.iconst 0, 1) := by decide +kernel
theorem dX3_sumOfFamilies_3 : decode cX3_sumOfFamilies 3 = .ok (.istore_n 3, 1) := by decide +kernel
theorem dX3_sumOfFamilies_4 : decode cX3_sumOfFamilies 4 = .ok (.iload_n 3, 1) := by decide +kernel
theorem dX3_sumOfFamilies_5 : decode cX3_sumOfFamilies 5 = .ok (.aload_n 0, 1) := by decide +kernel
theorem dX3_sumOfFamilies_6 : decode cX3_sumOfFamilies 6 = .ok (.getfield 129, 3) := by decide +kernel
theorem dX3_sumOfFamilies_9 : decode cX3_sumOfFamilies 9 = .ok (.if_icmp .ge 22, 3) := by decide +kernel
theorem dX3_sumOfFamilies_12 : decode cX3_sumOfFamilies 12 = .ok (.iload_n 2, 1) := by decide +kernel
theorem dX3_sumOfFamilies_13 : decode cX3_sumOfFamilies 13 = .ok (.aload_n 0, 1) := by decide +kernel
theorem dX3_sumOfFamilies_14 : decode cX3_sumOfFamilies 14 = .ok (.getfield 21, 3) := by decide +kernel
theorem dX3_sumOfFamilies_17 : decode cX3_sumOfFamilies 17 = .ok (.iload_n 3, 1) := by decide +kernel
theorem dX3_sumOfFamilies_18 : decode cX3_sumOfFamilies 18 = .ok (.aaload, 1) := by decide +kernel
theorem dX3_sumOfFamilies_19 : decode cX3_sumOfFamilies 19 = .ok (.iload_n 1, 1) := by decide +kernel
theorem dX3_sumOfFamilies_20 : decode cX3_sumOfFamilies 20 = .ok (.invokevirtual 228, 3) := by decide +kernel
theorem dX3_sumOfFamilies_23 : decode cX3_sumOfFamilies 23 = .ok (.iadd, 1) := by decide +kernel
theorem dX3_sumOfFamilies_24 : decode cX3_sumOfFamilies 24 = .ok (.istore_n 2, 1) := by decide +kernel
theorem dX3_sumOfFamilies_25 : decode cX3_sumOfFamilies 25 = .ok (.iinc 3 1, 3) := by decide +kernel
theorem dX3_sumOfFamilies_28 : decode cX3_sumOfFamilies 28 = .ok (.goto (-24), 3) := by decide +kernel
theorem dX3_sumOfFamilies_31 : decode cX3_sumOfFamilies 31 = .ok (.iload_n 2, 1) := by decide +kernel
theorem dX3_sumOfFamilies_32 : decode cX3_sumOfFamilies 32 = .ok (.ireturn, 1) := by decide +kernel
theorem dX3_needPond_0 : decode cX3_needPond 0 = .ok (.iload_n 1, 1) := by decide +kernel
theorem dX3_needPond_1 : decode cX3_needPond 1 = .ok (.ifCond .lt 9, 3) := by decide +kernel
theorem dX3_needPond_4 : decode cX3_needPond 4 = .ok (.iload_n 1, 1) := by decide +kernel
theorem dX3_needPond_5 : decode cX3_needPond 5 = .ok (.bipush 8, 2) := by decide +kernel
theorem dX3_needPond_7 : decode cX3_needPond 7 = .ok (.if_icmp .lt 14, 3) := by decide +kernel
theorem dX3_needPond_10 : decode cX3_needPond 10 = .ok (.new 311, 3) := by decide +kernel
theorem dX3_needPond_13 : decode cX3_needPond 13 = .ok (.dup, 1) := by decide +kernel
theorem dX3_needPond_14 : decode cX3_needPond 14 = .ok (.ldc_w 313, 3) := by decide +kernel
theorem dX3_needPond_17 : decode cX3_needPond 17 = .ok (.invokespecial 315, 3) := by decide +kernel
theorem dX3_needPond_20 : decode cX3_needPond 20 = .ok (.athrow, 1) := by decide +kernel
theorem dX3_needPond_21 : decode cX3_needPond 21 = .ok (.return_, 1) := by decide +kernel
theorem dX3_needPan_0 : decode cX3_needPan 0 = .ok (.iload_n 1, 1) := by decide +kernel
theorem dX3_needPan_1 : decode cX3_needPan 1 = .ok (.iconst 5, 1) := by decide +kernel
theorem dX3_needPan_2 : decode cX3_needPan 2 = .ok (.if_icmp .lt 9, 3) := by decide +kernel
theorem dX3_needPan_5 : decode cX3_needPan 5 = .ok (.iload_n 1, 1) := by decide +kernel
theorem dX3_needPan_6 : decode cX3_needPan 6 = .ok (.bipush 8, 2) := by decide +kernel
theorem dX3_needPan_8 : decode cX3_needPan 8 = .ok (.if_icmp .lt 14, 3) := by decide +kernel
theorem dX3_needPan_11 : decode cX3_needPan 11 = .ok (.new 311, 3) := by decide +kernel
theorem dX3_needPan_14 : decode cX3_needPan 14 = .ok (.dup, 1) := by decide +kernel
theorem dX3_needPan_15 : decode cX3_needPan 15 = .ok (.ldc_w 316, 3) := by decide +kernel
theorem dX3_needPan_18 : decode cX3_needPan 18 = .ok (.invokespecial 315, 3) := by decide +kernel
theorem dX3_needPan_21 : decode cX3_needPan 21 = .ok (.athrow, 1) := by decide +kernel
theorem dX3_needPan_22 : decode cX3_needPan 22 = .ok (.return_, 1) := by decide +kernel
theorem dX3_needFamily_0 : decode cX3_needFamily 0 = .ok (.iload_n 1, 1) := by decide +kernel
theorem dX3_needFamily_1 : decode cX3_needFamily 1 = .ok (.ifCond .lt 11, 3) := by decide +kernel
theorem dX3_needFamily_4 : decode cX3_needFamily 4 = .ok (.iload_n 1, 1) := by decide +kernel
theorem dX3_needFamily_5 : decode cX3_needFamily 5 = .ok (.aload_n 0, 1) := by decide +kernel
theorem dX3_needFamily_6 : decode cX3_needFamily 6 = .ok (.getfield 129, 3) := by decide +kernel
theorem dX3_needFamily_9 : decode cX3_needFamily 9 = .ok (.if_icmp .lt 14, 3) := by decide +kernel
theorem dX3_needFamily_12 : decode cX3_needFamily 12 = .ok (.new 311, 3) := by decide +kernel
theorem dX3_needFamily_15 : decode cX3_needFamily 15 = .ok (.dup, 1) := by decide +kernel
theorem dX3_needFamily_16 : decode cX3_needFamily 16 = .ok (.ldc_w 318, 3) := by decide +kernel
theorem dX3_needFamily_19 : decode cX3_needFamily 19 = .ok (.invokespecial 315, 3) := by decide +kernel
theorem dX3_needFamily_22 : decode cX3_needFamily 22 = .ok (.athrow, 1) := by decide +kernel
theorem dX3_needFamily_23 : decode cX3_needFamily 23 = .ok (.return_, 1) := by decide +kernel
theorem dX3_needWeather_0 : decode cX3_needWeather 0 = .ok (.iload_n 1, 1) := by decide +kernel
theorem dX3_needWeather_1 : decode cX3_needWeather 1 = .ok (.ifCond .lt 9, 3) := by decide +kernel
theorem dX3_needWeather_4 : decode cX3_needWeather 4 = .ok (.iload_n 1, 1) := by decide +kernel
theorem dX3_needWeather_5 : decode cX3_needWeather 5 = .ok (.bipush 9, 2) := by decide +kernel
theorem dX3_needWeather_7 : decode cX3_needWeather 7 = .ok (.if_icmp .le 14, 3) := by decide +kernel
theorem dX3_needWeather_10 : decode cX3_needWeather 10 = .ok (.new 30, 3) := by decide +kernel
theorem dX3_needWeather_13 : decode cX3_needWeather 13 = .ok (.dup, 1) := by decide +kernel
theorem dX3_needWeather_14 : decode cX3_needWeather 14 = .ok (.ldc_w 320, 3) := by decide +kernel
theorem dX3_needWeather_17 : decode cX3_needWeather 17 = .ok (.invokespecial 34, 3) := by decide +kernel
theorem dX3_needWeather_20 : decode cX3_needWeather 20 = .ok (.athrow, 1) := by decide +kernel
theorem dX3_needWeather_21 : decode cX3_needWeather 21 = .ok (.iload_n 2, 1) := by decide +kernel
theorem dX3_needWeather_22 : decode cX3_needWeather 22 = .ok (.ifCond .lt 9, 3) := by decide +kernel
theorem dX3_needWeather_25 : decode cX3_needWeather 25 = .ok (.iload_n 2, 1) := by decide +kernel
theorem dX3_needWeather_26 : decode cX3_needWeather 26 = .ok (.bipush 9, 2) := by decide +kernel
theorem dX3_needWeather_28 : decode cX3_needWeather 28 = .ok (.if_icmp .le 14, 3) := by decide +kernel
theorem dX3_needWeather_31 : decode cX3_needWeather 31 = .ok (.new 30, 3) := by decide +kernel
theorem dX3_needWeather_34 : decode cX3_needWeather 34 = .ok (.dup, 1) := by decide +kernel
theorem dX3_needWeather_35 : decode cX3_needWeather 35 = .ok (.ldc_w 322, 3) := by decide +kernel
theorem dX3_needWeather_38 : decode cX3_needWeather 38 = .ok (.invokespecial 34, 3) := by decide +kernel
theorem dX3_needWeather_41 : decode cX3_needWeather 41 = .ok (.athrow, 1) := by decide +kernel
theorem dX3_needWeather_42 : decode cX3_needWeather 42 = .ok (.return_, 1) := by decide +kernel
theorem dX3_tideAt_0 : decode cX3_tideAt 0 = .ok (.iconst 2, 1) := by decide +kernel
theorem dX3_tideAt_1 : decode cX3_tideAt 1 = .ok (.iload_n 0, 1) := by decide +kernel
theorem dX3_tideAt_2 : decode cX3_tideAt 2 = .ok (.bipush 14, 2) := by decide +kernel
theorem dX3_tideAt_4 : decode cX3_tideAt 4 = .ok (.irem, 1) := by decide +kernel
theorem dX3_tideAt_5 : decode cX3_tideAt 5 = .ok (.bipush 7, 2) := by decide +kernel
theorem dX3_tideAt_7 : decode cX3_tideAt 7 = .ok (.isub, 1) := by decide +kernel
theorem dX3_tideAt_8 : decode cX3_tideAt 8 = .ok (.invokestatic 324, 3) := by decide +kernel
theorem dX3_tideAt_11 : decode cX3_tideAt 11 = .ok (.iadd, 1) := by decide +kernel
theorem dX3_tideAt_12 : decode cX3_tideAt 12 = .ok (.ireturn, 1) := by decide +kernel
theorem dX3_crownsPart_0 : decode cX3_crownsPart 0 = .ok (.iload_n 0, 1) := by decide +kernel
theorem dX3_crownsPart_1 : decode cX3_crownsPart 1 = .ok (.bipush 10, 2) := by decide +kernel
theorem dX3_crownsPart_3 : decode cX3_crownsPart 3 = .ok (.idiv, 1) := by decide +kernel
theorem dX3_crownsPart_4 : decode cX3_crownsPart 4 = .ok (.ireturn, 1) := by decide +kernel
set_option maxRecDepth 20000 in
theorem ggX3_purity_X3_portion : GoodIn wsX3_purity wsX3_portion := goodIn_r _ [5] (by decide +kernel) (by decide +kernel)
set_option maxRecDepth 20000 in
theorem gX3_purity_X3_portion : GoodIn wsX3_purity (va_wsS RX3 214 yX3_portion wsX3_portion) := goodIn_app (goodIn_of _ (by decide +kernel)) ggX3_purity_X3_portion
theorem dX3_purity_0 : decode cX3_purity 0 = .ok (.iload_n 0, 1) := by decide +kernel
theorem dX3_purity_1 : decode cX3_purity 1 = .ok (.i2l, 1) := by decide +kernel
theorem dX3_purity_2 : decode cX3_purity 2 = .ok (.ldc2_w 327, 3) := by decide +kernel
theorem dX3_purity_5 : decode cX3_purity 5 = .ok (.iload_n 0, 1) := by decide +kernel
theorem dX3_purity_6 : decode cX3_purity 6 = .ok (.i2l, 1) := by decide +kernel
theorem dX3_purity_7 : decode cX3_purity 7 = .ok (.iload_n 1, 1) := by decide +kernel
theorem dX3_purity_8 : decode cX3_purity 8 = .ok (.i2l, 1) := by decide +kernel
theorem dX3_purity_9 : decode cX3_purity 9 = .ok (.ladd, 1) := by decide +kernel
theorem dX3_purity_10 : decode cX3_purity 10 = .ok (.invokestatic 214, 3) := by decide +kernel
theorem dX3_purity_13 : decode cX3_purity 13 = .ok (.ireturn, 1) := by decide +kernel
theorem dX3_portion_0 : decode cX3_portion 0 = .ok (.lload 4, 2) := by decide +kernel
theorem dX3_portion_2 : decode cX3_portion 2 = .ok (.lconst 1, 1) := by decide +kernel
theorem dX3_portion_3 : decode cX3_portion 3 = .ok (.lcmp, 1) := by decide +kernel
theorem dX3_portion_4 : decode cX3_portion 4 = .ok (.ifCond .ge 7, 3) := by decide +kernel
theorem dX3_portion_7 : decode cX3_portion 7 = .ok (.iconst 0, 1) := by decide +kernel
theorem dX3_portion_8 : decode cX3_portion 8 = .ok (.goto 10, 3) := by decide +kernel
theorem dX3_portion_11 : decode cX3_portion 11 = .ok (.lload_n 0, 1) := by decide +kernel
theorem dX3_portion_12 : decode cX3_portion 12 = .ok (.lload_n 2, 1) := by decide +kernel
theorem dX3_portion_13 : decode cX3_portion 13 = .ok (.lmul, 1) := by decide +kernel
theorem dX3_portion_14 : decode cX3_portion 14 = .ok (.lload 4, 2) := by decide +kernel
theorem dX3_portion_16 : decode cX3_portion 16 = .ok (.ldiv, 1) := by decide +kernel
theorem dX3_portion_17 : decode cX3_portion 17 = .ok (.l2i, 1) := by decide +kernel
theorem dX3_portion_18 : decode cX3_portion 18 = .ok (.ireturn, 1) := by decide +kernel
theorem dX3_roundedUp_0 : decode cX3_roundedUp 0 = .ok (.iload_n 1, 1) := by decide +kernel
theorem dX3_roundedUp_1 : decode cX3_roundedUp 1 = .ok (.iconst 1, 1) := by decide +kernel
theorem dX3_roundedUp_2 : decode cX3_roundedUp 2 = .ok (.if_icmp .ge 7, 3) := by decide +kernel
theorem dX3_roundedUp_5 : decode cX3_roundedUp 5 = .ok (.iconst 0, 1) := by decide +kernel
theorem dX3_roundedUp_6 : decode cX3_roundedUp 6 = .ok (.goto 10, 3) := by decide +kernel
theorem dX3_roundedUp_9 : decode cX3_roundedUp 9 = .ok (.iload_n 0, 1) := by decide +kernel
theorem dX3_roundedUp_10 : decode cX3_roundedUp 10 = .ok (.iload_n 1, 1) := by decide +kernel
theorem dX3_roundedUp_11 : decode cX3_roundedUp 11 = .ok (.iadd, 1) := by decide +kernel
theorem dX3_roundedUp_12 : decode cX3_roundedUp 12 = .ok (.iconst 1, 1) := by decide +kernel
theorem dX3_roundedUp_13 : decode cX3_roundedUp 13 = .ok (.isub, 1) := by decide +kernel
theorem dX3_roundedUp_14 : decode cX3_roundedUp 14 = .ok (.iload_n 1, 1) := by decide +kernel
theorem dX3_roundedUp_15 : decode cX3_roundedUp 15 = .ok (.idiv, 1) := by decide +kernel
theorem dX3_roundedUp_16 : decode cX3_roundedUp 16 = .ok (.ireturn, 1) := by decide +kernel
abbrev vwCl : List vw_C := [(RX0, TX0, 6), (RX1, TX1, 12), (RX2, TX2, 5), (RX3, TX3, 10)]
