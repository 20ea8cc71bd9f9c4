def tyX4 : Nat → FieldType := fun k => match k with
  | 0 => .int
  | 1 => .int
  | 2 => .int
  | 3 => .int
  | 4 => .int
  | 5 => .int
  | 6 => .int
  | 7 => .int
  | 8 => .boolean
  | 9 => .boolean
  | _ => .int
abbrev wsX40 : List Cond := u_ws RX4 TX4 11
theorem nmX4 : ∀ a, a < 11 → ∀ b, b < 11 → a ≠ b → (TX4 a).2.1 ≠ (TX4 b).2.1 := by decide +kernel
theorem tyX4_ok : ∀ k, k < 11 → parseFieldDescriptor (TX4 k).2.2.1 = some (tyX4 k) := by decide +kernel
abbrev cX4_init : ByteArray := prog_7_method_1_code
def yX4_init : MethodName := ⟨RX4, "<init>", "()V"⟩
abbrev cX4_copy : ByteArray := prog_7_method_2_code
def yX4_copy : MethodName := ⟨RX4, "copy", "()LSaltRowModel$Pond;"⟩
abbrev cX4_level : ByteArray := prog_7_method_3_code
def yX4_level : MethodName := ⟨RX4, "level", "()I"⟩
abbrev cX4_strength : ByteArray := prog_7_method_4_code
def yX4_strength : MethodName := ⟨RX4, "strength", "()I"⟩
abbrev cX4_give : ByteArray := prog_7_method_5_code
def yX4_give : MethodName := ⟨RX4, "give", "(ILSaltRowModel$Pond;)V"⟩
abbrev cX4_dry : ByteArray := prog_7_method_6_code
def yX4_dry : MethodName := ⟨RX4, "dry", "(I)V"⟩
abbrev cX4_mix : ByteArray := prog_7_method_7_code
def yX4_mix : MethodName := ⟨RX4, "mix", "()V"⟩
abbrev cX4_fall : ByteArray := prog_7_method_8_code
def yX4_fall : MethodName := ⟨RX4, "fall", "()I"⟩
def tyX5 : Nat → FieldType := fun k => match k with
  | 0 => .array (.object "SaltRowModel$Pond")
  | 1 => .int
  | _ => .int
abbrev wsX50 : List Cond := u_ws RX5 TX5 3
theorem nmX5 : ∀ a, a < 3 → ∀ b, b < 3 → a ≠ b → (TX5 a).2.1 ≠ (TX5 b).2.1 := by decide +kernel
theorem tyX5_ok : ∀ k, k < 3 → parseFieldDescriptor (TX5 k).2.2.1 = some (tyX5 k) := by decide +kernel
abbrev cX5_init : ByteArray := prog_8_method_1_code
def yX5_init : MethodName := ⟨RX5, "<init>", "()V"⟩
abbrev cX5_copy : ByteArray := prog_8_method_2_code
def yX5_copy : MethodName := ⟨RX5, "copy", "()LSaltRowModel$Row;"⟩
abbrev cX5_day : ByteArray := prog_8_method_3_code
def yX5_day : MethodName := ⟨RX5, "day", "(III)[I"⟩
def tyX6 : Nat → FieldType := fun k => match k with
  | 0 => .int
  | 1 => .object "SaltRowModel$Row"
  | 2 => .object "java/util/ArrayList"
  | 3 => .int
  | 4 => .int
  | 5 => .int
  | 6 => .int
  | 7 => .int
  | 8 => .int
  | 9 => .int
  | _ => .int
abbrev wsX60 : List Cond := u_ws RX6 TX6 11
theorem nmX6 : ∀ a, a < 11 → ∀ b, b < 11 → a ≠ b → (TX6 a).2.1 ≠ (TX6 b).2.1 := by decide +kernel
theorem tyX6_ok : ∀ k, k < 11 → parseFieldDescriptor (TX6 k).2.2.1 = some (tyX6 k) := by decide +kernel
abbrev cX6_isIn : ByteArray := prog_6_method_1_code
def yX6_isIn : MethodName := ⟨RX6, "isIn", "(III)Z"⟩
abbrev cX6_one : ByteArray := prog_6_method_2_code
def yX6_one : MethodName := ⟨RX6, "one", "(Z)I"⟩
abbrev cX6_share : ByteArray := prog_6_method_3_code
def yX6_share : MethodName := ⟨RX6, "share", "(III)I"⟩
abbrev cX6_purity : ByteArray := prog_6_method_4_code
def yX6_purity : MethodName := ⟨RX6, "purity", "(II)I"⟩
abbrev cX6_tideOf : ByteArray := prog_6_method_5_code
def yX6_tideOf : MethodName := ⟨RX6, "tideOf", "(I)I"⟩
abbrev cX6_init : ByteArray := prog_6_method_6_code
def yX6_init : MethodName := ⟨RX6, "<init>", "()V"⟩
abbrev cX6_thrown : ByteArray := prog_6_method_7_code
def yX6_thrown : MethodName := ⟨RX6, "thrown", "()I"⟩
abbrev cX6_refuse : ByteArray := prog_6_method_8_code
def yX6_refuse : MethodName := ⟨RX6, "refuse", "(ZI)Z"⟩
abbrev cX6_start : ByteArray := prog_6_method_9_code
def yX6_start : MethodName := ⟨RX6, "start", "(ZI)Z"⟩
abbrev cX6_isNoPond : ByteArray := prog_6_method_10_code
def yX6_isNoPond : MethodName := ⟨RX6, "isNoPond", "(I)Z"⟩
abbrev cX6_isNoPan : ByteArray := prog_6_method_11_code
def yX6_isNoPan : MethodName := ⟨RX6, "isNoPan", "(I)Z"⟩
abbrev cX6_isNoFamily : ByteArray := prog_6_method_12_code
def yX6_isNoFamily : MethodName := ⟨RX6, "isNoFamily", "(I)Z"⟩
abbrev cX6_area : ByteArray := prog_6_method_13_code
def yX6_area : MethodName := ⟨RX6, "area", "(II)I"⟩
abbrev cX6_gate : ByteArray := prog_6_method_14_code
def yX6_gate : MethodName := ⟨RX6, "gate", "(IZ)Z"⟩
abbrev cX6_cover : ByteArray := prog_6_method_15_code
def yX6_cover : MethodName := ⟨RX6, "cover", "(IZ)Z"⟩
abbrev cX6_pass : ByteArray := prog_6_method_16_code
def yX6_pass : MethodName := ⟨RX6, "pass", "(IIII)I"⟩
abbrev cX6_skim : ByteArray := prog_6_method_17_code
def yX6_skim : MethodName := ⟨RX6, "skim", "(I)I"⟩
abbrev cX6_drain : ByteArray := prog_6_method_18_code
def yX6_drain : MethodName := ⟨RX6, "drain", "(I)I"⟩
abbrev cX6_pump : ByteArray := prog_6_method_19_code
def yX6_pump : MethodName := ⟨RX6, "pump", "(III)I"⟩
abbrev cX6_family : ByteArray := prog_6_method_20_code
def yX6_family : MethodName := ⟨RX6, "family", "()I"⟩
abbrev cX6_right : ByteArray := prog_6_method_21_code
def yX6_right : MethodName := ⟨RX6, "right", "(III)I"⟩
abbrev cX6_deal : ByteArray := prog_6_method_22_code
def yX6_deal : MethodName := ⟨RX6, "deal", "(III)V"⟩
abbrev cX6_harvestOf : ByteArray := prog_6_method_23_code
def yX6_harvestOf : MethodName := ⟨RX6, "harvestOf", "(IZ)[I"⟩
abbrev cX6_canHarvest : ByteArray := prog_6_method_24_code
def yX6_canHarvest : MethodName := ⟨RX6, "canHarvest", "(I)Z"⟩
abbrev cX6_harvest : ByteArray := prog_6_method_25_code
def yX6_harvest : MethodName := ⟨RX6, "harvest", "(IZ)I"⟩
abbrev cX6_flower : ByteArray := prog_6_method_26_code
def yX6_flower : MethodName := ⟨RX6, "flower", "(I)I"⟩
abbrev cX6_wash : ByteArray := prog_6_method_27_code
def yX6_wash : MethodName := ⟨RX6, "wash", "(I)I"⟩
abbrev cX6_sell : ByteArray := prog_6_method_28_code
def yX6_sell : MethodName := ⟨RX6, "sell", "(III)I"⟩
abbrev cX6_toldOfPond : ByteArray := prog_6_method_29_code
def yX6_toldOfPond : MethodName := ⟨RX6, "toldOfPond", "(II)I"⟩
abbrev cX6_ofPond : ByteArray := prog_6_method_30_code
def yX6_ofPond : MethodName := ⟨RX6, "ofPond", "(II)I"⟩
abbrev cX6_toldOfFamily : ByteArray := prog_6_method_31_code
def yX6_toldOfFamily : MethodName := ⟨RX6, "toldOfFamily", "([II)I"⟩
abbrev cX6_ofFamily : ByteArray := prog_6_method_32_code
def yX6_ofFamily : MethodName := ⟨RX6, "ofFamily", "(II)I"⟩
abbrev cX6_rightOf : ByteArray := prog_6_method_33_code
def yX6_rightOf : MethodName := ⟨RX6, "rightOf", "(II)I"⟩
abbrev cX6_tide : ByteArray := prog_6_method_34_code
def yX6_tide : MethodName := ⟨RX6, "tide", "(I)I"⟩
abbrev cX6_count : ByteArray := prog_6_method_35_code
def yX6_count : MethodName := ⟨RX6, "count", "(I)I"⟩
abbrev cX6_many : ByteArray := prog_6_method_36_code
def yX6_many : MethodName := ⟨RX6, "many", "(I)I"⟩
abbrev cX6_meanStrength : ByteArray := prog_6_method_37_code
def yX6_meanStrength : MethodName := ⟨RX6, "meanStrength", "()D"⟩
abbrev cX6_crustBehind : ByteArray := prog_6_method_38_code
def yX6_crustBehind : MethodName := ⟨RX6, "crustBehind", "(III)I"⟩
abbrev cX6_crustIn : ByteArray := prog_6_method_39_code
def yX6_crustIn : MethodName := ⟨RX6, "crustIn", "(III)I"⟩
abbrev cX6_saltWith : ByteArray := prog_6_method_40_code
def yX6_saltWith : MethodName := ⟨RX6, "saltWith", "(IIII)I"⟩
abbrev cX6_best : ByteArray := prog_6_method_41_code
def yX6_best : MethodName := ⟨RX6, "best", "(III)I"⟩
abbrev cX6_bestGates : ByteArray := prog_6_method_42_code
def yX6_bestGates : MethodName := ⟨RX6, "bestGates", "(III)I"⟩
abbrev cX6_wouldBe : ByteArray := prog_6_method_43_code
def yX6_wouldBe : MethodName := ⟨RX6, "wouldBe", "(IZI)I"⟩
abbrev cX6_tideFrom : ByteArray := prog_6_method_44_code
def yX6_tideFrom : MethodName := ⟨RX6, "tideFrom", "(IZ)I"⟩
abbrev cX6_tideOn : ByteArray := prog_6_method_45_code
def yX6_tideOn : MethodName := ⟨RX6, "tideOn", "(IZ)I"⟩
abbrev cX6_add : ByteArray := prog_6_method_46_code
def yX6_add : MethodName := ⟨RX6, "add", "(JJ)J"⟩
abbrev cX6_digest : ByteArray := prog_6_method_47_code
def yX6_digest : MethodName := ⟨RX6, "digest", "()J"⟩
def wsX4_init : List Cond := .code yX4_init cX4_init 1 none :: ([.methodLink RX4 3 objectInit, .instanceMethod objectInit, .code objectInit ⟨#[0xb1]⟩ 1 none, .fieldLink RX4 9 "SaltRowModel$Pond" "area" "I", .fieldLink RX4 15 "SaltRowModel$Pond" "harvested" "I"] ++ wsX40)
def wsX4_copy : List Cond := .code yX4_copy cX4_copy 2 (some (.object "SaltRowModel$Pond")) :: ([.classLink RX4 10 RX4, .instantiable RX4 11, .initialized RX4, .fieldLink RX4 9 "SaltRowModel$Pond" "area" "I", .fieldLink RX4 19 "SaltRowModel$Pond" "brine" "I", .fieldLink RX4 22 "SaltRowModel$Pond" "salt" "I", .fieldLink RX4 25 "SaltRowModel$Pond" "gypsum" "I", .fieldLink RX4 28 "SaltRowModel$Pond" "bitter" "I", .fieldLink RX4 31 "SaltRowModel$Pond" "fresh" "I", .fieldLink RX4 34 "SaltRowModel$Pond" "crust" "I", .fieldLink RX4 37 "SaltRowModel$Pond" "dirt" "I", .fieldLink RX4 40 "SaltRowModel$Pond" "isOpen" "Z", .fieldLink RX4 44 "SaltRowModel$Pond" "isCovered" "Z", .methodLink RX4 18 yX4_init, .instanceMethod yX4_init, .code yX4_init cX4_init 1 none, .methodLink RX4 3 objectInit, .instanceMethod objectInit, .code objectInit ⟨#[0xb1]⟩ 1 none, .fieldLink RX4 15 "SaltRowModel$Pond" "harvested" "I"] ++ wsX40)
def wsX4_level : List Cond := .code yX4_level cX4_level 1 (some .int) :: ([.fieldLink RX4 19 "SaltRowModel$Pond" "brine" "I", .fieldLink RX4 9 "SaltRowModel$Pond" "area" "I"] ++ wsX40)
def wsX4_strength : List Cond := .code yX4_strength cX4_strength 1 (some .int) :: ([.fieldLink RX4 19 "SaltRowModel$Pond" "brine" "I", .constantLong RX4 47 (90), .fieldLink RX4 22 "SaltRowModel$Pond" "salt" "I", .fieldLink RX4 28 "SaltRowModel$Pond" "bitter" "I", .constantLong RX4 49 (5), .methodLink RX4 51 Lib.MathLoose.min_long.x, .static Lib.MathLoose.min_long.x, .initialized "java/lang/Math", .code Lib.MathLoose.min_long.x Lib.MathLoose.min_long.code 4 (some .long)] ++ wsX40)
def wsX6_share : List Cond := .code yX6_share cX6_share 3 (some .int) :: ([])
def wsX4_give : List Cond := .code yX4_give cX4_give 6 none :: ([.fieldLink RX4 22 "SaltRowModel$Pond" "salt" "I", .fieldLink RX4 19 "SaltRowModel$Pond" "brine" "I", .fieldLink RX4 25 "SaltRowModel$Pond" "gypsum" "I", .fieldLink RX4 28 "SaltRowModel$Pond" "bitter" "I", .static yX6_share, .initialized RX6, .code yX6_share cX6_share 3 (some .int)] ++ wsX40)
def wsX4_dry : List Cond := .code yX4_dry cX4_dry 5 none :: ([.fieldLink RX4 9 "SaltRowModel$Pond" "area" "I", .fieldLink RX4 31 "SaltRowModel$Pond" "fresh" "I", .methodLink RX4 61 Lib.Math.min.name, .static Lib.Math.min.name, .initialized "java/lang/Math", .code Lib.Math.min.name Lib.Math.min.code 2 (some .int), .fieldLink RX4 19 "SaltRowModel$Pond" "brine" "I", .methodLink RX4 64 yX4_strength, .instanceMethod yX4_strength, .selects RX4 yX4_strength yX4_strength, .initialized RX4, .code yX4_strength cX4_strength 1 (some .int), .constantLong RX4 47 (90), .fieldLink RX4 22 "SaltRowModel$Pond" "salt" "I", .fieldLink RX4 28 "SaltRowModel$Pond" "bitter" "I", .constantLong RX4 49 (5), .methodLink RX4 51 Lib.MathLoose.min_long.x, .static Lib.MathLoose.min_long.x, .code Lib.MathLoose.min_long.x Lib.MathLoose.min_long.code 4 (some .long)] ++ wsX40)
def wsX4_mix : List Cond := .code yX4_mix cX4_mix 3 none :: ([.fieldLink RX4 31 "SaltRowModel$Pond" "fresh" "I", .fieldLink RX4 19 "SaltRowModel$Pond" "brine" "I", .fieldLink RX4 34 "SaltRowModel$Pond" "crust" "I", .methodLink RX4 61 Lib.Math.min.name, .static Lib.Math.min.name, .initialized "java/lang/Math", .code Lib.Math.min.name Lib.Math.min.code 2 (some .int), .fieldLink RX4 22 "SaltRowModel$Pond" "salt" "I"] ++ wsX40)
def wsX4_fall : List Cond := .code yX4_fall cX4_fall 4 (some .int) :: ([.fieldLink RX4 25 "SaltRowModel$Pond" "gypsum" "I", .constantLong RX4 68 (8), .fieldLink RX4 19 "SaltRowModel$Pond" "brine" "I", .methodLink RX4 70 Lib.MathLoose.max_long.x, .static Lib.MathLoose.max_long.x, .initialized "java/lang/Math", .code Lib.MathLoose.max_long.x Lib.MathLoose.max_long.code 4 (some .long), .fieldLink RX4 22 "SaltRowModel$Pond" "salt" "I", .constantLong RX4 73 (300), .fieldLink RX4 28 "SaltRowModel$Pond" "bitter" "I", .constantLong RX4 75 (200), .fieldLink RX4 37 "SaltRowModel$Pond" "dirt" "I", .fieldLink RX4 34 "SaltRowModel$Pond" "crust" "I"] ++ wsX40)
def wsX5_init : List Cond := .code yX5_init cX5_init 2 none :: ([.methodLink RX5 3 objectInit, .instanceMethod objectInit, .code objectInit ⟨#[0xb1]⟩ 1 none, .classLink RX5 9 RX4, .fieldLink RX5 11 "SaltRowModel$Row" "ponds" "[LSaltRowModel$Pond;", .instantiable RX4 11, .initialized RX4, .instanceMethod yX4_init, .code yX4_init cX4_init 1 none, .methodLink RX4 3 objectInit, .fieldLink RX4 9 "SaltRowModel$Pond" "area" "I", .fieldLink RX4 15 "SaltRowModel$Pond" "harvested" "I"] ++ wsX50 ++ wsX40)
def wsX5_copy_r1 : List Cond := [Cond.classLink RX5 12 RX5, Cond.instantiable RX5 3, Cond.initialized RX5, Cond.fieldLink RX5 11 "SaltRowModel$Row" "ponds" "[LSaltRowModel$Pond;", Cond.fieldLink RX5 23 "SaltRowModel$Row" "day" "I", Cond.methodLink RX5 18 yX5_init, Cond.instanceMethod yX5_init, Cond.code yX5_init cX5_init 2 none, Cond.methodLink RX5 3 objectInit, Cond.instanceMethod objectInit, Cond.code objectInit ⟨#[0xb1]⟩ 1 none, Cond.classLink RX5 9 RX4, Cond.instantiable RX4 11, Cond.initialized RX4, Cond.instanceMethod yX4_init, Cond.code yX4_init cX4_init 1 none, Cond.methodLink RX4 3 objectInit, Cond.fieldLink RX4 9 "SaltRowModel$Pond" "area" "I", Cond.fieldLink RX4 15 "SaltRowModel$Pond" "harvested" "I", Cond.methodLink RX5 19 yX4_copy, Cond.instanceMethod yX4_copy, Cond.selects RX4 yX4_copy yX4_copy, Cond.code yX4_copy cX4_copy 2 (some (.object "SaltRowModel$Pond")), Cond.classLink RX4 10 RX4]
def wsX5_copy_r2 : List Cond := [Cond.fieldLink RX4 19 "SaltRowModel$Pond" "brine" "I", Cond.fieldLink RX4 22 "SaltRowModel$Pond" "salt" "I", Cond.fieldLink RX4 25 "SaltRowModel$Pond" "gypsum" "I", Cond.fieldLink RX4 28 "SaltRowModel$Pond" "bitter" "I", Cond.fieldLink RX4 31 "SaltRowModel$Pond" "fresh" "I", Cond.fieldLink RX4 34 "SaltRowModel$Pond" "crust" "I", Cond.fieldLink RX4 37 "SaltRowModel$Pond" "dirt" "I", Cond.fieldLink RX4 40 "SaltRowModel$Pond" "isOpen" "Z", Cond.fieldLink RX4 44 "SaltRowModel$Pond" "isCovered" "Z", Cond.methodLink RX4 18 yX4_init]
def wsX5_copy : List Cond := .code yX5_copy cX5_copy 3 (some (.object "SaltRowModel$Row")) :: ((wsX5_copy_r1 ++ wsX5_copy_r2) ++ wsX50 ++ wsX40)
def wsX6_tideOf : List Cond := .code yX6_tideOf cX6_tideOf 1 (some .int) :: ([.methodLink RX6 3 Lib.Math.abs.name, .static Lib.Math.abs.name, .initialized "java/lang/Math", .code Lib.Math.abs.name Lib.Math.abs.code 1 (some .int)])
def wsX5_day_r1 : List Cond := [Cond.fieldLink RX5 23 "SaltRowModel$Row" "day" "I", Cond.fieldLink RX5 11 "SaltRowModel$Row" "ponds" "[LSaltRowModel$Pond;", Cond.fieldLink RX5 35 "SaltRowModel$Pond" "isOpen" "Z", Cond.fieldLink RX5 39 "SaltRowModel$Pond" "area" "I", Cond.fieldLink RX5 42 "SaltRowModel$Pond" "brine" "I", Cond.fieldLink RX5 45 "SaltRowModel$Pond" "salt" "I", Cond.fieldLink RX5 48 "SaltRowModel$Pond" "gypsum" "I", Cond.fieldLink RX5 51 "SaltRowModel$Pond" "bitter" "I", Cond.fieldLink RX5 54 "SaltRowModel$Row" "fromSea" "I", Cond.methodLink RX5 57 Lib.Math.min.name, Cond.static Lib.Math.min.name, Cond.initialized "java/lang/Math", Cond.code Lib.Math.min.name Lib.Math.min.code 2 (some .int), Cond.arrayClass .int, Cond.fieldLink RX5 67 "SaltRowModel$Pond" "isCovered" "Z", Cond.fieldLink RX5 70 "SaltRowModel$Pond" "fresh" "I", Cond.static yX6_tideOf, Cond.initialized RX6, Cond.code yX6_tideOf cX6_tideOf 1 (some .int), Cond.methodLink RX6 3 Lib.Math.abs.name, Cond.static Lib.Math.abs.name, Cond.code Lib.Math.abs.name Lib.Math.abs.code 1 (some .int), Cond.methodLink RX5 31 yX4_level, Cond.instanceMethod yX4_level]
def wsX5_day_r2 : List Cond := [Cond.selects RX4 yX4_level yX4_level, Cond.initialized RX4, Cond.code yX4_level cX4_level 1 (some .int), Cond.fieldLink RX4 19 "SaltRowModel$Pond" "brine" "I", Cond.fieldLink RX4 9 "SaltRowModel$Pond" "area" "I", Cond.methodLink RX5 63 yX4_give, Cond.instanceMethod yX4_give, Cond.selects RX4 yX4_give yX4_give, Cond.code yX4_give cX4_give 6 none, Cond.fieldLink RX4 22 "SaltRowModel$Pond" "salt" "I", Cond.fieldLink RX4 25 "SaltRowModel$Pond" "gypsum" "I", Cond.fieldLink RX4 28 "SaltRowModel$Pond" "bitter" "I", Cond.static yX6_share, Cond.code yX6_share cX6_share 3 (some .int), Cond.methodLink RX5 73 yX4_dry, Cond.instanceMethod yX4_dry, Cond.selects RX4 yX4_dry yX4_dry, Cond.code yX4_dry cX4_dry 5 none, Cond.fieldLink RX4 31 "SaltRowModel$Pond" "fresh" "I", Cond.methodLink RX4 61 Lib.Math.min.name, Cond.methodLink RX4 64 yX4_strength, Cond.instanceMethod yX4_strength, Cond.selects RX4 yX4_strength yX4_strength, Cond.code yX4_strength cX4_strength 1 (some .int)]
def wsX5_day_r3 : List Cond := [Cond.constantLong RX4 47 (90), Cond.constantLong RX4 49 (5), Cond.methodLink RX4 51 Lib.MathLoose.min_long.x, Cond.static Lib.MathLoose.min_long.x, Cond.code Lib.MathLoose.min_long.x Lib.MathLoose.min_long.code 4 (some .long), Cond.methodLink RX5 77 yX4_mix, Cond.instanceMethod yX4_mix, Cond.selects RX4 yX4_mix yX4_mix, Cond.code yX4_mix cX4_mix 3 none, Cond.fieldLink RX4 34 "SaltRowModel$Pond" "crust" "I", Cond.methodLink RX5 80 yX4_fall, Cond.instanceMethod yX4_fall, Cond.selects RX4 yX4_fall yX4_fall, Cond.code yX4_fall cX4_fall 4 (some .int), Cond.constantLong RX4 68 (8), Cond.methodLink RX4 70 Lib.MathLoose.max_long.x, Cond.static Lib.MathLoose.max_long.x, Cond.code Lib.MathLoose.max_long.x Lib.MathLoose.max_long.code 4 (some .long), Cond.constantLong RX4 73 (300), Cond.constantLong RX4 75 (200), Cond.fieldLink RX4 37 "SaltRowModel$Pond" "dirt" "I"]
def wsX5_day : List Cond := .code yX5_day cX5_day 11 (some (.array .int)) :: ((wsX5_day_r1 ++ (wsX5_day_r2 ++ wsX5_day_r3)) ++ wsX50 ++ wsX40)
def wsX6_isIn : List Cond := .code yX6_isIn cX6_isIn 3 (some .boolean) :: ([])
def wsX6_one : List Cond := .code yX6_one cX6_one 1 (some .int) :: ([])
def wsX6_purity : List Cond := .code yX6_purity cX6_purity 2 (some .int) :: ([.constantLong RX6 1 (100)])
def wsX6_init_r1 : List Cond := [Cond.methodLink RX6 9 objectInit, Cond.instanceMethod objectInit, Cond.code objectInit ⟨#[0xb1]⟩ 1 none, Cond.classLink RX6 15 RX5, Cond.instantiable RX5 3, Cond.initialized RX5, Cond.fieldLink RX6 18 "SaltRowModel" "row" "LSaltRowModel$Row;", Cond.classLink RX6 24 RJx4a65c, Cond.instantiable RJx4a65c 3, Cond.initialized RJx4a65c, Cond.fieldLink RX6 27 "SaltRowModel" "families" "Ljava/util/ArrayList;", Cond.methodLink RX6 17 yX5_init, Cond.instanceMethod yX5_init, Cond.code yX5_init cX5_init 2 none, Cond.methodLink RX5 3 objectInit, Cond.classLink RX5 9 RX4, Cond.fieldLink RX5 11 "SaltRowModel$Row" "ponds" "[LSaltRowModel$Pond;", Cond.instantiable RX4 11, Cond.initialized RX4, Cond.instanceMethod yX4_init, Cond.code yX4_init cX4_init 1 none, Cond.methodLink RX4 3 objectInit, Cond.fieldLink RX4 9 "SaltRowModel$Pond" "area" "I", Cond.fieldLink RX4 15 "SaltRowModel$Pond" "harvested" "I"]
def wsX6_init_r2 : List Cond := [Cond.methodLink RX6 26 yJx4a65c_init_da8c8, Cond.instanceMethod yJx4a65c_init_da8c8, Cond.code yJx4a65c_init_da8c8 cJx4a65c_init_da8c8 1 none, Cond.fieldLink RJx4a65c 39 "java/util/ArrayList" "DEFAULTCAPACITY_EMPTY_ELEMENTDATA" "[Ljava/lang/Object;", Cond.fieldLink RJx4a65c 9 "java/util/ArrayList" "elementData" "[Ljava/lang/Object;", Cond.methodLink RJx4a65c 1 yJxc12de_init_da8c8, Cond.instanceMethod yJxc12de_init_da8c8, Cond.initialized RJxc12de, Cond.code yJxc12de_init_da8c8 cJxc12de_init_da8c8 1 none, Cond.fieldLink RJxc12de 7 "java/util/AbstractList" "modCount" "I", Cond.methodLink RJxc12de 1 yJxa1e45_init_da8c8, Cond.instanceMethod yJxa1e45_init_da8c8, Cond.initialized RJxa1e45, Cond.code yJxa1e45_init_da8c8 cJxa1e45_init_da8c8 1 none, Cond.methodLink RJxa1e45 1 objectInit]
def wsX6_init : List Cond := .code yX6_init cX6_init 1 none :: ((wsX6_init_r1 ++ wsX6_init_r2) ++ wsX50 ++ wsX60 ++ wsJx4a65c0 ++ wsX40)
def wsX6_thrown : List Cond := .code yX6_thrown cX6_thrown 1 (some .int) :: ([.fieldLink RX6 31 "SaltRowModel" "thrown" "I"] ++ wsX60)
def wsX6_refuse : List Cond := .code yX6_refuse cX6_refuse 3 (some .boolean) :: ([.fieldLink RX6 31 "SaltRowModel" "thrown" "I"] ++ wsX60)
def wsX6_start : List Cond := .code yX6_start cX6_start 3 (some .boolean) :: ([.fieldLink RX6 31 "SaltRowModel" "thrown" "I", .methodLink RX6 35 yX6_refuse, .instanceMethod yX6_refuse, .selects RX6 yX6_refuse yX6_refuse, .initialized RX6, .code yX6_refuse cX6_refuse 3 (some .boolean)] ++ wsX60)
def wsX6_isNoPond : List Cond := .code yX6_isNoPond cX6_isNoPond 1 (some .boolean) :: ([.methodLink RX6 39 yX6_isIn, .static yX6_isIn, .initialized RX6, .code yX6_isIn cX6_isIn 3 (some .boolean)])
def wsX6_isNoPan : List Cond := .code yX6_isNoPan cX6_isNoPan 1 (some .boolean) :: ([.methodLink RX6 39 yX6_isIn, .static yX6_isIn, .initialized RX6, .code yX6_isIn cX6_isIn 3 (some .boolean)])
def wsX6_isNoFamily : List Cond := .code yX6_isNoFamily cX6_isNoFamily 2 (some .boolean) :: ([.fieldLink RX6 27 "SaltRowModel" "families" "Ljava/util/ArrayList;", .methodLink RX6 43 yJx4a65c_size_8abf5, .instanceMethod yJx4a65c_size_8abf5, .selects RJx4a65c yJx4a65c_size_8abf5 yJx4a65c_size_8abf5, .initialized RJx4a65c, .code yJx4a65c_size_8abf5 cJx4a65c_size_8abf5 1 (some .int), .fieldLink RJx4a65c 48 "java/util/ArrayList" "size" "I", .methodLink RX6 39 yX6_isIn, .static yX6_isIn, .initialized RX6, .code yX6_isIn cX6_isIn 3 (some .boolean)] ++ wsX60 ++ wsJx4a65c0)
def wsX6_area : List Cond := .code yX6_area cX6_area 4 (some .int) :: ([.fieldLink RX6 18 "SaltRowModel" "row" "LSaltRowModel$Row;", .fieldLink RX6 54 "SaltRowModel$Row" "day" "I", .fieldLink RX6 57 "SaltRowModel$Row" "ponds" "[LSaltRowModel$Pond;", .fieldLink RX6 61 "SaltRowModel$Pond" "area" "I", .methodLink RX6 47 yX6_isNoPond, .static yX6_isNoPond, .initialized RX6, .code yX6_isNoPond cX6_isNoPond 1 (some .boolean), .methodLink RX6 39 yX6_isIn, .static yX6_isIn, .code yX6_isIn cX6_isIn 3 (some .boolean), .methodLink RX6 51 yX6_start, .instanceMethod yX6_start, .selects RX6 yX6_start yX6_start, .code yX6_start cX6_start 3 (some .boolean), .fieldLink RX6 31 "SaltRowModel" "thrown" "I", .methodLink RX6 35 yX6_refuse, .instanceMethod yX6_refuse, .selects RX6 yX6_refuse yX6_refuse, .code yX6_refuse cX6_refuse 3 (some .boolean)] ++ wsX60 ++ wsX50 ++ wsX40)
def wsX6_gate : List Cond := .code yX6_gate cX6_gate 4 (some .boolean) :: ([.fieldLink RX6 18 "SaltRowModel" "row" "LSaltRowModel$Row;", .fieldLink RX6 57 "SaltRowModel$Row" "ponds" "[LSaltRowModel$Pond;", .fieldLink RX6 66 "SaltRowModel$Pond" "isOpen" "Z", .methodLink RX6 47 yX6_isNoPond, .static yX6_isNoPond, .initialized RX6, .code yX6_isNoPond cX6_isNoPond 1 (some .boolean), .methodLink RX6 39 yX6_isIn, .static yX6_isIn, .code yX6_isIn cX6_isIn 3 (some .boolean), .methodLink RX6 51 yX6_start, .instanceMethod yX6_start, .selects RX6 yX6_start yX6_start, .code yX6_start cX6_start 3 (some .boolean), .fieldLink RX6 31 "SaltRowModel" "thrown" "I", .methodLink RX6 35 yX6_refuse, .instanceMethod yX6_refuse, .selects RX6 yX6_refuse yX6_refuse, .code yX6_refuse cX6_refuse 3 (some .boolean)] ++ wsX60 ++ wsX50 ++ wsX40)
def wsX6_cover : List Cond := .code yX6_cover cX6_cover 4 (some .boolean) :: ([.fieldLink RX6 18 "SaltRowModel" "row" "LSaltRowModel$Row;", .fieldLink RX6 57 "SaltRowModel$Row" "ponds" "[LSaltRowModel$Pond;", .fieldLink RX6 73 "SaltRowModel$Pond" "isCovered" "Z", .methodLink RX6 70 yX6_isNoPan, .static yX6_isNoPan, .initialized RX6, .code yX6_isNoPan cX6_isNoPan 1 (some .boolean), .methodLink RX6 39 yX6_isIn, .static yX6_isIn, .code yX6_isIn cX6_isIn 3 (some .boolean), .methodLink RX6 51 yX6_start, .instanceMethod yX6_start, .selects RX6 yX6_start yX6_start, .code yX6_start cX6_start 3 (some .boolean), .fieldLink RX6 31 "SaltRowModel" "thrown" "I", .methodLink RX6 35 yX6_refuse, .instanceMethod yX6_refuse, .selects RX6 yX6_refuse yX6_refuse, .code yX6_refuse cX6_refuse 3 (some .boolean)] ++ wsX60 ++ wsX50 ++ wsX40)
def wsX6_pass_r1 : List Cond := [Cond.fieldLink RX6 18 "SaltRowModel" "row" "LSaltRowModel$Row;", Cond.fieldLink RX6 54 "SaltRowModel$Row" "day" "I", Cond.fieldLink RX6 79 "SaltRowModel" "sun" "I", Cond.fieldLink RX6 82 "SaltRowModel" "wind" "I", Cond.methodLink RX6 39 yX6_isIn, Cond.static yX6_isIn, Cond.initialized RX6, Cond.code yX6_isIn cX6_isIn 3 (some .boolean), Cond.methodLink RX6 51 yX6_start, Cond.instanceMethod yX6_start, Cond.selects RX6 yX6_start yX6_start, Cond.code yX6_start cX6_start 3 (some .boolean), Cond.fieldLink RX6 31 "SaltRowModel" "thrown" "I", Cond.methodLink RX6 35 yX6_refuse, Cond.instanceMethod yX6_refuse, Cond.selects RX6 yX6_refuse yX6_refuse, Cond.code yX6_refuse cX6_refuse 3 (some .boolean), Cond.methodLink RX6 76 yX5_day, Cond.instanceMethod yX5_day, Cond.selects RX5 yX5_day yX5_day, Cond.initialized RX5, Cond.code yX5_day cX5_day 11 (some (.array .int)), Cond.fieldLink RX5 23 "SaltRowModel$Row" "day" "I", Cond.fieldLink RX5 11 "SaltRowModel$Row" "ponds" "[LSaltRowModel$Pond;"]
def wsX6_pass_r2 : List Cond := [Cond.fieldLink RX5 35 "SaltRowModel$Pond" "isOpen" "Z", Cond.fieldLink RX5 39 "SaltRowModel$Pond" "area" "I", Cond.fieldLink RX5 42 "SaltRowModel$Pond" "brine" "I", Cond.fieldLink RX5 45 "SaltRowModel$Pond" "salt" "I", Cond.fieldLink RX5 48 "SaltRowModel$Pond" "gypsum" "I", Cond.fieldLink RX5 51 "SaltRowModel$Pond" "bitter" "I", Cond.fieldLink RX5 54 "SaltRowModel$Row" "fromSea" "I", Cond.methodLink RX5 57 Lib.Math.min.name, Cond.static Lib.Math.min.name, Cond.initialized "java/lang/Math", Cond.code Lib.Math.min.name Lib.Math.min.code 2 (some .int), Cond.arrayClass .int, Cond.fieldLink RX5 67 "SaltRowModel$Pond" "isCovered" "Z", Cond.fieldLink RX5 70 "SaltRowModel$Pond" "fresh" "I", Cond.static yX6_tideOf, Cond.code yX6_tideOf cX6_tideOf 1 (some .int), Cond.methodLink RX6 3 Lib.Math.abs.name, Cond.static Lib.Math.abs.name, Cond.code Lib.Math.abs.name Lib.Math.abs.code 1 (some .int), Cond.methodLink RX5 31 yX4_level, Cond.instanceMethod yX4_level, Cond.selects RX4 yX4_level yX4_level, Cond.initialized RX4, Cond.code yX4_level cX4_level 1 (some .int)]
def wsX6_pass_r3 : List Cond := [Cond.fieldLink RX4 19 "SaltRowModel$Pond" "brine" "I", Cond.fieldLink RX4 9 "SaltRowModel$Pond" "area" "I", Cond.methodLink RX5 63 yX4_give, Cond.instanceMethod yX4_give, Cond.selects RX4 yX4_give yX4_give, Cond.code yX4_give cX4_give 6 none, Cond.fieldLink RX4 22 "SaltRowModel$Pond" "salt" "I", Cond.fieldLink RX4 25 "SaltRowModel$Pond" "gypsum" "I", Cond.fieldLink RX4 28 "SaltRowModel$Pond" "bitter" "I", Cond.static yX6_share, Cond.code yX6_share cX6_share 3 (some .int), Cond.methodLink RX5 73 yX4_dry, Cond.instanceMethod yX4_dry, Cond.selects RX4 yX4_dry yX4_dry, Cond.code yX4_dry cX4_dry 5 none, Cond.fieldLink RX4 31 "SaltRowModel$Pond" "fresh" "I", Cond.methodLink RX4 61 Lib.Math.min.name, Cond.methodLink RX4 64 yX4_strength, Cond.instanceMethod yX4_strength, Cond.selects RX4 yX4_strength yX4_strength, Cond.code yX4_strength cX4_strength 1 (some .int), Cond.constantLong RX4 47 (90), Cond.constantLong RX4 49 (5), Cond.methodLink RX4 51 Lib.MathLoose.min_long.x]
def wsX6_pass_r4 : List Cond := [Cond.static Lib.MathLoose.min_long.x, Cond.code Lib.MathLoose.min_long.x Lib.MathLoose.min_long.code 4 (some .long), Cond.methodLink RX5 77 yX4_mix, Cond.instanceMethod yX4_mix, Cond.selects RX4 yX4_mix yX4_mix, Cond.code yX4_mix cX4_mix 3 none, Cond.fieldLink RX4 34 "SaltRowModel$Pond" "crust" "I", Cond.methodLink RX5 80 yX4_fall, Cond.instanceMethod yX4_fall, Cond.selects RX4 yX4_fall yX4_fall, Cond.code yX4_fall cX4_fall 4 (some .int), Cond.constantLong RX4 68 (8), Cond.methodLink RX4 70 Lib.MathLoose.max_long.x, Cond.static Lib.MathLoose.max_long.x, Cond.code Lib.MathLoose.max_long.x Lib.MathLoose.max_long.code 4 (some .long), Cond.constantLong RX4 73 (300), Cond.constantLong RX4 75 (200), Cond.fieldLink RX4 37 "SaltRowModel$Pond" "dirt" "I"]
def wsX6_pass : List Cond := .code yX6_pass cX6_pass 9 (some .int) :: ((wsX6_pass_r1 ++ (wsX6_pass_r2 ++ (wsX6_pass_r3 ++ wsX6_pass_r4))) ++ wsX60 ++ wsX50 ++ wsX40)
def wsX6_skim : List Cond := .code yX6_skim cX6_skim 3 (some .int) :: ([.fieldLink RX6 18 "SaltRowModel" "row" "LSaltRowModel$Row;", .fieldLink RX6 57 "SaltRowModel$Row" "ponds" "[LSaltRowModel$Pond;", .fieldLink RX6 85 "SaltRowModel$Pond" "fresh" "I", .fieldLink RX6 88 "SaltRowModel" "skimmed" "I", .methodLink RX6 47 yX6_isNoPond, .static yX6_isNoPond, .initialized RX6, .code yX6_isNoPond cX6_isNoPond 1 (some .boolean), .methodLink RX6 39 yX6_isIn, .static yX6_isIn, .code yX6_isIn cX6_isIn 3 (some .boolean), .methodLink RX6 51 yX6_start, .instanceMethod yX6_start, .selects RX6 yX6_start yX6_start, .code yX6_start cX6_start 3 (some .boolean), .fieldLink RX6 31 "SaltRowModel" "thrown" "I", .methodLink RX6 35 yX6_refuse, .instanceMethod yX6_refuse, .selects RX6 yX6_refuse yX6_refuse, .code yX6_refuse cX6_refuse 3 (some .boolean)] ++ wsX60 ++ wsX50 ++ wsX40)
def wsX6_drain_r1 : List Cond := [Cond.fieldLink RX6 18 "SaltRowModel" "row" "LSaltRowModel$Row;", Cond.fieldLink RX6 57 "SaltRowModel$Row" "ponds" "[LSaltRowModel$Pond;", Cond.fieldLink RX6 91 "SaltRowModel$Pond" "brine" "I", Cond.fieldLink RX6 54 "SaltRowModel$Row" "day" "I", Cond.fieldLink RX6 97 "SaltRowModel" "lost" "I", Cond.fieldLink RX6 100 "SaltRowModel$Pond" "salt" "I", Cond.fieldLink RX6 103 "SaltRowModel$Pond" "gypsum" "I", Cond.fieldLink RX6 106 "SaltRowModel$Pond" "bitter" "I", Cond.methodLink RX6 47 yX6_isNoPond, Cond.static yX6_isNoPond, Cond.initialized RX6, Cond.code yX6_isNoPond cX6_isNoPond 1 (some .boolean), Cond.methodLink RX6 39 yX6_isIn, Cond.static yX6_isIn, Cond.code yX6_isIn cX6_isIn 3 (some .boolean), Cond.methodLink RX6 51 yX6_start, Cond.instanceMethod yX6_start, Cond.selects RX6 yX6_start yX6_start, Cond.code yX6_start cX6_start 3 (some .boolean), Cond.fieldLink RX6 31 "SaltRowModel" "thrown" "I", Cond.methodLink RX6 35 yX6_refuse, Cond.instanceMethod yX6_refuse, Cond.selects RX6 yX6_refuse yX6_refuse, Cond.code yX6_refuse cX6_refuse 3 (some .boolean)]
def wsX6_drain_r2 : List Cond := [Cond.methodLink RX6 94 yX6_tideOf, Cond.static yX6_tideOf, Cond.code yX6_tideOf cX6_tideOf 1 (some .int), Cond.methodLink RX6 3 Lib.Math.abs.name, Cond.static Lib.Math.abs.name, Cond.initialized "java/lang/Math", Cond.code Lib.Math.abs.name Lib.Math.abs.code 1 (some .int)]
def wsX6_drain : List Cond := .code yX6_drain cX6_drain 4 (some .int) :: ((wsX6_drain_r1 ++ wsX6_drain_r2) ++ wsX60 ++ wsX50 ++ wsX40)
def wsX6_pump_r1 : List Cond := [Cond.fieldLink RX6 18 "SaltRowModel" "row" "LSaltRowModel$Row;", Cond.fieldLink RX6 57 "SaltRowModel$Row" "ponds" "[LSaltRowModel$Pond;", Cond.fieldLink RX6 91 "SaltRowModel$Pond" "brine" "I", Cond.fieldLink RX6 113 "SaltRowModel" "coins" "I", Cond.methodLink RX6 47 yX6_isNoPond, Cond.static yX6_isNoPond, Cond.initialized RX6, Cond.code yX6_isNoPond cX6_isNoPond 1 (some .boolean), Cond.methodLink RX6 39 yX6_isIn, Cond.static yX6_isIn, Cond.code yX6_isIn cX6_isIn 3 (some .boolean), Cond.methodLink RX6 51 yX6_start, Cond.instanceMethod yX6_start, Cond.selects RX6 yX6_start yX6_start, Cond.code yX6_start cX6_start 3 (some .boolean), Cond.fieldLink RX6 31 "SaltRowModel" "thrown" "I", Cond.methodLink RX6 35 yX6_refuse, Cond.instanceMethod yX6_refuse, Cond.selects RX6 yX6_refuse yX6_refuse, Cond.code yX6_refuse cX6_refuse 3 (some .boolean), Cond.methodLink RX6 109 yX4_give, Cond.instanceMethod yX4_give, Cond.selects RX4 yX4_give yX4_give, Cond.initialized RX4]
def wsX6_pump_r2 : List Cond := [Cond.code yX4_give cX4_give 6 none, Cond.fieldLink RX4 22 "SaltRowModel$Pond" "salt" "I", Cond.fieldLink RX4 19 "SaltRowModel$Pond" "brine" "I", Cond.fieldLink RX4 25 "SaltRowModel$Pond" "gypsum" "I", Cond.fieldLink RX4 28 "SaltRowModel$Pond" "bitter" "I", Cond.static yX6_share, Cond.code yX6_share cX6_share 3 (some .int), Cond.methodLink RX6 116 yX4_strength, Cond.instanceMethod yX4_strength, Cond.selects RX4 yX4_strength yX4_strength, Cond.code yX4_strength cX4_strength 1 (some .int), Cond.constantLong RX4 47 (90), Cond.constantLong RX4 49 (5), Cond.methodLink RX4 51 Lib.MathLoose.min_long.x, Cond.static Lib.MathLoose.min_long.x, Cond.initialized "java/lang/Math", Cond.code Lib.MathLoose.min_long.x Lib.MathLoose.min_long.code 4 (some .long)]
def wsX6_pump : List Cond := .code yX6_pump cX6_pump 4 (some .int) :: ((wsX6_pump_r1 ++ wsX6_pump_r2) ++ wsX60 ++ wsX50 ++ wsX40)
def wsX6_family_r1 : List Cond := [Cond.fieldLink RX6 27 "SaltRowModel" "families" "Ljava/util/ArrayList;", Cond.arrayClass .int, Cond.methodLink RX6 43 yJx4a65c_size_8abf5, Cond.instanceMethod yJx4a65c_size_8abf5, Cond.selects RJx4a65c yJx4a65c_size_8abf5 yJx4a65c_size_8abf5, Cond.initialized RJx4a65c, Cond.code yJx4a65c_size_8abf5 cJx4a65c_size_8abf5 1 (some .int), Cond.fieldLink RJx4a65c 48 "java/util/ArrayList" "size" "I", Cond.methodLink RX6 51 yX6_start, Cond.instanceMethod yX6_start, Cond.selects RX6 yX6_start yX6_start, Cond.initialized RX6, Cond.code yX6_start cX6_start 3 (some .boolean), Cond.fieldLink RX6 31 "SaltRowModel" "thrown" "I", Cond.methodLink RX6 35 yX6_refuse, Cond.instanceMethod yX6_refuse, Cond.selects RX6 yX6_refuse yX6_refuse, Cond.code yX6_refuse cX6_refuse 3 (some .boolean), Cond.methodLink RX6 119 yJx4a65c_add_9ea2d, Cond.instanceMethod yJx4a65c_add_9ea2d, Cond.selects RJx4a65c yJx4a65c_add_9ea2d yJx4a65c_add_9ea2d, Cond.code yJx4a65c_add_9ea2d cJx4a65c_add_9ea2d 2 (some .boolean), Cond.fieldLink RJx4a65c 63 "java/util/ArrayList" "modCount" "I", Cond.sameField "java/util/ArrayList" "java/util/AbstractList" "modCount" "I"]
def wsX6_family_r2 : List Cond := [Cond.fieldLink RJx4a65c 9 "java/util/ArrayList" "elementData" "[Ljava/lang/Object;", Cond.methodLink RJx4a65c 131 yJx4a65c_add_72be8, Cond.instanceMethod yJx4a65c_add_72be8, Cond.selects RJx4a65c yJx4a65c_add_72be8 yJx4a65c_add_72be8, Cond.code yJx4a65c_add_72be8 cJx4a65c_add_72be8 4 none, Cond.methodLink RJx4a65c 129 yJx4a65c_grow_d5877, Cond.instanceMethod yJx4a65c_grow_d5877, Cond.selects RJx4a65c yJx4a65c_grow_d5877 yJx4a65c_grow_d5877, Cond.code yJx4a65c_grow_d5877 cJx4a65c_grow_d5877 1 (some (.array (.object "java/lang/Object"))), Cond.methodLink RJx4a65c 69 yJx4a65c_grow_92f84, Cond.instanceMethod yJx4a65c_grow_92f84, Cond.selects RJx4a65c yJx4a65c_grow_92f84 yJx4a65c_grow_92f84, Cond.code yJx4a65c_grow_92f84 cJx4a65c_grow_92f84 4 (some (.array (.object "java/lang/Object"))), Cond.fieldLink RJx4a65c 39 "java/util/ArrayList" "DEFAULTCAPACITY_EMPTY_ELEMENTDATA" "[Ljava/lang/Object;", Cond.methodLink RJx4a65c 79 Lib.Math.max.name, Cond.static Lib.Math.max.name, Cond.initialized "java/lang/Math", Cond.code Lib.Math.max.name Lib.Math.max.code 2 (some .int), Cond.classLink RJx4a65c 7 "java/lang/Object", Cond.methodLink RJx4a65c 73 yJ8_newLength_cabcc, Cond.static yJ8_newLength_cabcc, Cond.initialized RJ8, Cond.code yJ8_newLength_cabcc cJ8_newLength_cabcc 4 (some .int), Cond.methodLink RJ8 194 Lib.Math.max.name]
def wsX6_family_r3 : List Cond := [Cond.constant RJ8 200 (2147483639), Cond.methodLink RJ8 201 yJ8_hugeLength_7cf53, Cond.static yJ8_hugeLength_7cf53, Cond.code yJ8_hugeLength_7cf53 cJ8_hugeLength_7cf53 3 (some .int), Cond.methodLink RJx4a65c 66 yJ7_copyOf_1904c, Cond.static yJ7_copyOf_1904c, Cond.initialized RJ7, Cond.code yJ7_copyOf_1904c cJ7_copyOf_1904c 2 (some (.array (.object "java/lang/Object"))), Cond.methodLink RJ7 86 ⟨"java/lang/Object", "getClass", "()Ljava/lang/Class;"⟩, Cond.selects "[Ljava/lang/Object;" ⟨"java/lang/Object", "getClass", "()Ljava/lang/Class;"⟩ ⟨"java/lang/Object", "getClass", "()Ljava/lang/Class;"⟩, Cond.instanceMethod ⟨"java/lang/Object", "getClass", "()Ljava/lang/Class;"⟩, Cond.native ⟨"java/lang/Object", "getClass", "()Ljava/lang/Class;"⟩, Cond.methodLink RJ7 300 yJ7_copyOf_6403c, Cond.static yJ7_copyOf_6403c, Cond.code yJ7_copyOf_6403c cJ7_copyOf_6403c 4 (some (.array (.object "java/lang/Object"))), Cond.classLink RJ7 110 "[Ljava/lang/Object;", Cond.classLink RJ7 2 "java/lang/Object", Cond.methodLink RJ7 304 Lib.Math.min.name, Cond.static Lib.Math.min.name, Cond.code Lib.Math.min.name Lib.Math.min.code 2 (some .int), Cond.methodLink RJ7 150 arraycopyName, Cond.native arraycopyName, Cond.static arraycopyName, Cond.initialized "java/lang/System"]
def wsX6_family : List Cond := .code yX6_family cX6_family 1 (some .int) :: ((wsX6_family_r1 ++ (wsX6_family_r2 ++ wsX6_family_r3)) ++ wsX60 ++ wsJx4a65c0)
def wsX6_right_r1 : List Cond := [Cond.fieldLink RX6 27 "SaltRowModel" "families" "Ljava/util/ArrayList;", Cond.classLink RX6 130 "[I", Cond.methodLink RX6 123 yX6_isNoFamily, Cond.instanceMethod yX6_isNoFamily, Cond.selects RX6 yX6_isNoFamily yX6_isNoFamily, Cond.initialized RX6, Cond.code yX6_isNoFamily cX6_isNoFamily 2 (some .boolean), Cond.methodLink RX6 43 yJx4a65c_size_8abf5, Cond.instanceMethod yJx4a65c_size_8abf5, Cond.selects RJx4a65c yJx4a65c_size_8abf5 yJx4a65c_size_8abf5, Cond.initialized RJx4a65c, Cond.code yJx4a65c_size_8abf5 cJx4a65c_size_8abf5 1 (some .int), Cond.fieldLink RJx4a65c 48 "java/util/ArrayList" "size" "I", Cond.methodLink RX6 39 yX6_isIn, Cond.static yX6_isIn, Cond.code yX6_isIn cX6_isIn 3 (some .boolean), Cond.methodLink RX6 70 yX6_isNoPan, Cond.static yX6_isNoPan, Cond.code yX6_isNoPan cX6_isNoPan 1 (some .boolean), Cond.methodLink RX6 51 yX6_start, Cond.instanceMethod yX6_start, Cond.selects RX6 yX6_start yX6_start, Cond.code yX6_start cX6_start 3 (some .boolean), Cond.fieldLink RX6 31 "SaltRowModel" "thrown" "I"]
def wsX6_right_r2 : List Cond := [Cond.methodLink RX6 35 yX6_refuse, Cond.instanceMethod yX6_refuse, Cond.selects RX6 yX6_refuse yX6_refuse, Cond.code yX6_refuse cX6_refuse 3 (some .boolean), Cond.methodLink RX6 126 yJx4a65c_get_915e3, Cond.instanceMethod yJx4a65c_get_915e3, Cond.selects RJx4a65c yJx4a65c_get_915e3 yJx4a65c_get_915e3, Cond.code yJx4a65c_get_915e3 cJx4a65c_get_915e3 2 (some (.object "java/lang/Object")), Cond.methodLink RJx4a65c 118 yJ15_checkIndex_7cf53, Cond.static yJ15_checkIndex_7cf53, Cond.initialized RJ15, Cond.code yJ15_checkIndex_7cf53 cJ15_checkIndex_7cf53 2 (some .int), Cond.methodLink RJ15 105 yJ3_checkIndex_8e157, Cond.static yJ3_checkIndex_8e157, Cond.initialized RJ3, Cond.code yJ3_checkIndex_8e157 cJ3_checkIndex_8e157 3 (some .int), Cond.methodLink RJx4a65c 123 yJx4a65c_elementData_915e3, Cond.instanceMethod yJx4a65c_elementData_915e3, Cond.selects RJx4a65c yJx4a65c_elementData_915e3 yJx4a65c_elementData_915e3, Cond.code yJx4a65c_elementData_915e3 cJx4a65c_elementData_915e3 2 (some (.object "java/lang/Object")), Cond.fieldLink RJx4a65c 9 "java/util/ArrayList" "elementData" "[Ljava/lang/Object;", Cond.methodLink RX6 132 yJx4a65c_iterator_32c93, Cond.instanceMethod yJx4a65c_iterator_32c93, Cond.selects RJx4a65c yJx4a65c_iterator_32c93 yJx4a65c_iterator_32c93]
def wsX6_right_r3 : List Cond := [Cond.code yJx4a65c_iterator_32c93 cJx4a65c_iterator_32c93 1 (some (.object "java/util/Iterator")), Cond.classLink RJx4a65c 267 RJx35411, Cond.instantiable RJx35411 4, Cond.initialized RJx35411, Cond.methodLink RJx4a65c 269 yJx35411_init_45d68, Cond.instanceMethod yJx35411_init_45d68, Cond.code yJx35411_init_45d68 cJx35411_init_45d68 2 none, Cond.fieldLink RJx35411 1 "java/util/ArrayList$Itr" "this$0" "Ljava/util/ArrayList;", Cond.methodLink RJx35411 7 objectInit, Cond.instanceMethod objectInit, Cond.code objectInit ⟨#[0xb1]⟩ 1 none, Cond.fieldLink RJx35411 13 "java/util/ArrayList$Itr" "lastRet" "I", Cond.fieldLink RJx35411 17 "java/util/ArrayList" "modCount" "I", Cond.sameField "java/util/ArrayList" "java/util/AbstractList" "modCount" "I", Cond.fieldLink RJx35411 22 "java/util/ArrayList$Itr" "expectedModCount" "I", Cond.methodLink RX6 136 ⟨"java/util/Iterator", "hasNext", "()Z"⟩, Cond.selects RJx35411 ⟨"java/util/Iterator", "hasNext", "()Z"⟩ yJx35411_hasNext_aae02, Cond.instanceMethod yJx35411_hasNext_aae02, Cond.code yJx35411_hasNext_aae02 cJx35411_hasNext_aae02 1 (some .boolean), Cond.fieldLink RJx35411 25 "java/util/ArrayList$Itr" "cursor" "I", Cond.methodLink RX6 142 ⟨"java/util/Iterator", "next", "()Ljava/lang/Object;"⟩, Cond.selects RJx35411 ⟨"java/util/Iterator", "next", "()Ljava/lang/Object;"⟩ yJx35411_next_0502b, Cond.instanceMethod yJx35411_next_0502b, Cond.code yJx35411_next_0502b cJx35411_next_0502b 3 (some (.object "java/lang/Object"))]
def wsX6_right_r4 : List Cond := [Cond.fieldLink RJx35411 37 "java/util/ArrayList" "elementData" "[Ljava/lang/Object;", Cond.methodLink RJx35411 31 yJx35411_checkForComodification_da8c8, Cond.instanceMethod yJx35411_checkForComodification_da8c8, Cond.selects RJx35411 yJx35411_checkForComodification_da8c8 yJx35411_checkForComodification_da8c8, Cond.code yJx35411_checkForComodification_da8c8 cJx35411_checkForComodification_da8c8 1 none]
def wsX6_right : List Cond := .code yX6_right cX6_right 8 (some .int) :: ((wsX6_right_r1 ++ (wsX6_right_r2 ++ (wsX6_right_r3 ++ wsX6_right_r4))) ++ wsX60 ++ wsJx4a65c0 ++ wsJx354110)
def wsX6_deal_r1 : List Cond := [Cond.fieldLink RX6 27 "SaltRowModel" "families" "Ljava/util/ArrayList;", Cond.classLink RX6 130 "[I", Cond.fieldLink RX6 150 "SaltRowModel" "cloister" "I", Cond.fieldLink RX6 153 "SaltRowModel" "cloisterDirt" "I", Cond.methodLink RX6 132 yJx4a65c_iterator_32c93, Cond.instanceMethod yJx4a65c_iterator_32c93, Cond.selects RJx4a65c yJx4a65c_iterator_32c93 yJx4a65c_iterator_32c93, Cond.initialized RJx4a65c, Cond.code yJx4a65c_iterator_32c93 cJx4a65c_iterator_32c93 1 (some (.object "java/util/Iterator")), Cond.classLink RJx4a65c 267 RJx35411, Cond.instantiable RJx35411 4, Cond.initialized RJx35411, Cond.methodLink RJx4a65c 269 yJx35411_init_45d68, Cond.instanceMethod yJx35411_init_45d68, Cond.code yJx35411_init_45d68 cJx35411_init_45d68 2 none, Cond.fieldLink RJx35411 1 "java/util/ArrayList$Itr" "this$0" "Ljava/util/ArrayList;", Cond.methodLink RJx35411 7 objectInit, Cond.instanceMethod objectInit, Cond.code objectInit ⟨#[0xb1]⟩ 1 none, Cond.fieldLink RJx35411 13 "java/util/ArrayList$Itr" "lastRet" "I", Cond.fieldLink RJx35411 17 "java/util/ArrayList" "modCount" "I", Cond.sameField "java/util/ArrayList" "java/util/AbstractList" "modCount" "I", Cond.fieldLink RJx35411 22 "java/util/ArrayList$Itr" "expectedModCount" "I", Cond.methodLink RX6 136 ⟨"java/util/Iterator", "hasNext", "()Z"⟩]
def wsX6_deal_r2 : List Cond := [Cond.selects RJx35411 ⟨"java/util/Iterator", "hasNext", "()Z"⟩ yJx35411_hasNext_aae02, Cond.instanceMethod yJx35411_hasNext_aae02, Cond.code yJx35411_hasNext_aae02 cJx35411_hasNext_aae02 1 (some .boolean), Cond.fieldLink RJx35411 25 "java/util/ArrayList$Itr" "cursor" "I", Cond.methodLink RX6 142 ⟨"java/util/Iterator", "next", "()Ljava/lang/Object;"⟩, Cond.selects RJx35411 ⟨"java/util/Iterator", "next", "()Ljava/lang/Object;"⟩ yJx35411_next_0502b, Cond.instanceMethod yJx35411_next_0502b, Cond.code yJx35411_next_0502b cJx35411_next_0502b 3 (some (.object "java/lang/Object")), Cond.fieldLink RJx35411 37 "java/util/ArrayList" "elementData" "[Ljava/lang/Object;", Cond.methodLink RJx35411 31 yJx35411_checkForComodification_da8c8, Cond.instanceMethod yJx35411_checkForComodification_da8c8, Cond.selects RJx35411 yJx35411_checkForComodification_da8c8 yJx35411_checkForComodification_da8c8, Cond.code yJx35411_checkForComodification_da8c8 cJx35411_checkForComodification_da8c8 1 none, Cond.methodLink RX6 146 yX6_share, Cond.static yX6_share, Cond.initialized RX6, Cond.code yX6_share cX6_share 3 (some .int)]
def wsX6_deal : List Cond := .code yX6_deal cX6_deal 10 none :: ((wsX6_deal_r1 ++ wsX6_deal_r2) ++ wsX60 ++ wsJx354110 ++ wsJx4a65c0)
def wsX6_harvestOf : List Cond := .code yX6_harvestOf cX6_harvestOf 5 (some (.array .int)) :: ([.fieldLink RX6 18 "SaltRowModel" "row" "LSaltRowModel$Row;", .fieldLink RX6 57 "SaltRowModel$Row" "ponds" "[LSaltRowModel$Pond;", .fieldLink RX6 156 "SaltRowModel$Pond" "crust" "I", .fieldLink RX6 61 "SaltRowModel$Pond" "area" "I", .methodLink RX6 159 Lib.Math.min.name, .static Lib.Math.min.name, .initialized "java/lang/Math", .code Lib.Math.min.name Lib.Math.min.code 2 (some .int), .arrayClass .int, .fieldLink RX6 163 "SaltRowModel$Pond" "dirt" "I", .methodLink RX6 146 yX6_share, .static yX6_share, .initialized RX6, .code yX6_share cX6_share 3 (some .int)] ++ wsX60 ++ wsX50 ++ wsX40)
def wsX6_canHarvest : List Cond := .code yX6_canHarvest cX6_canHarvest 2 (some .boolean) :: ([.fieldLink RX6 18 "SaltRowModel" "row" "LSaltRowModel$Row;", .fieldLink RX6 57 "SaltRowModel$Row" "ponds" "[LSaltRowModel$Pond;", .fieldLink RX6 156 "SaltRowModel$Pond" "crust" "I", .fieldLink RX6 166 "SaltRowModel$Pond" "harvested" "I", .fieldLink RX6 54 "SaltRowModel$Row" "day" "I"] ++ wsX60 ++ wsX50 ++ wsX40)
def wsX6_harvest_r1 : List Cond := [Cond.fieldLink RX6 18 "SaltRowModel" "row" "LSaltRowModel$Row;", Cond.fieldLink RX6 57 "SaltRowModel$Row" "ponds" "[LSaltRowModel$Pond;", Cond.fieldLink RX6 156 "SaltRowModel$Pond" "crust" "I", Cond.fieldLink RX6 163 "SaltRowModel$Pond" "dirt" "I", Cond.fieldLink RX6 54 "SaltRowModel$Row" "day" "I", Cond.fieldLink RX6 166 "SaltRowModel$Pond" "harvested" "I", Cond.fieldLink RX6 176 "SaltRowModel" "crown" "I", Cond.fieldLink RX6 61 "SaltRowModel$Pond" "area" "I", Cond.methodLink RX6 70 yX6_isNoPan, Cond.static yX6_isNoPan, Cond.initialized RX6, Cond.code yX6_isNoPan cX6_isNoPan 1 (some .boolean), Cond.methodLink RX6 39 yX6_isIn, Cond.static yX6_isIn, Cond.code yX6_isIn cX6_isIn 3 (some .boolean), Cond.methodLink RX6 51 yX6_start, Cond.instanceMethod yX6_start, Cond.selects RX6 yX6_start yX6_start, Cond.code yX6_start cX6_start 3 (some .boolean), Cond.fieldLink RX6 31 "SaltRowModel" "thrown" "I", Cond.methodLink RX6 35 yX6_refuse, Cond.instanceMethod yX6_refuse, Cond.selects RX6 yX6_refuse yX6_refuse, Cond.code yX6_refuse cX6_refuse 3 (some .boolean)]
def wsX6_harvest_r2 : List Cond := [Cond.methodLink RX6 169 yX6_canHarvest, Cond.instanceMethod yX6_canHarvest, Cond.selects RX6 yX6_canHarvest yX6_canHarvest, Cond.code yX6_canHarvest cX6_canHarvest 2 (some .boolean), Cond.methodLink RX6 172 yX6_harvestOf, Cond.instanceMethod yX6_harvestOf, Cond.selects RX6 yX6_harvestOf yX6_harvestOf, Cond.code yX6_harvestOf cX6_harvestOf 5 (some (.array .int)), Cond.methodLink RX6 159 Lib.Math.min.name, Cond.static Lib.Math.min.name, Cond.initialized "java/lang/Math", Cond.code Lib.Math.min.name Lib.Math.min.code 2 (some .int), Cond.arrayClass .int, Cond.methodLink RX6 146 yX6_share, Cond.static yX6_share, Cond.code yX6_share cX6_share 3 (some .int), Cond.methodLink RX6 179 yX6_deal, Cond.instanceMethod yX6_deal, Cond.selects RX6 yX6_deal yX6_deal, Cond.code yX6_deal cX6_deal 10 none, Cond.fieldLink RX6 27 "SaltRowModel" "families" "Ljava/util/ArrayList;", Cond.classLink RX6 130 "[I", Cond.fieldLink RX6 150 "SaltRowModel" "cloister" "I", Cond.fieldLink RX6 153 "SaltRowModel" "cloisterDirt" "I"]
def wsX6_harvest_r3 : List Cond := [Cond.methodLink RX6 132 yJx4a65c_iterator_32c93, Cond.instanceMethod yJx4a65c_iterator_32c93, Cond.selects RJx4a65c yJx4a65c_iterator_32c93 yJx4a65c_iterator_32c93, Cond.initialized RJx4a65c, Cond.code yJx4a65c_iterator_32c93 cJx4a65c_iterator_32c93 1 (some (.object "java/util/Iterator")), Cond.classLink RJx4a65c 267 RJx35411, Cond.instantiable RJx35411 4, Cond.initialized RJx35411, Cond.methodLink RJx4a65c 269 yJx35411_init_45d68, Cond.instanceMethod yJx35411_init_45d68, Cond.code yJx35411_init_45d68 cJx35411_init_45d68 2 none, Cond.fieldLink RJx35411 1 "java/util/ArrayList$Itr" "this$0" "Ljava/util/ArrayList;", Cond.methodLink RJx35411 7 objectInit, Cond.instanceMethod objectInit, Cond.code objectInit ⟨#[0xb1]⟩ 1 none, Cond.fieldLink RJx35411 13 "java/util/ArrayList$Itr" "lastRet" "I", Cond.fieldLink RJx35411 17 "java/util/ArrayList" "modCount" "I", Cond.sameField "java/util/ArrayList" "java/util/AbstractList" "modCount" "I", Cond.fieldLink RJx35411 22 "java/util/ArrayList$Itr" "expectedModCount" "I", Cond.methodLink RX6 136 ⟨"java/util/Iterator", "hasNext", "()Z"⟩, Cond.selects RJx35411 ⟨"java/util/Iterator", "hasNext", "()Z"⟩ yJx35411_hasNext_aae02, Cond.instanceMethod yJx35411_hasNext_aae02, Cond.code yJx35411_hasNext_aae02 cJx35411_hasNext_aae02 1 (some .boolean), Cond.fieldLink RJx35411 25 "java/util/ArrayList$Itr" "cursor" "I"]
def wsX6_harvest_r4 : List Cond := [Cond.methodLink RX6 142 ⟨"java/util/Iterator", "next", "()Ljava/lang/Object;"⟩, Cond.selects RJx35411 ⟨"java/util/Iterator", "next", "()Ljava/lang/Object;"⟩ yJx35411_next_0502b, Cond.instanceMethod yJx35411_next_0502b, Cond.code yJx35411_next_0502b cJx35411_next_0502b 3 (some (.object "java/lang/Object")), Cond.fieldLink RJx35411 37 "java/util/ArrayList" "elementData" "[Ljava/lang/Object;", Cond.methodLink RJx35411 31 yJx35411_checkForComodification_da8c8, Cond.instanceMethod yJx35411_checkForComodification_da8c8, Cond.selects RJx35411 yJx35411_checkForComodification_da8c8 yJx35411_checkForComodification_da8c8, Cond.code yJx35411_checkForComodification_da8c8 cJx35411_checkForComodification_da8c8 1 none]
def wsX6_harvest : List Cond := .code yX6_harvest cX6_harvest 5 (some .int) :: ((wsX6_harvest_r1 ++ (wsX6_harvest_r2 ++ (wsX6_harvest_r3 ++ wsX6_harvest_r4))) ++ wsX60 ++ wsX50 ++ wsX40 ++ wsJx354110 ++ wsJx4a65c0)
def wsX6_flower_r1 : List Cond := [Cond.fieldLink RX6 18 "SaltRowModel" "row" "LSaltRowModel$Row;", Cond.fieldLink RX6 57 "SaltRowModel$Row" "ponds" "[LSaltRowModel$Pond;", Cond.fieldLink RX6 79 "SaltRowModel" "sun" "I", Cond.fieldLink RX6 82 "SaltRowModel" "wind" "I", Cond.fieldLink RX6 166 "SaltRowModel$Pond" "harvested" "I", Cond.fieldLink RX6 54 "SaltRowModel$Row" "day" "I", Cond.fieldLink RX6 100 "SaltRowModel$Pond" "salt" "I", Cond.fieldLink RX6 61 "SaltRowModel$Pond" "area" "I", Cond.methodLink RX6 159 Lib.Math.min.name, Cond.static Lib.Math.min.name, Cond.initialized "java/lang/Math", Cond.code Lib.Math.min.name Lib.Math.min.code 2 (some .int), Cond.methodLink RX6 70 yX6_isNoPan, Cond.static yX6_isNoPan, Cond.initialized RX6, Cond.code yX6_isNoPan cX6_isNoPan 1 (some .boolean), Cond.methodLink RX6 39 yX6_isIn, Cond.static yX6_isIn, Cond.code yX6_isIn cX6_isIn 3 (some .boolean), Cond.methodLink RX6 51 yX6_start, Cond.instanceMethod yX6_start, Cond.selects RX6 yX6_start yX6_start, Cond.code yX6_start cX6_start 3 (some .boolean), Cond.fieldLink RX6 31 "SaltRowModel" "thrown" "I"]
def wsX6_flower_r2 : List Cond := [Cond.methodLink RX6 35 yX6_refuse, Cond.instanceMethod yX6_refuse, Cond.selects RX6 yX6_refuse yX6_refuse, Cond.code yX6_refuse cX6_refuse 3 (some .boolean), Cond.methodLink RX6 116 yX4_strength, Cond.instanceMethod yX4_strength, Cond.selects RX4 yX4_strength yX4_strength, Cond.initialized RX4, Cond.code yX4_strength cX4_strength 1 (some .int), Cond.fieldLink RX4 19 "SaltRowModel$Pond" "brine" "I", Cond.constantLong RX4 47 (90), Cond.fieldLink RX4 22 "SaltRowModel$Pond" "salt" "I", Cond.fieldLink RX4 28 "SaltRowModel$Pond" "bitter" "I", Cond.constantLong RX4 49 (5), Cond.methodLink RX4 51 Lib.MathLoose.min_long.x, Cond.static Lib.MathLoose.min_long.x, Cond.code Lib.MathLoose.min_long.x Lib.MathLoose.min_long.code 4 (some .long), Cond.methodLink RX6 179 yX6_deal, Cond.instanceMethod yX6_deal, Cond.selects RX6 yX6_deal yX6_deal, Cond.code yX6_deal cX6_deal 10 none, Cond.fieldLink RX6 27 "SaltRowModel" "families" "Ljava/util/ArrayList;", Cond.classLink RX6 130 "[I", Cond.fieldLink RX6 150 "SaltRowModel" "cloister" "I"]
def wsX6_flower_r3 : List Cond := [Cond.fieldLink RX6 153 "SaltRowModel" "cloisterDirt" "I", Cond.methodLink RX6 132 yJx4a65c_iterator_32c93, Cond.instanceMethod yJx4a65c_iterator_32c93, Cond.selects RJx4a65c yJx4a65c_iterator_32c93 yJx4a65c_iterator_32c93, Cond.initialized RJx4a65c, Cond.code yJx4a65c_iterator_32c93 cJx4a65c_iterator_32c93 1 (some (.object "java/util/Iterator")), Cond.classLink RJx4a65c 267 RJx35411, Cond.instantiable RJx35411 4, Cond.initialized RJx35411, Cond.methodLink RJx4a65c 269 yJx35411_init_45d68, Cond.instanceMethod yJx35411_init_45d68, Cond.code yJx35411_init_45d68 cJx35411_init_45d68 2 none, Cond.fieldLink RJx35411 1 "java/util/ArrayList$Itr" "this$0" "Ljava/util/ArrayList;", Cond.methodLink RJx35411 7 objectInit, Cond.instanceMethod objectInit, Cond.code objectInit ⟨#[0xb1]⟩ 1 none, Cond.fieldLink RJx35411 13 "java/util/ArrayList$Itr" "lastRet" "I", Cond.fieldLink RJx35411 17 "java/util/ArrayList" "modCount" "I", Cond.sameField "java/util/ArrayList" "java/util/AbstractList" "modCount" "I", Cond.fieldLink RJx35411 22 "java/util/ArrayList$Itr" "expectedModCount" "I", Cond.methodLink RX6 136 ⟨"java/util/Iterator", "hasNext", "()Z"⟩, Cond.selects RJx35411 ⟨"java/util/Iterator", "hasNext", "()Z"⟩ yJx35411_hasNext_aae02, Cond.instanceMethod yJx35411_hasNext_aae02, Cond.code yJx35411_hasNext_aae02 cJx35411_hasNext_aae02 1 (some .boolean)]
def wsX6_flower_r4 : List Cond := [Cond.fieldLink RJx35411 25 "java/util/ArrayList$Itr" "cursor" "I", Cond.methodLink RX6 142 ⟨"java/util/Iterator", "next", "()Ljava/lang/Object;"⟩, Cond.selects RJx35411 ⟨"java/util/Iterator", "next", "()Ljava/lang/Object;"⟩ yJx35411_next_0502b, Cond.instanceMethod yJx35411_next_0502b, Cond.code yJx35411_next_0502b cJx35411_next_0502b 3 (some (.object "java/lang/Object")), Cond.fieldLink RJx35411 37 "java/util/ArrayList" "elementData" "[Ljava/lang/Object;", Cond.methodLink RJx35411 31 yJx35411_checkForComodification_da8c8, Cond.instanceMethod yJx35411_checkForComodification_da8c8, Cond.selects RJx35411 yJx35411_checkForComodification_da8c8 yJx35411_checkForComodification_da8c8, Cond.code yJx35411_checkForComodification_da8c8 cJx35411_checkForComodification_da8c8 1 none, Cond.methodLink RX6 146 yX6_share, Cond.static yX6_share, Cond.code yX6_share cX6_share 3 (some .int)]
def wsX6_flower : List Cond := .code yX6_flower cX6_flower 4 (some .int) :: ((wsX6_flower_r1 ++ (wsX6_flower_r2 ++ (wsX6_flower_r3 ++ wsX6_flower_r4))) ++ wsX60 ++ wsX50 ++ wsX40 ++ wsJx354110 ++ wsJx4a65c0)
def wsX6_wash_r1 : List Cond := [Cond.fieldLink RX6 27 "SaltRowModel" "families" "Ljava/util/ArrayList;", Cond.classLink RX6 130 "[I", Cond.fieldLink RX6 97 "SaltRowModel" "lost" "I", Cond.methodLink RX6 123 yX6_isNoFamily, Cond.instanceMethod yX6_isNoFamily, Cond.selects RX6 yX6_isNoFamily yX6_isNoFamily, Cond.initialized RX6, Cond.code yX6_isNoFamily cX6_isNoFamily 2 (some .boolean), Cond.methodLink RX6 43 yJx4a65c_size_8abf5, Cond.instanceMethod yJx4a65c_size_8abf5, Cond.selects RJx4a65c yJx4a65c_size_8abf5 yJx4a65c_size_8abf5, Cond.initialized RJx4a65c, Cond.code yJx4a65c_size_8abf5 cJx4a65c_size_8abf5 1 (some .int), Cond.fieldLink RJx4a65c 48 "java/util/ArrayList" "size" "I", Cond.methodLink RX6 39 yX6_isIn, Cond.static yX6_isIn, Cond.code yX6_isIn cX6_isIn 3 (some .boolean), Cond.methodLink RX6 51 yX6_start, Cond.instanceMethod yX6_start, Cond.selects RX6 yX6_start yX6_start, Cond.code yX6_start cX6_start 3 (some .boolean), Cond.fieldLink RX6 31 "SaltRowModel" "thrown" "I", Cond.methodLink RX6 35 yX6_refuse, Cond.instanceMethod yX6_refuse]
def wsX6_wash_r2 : List Cond := [Cond.selects RX6 yX6_refuse yX6_refuse, Cond.code yX6_refuse cX6_refuse 3 (some .boolean), Cond.methodLink RX6 126 yJx4a65c_get_915e3, Cond.instanceMethod yJx4a65c_get_915e3, Cond.selects RJx4a65c yJx4a65c_get_915e3 yJx4a65c_get_915e3, Cond.code yJx4a65c_get_915e3 cJx4a65c_get_915e3 2 (some (.object "java/lang/Object")), Cond.methodLink RJx4a65c 118 yJ15_checkIndex_7cf53, Cond.static yJ15_checkIndex_7cf53, Cond.initialized RJ15, Cond.code yJ15_checkIndex_7cf53 cJ15_checkIndex_7cf53 2 (some .int), Cond.methodLink RJ15 105 yJ3_checkIndex_8e157, Cond.static yJ3_checkIndex_8e157, Cond.initialized RJ3, Cond.code yJ3_checkIndex_8e157 cJ3_checkIndex_8e157 3 (some .int), Cond.methodLink RJx4a65c 123 yJx4a65c_elementData_915e3, Cond.instanceMethod yJx4a65c_elementData_915e3, Cond.selects RJx4a65c yJx4a65c_elementData_915e3 yJx4a65c_elementData_915e3, Cond.code yJx4a65c_elementData_915e3 cJx4a65c_elementData_915e3 2 (some (.object "java/lang/Object")), Cond.fieldLink RJx4a65c 9 "java/util/ArrayList" "elementData" "[Ljava/lang/Object;", Cond.methodLink RX6 183 yX6_purity, Cond.static yX6_purity, Cond.code yX6_purity cX6_purity 2 (some .int), Cond.constantLong RX6 1 (100)]
def wsX6_wash : List Cond := .code yX6_wash cX6_wash 4 (some .int) :: ((wsX6_wash_r1 ++ wsX6_wash_r2) ++ wsX60 ++ wsJx4a65c0)
def wsX6_sell_r1 : List Cond := [Cond.fieldLink RX6 27 "SaltRowModel" "families" "Ljava/util/ArrayList;", Cond.classLink RX6 130 "[I", Cond.constantLong RX6 186 (10), Cond.methodLink RX6 123 yX6_isNoFamily, Cond.instanceMethod yX6_isNoFamily, Cond.selects RX6 yX6_isNoFamily yX6_isNoFamily, Cond.initialized RX6, Cond.code yX6_isNoFamily cX6_isNoFamily 2 (some .boolean), Cond.methodLink RX6 43 yJx4a65c_size_8abf5, Cond.instanceMethod yJx4a65c_size_8abf5, Cond.selects RJx4a65c yJx4a65c_size_8abf5 yJx4a65c_size_8abf5, Cond.initialized RJx4a65c, Cond.code yJx4a65c_size_8abf5 cJx4a65c_size_8abf5 1 (some .int), Cond.fieldLink RJx4a65c 48 "java/util/ArrayList" "size" "I", Cond.methodLink RX6 39 yX6_isIn, Cond.static yX6_isIn, Cond.code yX6_isIn cX6_isIn 3 (some .boolean), Cond.methodLink RX6 51 yX6_start, Cond.instanceMethod yX6_start, Cond.selects RX6 yX6_start yX6_start, Cond.code yX6_start cX6_start 3 (some .boolean), Cond.fieldLink RX6 31 "SaltRowModel" "thrown" "I", Cond.methodLink RX6 35 yX6_refuse, Cond.instanceMethod yX6_refuse]
def wsX6_sell_r2 : List Cond := [Cond.selects RX6 yX6_refuse yX6_refuse, Cond.code yX6_refuse cX6_refuse 3 (some .boolean), Cond.methodLink RX6 126 yJx4a65c_get_915e3, Cond.instanceMethod yJx4a65c_get_915e3, Cond.selects RJx4a65c yJx4a65c_get_915e3 yJx4a65c_get_915e3, Cond.code yJx4a65c_get_915e3 cJx4a65c_get_915e3 2 (some (.object "java/lang/Object")), Cond.methodLink RJx4a65c 118 yJ15_checkIndex_7cf53, Cond.static yJ15_checkIndex_7cf53, Cond.initialized RJ15, Cond.code yJ15_checkIndex_7cf53 cJ15_checkIndex_7cf53 2 (some .int), Cond.methodLink RJ15 105 yJ3_checkIndex_8e157, Cond.static yJ3_checkIndex_8e157, Cond.initialized RJ3, Cond.code yJ3_checkIndex_8e157 cJ3_checkIndex_8e157 3 (some .int), Cond.methodLink RJx4a65c 123 yJx4a65c_elementData_915e3, Cond.instanceMethod yJx4a65c_elementData_915e3, Cond.selects RJx4a65c yJx4a65c_elementData_915e3 yJx4a65c_elementData_915e3, Cond.code yJx4a65c_elementData_915e3 cJx4a65c_elementData_915e3 2 (some (.object "java/lang/Object")), Cond.fieldLink RJx4a65c 9 "java/util/ArrayList" "elementData" "[Ljava/lang/Object;", Cond.methodLink RX6 183 yX6_purity, Cond.static yX6_purity, Cond.code yX6_purity cX6_purity 2 (some .int), Cond.constantLong RX6 1 (100), Cond.methodLink RX6 146 yX6_share]
def wsX6_sell_r3 : List Cond := [Cond.static yX6_share, Cond.code yX6_share cX6_share 3 (some .int)]
def wsX6_sell : List Cond := .code yX6_sell cX6_sell 7 (some .int) :: ((wsX6_sell_r1 ++ (wsX6_sell_r2 ++ wsX6_sell_r3)) ++ wsX60 ++ wsJx4a65c0)
def wsX6_toldOfPond_r1 : List Cond := [Cond.fieldLink RX6 18 "SaltRowModel" "row" "LSaltRowModel$Row;", Cond.fieldLink RX6 57 "SaltRowModel$Row" "ponds" "[LSaltRowModel$Pond;", Cond.arrayClass .int, Cond.fieldLink RX6 61 "SaltRowModel$Pond" "area" "I", Cond.fieldLink RX6 91 "SaltRowModel$Pond" "brine" "I", Cond.fieldLink RX6 100 "SaltRowModel$Pond" "salt" "I", Cond.fieldLink RX6 103 "SaltRowModel$Pond" "gypsum" "I", Cond.fieldLink RX6 106 "SaltRowModel$Pond" "bitter" "I", Cond.fieldLink RX6 85 "SaltRowModel$Pond" "fresh" "I", Cond.fieldLink RX6 156 "SaltRowModel$Pond" "crust" "I", Cond.fieldLink RX6 163 "SaltRowModel$Pond" "dirt" "I", Cond.fieldLink RX6 166 "SaltRowModel$Pond" "harvested" "I", Cond.fieldLink RX6 54 "SaltRowModel$Row" "day" "I", Cond.methodLink RX6 188 yX4_level, Cond.instanceMethod yX4_level, Cond.selects RX4 yX4_level yX4_level, Cond.initialized RX4, Cond.code yX4_level cX4_level 1 (some .int), Cond.fieldLink RX4 19 "SaltRowModel$Pond" "brine" "I", Cond.fieldLink RX4 9 "SaltRowModel$Pond" "area" "I", Cond.methodLink RX6 116 yX4_strength, Cond.instanceMethod yX4_strength, Cond.selects RX4 yX4_strength yX4_strength, Cond.code yX4_strength cX4_strength 1 (some .int)]
def wsX6_toldOfPond_r2 : List Cond := [Cond.constantLong RX4 47 (90), Cond.fieldLink RX4 22 "SaltRowModel$Pond" "salt" "I", Cond.fieldLink RX4 28 "SaltRowModel$Pond" "bitter" "I", Cond.constantLong RX4 49 (5), Cond.methodLink RX4 51 Lib.MathLoose.min_long.x, Cond.static Lib.MathLoose.min_long.x, Cond.initialized "java/lang/Math", Cond.code Lib.MathLoose.min_long.x Lib.MathLoose.min_long.code 4 (some .long), Cond.methodLink RX6 191 yX6_one, Cond.static yX6_one, Cond.initialized RX6, Cond.code yX6_one cX6_one 1 (some .int)]
def wsX6_toldOfPond : List Cond := .code yX6_toldOfPond cX6_toldOfPond 5 (some .int) :: ((wsX6_toldOfPond_r1 ++ wsX6_toldOfPond_r2) ++ wsX60 ++ wsX50 ++ wsX40)
def wsX6_ofPond_r1 : List Cond := [Cond.methodLink RX6 47 yX6_isNoPond, Cond.static yX6_isNoPond, Cond.initialized RX6, Cond.code yX6_isNoPond cX6_isNoPond 1 (some .boolean), Cond.methodLink RX6 39 yX6_isIn, Cond.static yX6_isIn, Cond.code yX6_isIn cX6_isIn 3 (some .boolean), Cond.methodLink RX6 51 yX6_start, Cond.instanceMethod yX6_start, Cond.selects RX6 yX6_start yX6_start, Cond.code yX6_start cX6_start 3 (some .boolean), Cond.fieldLink RX6 31 "SaltRowModel" "thrown" "I", Cond.methodLink RX6 35 yX6_refuse, Cond.instanceMethod yX6_refuse, Cond.selects RX6 yX6_refuse yX6_refuse, Cond.code yX6_refuse cX6_refuse 3 (some .boolean), Cond.methodLink RX6 195 yX6_toldOfPond, Cond.instanceMethod yX6_toldOfPond, Cond.selects RX6 yX6_toldOfPond yX6_toldOfPond, Cond.code yX6_toldOfPond cX6_toldOfPond 5 (some .int), Cond.fieldLink RX6 18 "SaltRowModel" "row" "LSaltRowModel$Row;", Cond.fieldLink RX6 57 "SaltRowModel$Row" "ponds" "[LSaltRowModel$Pond;", Cond.arrayClass .int, Cond.fieldLink RX6 61 "SaltRowModel$Pond" "area" "I"]
def wsX6_ofPond_r2 : List Cond := [Cond.fieldLink RX6 91 "SaltRowModel$Pond" "brine" "I", Cond.fieldLink RX6 100 "SaltRowModel$Pond" "salt" "I", Cond.fieldLink RX6 103 "SaltRowModel$Pond" "gypsum" "I", Cond.fieldLink RX6 106 "SaltRowModel$Pond" "bitter" "I", Cond.fieldLink RX6 85 "SaltRowModel$Pond" "fresh" "I", Cond.fieldLink RX6 156 "SaltRowModel$Pond" "crust" "I", Cond.fieldLink RX6 163 "SaltRowModel$Pond" "dirt" "I", Cond.fieldLink RX6 166 "SaltRowModel$Pond" "harvested" "I", Cond.fieldLink RX6 54 "SaltRowModel$Row" "day" "I", Cond.methodLink RX6 188 yX4_level, Cond.instanceMethod yX4_level, Cond.selects RX4 yX4_level yX4_level, Cond.initialized RX4, Cond.code yX4_level cX4_level 1 (some .int), Cond.fieldLink RX4 19 "SaltRowModel$Pond" "brine" "I", Cond.fieldLink RX4 9 "SaltRowModel$Pond" "area" "I", Cond.methodLink RX6 116 yX4_strength, Cond.instanceMethod yX4_strength, Cond.selects RX4 yX4_strength yX4_strength, Cond.code yX4_strength cX4_strength 1 (some .int), Cond.constantLong RX4 47 (90), Cond.fieldLink RX4 22 "SaltRowModel$Pond" "salt" "I", Cond.fieldLink RX4 28 "SaltRowModel$Pond" "bitter" "I", Cond.constantLong RX4 49 (5)]
def wsX6_ofPond_r3 : List Cond := [Cond.methodLink RX4 51 Lib.MathLoose.min_long.x, Cond.static Lib.MathLoose.min_long.x, Cond.initialized "java/lang/Math", Cond.code Lib.MathLoose.min_long.x Lib.MathLoose.min_long.code 4 (some .long), Cond.methodLink RX6 191 yX6_one, Cond.static yX6_one, Cond.code yX6_one cX6_one 1 (some .int)]
def wsX6_ofPond : List Cond := .code yX6_ofPond cX6_ofPond 3 (some .int) :: ((wsX6_ofPond_r1 ++ (wsX6_ofPond_r2 ++ wsX6_ofPond_r3)) ++ wsX60 ++ wsX50 ++ wsX40)
def wsX6_toldOfFamily : List Cond := .code yX6_toldOfFamily cX6_toldOfFamily 3 (some .int) :: ([.arrayClass .int, .methodLink RX6 183 yX6_purity, .static yX6_purity, .initialized RX6, .code yX6_purity cX6_purity 2 (some .int), .constantLong RX6 1 (100)])
def wsX6_ofFamily_r1 : List Cond := [Cond.fieldLink RX6 27 "SaltRowModel" "families" "Ljava/util/ArrayList;", Cond.classLink RX6 130 "[I", Cond.methodLink RX6 123 yX6_isNoFamily, Cond.instanceMethod yX6_isNoFamily, Cond.selects RX6 yX6_isNoFamily yX6_isNoFamily, Cond.initialized RX6, Cond.code yX6_isNoFamily cX6_isNoFamily 2 (some .boolean), Cond.methodLink RX6 43 yJx4a65c_size_8abf5, Cond.instanceMethod yJx4a65c_size_8abf5, Cond.selects RJx4a65c yJx4a65c_size_8abf5 yJx4a65c_size_8abf5, Cond.initialized RJx4a65c, Cond.code yJx4a65c_size_8abf5 cJx4a65c_size_8abf5 1 (some .int), Cond.fieldLink RJx4a65c 48 "java/util/ArrayList" "size" "I", Cond.methodLink RX6 39 yX6_isIn, Cond.static yX6_isIn, Cond.code yX6_isIn cX6_isIn 3 (some .boolean), Cond.methodLink RX6 51 yX6_start, Cond.instanceMethod yX6_start, Cond.selects RX6 yX6_start yX6_start, Cond.code yX6_start cX6_start 3 (some .boolean), Cond.fieldLink RX6 31 "SaltRowModel" "thrown" "I", Cond.methodLink RX6 35 yX6_refuse, Cond.instanceMethod yX6_refuse, Cond.selects RX6 yX6_refuse yX6_refuse]
def wsX6_ofFamily_r2 : List Cond := [Cond.code yX6_refuse cX6_refuse 3 (some .boolean), Cond.methodLink RX6 126 yJx4a65c_get_915e3, Cond.instanceMethod yJx4a65c_get_915e3, Cond.selects RJx4a65c yJx4a65c_get_915e3 yJx4a65c_get_915e3, Cond.code yJx4a65c_get_915e3 cJx4a65c_get_915e3 2 (some (.object "java/lang/Object")), Cond.methodLink RJx4a65c 118 yJ15_checkIndex_7cf53, Cond.static yJ15_checkIndex_7cf53, Cond.initialized RJ15, Cond.code yJ15_checkIndex_7cf53 cJ15_checkIndex_7cf53 2 (some .int), Cond.methodLink RJ15 105 yJ3_checkIndex_8e157, Cond.static yJ3_checkIndex_8e157, Cond.initialized RJ3, Cond.code yJ3_checkIndex_8e157 cJ3_checkIndex_8e157 3 (some .int), Cond.methodLink RJx4a65c 123 yJx4a65c_elementData_915e3, Cond.instanceMethod yJx4a65c_elementData_915e3, Cond.selects RJx4a65c yJx4a65c_elementData_915e3 yJx4a65c_elementData_915e3, Cond.code yJx4a65c_elementData_915e3 cJx4a65c_elementData_915e3 2 (some (.object "java/lang/Object")), Cond.fieldLink RJx4a65c 9 "java/util/ArrayList" "elementData" "[Ljava/lang/Object;", Cond.methodLink RX6 198 yX6_toldOfFamily, Cond.static yX6_toldOfFamily, Cond.code yX6_toldOfFamily cX6_toldOfFamily 3 (some .int), Cond.arrayClass .int, Cond.methodLink RX6 183 yX6_purity, Cond.static yX6_purity]
def wsX6_ofFamily_r3 : List Cond := [Cond.code yX6_purity cX6_purity 2 (some .int), Cond.constantLong RX6 1 (100)]
def wsX6_ofFamily : List Cond := .code yX6_ofFamily cX6_ofFamily 3 (some .int) :: ((wsX6_ofFamily_r1 ++ (wsX6_ofFamily_r2 ++ wsX6_ofFamily_r3)) ++ wsX60 ++ wsJx4a65c0)
def wsX6_rightOf_r1 : List Cond := [Cond.fieldLink RX6 27 "SaltRowModel" "families" "Ljava/util/ArrayList;", Cond.classLink RX6 130 "[I", Cond.methodLink RX6 123 yX6_isNoFamily, Cond.instanceMethod yX6_isNoFamily, Cond.selects RX6 yX6_isNoFamily yX6_isNoFamily, Cond.initialized RX6, Cond.code yX6_isNoFamily cX6_isNoFamily 2 (some .boolean), Cond.methodLink RX6 43 yJx4a65c_size_8abf5, Cond.instanceMethod yJx4a65c_size_8abf5, Cond.selects RJx4a65c yJx4a65c_size_8abf5 yJx4a65c_size_8abf5, Cond.initialized RJx4a65c, Cond.code yJx4a65c_size_8abf5 cJx4a65c_size_8abf5 1 (some .int), Cond.fieldLink RJx4a65c 48 "java/util/ArrayList" "size" "I", Cond.methodLink RX6 39 yX6_isIn, Cond.static yX6_isIn, Cond.code yX6_isIn cX6_isIn 3 (some .boolean), Cond.methodLink RX6 70 yX6_isNoPan, Cond.static yX6_isNoPan, Cond.code yX6_isNoPan cX6_isNoPan 1 (some .boolean), Cond.methodLink RX6 51 yX6_start, Cond.instanceMethod yX6_start, Cond.selects RX6 yX6_start yX6_start, Cond.code yX6_start cX6_start 3 (some .boolean), Cond.fieldLink RX6 31 "SaltRowModel" "thrown" "I"]
def wsX6_rightOf_r2 : List Cond := [Cond.methodLink RX6 35 yX6_refuse, Cond.instanceMethod yX6_refuse, Cond.selects RX6 yX6_refuse yX6_refuse, Cond.code yX6_refuse cX6_refuse 3 (some .boolean), Cond.methodLink RX6 126 yJx4a65c_get_915e3, Cond.instanceMethod yJx4a65c_get_915e3, Cond.selects RJx4a65c yJx4a65c_get_915e3 yJx4a65c_get_915e3, Cond.code yJx4a65c_get_915e3 cJx4a65c_get_915e3 2 (some (.object "java/lang/Object")), Cond.methodLink RJx4a65c 118 yJ15_checkIndex_7cf53, Cond.static yJ15_checkIndex_7cf53, Cond.initialized RJ15, Cond.code yJ15_checkIndex_7cf53 cJ15_checkIndex_7cf53 2 (some .int), Cond.methodLink RJ15 105 yJ3_checkIndex_8e157, Cond.static yJ3_checkIndex_8e157, Cond.initialized RJ3, Cond.code yJ3_checkIndex_8e157 cJ3_checkIndex_8e157 3 (some .int), Cond.methodLink RJx4a65c 123 yJx4a65c_elementData_915e3, Cond.instanceMethod yJx4a65c_elementData_915e3, Cond.selects RJx4a65c yJx4a65c_elementData_915e3 yJx4a65c_elementData_915e3, Cond.code yJx4a65c_elementData_915e3 cJx4a65c_elementData_915e3 2 (some (.object "java/lang/Object")), Cond.fieldLink RJx4a65c 9 "java/util/ArrayList" "elementData" "[Ljava/lang/Object;"]
def wsX6_rightOf : List Cond := .code yX6_rightOf cX6_rightOf 3 (some .int) :: ((wsX6_rightOf_r1 ++ wsX6_rightOf_r2) ++ wsX60 ++ wsJx4a65c0)
def wsX6_tide : List Cond := .code yX6_tide cX6_tide 2 (some .int) :: ([.methodLink RX6 39 yX6_isIn, .static yX6_isIn, .initialized RX6, .code yX6_isIn cX6_isIn 3 (some .boolean), .methodLink RX6 51 yX6_start, .instanceMethod yX6_start, .selects RX6 yX6_start yX6_start, .code yX6_start cX6_start 3 (some .boolean), .fieldLink RX6 31 "SaltRowModel" "thrown" "I", .methodLink RX6 35 yX6_refuse, .instanceMethod yX6_refuse, .selects RX6 yX6_refuse yX6_refuse, .code yX6_refuse cX6_refuse 3 (some .boolean), .methodLink RX6 94 yX6_tideOf, .static yX6_tideOf, .code yX6_tideOf cX6_tideOf 1 (some .int), .methodLink RX6 3 Lib.Math.abs.name, .static Lib.Math.abs.name, .initialized "java/lang/Math", .code Lib.Math.abs.name Lib.Math.abs.code 1 (some .int)] ++ wsX60)
def wsX6_count_r1 : List Cond := [Cond.arrayClass .int, Cond.fieldLink RX6 18 "SaltRowModel" "row" "LSaltRowModel$Row;", Cond.fieldLink RX6 57 "SaltRowModel$Row" "ponds" "[LSaltRowModel$Pond;", Cond.fieldLink RX6 66 "SaltRowModel$Pond" "isOpen" "Z", Cond.fieldLink RX6 73 "SaltRowModel$Pond" "isCovered" "Z", Cond.fieldLink RX6 100 "SaltRowModel$Pond" "salt" "I", Cond.fieldLink RX6 156 "SaltRowModel$Pond" "crust" "I", Cond.fieldLink RX6 163 "SaltRowModel$Pond" "dirt" "I", Cond.fieldLink RX6 91 "SaltRowModel$Pond" "brine" "I", Cond.fieldLink RX6 85 "SaltRowModel$Pond" "fresh" "I", Cond.fieldLink RX6 27 "SaltRowModel" "families" "Ljava/util/ArrayList;", Cond.classLink RX6 130 "[I", Cond.fieldLink RX6 54 "SaltRowModel$Row" "day" "I", Cond.fieldLink RX6 202 "SaltRowModel$Row" "fromSea" "I", Cond.fieldLink RX6 97 "SaltRowModel" "lost" "I", Cond.fieldLink RX6 176 "SaltRowModel" "crown" "I", Cond.fieldLink RX6 150 "SaltRowModel" "cloister" "I", Cond.fieldLink RX6 153 "SaltRowModel" "cloisterDirt" "I", Cond.fieldLink RX6 88 "SaltRowModel" "skimmed" "I", Cond.fieldLink RX6 113 "SaltRowModel" "coins" "I", Cond.methodLink RX6 191 yX6_one, Cond.static yX6_one, Cond.initialized RX6, Cond.code yX6_one cX6_one 1 (some .int)]
def wsX6_count_r2 : List Cond := [Cond.methodLink RX6 132 yJx4a65c_iterator_32c93, Cond.instanceMethod yJx4a65c_iterator_32c93, Cond.selects RJx4a65c yJx4a65c_iterator_32c93 yJx4a65c_iterator_32c93, Cond.initialized RJx4a65c, Cond.code yJx4a65c_iterator_32c93 cJx4a65c_iterator_32c93 1 (some (.object "java/util/Iterator")), Cond.classLink RJx4a65c 267 RJx35411, Cond.instantiable RJx35411 4, Cond.initialized RJx35411, Cond.methodLink RJx4a65c 269 yJx35411_init_45d68, Cond.instanceMethod yJx35411_init_45d68, Cond.code yJx35411_init_45d68 cJx35411_init_45d68 2 none, Cond.fieldLink RJx35411 1 "java/util/ArrayList$Itr" "this$0" "Ljava/util/ArrayList;", Cond.methodLink RJx35411 7 objectInit, Cond.instanceMethod objectInit, Cond.code objectInit ⟨#[0xb1]⟩ 1 none, Cond.fieldLink RJx35411 13 "java/util/ArrayList$Itr" "lastRet" "I", Cond.fieldLink RJx35411 17 "java/util/ArrayList" "modCount" "I", Cond.sameField "java/util/ArrayList" "java/util/AbstractList" "modCount" "I", Cond.fieldLink RJx35411 22 "java/util/ArrayList$Itr" "expectedModCount" "I", Cond.methodLink RX6 136 ⟨"java/util/Iterator", "hasNext", "()Z"⟩, Cond.selects RJx35411 ⟨"java/util/Iterator", "hasNext", "()Z"⟩ yJx35411_hasNext_aae02, Cond.instanceMethod yJx35411_hasNext_aae02, Cond.code yJx35411_hasNext_aae02 cJx35411_hasNext_aae02 1 (some .boolean), Cond.fieldLink RJx35411 25 "java/util/ArrayList$Itr" "cursor" "I"]
def wsX6_count_r3 : List Cond := [Cond.methodLink RX6 142 ⟨"java/util/Iterator", "next", "()Ljava/lang/Object;"⟩, Cond.selects RJx35411 ⟨"java/util/Iterator", "next", "()Ljava/lang/Object;"⟩ yJx35411_next_0502b, Cond.instanceMethod yJx35411_next_0502b, Cond.code yJx35411_next_0502b cJx35411_next_0502b 3 (some (.object "java/lang/Object")), Cond.fieldLink RJx35411 37 "java/util/ArrayList" "elementData" "[Ljava/lang/Object;", Cond.methodLink RJx35411 31 yJx35411_checkForComodification_da8c8, Cond.instanceMethod yJx35411_checkForComodification_da8c8, Cond.selects RJx35411 yJx35411_checkForComodification_da8c8 yJx35411_checkForComodification_da8c8, Cond.code yJx35411_checkForComodification_da8c8 cJx35411_checkForComodification_da8c8 1 none, Cond.methodLink RX6 43 yJx4a65c_size_8abf5, Cond.instanceMethod yJx4a65c_size_8abf5, Cond.selects RJx4a65c yJx4a65c_size_8abf5 yJx4a65c_size_8abf5, Cond.code yJx4a65c_size_8abf5 cJx4a65c_size_8abf5 1 (some .int), Cond.fieldLink RJx4a65c 48 "java/util/ArrayList" "size" "I"]
def wsX6_count : List Cond := .code yX6_count cX6_count 9 (some .int) :: ((wsX6_count_r1 ++ (wsX6_count_r2 ++ wsX6_count_r3)) ++ wsX60 ++ wsX50 ++ wsX40 ++ wsJx354110 ++ wsJx4a65c0)
def wsX6_many_r1 : List Cond := [Cond.methodLink RX6 39 yX6_isIn, Cond.static yX6_isIn, Cond.initialized RX6, Cond.code yX6_isIn cX6_isIn 3 (some .boolean), Cond.methodLink RX6 51 yX6_start, Cond.instanceMethod yX6_start, Cond.selects RX6 yX6_start yX6_start, Cond.code yX6_start cX6_start 3 (some .boolean), Cond.fieldLink RX6 31 "SaltRowModel" "thrown" "I", Cond.methodLink RX6 35 yX6_refuse, Cond.instanceMethod yX6_refuse, Cond.selects RX6 yX6_refuse yX6_refuse, Cond.code yX6_refuse cX6_refuse 3 (some .boolean), Cond.methodLink RX6 205 yX6_count, Cond.instanceMethod yX6_count, Cond.selects RX6 yX6_count yX6_count, Cond.code yX6_count cX6_count 9 (some .int), Cond.arrayClass .int, Cond.fieldLink RX6 18 "SaltRowModel" "row" "LSaltRowModel$Row;", Cond.fieldLink RX6 57 "SaltRowModel$Row" "ponds" "[LSaltRowModel$Pond;", Cond.fieldLink RX6 66 "SaltRowModel$Pond" "isOpen" "Z", Cond.fieldLink RX6 73 "SaltRowModel$Pond" "isCovered" "Z", Cond.fieldLink RX6 100 "SaltRowModel$Pond" "salt" "I", Cond.fieldLink RX6 156 "SaltRowModel$Pond" "crust" "I"]
def wsX6_many_r2 : List Cond := [Cond.fieldLink RX6 163 "SaltRowModel$Pond" "dirt" "I", Cond.fieldLink RX6 91 "SaltRowModel$Pond" "brine" "I", Cond.fieldLink RX6 85 "SaltRowModel$Pond" "fresh" "I", Cond.fieldLink RX6 27 "SaltRowModel" "families" "Ljava/util/ArrayList;", Cond.classLink RX6 130 "[I", Cond.fieldLink RX6 54 "SaltRowModel$Row" "day" "I", Cond.fieldLink RX6 202 "SaltRowModel$Row" "fromSea" "I", Cond.fieldLink RX6 97 "SaltRowModel" "lost" "I", Cond.fieldLink RX6 176 "SaltRowModel" "crown" "I", Cond.fieldLink RX6 150 "SaltRowModel" "cloister" "I", Cond.fieldLink RX6 153 "SaltRowModel" "cloisterDirt" "I", Cond.fieldLink RX6 88 "SaltRowModel" "skimmed" "I", Cond.fieldLink RX6 113 "SaltRowModel" "coins" "I", Cond.methodLink RX6 191 yX6_one, Cond.static yX6_one, Cond.code yX6_one cX6_one 1 (some .int), Cond.methodLink RX6 132 yJx4a65c_iterator_32c93, Cond.instanceMethod yJx4a65c_iterator_32c93, Cond.selects RJx4a65c yJx4a65c_iterator_32c93 yJx4a65c_iterator_32c93, Cond.initialized RJx4a65c, Cond.code yJx4a65c_iterator_32c93 cJx4a65c_iterator_32c93 1 (some (.object "java/util/Iterator")), Cond.classLink RJx4a65c 267 RJx35411, Cond.instantiable RJx35411 4, Cond.initialized RJx35411]
def wsX6_many_r3 : List Cond := [Cond.methodLink RJx4a65c 269 yJx35411_init_45d68, Cond.instanceMethod yJx35411_init_45d68, Cond.code yJx35411_init_45d68 cJx35411_init_45d68 2 none, Cond.fieldLink RJx35411 1 "java/util/ArrayList$Itr" "this$0" "Ljava/util/ArrayList;", Cond.methodLink RJx35411 7 objectInit, Cond.instanceMethod objectInit, Cond.code objectInit ⟨#[0xb1]⟩ 1 none, Cond.fieldLink RJx35411 13 "java/util/ArrayList$Itr" "lastRet" "I", Cond.fieldLink RJx35411 17 "java/util/ArrayList" "modCount" "I", Cond.sameField "java/util/ArrayList" "java/util/AbstractList" "modCount" "I", Cond.fieldLink RJx35411 22 "java/util/ArrayList$Itr" "expectedModCount" "I", Cond.methodLink RX6 136 ⟨"java/util/Iterator", "hasNext", "()Z"⟩, Cond.selects RJx35411 ⟨"java/util/Iterator", "hasNext", "()Z"⟩ yJx35411_hasNext_aae02, Cond.instanceMethod yJx35411_hasNext_aae02, Cond.code yJx35411_hasNext_aae02 cJx35411_hasNext_aae02 1 (some .boolean), Cond.fieldLink RJx35411 25 "java/util/ArrayList$Itr" "cursor" "I", Cond.methodLink RX6 142 ⟨"java/util/Iterator", "next", "()Ljava/lang/Object;"⟩, Cond.selects RJx35411 ⟨"java/util/Iterator", "next", "()Ljava/lang/Object;"⟩ yJx35411_next_0502b, Cond.instanceMethod yJx35411_next_0502b, Cond.code yJx35411_next_0502b cJx35411_next_0502b 3 (some (.object "java/lang/Object")), Cond.fieldLink RJx35411 37 "java/util/ArrayList" "elementData" "[Ljava/lang/Object;", Cond.methodLink RJx35411 31 yJx35411_checkForComodification_da8c8, Cond.instanceMethod yJx35411_checkForComodification_da8c8, Cond.selects RJx35411 yJx35411_checkForComodification_da8c8 yJx35411_checkForComodification_da8c8]
def wsX6_many_r4 : List Cond := [Cond.code yJx35411_checkForComodification_da8c8 cJx35411_checkForComodification_da8c8 1 none, Cond.methodLink RX6 43 yJx4a65c_size_8abf5, Cond.instanceMethod yJx4a65c_size_8abf5, Cond.selects RJx4a65c yJx4a65c_size_8abf5 yJx4a65c_size_8abf5, Cond.code yJx4a65c_size_8abf5 cJx4a65c_size_8abf5 1 (some .int), Cond.fieldLink RJx4a65c 48 "java/util/ArrayList" "size" "I"]
def wsX6_many : List Cond := .code yX6_many cX6_many 2 (some .int) :: ((wsX6_many_r1 ++ (wsX6_many_r2 ++ (wsX6_many_r3 ++ wsX6_many_r4))) ++ wsX60 ++ wsX50 ++ wsX40 ++ wsJx354110 ++ wsJx4a65c0)
def wsX6_meanStrength : List Cond := .code yX6_meanStrength cX6_meanStrength 7 (some .double) :: ([.fieldLink RX6 31 "SaltRowModel" "thrown" "I", .fieldLink RX6 18 "SaltRowModel" "row" "LSaltRowModel$Row;", .fieldLink RX6 57 "SaltRowModel$Row" "ponds" "[LSaltRowModel$Pond;", .fieldLink RX6 91 "SaltRowModel$Pond" "brine" "I", .methodLink RX6 116 yX4_strength, .instanceMethod yX4_strength, .selects RX4 yX4_strength yX4_strength, .initialized RX4, .code yX4_strength cX4_strength 1 (some .int), .fieldLink RX4 19 "SaltRowModel$Pond" "brine" "I", .constantLong RX4 47 (90), .fieldLink RX4 22 "SaltRowModel$Pond" "salt" "I", .fieldLink RX4 28 "SaltRowModel$Pond" "bitter" "I", .constantLong RX4 49 (5), .methodLink RX4 51 Lib.MathLoose.min_long.x, .static Lib.MathLoose.min_long.x, .initialized "java/lang/Math", .code Lib.MathLoose.min_long.x Lib.MathLoose.min_long.code 4 (some .long)] ++ wsX60 ++ wsX50 ++ wsX40)
def wsX6_crustBehind_r1 : List Cond := [Cond.fieldLink RX6 18 "SaltRowModel" "row" "LSaltRowModel$Row;", Cond.methodLink RX6 208 yX5_copy, Cond.instanceMethod yX5_copy, Cond.selects RX5 yX5_copy yX5_copy, Cond.initialized RX5, Cond.code yX5_copy cX5_copy 3 (some (.object "SaltRowModel$Row")), Cond.classLink RX5 12 RX5, Cond.instantiable RX5 3, Cond.fieldLink RX5 11 "SaltRowModel$Row" "ponds" "[LSaltRowModel$Pond;", Cond.fieldLink RX5 23 "SaltRowModel$Row" "day" "I", Cond.methodLink RX5 18 yX5_init, Cond.instanceMethod yX5_init, Cond.code yX5_init cX5_init 2 none, Cond.methodLink RX5 3 objectInit, Cond.instanceMethod objectInit, Cond.code objectInit ⟨#[0xb1]⟩ 1 none, Cond.classLink RX5 9 RX4, Cond.instantiable RX4 11, Cond.initialized RX4, Cond.instanceMethod yX4_init, Cond.code yX4_init cX4_init 1 none, Cond.methodLink RX4 3 objectInit, Cond.fieldLink RX4 9 "SaltRowModel$Pond" "area" "I", Cond.fieldLink RX4 15 "SaltRowModel$Pond" "harvested" "I"]
def wsX6_crustBehind_r2 : List Cond := [Cond.methodLink RX5 19 yX4_copy, Cond.instanceMethod yX4_copy, Cond.selects RX4 yX4_copy yX4_copy, Cond.code yX4_copy cX4_copy 2 (some (.object "SaltRowModel$Pond")), Cond.classLink RX4 10 RX4, Cond.fieldLink RX4 19 "SaltRowModel$Pond" "brine" "I", Cond.fieldLink RX4 22 "SaltRowModel$Pond" "salt" "I", Cond.fieldLink RX4 25 "SaltRowModel$Pond" "gypsum" "I", Cond.fieldLink RX4 28 "SaltRowModel$Pond" "bitter" "I", Cond.fieldLink RX4 31 "SaltRowModel$Pond" "fresh" "I", Cond.fieldLink RX4 34 "SaltRowModel$Pond" "crust" "I", Cond.fieldLink RX4 37 "SaltRowModel$Pond" "dirt" "I", Cond.fieldLink RX4 40 "SaltRowModel$Pond" "isOpen" "Z", Cond.fieldLink RX4 44 "SaltRowModel$Pond" "isCovered" "Z", Cond.methodLink RX4 18 yX4_init, Cond.methodLink RX6 76 yX5_day, Cond.instanceMethod yX5_day, Cond.selects RX5 yX5_day yX5_day, Cond.code yX5_day cX5_day 11 (some (.array .int)), Cond.fieldLink RX5 35 "SaltRowModel$Pond" "isOpen" "Z", Cond.fieldLink RX5 39 "SaltRowModel$Pond" "area" "I", Cond.fieldLink RX5 42 "SaltRowModel$Pond" "brine" "I", Cond.fieldLink RX5 45 "SaltRowModel$Pond" "salt" "I", Cond.fieldLink RX5 48 "SaltRowModel$Pond" "gypsum" "I"]
def wsX6_crustBehind_r3 : List Cond := [Cond.fieldLink RX5 51 "SaltRowModel$Pond" "bitter" "I", Cond.fieldLink RX5 54 "SaltRowModel$Row" "fromSea" "I", Cond.methodLink RX5 57 Lib.Math.min.name, Cond.static Lib.Math.min.name, Cond.initialized "java/lang/Math", Cond.code Lib.Math.min.name Lib.Math.min.code 2 (some .int), Cond.arrayClass .int, Cond.fieldLink RX5 67 "SaltRowModel$Pond" "isCovered" "Z", Cond.fieldLink RX5 70 "SaltRowModel$Pond" "fresh" "I", Cond.static yX6_tideOf, Cond.initialized RX6, Cond.code yX6_tideOf cX6_tideOf 1 (some .int), Cond.methodLink RX6 3 Lib.Math.abs.name, Cond.static Lib.Math.abs.name, Cond.code Lib.Math.abs.name Lib.Math.abs.code 1 (some .int), Cond.methodLink RX5 31 yX4_level, Cond.instanceMethod yX4_level, Cond.selects RX4 yX4_level yX4_level, Cond.code yX4_level cX4_level 1 (some .int), Cond.methodLink RX5 63 yX4_give, Cond.instanceMethod yX4_give, Cond.selects RX4 yX4_give yX4_give, Cond.code yX4_give cX4_give 6 none, Cond.static yX6_share]
def wsX6_crustBehind_r4 : List Cond := [Cond.code yX6_share cX6_share 3 (some .int), Cond.methodLink RX5 73 yX4_dry, Cond.instanceMethod yX4_dry, Cond.selects RX4 yX4_dry yX4_dry, Cond.code yX4_dry cX4_dry 5 none, Cond.methodLink RX4 61 Lib.Math.min.name, Cond.methodLink RX4 64 yX4_strength, Cond.instanceMethod yX4_strength, Cond.selects RX4 yX4_strength yX4_strength, Cond.code yX4_strength cX4_strength 1 (some .int), Cond.constantLong RX4 47 (90), Cond.constantLong RX4 49 (5), Cond.methodLink RX4 51 Lib.MathLoose.min_long.x, Cond.static Lib.MathLoose.min_long.x, Cond.code Lib.MathLoose.min_long.x Lib.MathLoose.min_long.code 4 (some .long), Cond.methodLink RX5 77 yX4_mix, Cond.instanceMethod yX4_mix, Cond.selects RX4 yX4_mix yX4_mix, Cond.code yX4_mix cX4_mix 3 none, Cond.methodLink RX5 80 yX4_fall, Cond.instanceMethod yX4_fall, Cond.selects RX4 yX4_fall yX4_fall, Cond.code yX4_fall cX4_fall 4 (some .int), Cond.constantLong RX4 68 (8)]
def wsX6_crustBehind_r5 : List Cond := [Cond.methodLink RX4 70 Lib.MathLoose.max_long.x, Cond.static Lib.MathLoose.max_long.x, Cond.code Lib.MathLoose.max_long.x Lib.MathLoose.max_long.code 4 (some .long), Cond.constantLong RX4 73 (300), Cond.constantLong RX4 75 (200)]
def wsX6_crustBehind : List Cond := .code yX6_crustBehind cX6_crustBehind 6 (some .int) :: ((wsX6_crustBehind_r1 ++ (wsX6_crustBehind_r2 ++ (wsX6_crustBehind_r3 ++ (wsX6_crustBehind_r4 ++ wsX6_crustBehind_r5)))) ++ wsX60 ++ wsX50 ++ wsX40)
def wsX6_crustIn_r1 : List Cond := [Cond.methodLink RX6 70 yX6_isNoPan, Cond.static yX6_isNoPan, Cond.initialized RX6, Cond.code yX6_isNoPan cX6_isNoPan 1 (some .boolean), Cond.methodLink RX6 39 yX6_isIn, Cond.static yX6_isIn, Cond.code yX6_isIn cX6_isIn 3 (some .boolean), Cond.methodLink RX6 51 yX6_start, Cond.instanceMethod yX6_start, Cond.selects RX6 yX6_start yX6_start, Cond.code yX6_start cX6_start 3 (some .boolean), Cond.fieldLink RX6 31 "SaltRowModel" "thrown" "I", Cond.methodLink RX6 35 yX6_refuse, Cond.instanceMethod yX6_refuse, Cond.selects RX6 yX6_refuse yX6_refuse, Cond.code yX6_refuse cX6_refuse 3 (some .boolean), Cond.methodLink RX6 212 yX6_crustBehind, Cond.instanceMethod yX6_crustBehind, Cond.selects RX6 yX6_crustBehind yX6_crustBehind, Cond.code yX6_crustBehind cX6_crustBehind 6 (some .int), Cond.fieldLink RX6 18 "SaltRowModel" "row" "LSaltRowModel$Row;", Cond.methodLink RX6 208 yX5_copy, Cond.instanceMethod yX5_copy, Cond.selects RX5 yX5_copy yX5_copy]
def wsX6_crustIn_r2 : List Cond := [Cond.initialized RX5, Cond.code yX5_copy cX5_copy 3 (some (.object "SaltRowModel$Row")), Cond.classLink RX5 12 RX5, Cond.instantiable RX5 3, Cond.fieldLink RX5 11 "SaltRowModel$Row" "ponds" "[LSaltRowModel$Pond;", Cond.fieldLink RX5 23 "SaltRowModel$Row" "day" "I", Cond.methodLink RX5 18 yX5_init, Cond.instanceMethod yX5_init, Cond.code yX5_init cX5_init 2 none, Cond.methodLink RX5 3 objectInit, Cond.instanceMethod objectInit, Cond.code objectInit ⟨#[0xb1]⟩ 1 none, Cond.classLink RX5 9 RX4, Cond.instantiable RX4 11, Cond.initialized RX4, Cond.instanceMethod yX4_init, Cond.code yX4_init cX4_init 1 none, Cond.methodLink RX4 3 objectInit, Cond.fieldLink RX4 9 "SaltRowModel$Pond" "area" "I", Cond.fieldLink RX4 15 "SaltRowModel$Pond" "harvested" "I", Cond.methodLink RX5 19 yX4_copy, Cond.instanceMethod yX4_copy, Cond.selects RX4 yX4_copy yX4_copy, Cond.code yX4_copy cX4_copy 2 (some (.object "SaltRowModel$Pond"))]
def wsX6_crustIn_r3 : List Cond := [Cond.classLink RX4 10 RX4, Cond.fieldLink RX4 19 "SaltRowModel$Pond" "brine" "I", Cond.fieldLink RX4 22 "SaltRowModel$Pond" "salt" "I", Cond.fieldLink RX4 25 "SaltRowModel$Pond" "gypsum" "I", Cond.fieldLink RX4 28 "SaltRowModel$Pond" "bitter" "I", Cond.fieldLink RX4 31 "SaltRowModel$Pond" "fresh" "I", Cond.fieldLink RX4 34 "SaltRowModel$Pond" "crust" "I", Cond.fieldLink RX4 37 "SaltRowModel$Pond" "dirt" "I", Cond.fieldLink RX4 40 "SaltRowModel$Pond" "isOpen" "Z", Cond.fieldLink RX4 44 "SaltRowModel$Pond" "isCovered" "Z", Cond.methodLink RX4 18 yX4_init, Cond.methodLink RX6 76 yX5_day, Cond.instanceMethod yX5_day, Cond.selects RX5 yX5_day yX5_day, Cond.code yX5_day cX5_day 11 (some (.array .int)), Cond.fieldLink RX5 35 "SaltRowModel$Pond" "isOpen" "Z", Cond.fieldLink RX5 39 "SaltRowModel$Pond" "area" "I", Cond.fieldLink RX5 42 "SaltRowModel$Pond" "brine" "I", Cond.fieldLink RX5 45 "SaltRowModel$Pond" "salt" "I", Cond.fieldLink RX5 48 "SaltRowModel$Pond" "gypsum" "I", Cond.fieldLink RX5 51 "SaltRowModel$Pond" "bitter" "I", Cond.fieldLink RX5 54 "SaltRowModel$Row" "fromSea" "I", Cond.methodLink RX5 57 Lib.Math.min.name, Cond.static Lib.Math.min.name]
def wsX6_crustIn_r4 : List Cond := [Cond.initialized "java/lang/Math", Cond.code Lib.Math.min.name Lib.Math.min.code 2 (some .int), Cond.arrayClass .int, Cond.fieldLink RX5 67 "SaltRowModel$Pond" "isCovered" "Z", Cond.fieldLink RX5 70 "SaltRowModel$Pond" "fresh" "I", Cond.static yX6_tideOf, Cond.code yX6_tideOf cX6_tideOf 1 (some .int), Cond.methodLink RX6 3 Lib.Math.abs.name, Cond.static Lib.Math.abs.name, Cond.code Lib.Math.abs.name Lib.Math.abs.code 1 (some .int), Cond.methodLink RX5 31 yX4_level, Cond.instanceMethod yX4_level, Cond.selects RX4 yX4_level yX4_level, Cond.code yX4_level cX4_level 1 (some .int), Cond.methodLink RX5 63 yX4_give, Cond.instanceMethod yX4_give, Cond.selects RX4 yX4_give yX4_give, Cond.code yX4_give cX4_give 6 none, Cond.static yX6_share, Cond.code yX6_share cX6_share 3 (some .int), Cond.methodLink RX5 73 yX4_dry, Cond.instanceMethod yX4_dry, Cond.selects RX4 yX4_dry yX4_dry, Cond.code yX4_dry cX4_dry 5 none]
def wsX6_crustIn_r5 : List Cond := [Cond.methodLink RX4 61 Lib.Math.min.name, Cond.methodLink RX4 64 yX4_strength, Cond.instanceMethod yX4_strength, Cond.selects RX4 yX4_strength yX4_strength, Cond.code yX4_strength cX4_strength 1 (some .int), Cond.constantLong RX4 47 (90), Cond.constantLong RX4 49 (5), Cond.methodLink RX4 51 Lib.MathLoose.min_long.x, Cond.static Lib.MathLoose.min_long.x, Cond.code Lib.MathLoose.min_long.x Lib.MathLoose.min_long.code 4 (some .long), Cond.methodLink RX5 77 yX4_mix, Cond.instanceMethod yX4_mix, Cond.selects RX4 yX4_mix yX4_mix, Cond.code yX4_mix cX4_mix 3 none, Cond.methodLink RX5 80 yX4_fall, Cond.instanceMethod yX4_fall, Cond.selects RX4 yX4_fall yX4_fall, Cond.code yX4_fall cX4_fall 4 (some .int), Cond.constantLong RX4 68 (8), Cond.methodLink RX4 70 Lib.MathLoose.max_long.x, Cond.static Lib.MathLoose.max_long.x, Cond.code Lib.MathLoose.max_long.x Lib.MathLoose.max_long.code 4 (some .long), Cond.constantLong RX4 73 (300), Cond.constantLong RX4 75 (200)]
def wsX6_crustIn : List Cond := .code yX6_crustIn cX6_crustIn 4 (some .int) :: ((wsX6_crustIn_r1 ++ (wsX6_crustIn_r2 ++ (wsX6_crustIn_r3 ++ (wsX6_crustIn_r4 ++ wsX6_crustIn_r5)))) ++ wsX60 ++ wsX50 ++ wsX40)
def wsX6_saltWith_r1 : List Cond := [Cond.fieldLink RX6 18 "SaltRowModel" "row" "LSaltRowModel$Row;", Cond.fieldLink RX6 57 "SaltRowModel$Row" "ponds" "[LSaltRowModel$Pond;", Cond.fieldLink RX6 66 "SaltRowModel$Pond" "isOpen" "Z", Cond.fieldLink RX6 100 "SaltRowModel$Pond" "salt" "I", Cond.fieldLink RX6 156 "SaltRowModel$Pond" "crust" "I", Cond.methodLink RX6 208 yX5_copy, Cond.instanceMethod yX5_copy, Cond.selects RX5 yX5_copy yX5_copy, Cond.initialized RX5, Cond.code yX5_copy cX5_copy 3 (some (.object "SaltRowModel$Row")), Cond.classLink RX5 12 RX5, Cond.instantiable RX5 3, Cond.fieldLink RX5 11 "SaltRowModel$Row" "ponds" "[LSaltRowModel$Pond;", Cond.fieldLink RX5 23 "SaltRowModel$Row" "day" "I", Cond.methodLink RX5 18 yX5_init, Cond.instanceMethod yX5_init, Cond.code yX5_init cX5_init 2 none, Cond.methodLink RX5 3 objectInit, Cond.instanceMethod objectInit, Cond.code objectInit ⟨#[0xb1]⟩ 1 none, Cond.classLink RX5 9 RX4, Cond.instantiable RX4 11, Cond.initialized RX4, Cond.instanceMethod yX4_init]
def wsX6_saltWith_r2 : List Cond := [Cond.code yX4_init cX4_init 1 none, Cond.methodLink RX4 3 objectInit, Cond.fieldLink RX4 9 "SaltRowModel$Pond" "area" "I", Cond.fieldLink RX4 15 "SaltRowModel$Pond" "harvested" "I", Cond.methodLink RX5 19 yX4_copy, Cond.instanceMethod yX4_copy, Cond.selects RX4 yX4_copy yX4_copy, Cond.code yX4_copy cX4_copy 2 (some (.object "SaltRowModel$Pond")), Cond.classLink RX4 10 RX4, Cond.fieldLink RX4 19 "SaltRowModel$Pond" "brine" "I", Cond.fieldLink RX4 22 "SaltRowModel$Pond" "salt" "I", Cond.fieldLink RX4 25 "SaltRowModel$Pond" "gypsum" "I", Cond.fieldLink RX4 28 "SaltRowModel$Pond" "bitter" "I", Cond.fieldLink RX4 31 "SaltRowModel$Pond" "fresh" "I", Cond.fieldLink RX4 34 "SaltRowModel$Pond" "crust" "I", Cond.fieldLink RX4 37 "SaltRowModel$Pond" "dirt" "I", Cond.fieldLink RX4 40 "SaltRowModel$Pond" "isOpen" "Z", Cond.fieldLink RX4 44 "SaltRowModel$Pond" "isCovered" "Z", Cond.methodLink RX4 18 yX4_init, Cond.methodLink RX6 76 yX5_day, Cond.instanceMethod yX5_day, Cond.selects RX5 yX5_day yX5_day, Cond.code yX5_day cX5_day 11 (some (.array .int)), Cond.fieldLink RX5 35 "SaltRowModel$Pond" "isOpen" "Z"]
def wsX6_saltWith_r3 : List Cond := [Cond.fieldLink RX5 39 "SaltRowModel$Pond" "area" "I", Cond.fieldLink RX5 42 "SaltRowModel$Pond" "brine" "I", Cond.fieldLink RX5 45 "SaltRowModel$Pond" "salt" "I", Cond.fieldLink RX5 48 "SaltRowModel$Pond" "gypsum" "I", Cond.fieldLink RX5 51 "SaltRowModel$Pond" "bitter" "I", Cond.fieldLink RX5 54 "SaltRowModel$Row" "fromSea" "I", Cond.methodLink RX5 57 Lib.Math.min.name, Cond.static Lib.Math.min.name, Cond.initialized "java/lang/Math", Cond.code Lib.Math.min.name Lib.Math.min.code 2 (some .int), Cond.arrayClass .int, Cond.fieldLink RX5 67 "SaltRowModel$Pond" "isCovered" "Z", Cond.fieldLink RX5 70 "SaltRowModel$Pond" "fresh" "I", Cond.static yX6_tideOf, Cond.initialized RX6, Cond.code yX6_tideOf cX6_tideOf 1 (some .int), Cond.methodLink RX6 3 Lib.Math.abs.name, Cond.static Lib.Math.abs.name, Cond.code Lib.Math.abs.name Lib.Math.abs.code 1 (some .int), Cond.methodLink RX5 31 yX4_level, Cond.instanceMethod yX4_level, Cond.selects RX4 yX4_level yX4_level, Cond.code yX4_level cX4_level 1 (some .int), Cond.methodLink RX5 63 yX4_give]
def wsX6_saltWith_r4 : List Cond := [Cond.instanceMethod yX4_give, Cond.selects RX4 yX4_give yX4_give, Cond.code yX4_give cX4_give 6 none, Cond.static yX6_share, Cond.code yX6_share cX6_share 3 (some .int), Cond.methodLink RX5 73 yX4_dry, Cond.instanceMethod yX4_dry, Cond.selects RX4 yX4_dry yX4_dry, Cond.code yX4_dry cX4_dry 5 none, Cond.methodLink RX4 61 Lib.Math.min.name, Cond.methodLink RX4 64 yX4_strength, Cond.instanceMethod yX4_strength, Cond.selects RX4 yX4_strength yX4_strength, Cond.code yX4_strength cX4_strength 1 (some .int), Cond.constantLong RX4 47 (90), Cond.constantLong RX4 49 (5), Cond.methodLink RX4 51 Lib.MathLoose.min_long.x, Cond.static Lib.MathLoose.min_long.x, Cond.code Lib.MathLoose.min_long.x Lib.MathLoose.min_long.code 4 (some .long), Cond.methodLink RX5 77 yX4_mix, Cond.instanceMethod yX4_mix, Cond.selects RX4 yX4_mix yX4_mix, Cond.code yX4_mix cX4_mix 3 none, Cond.methodLink RX5 80 yX4_fall]
def wsX6_saltWith_r5 : List Cond := [Cond.instanceMethod yX4_fall, Cond.selects RX4 yX4_fall yX4_fall, Cond.code yX4_fall cX4_fall 4 (some .int), Cond.constantLong RX4 68 (8), Cond.methodLink RX4 70 Lib.MathLoose.max_long.x, Cond.static Lib.MathLoose.max_long.x, Cond.code Lib.MathLoose.max_long.x Lib.MathLoose.max_long.code 4 (some .long), Cond.constantLong RX4 73 (300), Cond.constantLong RX4 75 (200)]
def wsX6_saltWith : List Cond := .code yX6_saltWith cX6_saltWith 8 (some .int) :: ((wsX6_saltWith_r1 ++ (wsX6_saltWith_r2 ++ (wsX6_saltWith_r3 ++ (wsX6_saltWith_r4 ++ wsX6_saltWith_r5)))) ++ wsX60 ++ wsX50 ++ wsX40)
def wsX6_best_r1 : List Cond := [Cond.methodLink RX6 215 yX6_saltWith, Cond.instanceMethod yX6_saltWith, Cond.selects RX6 yX6_saltWith yX6_saltWith, Cond.initialized RX6, Cond.code yX6_saltWith cX6_saltWith 8 (some .int), Cond.fieldLink RX6 18 "SaltRowModel" "row" "LSaltRowModel$Row;", Cond.fieldLink RX6 57 "SaltRowModel$Row" "ponds" "[LSaltRowModel$Pond;", Cond.fieldLink RX6 66 "SaltRowModel$Pond" "isOpen" "Z", Cond.fieldLink RX6 100 "SaltRowModel$Pond" "salt" "I", Cond.fieldLink RX6 156 "SaltRowModel$Pond" "crust" "I", Cond.methodLink RX6 208 yX5_copy, Cond.instanceMethod yX5_copy, Cond.selects RX5 yX5_copy yX5_copy, Cond.initialized RX5, Cond.code yX5_copy cX5_copy 3 (some (.object "SaltRowModel$Row")), Cond.classLink RX5 12 RX5, Cond.instantiable RX5 3, Cond.fieldLink RX5 11 "SaltRowModel$Row" "ponds" "[LSaltRowModel$Pond;", Cond.fieldLink RX5 23 "SaltRowModel$Row" "day" "I", Cond.methodLink RX5 18 yX5_init, Cond.instanceMethod yX5_init, Cond.code yX5_init cX5_init 2 none, Cond.methodLink RX5 3 objectInit, Cond.instanceMethod objectInit]
def wsX6_best_r2 : List Cond := [Cond.code objectInit ⟨#[0xb1]⟩ 1 none, Cond.classLink RX5 9 RX4, Cond.instantiable RX4 11, Cond.initialized RX4, Cond.instanceMethod yX4_init, Cond.code yX4_init cX4_init 1 none, Cond.methodLink RX4 3 objectInit, Cond.fieldLink RX4 9 "SaltRowModel$Pond" "area" "I", Cond.fieldLink RX4 15 "SaltRowModel$Pond" "harvested" "I", Cond.methodLink RX5 19 yX4_copy, Cond.instanceMethod yX4_copy, Cond.selects RX4 yX4_copy yX4_copy, Cond.code yX4_copy cX4_copy 2 (some (.object "SaltRowModel$Pond")), Cond.classLink RX4 10 RX4, Cond.fieldLink RX4 19 "SaltRowModel$Pond" "brine" "I", Cond.fieldLink RX4 22 "SaltRowModel$Pond" "salt" "I", Cond.fieldLink RX4 25 "SaltRowModel$Pond" "gypsum" "I", Cond.fieldLink RX4 28 "SaltRowModel$Pond" "bitter" "I", Cond.fieldLink RX4 31 "SaltRowModel$Pond" "fresh" "I", Cond.fieldLink RX4 34 "SaltRowModel$Pond" "crust" "I", Cond.fieldLink RX4 37 "SaltRowModel$Pond" "dirt" "I", Cond.fieldLink RX4 40 "SaltRowModel$Pond" "isOpen" "Z", Cond.fieldLink RX4 44 "SaltRowModel$Pond" "isCovered" "Z", Cond.methodLink RX4 18 yX4_init]
def wsX6_best_r3 : List Cond := [Cond.methodLink RX6 76 yX5_day, Cond.instanceMethod yX5_day, Cond.selects RX5 yX5_day yX5_day, Cond.code yX5_day cX5_day 11 (some (.array .int)), Cond.fieldLink RX5 35 "SaltRowModel$Pond" "isOpen" "Z", Cond.fieldLink RX5 39 "SaltRowModel$Pond" "area" "I", Cond.fieldLink RX5 42 "SaltRowModel$Pond" "brine" "I", Cond.fieldLink RX5 45 "SaltRowModel$Pond" "salt" "I", Cond.fieldLink RX5 48 "SaltRowModel$Pond" "gypsum" "I", Cond.fieldLink RX5 51 "SaltRowModel$Pond" "bitter" "I", Cond.fieldLink RX5 54 "SaltRowModel$Row" "fromSea" "I", Cond.methodLink RX5 57 Lib.Math.min.name, Cond.static Lib.Math.min.name, Cond.initialized "java/lang/Math", Cond.code Lib.Math.min.name Lib.Math.min.code 2 (some .int), Cond.arrayClass .int, Cond.fieldLink RX5 67 "SaltRowModel$Pond" "isCovered" "Z", Cond.fieldLink RX5 70 "SaltRowModel$Pond" "fresh" "I", Cond.static yX6_tideOf, Cond.code yX6_tideOf cX6_tideOf 1 (some .int), Cond.methodLink RX6 3 Lib.Math.abs.name, Cond.static Lib.Math.abs.name, Cond.code Lib.Math.abs.name Lib.Math.abs.code 1 (some .int), Cond.methodLink RX5 31 yX4_level]
def wsX6_best_r4 : List Cond := [Cond.instanceMethod yX4_level, Cond.selects RX4 yX4_level yX4_level, Cond.code yX4_level cX4_level 1 (some .int), Cond.methodLink RX5 63 yX4_give, Cond.instanceMethod yX4_give, Cond.selects RX4 yX4_give yX4_give, Cond.code yX4_give cX4_give 6 none, Cond.static yX6_share, Cond.code yX6_share cX6_share 3 (some .int), Cond.methodLink RX5 73 yX4_dry, Cond.instanceMethod yX4_dry, Cond.selects RX4 yX4_dry yX4_dry, Cond.code yX4_dry cX4_dry 5 none, Cond.methodLink RX4 61 Lib.Math.min.name, Cond.methodLink RX4 64 yX4_strength, Cond.instanceMethod yX4_strength, Cond.selects RX4 yX4_strength yX4_strength, Cond.code yX4_strength cX4_strength 1 (some .int), Cond.constantLong RX4 47 (90), Cond.constantLong RX4 49 (5), Cond.methodLink RX4 51 Lib.MathLoose.min_long.x, Cond.static Lib.MathLoose.min_long.x, Cond.code Lib.MathLoose.min_long.x Lib.MathLoose.min_long.code 4 (some .long), Cond.methodLink RX5 77 yX4_mix]
def wsX6_best_r5 : List Cond := [Cond.instanceMethod yX4_mix, Cond.selects RX4 yX4_mix yX4_mix, Cond.code yX4_mix cX4_mix 3 none, Cond.methodLink RX5 80 yX4_fall, Cond.instanceMethod yX4_fall, Cond.selects RX4 yX4_fall yX4_fall, Cond.code yX4_fall cX4_fall 4 (some .int), Cond.constantLong RX4 68 (8), Cond.methodLink RX4 70 Lib.MathLoose.max_long.x, Cond.static Lib.MathLoose.max_long.x, Cond.code Lib.MathLoose.max_long.x Lib.MathLoose.max_long.code 4 (some .long), Cond.constantLong RX4 73 (300), Cond.constantLong RX4 75 (200)]
def wsX6_best : List Cond := .code yX6_best cX6_best 8 (some .int) :: ((wsX6_best_r1 ++ (wsX6_best_r2 ++ (wsX6_best_r3 ++ (wsX6_best_r4 ++ wsX6_best_r5)))) ++ wsX60 ++ wsX50 ++ wsX40)
def wsX6_bestGates_r1 : List Cond := [Cond.methodLink RX6 39 yX6_isIn, Cond.static yX6_isIn, Cond.initialized RX6, Cond.code yX6_isIn cX6_isIn 3 (some .boolean), Cond.methodLink RX6 51 yX6_start, Cond.instanceMethod yX6_start, Cond.selects RX6 yX6_start yX6_start, Cond.code yX6_start cX6_start 3 (some .boolean), Cond.fieldLink RX6 31 "SaltRowModel" "thrown" "I", Cond.methodLink RX6 35 yX6_refuse, Cond.instanceMethod yX6_refuse, Cond.selects RX6 yX6_refuse yX6_refuse, Cond.code yX6_refuse cX6_refuse 3 (some .boolean), Cond.methodLink RX6 219 yX6_best, Cond.instanceMethod yX6_best, Cond.selects RX6 yX6_best yX6_best, Cond.code yX6_best cX6_best 8 (some .int), Cond.methodLink RX6 215 yX6_saltWith, Cond.instanceMethod yX6_saltWith, Cond.selects RX6 yX6_saltWith yX6_saltWith, Cond.code yX6_saltWith cX6_saltWith 8 (some .int), Cond.fieldLink RX6 18 "SaltRowModel" "row" "LSaltRowModel$Row;", Cond.fieldLink RX6 57 "SaltRowModel$Row" "ponds" "[LSaltRowModel$Pond;", Cond.fieldLink RX6 66 "SaltRowModel$Pond" "isOpen" "Z"]
def wsX6_bestGates_r2 : List Cond := [Cond.fieldLink RX6 100 "SaltRowModel$Pond" "salt" "I", Cond.fieldLink RX6 156 "SaltRowModel$Pond" "crust" "I", Cond.methodLink RX6 208 yX5_copy, Cond.instanceMethod yX5_copy, Cond.selects RX5 yX5_copy yX5_copy, Cond.initialized RX5, Cond.code yX5_copy cX5_copy 3 (some (.object "SaltRowModel$Row")), Cond.classLink RX5 12 RX5, Cond.instantiable RX5 3, Cond.fieldLink RX5 11 "SaltRowModel$Row" "ponds" "[LSaltRowModel$Pond;", Cond.fieldLink RX5 23 "SaltRowModel$Row" "day" "I", Cond.methodLink RX5 18 yX5_init, Cond.instanceMethod yX5_init, Cond.code yX5_init cX5_init 2 none, Cond.methodLink RX5 3 objectInit, Cond.instanceMethod objectInit, Cond.code objectInit ⟨#[0xb1]⟩ 1 none, Cond.classLink RX5 9 RX4, Cond.instantiable RX4 11, Cond.initialized RX4, Cond.instanceMethod yX4_init, Cond.code yX4_init cX4_init 1 none, Cond.methodLink RX4 3 objectInit, Cond.fieldLink RX4 9 "SaltRowModel$Pond" "area" "I"]
def wsX6_bestGates_r3 : List Cond := [Cond.fieldLink RX4 15 "SaltRowModel$Pond" "harvested" "I", Cond.methodLink RX5 19 yX4_copy, Cond.instanceMethod yX4_copy, Cond.selects RX4 yX4_copy yX4_copy, Cond.code yX4_copy cX4_copy 2 (some (.object "SaltRowModel$Pond")), Cond.classLink RX4 10 RX4, Cond.fieldLink RX4 19 "SaltRowModel$Pond" "brine" "I", Cond.fieldLink RX4 22 "SaltRowModel$Pond" "salt" "I", Cond.fieldLink RX4 25 "SaltRowModel$Pond" "gypsum" "I", Cond.fieldLink RX4 28 "SaltRowModel$Pond" "bitter" "I", Cond.fieldLink RX4 31 "SaltRowModel$Pond" "fresh" "I", Cond.fieldLink RX4 34 "SaltRowModel$Pond" "crust" "I", Cond.fieldLink RX4 37 "SaltRowModel$Pond" "dirt" "I", Cond.fieldLink RX4 40 "SaltRowModel$Pond" "isOpen" "Z", Cond.fieldLink RX4 44 "SaltRowModel$Pond" "isCovered" "Z", Cond.methodLink RX4 18 yX4_init, Cond.methodLink RX6 76 yX5_day, Cond.instanceMethod yX5_day, Cond.selects RX5 yX5_day yX5_day, Cond.code yX5_day cX5_day 11 (some (.array .int)), Cond.fieldLink RX5 35 "SaltRowModel$Pond" "isOpen" "Z", Cond.fieldLink RX5 39 "SaltRowModel$Pond" "area" "I", Cond.fieldLink RX5 42 "SaltRowModel$Pond" "brine" "I", Cond.fieldLink RX5 45 "SaltRowModel$Pond" "salt" "I"]
def wsX6_bestGates_r4 : List Cond := [Cond.fieldLink RX5 48 "SaltRowModel$Pond" "gypsum" "I", Cond.fieldLink RX5 51 "SaltRowModel$Pond" "bitter" "I", Cond.fieldLink RX5 54 "SaltRowModel$Row" "fromSea" "I", Cond.methodLink RX5 57 Lib.Math.min.name, Cond.static Lib.Math.min.name, Cond.initialized "java/lang/Math", Cond.code Lib.Math.min.name Lib.Math.min.code 2 (some .int), Cond.arrayClass .int, Cond.fieldLink RX5 67 "SaltRowModel$Pond" "isCovered" "Z", Cond.fieldLink RX5 70 "SaltRowModel$Pond" "fresh" "I", Cond.static yX6_tideOf, Cond.code yX6_tideOf cX6_tideOf 1 (some .int), Cond.methodLink RX6 3 Lib.Math.abs.name, Cond.static Lib.Math.abs.name, Cond.code Lib.Math.abs.name Lib.Math.abs.code 1 (some .int), Cond.methodLink RX5 31 yX4_level, Cond.instanceMethod yX4_level, Cond.selects RX4 yX4_level yX4_level, Cond.code yX4_level cX4_level 1 (some .int), Cond.methodLink RX5 63 yX4_give, Cond.instanceMethod yX4_give, Cond.selects RX4 yX4_give yX4_give, Cond.code yX4_give cX4_give 6 none, Cond.static yX6_share]
def wsX6_bestGates_r5 : List Cond := [Cond.code yX6_share cX6_share 3 (some .int), Cond.methodLink RX5 73 yX4_dry, Cond.instanceMethod yX4_dry, Cond.selects RX4 yX4_dry yX4_dry, Cond.code yX4_dry cX4_dry 5 none, Cond.methodLink RX4 61 Lib.Math.min.name, Cond.methodLink RX4 64 yX4_strength, Cond.instanceMethod yX4_strength, Cond.selects RX4 yX4_strength yX4_strength, Cond.code yX4_strength cX4_strength 1 (some .int), Cond.constantLong RX4 47 (90), Cond.constantLong RX4 49 (5), Cond.methodLink RX4 51 Lib.MathLoose.min_long.x, Cond.static Lib.MathLoose.min_long.x, Cond.code Lib.MathLoose.min_long.x Lib.MathLoose.min_long.code 4 (some .long), Cond.methodLink RX5 77 yX4_mix, Cond.instanceMethod yX4_mix, Cond.selects RX4 yX4_mix yX4_mix, Cond.code yX4_mix cX4_mix 3 none, Cond.methodLink RX5 80 yX4_fall, Cond.instanceMethod yX4_fall, Cond.selects RX4 yX4_fall yX4_fall, Cond.code yX4_fall cX4_fall 4 (some .int), Cond.constantLong RX4 68 (8)]
def wsX6_bestGates_r6 : List Cond := [Cond.methodLink RX4 70 Lib.MathLoose.max_long.x, Cond.static Lib.MathLoose.max_long.x, Cond.code Lib.MathLoose.max_long.x Lib.MathLoose.max_long.code 4 (some .long), Cond.constantLong RX4 73 (300), Cond.constantLong RX4 75 (200)]
def wsX6_bestGates : List Cond := .code yX6_bestGates cX6_bestGates 4 (some .int) :: ((wsX6_bestGates_r1 ++ (wsX6_bestGates_r2 ++ (wsX6_bestGates_r3 ++ (wsX6_bestGates_r4 ++ (wsX6_bestGates_r5 ++ wsX6_bestGates_r6))))) ++ wsX60 ++ wsX50 ++ wsX40)
def wsX6_wouldBe_r1 : List Cond := [Cond.fieldLink RX6 27 "SaltRowModel" "families" "Ljava/util/ArrayList;", Cond.classLink RX6 130 "[I", Cond.fieldLink RX6 18 "SaltRowModel" "row" "LSaltRowModel$Row;", Cond.fieldLink RX6 57 "SaltRowModel$Row" "ponds" "[LSaltRowModel$Pond;", Cond.fieldLink RX6 61 "SaltRowModel$Pond" "area" "I", Cond.methodLink RX6 70 yX6_isNoPan, Cond.static yX6_isNoPan, Cond.initialized RX6, Cond.code yX6_isNoPan cX6_isNoPan 1 (some .boolean), Cond.methodLink RX6 39 yX6_isIn, Cond.static yX6_isIn, Cond.code yX6_isIn cX6_isIn 3 (some .boolean), Cond.methodLink RX6 123 yX6_isNoFamily, Cond.instanceMethod yX6_isNoFamily, Cond.selects RX6 yX6_isNoFamily yX6_isNoFamily, Cond.code yX6_isNoFamily cX6_isNoFamily 2 (some .boolean), Cond.methodLink RX6 43 yJx4a65c_size_8abf5, Cond.instanceMethod yJx4a65c_size_8abf5, Cond.selects RJx4a65c yJx4a65c_size_8abf5 yJx4a65c_size_8abf5, Cond.initialized RJx4a65c, Cond.code yJx4a65c_size_8abf5 cJx4a65c_size_8abf5 1 (some .int), Cond.fieldLink RJx4a65c 48 "java/util/ArrayList" "size" "I", Cond.methodLink RX6 51 yX6_start, Cond.instanceMethod yX6_start]
def wsX6_wouldBe_r2 : List Cond := [Cond.selects RX6 yX6_start yX6_start, Cond.code yX6_start cX6_start 3 (some .boolean), Cond.fieldLink RX6 31 "SaltRowModel" "thrown" "I", Cond.methodLink RX6 35 yX6_refuse, Cond.instanceMethod yX6_refuse, Cond.selects RX6 yX6_refuse yX6_refuse, Cond.code yX6_refuse cX6_refuse 3 (some .boolean), Cond.methodLink RX6 169 yX6_canHarvest, Cond.instanceMethod yX6_canHarvest, Cond.selects RX6 yX6_canHarvest yX6_canHarvest, Cond.code yX6_canHarvest cX6_canHarvest 2 (some .boolean), Cond.fieldLink RX6 156 "SaltRowModel$Pond" "crust" "I", Cond.fieldLink RX6 166 "SaltRowModel$Pond" "harvested" "I", Cond.fieldLink RX6 54 "SaltRowModel$Row" "day" "I", Cond.methodLink RX6 172 yX6_harvestOf, Cond.instanceMethod yX6_harvestOf, Cond.selects RX6 yX6_harvestOf yX6_harvestOf, Cond.code yX6_harvestOf cX6_harvestOf 5 (some (.array .int)), Cond.methodLink RX6 159 Lib.Math.min.name, Cond.static Lib.Math.min.name, Cond.initialized "java/lang/Math", Cond.code Lib.Math.min.name Lib.Math.min.code 2 (some .int), Cond.arrayClass .int, Cond.fieldLink RX6 163 "SaltRowModel$Pond" "dirt" "I"]
def wsX6_wouldBe_r3 : List Cond := [Cond.methodLink RX6 146 yX6_share, Cond.static yX6_share, Cond.code yX6_share cX6_share 3 (some .int), Cond.methodLink RX6 126 yJx4a65c_get_915e3, Cond.instanceMethod yJx4a65c_get_915e3, Cond.selects RJx4a65c yJx4a65c_get_915e3 yJx4a65c_get_915e3, Cond.code yJx4a65c_get_915e3 cJx4a65c_get_915e3 2 (some (.object "java/lang/Object")), Cond.methodLink RJx4a65c 118 yJ15_checkIndex_7cf53, Cond.static yJ15_checkIndex_7cf53, Cond.initialized RJ15, Cond.code yJ15_checkIndex_7cf53 cJ15_checkIndex_7cf53 2 (some .int), Cond.methodLink RJ15 105 yJ3_checkIndex_8e157, Cond.static yJ3_checkIndex_8e157, Cond.initialized RJ3, Cond.code yJ3_checkIndex_8e157 cJ3_checkIndex_8e157 3 (some .int), Cond.methodLink RJx4a65c 123 yJx4a65c_elementData_915e3, Cond.instanceMethod yJx4a65c_elementData_915e3, Cond.selects RJx4a65c yJx4a65c_elementData_915e3 yJx4a65c_elementData_915e3, Cond.code yJx4a65c_elementData_915e3 cJx4a65c_elementData_915e3 2 (some (.object "java/lang/Object")), Cond.fieldLink RJx4a65c 9 "java/util/ArrayList" "elementData" "[Ljava/lang/Object;", Cond.methodLink RX6 183 yX6_purity, Cond.static yX6_purity, Cond.code yX6_purity cX6_purity 2 (some .int), Cond.constantLong RX6 1 (100)]
def wsX6_wouldBe : List Cond := .code yX6_wouldBe cX6_wouldBe 7 (some .int) :: ((wsX6_wouldBe_r1 ++ (wsX6_wouldBe_r2 ++ wsX6_wouldBe_r3)) ++ wsX60 ++ wsX50 ++ wsX40 ++ wsJx4a65c0)
def wsX6_tideFrom : List Cond := .code yX6_tideFrom cX6_tideFrom 4 (some .int) :: ([.fieldLink RX6 18 "SaltRowModel" "row" "LSaltRowModel$Row;", .fieldLink RX6 54 "SaltRowModel$Row" "day" "I", .methodLink RX6 94 yX6_tideOf, .static yX6_tideOf, .initialized RX6, .code yX6_tideOf cX6_tideOf 1 (some .int), .methodLink RX6 3 Lib.Math.abs.name, .static Lib.Math.abs.name, .initialized "java/lang/Math", .code Lib.Math.abs.name Lib.Math.abs.code 1 (some .int)] ++ wsX60 ++ wsX50)
def wsX6_tideOn_r1 : List Cond := [Cond.methodLink RX6 39 yX6_isIn, Cond.static yX6_isIn, Cond.initialized RX6, Cond.code yX6_isIn cX6_isIn 3 (some .boolean), Cond.methodLink RX6 51 yX6_start, Cond.instanceMethod yX6_start, Cond.selects RX6 yX6_start yX6_start, Cond.code yX6_start cX6_start 3 (some .boolean), Cond.fieldLink RX6 31 "SaltRowModel" "thrown" "I", Cond.methodLink RX6 35 yX6_refuse, Cond.instanceMethod yX6_refuse, Cond.selects RX6 yX6_refuse yX6_refuse, Cond.code yX6_refuse cX6_refuse 3 (some .boolean), Cond.methodLink RX6 222 yX6_tideFrom, Cond.instanceMethod yX6_tideFrom, Cond.selects RX6 yX6_tideFrom yX6_tideFrom, Cond.code yX6_tideFrom cX6_tideFrom 4 (some .int), Cond.fieldLink RX6 18 "SaltRowModel" "row" "LSaltRowModel$Row;", Cond.fieldLink RX6 54 "SaltRowModel$Row" "day" "I", Cond.methodLink RX6 94 yX6_tideOf, Cond.static yX6_tideOf, Cond.code yX6_tideOf cX6_tideOf 1 (some .int), Cond.methodLink RX6 3 Lib.Math.abs.name, Cond.static Lib.Math.abs.name]
def wsX6_tideOn_r2 : List Cond := [Cond.initialized "java/lang/Math", Cond.code Lib.Math.abs.name Lib.Math.abs.code 1 (some .int)]
def wsX6_tideOn : List Cond := .code yX6_tideOn cX6_tideOn 3 (some .int) :: ((wsX6_tideOn_r1 ++ wsX6_tideOn_r2) ++ wsX60 ++ wsX50)
def wsX6_add : List Cond := .code yX6_add cX6_add 4 (some .long) :: ([.constantLong RX6 226 (31)])
def wsX6_digest_r1 : List Cond := [Cond.fieldLink RX6 31 "SaltRowModel" "thrown" "I", Cond.constantLong RX6 228 (7804), Cond.fieldLink RX6 27 "SaltRowModel" "families" "Ljava/util/ArrayList;", Cond.classLink RX6 130 "[I", Cond.methodLink RX6 205 yX6_count, Cond.instanceMethod yX6_count, Cond.selects RX6 yX6_count yX6_count, Cond.initialized RX6, Cond.code yX6_count cX6_count 9 (some .int), Cond.arrayClass .int, Cond.fieldLink RX6 18 "SaltRowModel" "row" "LSaltRowModel$Row;", Cond.fieldLink RX6 57 "SaltRowModel$Row" "ponds" "[LSaltRowModel$Pond;", Cond.fieldLink RX6 66 "SaltRowModel$Pond" "isOpen" "Z", Cond.fieldLink RX6 73 "SaltRowModel$Pond" "isCovered" "Z", Cond.fieldLink RX6 100 "SaltRowModel$Pond" "salt" "I", Cond.fieldLink RX6 156 "SaltRowModel$Pond" "crust" "I", Cond.fieldLink RX6 163 "SaltRowModel$Pond" "dirt" "I", Cond.fieldLink RX6 91 "SaltRowModel$Pond" "brine" "I", Cond.fieldLink RX6 85 "SaltRowModel$Pond" "fresh" "I", Cond.fieldLink RX6 54 "SaltRowModel$Row" "day" "I", Cond.fieldLink RX6 202 "SaltRowModel$Row" "fromSea" "I", Cond.fieldLink RX6 97 "SaltRowModel" "lost" "I", Cond.fieldLink RX6 176 "SaltRowModel" "crown" "I", Cond.fieldLink RX6 150 "SaltRowModel" "cloister" "I"]
def wsX6_digest_r2 : List Cond := [Cond.fieldLink RX6 153 "SaltRowModel" "cloisterDirt" "I", Cond.fieldLink RX6 88 "SaltRowModel" "skimmed" "I", Cond.fieldLink RX6 113 "SaltRowModel" "coins" "I", Cond.methodLink RX6 191 yX6_one, Cond.static yX6_one, Cond.code yX6_one cX6_one 1 (some .int), Cond.methodLink RX6 132 yJx4a65c_iterator_32c93, Cond.instanceMethod yJx4a65c_iterator_32c93, Cond.selects RJx4a65c yJx4a65c_iterator_32c93 yJx4a65c_iterator_32c93, Cond.initialized RJx4a65c, Cond.code yJx4a65c_iterator_32c93 cJx4a65c_iterator_32c93 1 (some (.object "java/util/Iterator")), Cond.classLink RJx4a65c 267 RJx35411, Cond.instantiable RJx35411 4, Cond.initialized RJx35411, Cond.methodLink RJx4a65c 269 yJx35411_init_45d68, Cond.instanceMethod yJx35411_init_45d68, Cond.code yJx35411_init_45d68 cJx35411_init_45d68 2 none, Cond.fieldLink RJx35411 1 "java/util/ArrayList$Itr" "this$0" "Ljava/util/ArrayList;", Cond.methodLink RJx35411 7 objectInit, Cond.instanceMethod objectInit, Cond.code objectInit ⟨#[0xb1]⟩ 1 none, Cond.fieldLink RJx35411 13 "java/util/ArrayList$Itr" "lastRet" "I", Cond.fieldLink RJx35411 17 "java/util/ArrayList" "modCount" "I", Cond.sameField "java/util/ArrayList" "java/util/AbstractList" "modCount" "I"]
def wsX6_digest_r3 : List Cond := [Cond.fieldLink RJx35411 22 "java/util/ArrayList$Itr" "expectedModCount" "I", Cond.methodLink RX6 136 ⟨"java/util/Iterator", "hasNext", "()Z"⟩, Cond.selects RJx35411 ⟨"java/util/Iterator", "hasNext", "()Z"⟩ yJx35411_hasNext_aae02, Cond.instanceMethod yJx35411_hasNext_aae02, Cond.code yJx35411_hasNext_aae02 cJx35411_hasNext_aae02 1 (some .boolean), Cond.fieldLink RJx35411 25 "java/util/ArrayList$Itr" "cursor" "I", Cond.methodLink RX6 142 ⟨"java/util/Iterator", "next", "()Ljava/lang/Object;"⟩, Cond.selects RJx35411 ⟨"java/util/Iterator", "next", "()Ljava/lang/Object;"⟩ yJx35411_next_0502b, Cond.instanceMethod yJx35411_next_0502b, Cond.code yJx35411_next_0502b cJx35411_next_0502b 3 (some (.object "java/lang/Object")), Cond.fieldLink RJx35411 37 "java/util/ArrayList" "elementData" "[Ljava/lang/Object;", Cond.methodLink RJx35411 31 yJx35411_checkForComodification_da8c8, Cond.instanceMethod yJx35411_checkForComodification_da8c8, Cond.selects RJx35411 yJx35411_checkForComodification_da8c8 yJx35411_checkForComodification_da8c8, Cond.code yJx35411_checkForComodification_da8c8 cJx35411_checkForComodification_da8c8 1 none, Cond.methodLink RX6 43 yJx4a65c_size_8abf5, Cond.instanceMethod yJx4a65c_size_8abf5, Cond.selects RJx4a65c yJx4a65c_size_8abf5 yJx4a65c_size_8abf5, Cond.code yJx4a65c_size_8abf5 cJx4a65c_size_8abf5 1 (some .int), Cond.fieldLink RJx4a65c 48 "java/util/ArrayList" "size" "I", Cond.methodLink RX6 230 yX6_add, Cond.static yX6_add, Cond.code yX6_add cX6_add 4 (some .long), Cond.constantLong RX6 226 (31)]
def wsX6_digest_r4 : List Cond := [Cond.methodLink RX6 195 yX6_toldOfPond, Cond.instanceMethod yX6_toldOfPond, Cond.selects RX6 yX6_toldOfPond yX6_toldOfPond, Cond.code yX6_toldOfPond cX6_toldOfPond 5 (some .int), Cond.fieldLink RX6 61 "SaltRowModel$Pond" "area" "I", Cond.fieldLink RX6 103 "SaltRowModel$Pond" "gypsum" "I", Cond.fieldLink RX6 106 "SaltRowModel$Pond" "bitter" "I", Cond.fieldLink RX6 166 "SaltRowModel$Pond" "harvested" "I", Cond.methodLink RX6 188 yX4_level, Cond.instanceMethod yX4_level, Cond.selects RX4 yX4_level yX4_level, Cond.initialized RX4, Cond.code yX4_level cX4_level 1 (some .int), Cond.fieldLink RX4 19 "SaltRowModel$Pond" "brine" "I", Cond.fieldLink RX4 9 "SaltRowModel$Pond" "area" "I", Cond.methodLink RX6 116 yX4_strength, Cond.instanceMethod yX4_strength, Cond.selects RX4 yX4_strength yX4_strength, Cond.code yX4_strength cX4_strength 1 (some .int), Cond.constantLong RX4 47 (90), Cond.fieldLink RX4 22 "SaltRowModel$Pond" "salt" "I", Cond.fieldLink RX4 28 "SaltRowModel$Pond" "bitter" "I", Cond.constantLong RX4 49 (5), Cond.methodLink RX4 51 Lib.MathLoose.min_long.x]
def wsX6_digest_r5 : List Cond := [Cond.static Lib.MathLoose.min_long.x, Cond.initialized "java/lang/Math", Cond.code Lib.MathLoose.min_long.x Lib.MathLoose.min_long.code 4 (some .long), Cond.methodLink RX6 198 yX6_toldOfFamily, Cond.static yX6_toldOfFamily, Cond.code yX6_toldOfFamily cX6_toldOfFamily 3 (some .int), Cond.methodLink RX6 183 yX6_purity, Cond.static yX6_purity, Cond.code yX6_purity cX6_purity 2 (some .int), Cond.constantLong RX6 1 (100), Cond.methodLink RX6 212 yX6_crustBehind, Cond.instanceMethod yX6_crustBehind, Cond.selects RX6 yX6_crustBehind yX6_crustBehind, Cond.code yX6_crustBehind cX6_crustBehind 6 (some .int), Cond.methodLink RX6 208 yX5_copy, Cond.instanceMethod yX5_copy, Cond.selects RX5 yX5_copy yX5_copy, Cond.initialized RX5, Cond.code yX5_copy cX5_copy 3 (some (.object "SaltRowModel$Row")), Cond.classLink RX5 12 RX5, Cond.instantiable RX5 3, Cond.fieldLink RX5 11 "SaltRowModel$Row" "ponds" "[LSaltRowModel$Pond;", Cond.fieldLink RX5 23 "SaltRowModel$Row" "day" "I", Cond.methodLink RX5 18 yX5_init]
def wsX6_digest_r6 : List Cond := [Cond.instanceMethod yX5_init, Cond.code yX5_init cX5_init 2 none, Cond.methodLink RX5 3 objectInit, Cond.classLink RX5 9 RX4, Cond.instantiable RX4 11, Cond.instanceMethod yX4_init, Cond.code yX4_init cX4_init 1 none, Cond.methodLink RX4 3 objectInit, Cond.fieldLink RX4 15 "SaltRowModel$Pond" "harvested" "I", Cond.methodLink RX5 19 yX4_copy, Cond.instanceMethod yX4_copy, Cond.selects RX4 yX4_copy yX4_copy, Cond.code yX4_copy cX4_copy 2 (some (.object "SaltRowModel$Pond")), Cond.classLink RX4 10 RX4, Cond.fieldLink RX4 25 "SaltRowModel$Pond" "gypsum" "I", Cond.fieldLink RX4 31 "SaltRowModel$Pond" "fresh" "I", Cond.fieldLink RX4 34 "SaltRowModel$Pond" "crust" "I", Cond.fieldLink RX4 37 "SaltRowModel$Pond" "dirt" "I", Cond.fieldLink RX4 40 "SaltRowModel$Pond" "isOpen" "Z", Cond.fieldLink RX4 44 "SaltRowModel$Pond" "isCovered" "Z", Cond.methodLink RX4 18 yX4_init, Cond.methodLink RX6 76 yX5_day, Cond.instanceMethod yX5_day, Cond.selects RX5 yX5_day yX5_day]
def wsX6_digest_r7 : List Cond := [Cond.code yX5_day cX5_day 11 (some (.array .int)), Cond.fieldLink RX5 35 "SaltRowModel$Pond" "isOpen" "Z", Cond.fieldLink RX5 39 "SaltRowModel$Pond" "area" "I", Cond.fieldLink RX5 42 "SaltRowModel$Pond" "brine" "I", Cond.fieldLink RX5 45 "SaltRowModel$Pond" "salt" "I", Cond.fieldLink RX5 48 "SaltRowModel$Pond" "gypsum" "I", Cond.fieldLink RX5 51 "SaltRowModel$Pond" "bitter" "I", Cond.fieldLink RX5 54 "SaltRowModel$Row" "fromSea" "I", Cond.methodLink RX5 57 Lib.Math.min.name, Cond.static Lib.Math.min.name, Cond.code Lib.Math.min.name Lib.Math.min.code 2 (some .int), Cond.fieldLink RX5 67 "SaltRowModel$Pond" "isCovered" "Z", Cond.fieldLink RX5 70 "SaltRowModel$Pond" "fresh" "I", Cond.static yX6_tideOf, Cond.code yX6_tideOf cX6_tideOf 1 (some .int), Cond.methodLink RX6 3 Lib.Math.abs.name, Cond.static Lib.Math.abs.name, Cond.code Lib.Math.abs.name Lib.Math.abs.code 1 (some .int), Cond.methodLink RX5 31 yX4_level, Cond.methodLink RX5 63 yX4_give, Cond.instanceMethod yX4_give, Cond.selects RX4 yX4_give yX4_give, Cond.code yX4_give cX4_give 6 none, Cond.static yX6_share]
def wsX6_digest_r8 : List Cond := [Cond.code yX6_share cX6_share 3 (some .int), Cond.methodLink RX5 73 yX4_dry, Cond.instanceMethod yX4_dry, Cond.selects RX4 yX4_dry yX4_dry, Cond.code yX4_dry cX4_dry 5 none, Cond.methodLink RX4 61 Lib.Math.min.name, Cond.methodLink RX4 64 yX4_strength, Cond.methodLink RX5 77 yX4_mix, Cond.instanceMethod yX4_mix, Cond.selects RX4 yX4_mix yX4_mix, Cond.code yX4_mix cX4_mix 3 none, Cond.methodLink RX5 80 yX4_fall, Cond.instanceMethod yX4_fall, Cond.selects RX4 yX4_fall yX4_fall, Cond.code yX4_fall cX4_fall 4 (some .int), Cond.constantLong RX4 68 (8), Cond.methodLink RX4 70 Lib.MathLoose.max_long.x, Cond.static Lib.MathLoose.max_long.x, Cond.code Lib.MathLoose.max_long.x Lib.MathLoose.max_long.code 4 (some .long), Cond.constantLong RX4 73 (300), Cond.constantLong RX4 75 (200), Cond.methodLink RX6 219 yX6_best, Cond.instanceMethod yX6_best, Cond.selects RX6 yX6_best yX6_best]
def wsX6_digest_r9 : List Cond := [Cond.code yX6_best cX6_best 8 (some .int), Cond.methodLink RX6 215 yX6_saltWith, Cond.instanceMethod yX6_saltWith, Cond.selects RX6 yX6_saltWith yX6_saltWith, Cond.code yX6_saltWith cX6_saltWith 8 (some .int), Cond.methodLink RX6 222 yX6_tideFrom, Cond.instanceMethod yX6_tideFrom, Cond.selects RX6 yX6_tideFrom yX6_tideFrom, Cond.code yX6_tideFrom cX6_tideFrom 4 (some .int), Cond.methodLink RX6 94 yX6_tideOf]
def wsX6_digest : List Cond := .code yX6_digest cX6_digest 6 (some .long) :: ((wsX6_digest_r1 ++ (wsX6_digest_r2 ++ (wsX6_digest_r3 ++ (wsX6_digest_r4 ++ (wsX6_digest_r5 ++ (wsX6_digest_r6 ++ (wsX6_digest_r7 ++ (wsX6_digest_r8 ++ wsX6_digest_r9)))))))) ++ wsX60 ++ wsX50 ++ wsX40 ++ wsJx354110 ++ wsJx4a65c0)
theorem dX4_init_0 : decode cX4_init 0 = .ok (.aload_n 0, 1) := by decide +kernel
theorem dX4_init_1 : decode cX4_init 1 = .ok (.invokespecial 3, 3) := by decide +kernel
theorem dX4_init_4 : decode cX4_init 4 = .ok (.aload_n 0, 1) := by decide +kernel
theorem dX4_init_5 : decode cX4_init 5 = .ok (.iconst 3, 1) := by decide +kernel
theorem dX4_init_6 : decode cX4_init 6 = .ok (.putfield 9, 3) := by decide +kernel
theorem dX4_init_9 : decode cX4_init 9 = .ok (.aload_n 0, 1) := by decide +kernel
theorem dX4_init_10 : decode cX4_init 10 = .ok (.iconst (-1), 1) := by decide +kernel
theorem dX4_init_11 : decode cX4_init 11 = .ok (.putfield 15, 3) := by decide +kernel
theorem dX4_init_14 : decode cX4_init 14 = .ok (.return_, 1) := by decide +kernel
set_option maxRecDepth 20000 in
theorem ggX4_copy_X4_init : GoodIn wsX4_copy wsX4_init := goodIn_r _ [16, 17, 18, 19, 4, 20, 21, 22, 23, 24, 25, 26, 27, 28, 29, 30, 31] (by decide +kernel) (by decide +kernel)
set_option maxRecDepth 20000 in
theorem gX4_copy_X4_init : GoodIn wsX4_copy (wsX4_init) := ggX4_copy_X4_init
theorem dX4_copy_0 : decode cX4_copy 0 = .ok (.new 10, 3) := by decide +kernel
theorem dX4_copy_3 : decode cX4_copy 3 = .ok (.dup, 1) := by decide +kernel
theorem dX4_copy_4 : decode cX4_copy 4 = .ok (.invokespecial 18, 3) := by decide +kernel
theorem dX4_copy_7 : decode cX4_copy 7 = .ok (.astore_n 1, 1) := by decide +kernel
theorem dX4_copy_8 : decode cX4_copy 8 = .ok (.aload_n 1, 1) := by decide +kernel
theorem dX4_copy_9 : decode cX4_copy 9 = .ok (.aload_n 0, 1) := by decide +kernel
theorem dX4_copy_10 : decode cX4_copy 10 = .ok (.getfield 9, 3) := by decide +kernel
theorem dX4_copy_13 : decode cX4_copy 13 = .ok (.putfield 9, 3) := by decide +kernel
theorem dX4_copy_16 : decode cX4_copy 16 = .ok (.aload_n 1, 1) := by decide +kernel
theorem dX4_copy_17 : decode cX4_copy 17 = .ok (.aload_n 0, 1) := by decide +kernel
theorem dX4_copy_18 : decode cX4_copy 18 = .ok (.getfield 19, 3) := by decide +kernel
theorem dX4_copy_21 : decode cX4_copy 21 = .ok (.putfield 19, 3) := by decide +kernel
theorem dX4_copy_24 : decode cX4_copy 24 = .ok (.aload_n 1, 1) := by decide +kernel
theorem dX4_copy_25 : decode cX4_copy 25 = .ok (.aload_n 0, 1) := by decide +kernel
theorem dX4_copy_26 : decode cX4_copy 26 = .ok (.getfield 22, 3) := by decide +kernel
theorem dX4_copy_29 : decode cX4_copy 29 = .ok (.putfield 22, 3) := by decide +kernel
theorem dX4_copy_32 : decode cX4_copy 32 = .ok (.aload_n 1, 1) := by decide +kernel
theorem dX4_copy_33 : decode cX4_copy 33 = .ok (.aload_n 0, 1) := by decide +kernel
theorem dX4_copy_34 : decode cX4_copy 34 = .ok (.getfield 25, 3) := by decide +kernel
theorem dX4_copy_37 : decode cX4_copy 37 = .ok (.putfield 25, 3) := by decide +kernel
theorem dX4_copy_40 : decode cX4_copy 40 = .ok (.aload_n 1, 1) := by decide +kernel
theorem dX4_copy_41 : decode cX4_copy 41 = .ok (.aload_n 0, 1) := by decide +kernel
theorem dX4_copy_42 : decode cX4_copy 42 = .ok (.getfield 28, 3) := by decide +kernel
theorem dX4_copy_45 : decode cX4_copy 45 = .ok (.putfield 28, 3) := by decide +kernel
theorem dX4_copy_48 : decode cX4_copy 48 = .ok (.aload_n 1, 1) := by decide +kernel
theorem dX4_copy_49 : decode cX4_copy 49 = .ok (.aload_n 0, 1) := by decide +kernel
theorem dX4_copy_50 : decode cX4_copy 50 = .ok (.getfield 31, 3) := by decide +kernel
theorem dX4_copy_53 : decode cX4_copy 53 = .ok (.putfield 31, 3) := by decide +kernel
theorem dX4_copy_56 : decode cX4_copy 56 = .ok (.aload_n 1, 1) := by decide +kernel
theorem dX4_copy_57 : decode cX4_copy 57 = .ok (.aload_n 0, 1) := by decide +kernel
theorem dX4_copy_58 : decode cX4_copy 58 = .ok (.getfield 34, 3) := by decide +kernel
theorem dX4_copy_61 : decode cX4_copy 61 = .ok (.putfield 34, 3) := by decide +kernel
theorem dX4_copy_64 : decode cX4_copy 64 = .ok (.aload_n 1, 1) := by decide +kernel
theorem dX4_copy_65 : decode cX4_copy 65 = .ok (.aload_n 0, 1) := by decide +kernel
theorem dX4_copy_66 : decode cX4_copy 66 = .ok (.getfield 37, 3) := by decide +kernel
theorem dX4_copy_69 : decode cX4_copy 69 = .ok (.putfield 37, 3) := by decide +kernel
theorem dX4_copy_72 : decode cX4_copy 72 = .ok (.aload_n 1, 1) := by decide +kernel
theorem dX4_copy_73 : decode cX4_copy 73 = .ok (.aload_n 0, 1) := by decide +kernel
theorem dX4_copy_74 : decode cX4_copy 74 = .ok (.getfield 40, 3) := by decide +kernel
theorem dX4_copy_77 : decode cX4_copy 77 = .ok (.putfield 40, 3) := by decide +kernel
theorem dX4_copy_80 : decode cX4_copy 80 = .ok (.aload_n 1, 1) := by decide +kernel
theorem dX4_copy_81 : decode cX4_copy 81 = .ok (.aload_n 0, 1) := by decide +kernel
theorem dX4_copy_82 : decode cX4_copy 82 = .ok (.getfield 44, 3) := by decide +kernel
theorem dX4_copy_85 : decode cX4_copy 85 = .ok (.putfield 44, 3) := by decide +kernel
theorem dX4_copy_88 : decode cX4_copy 88 = .ok (.aload_n 1, 1) := by decide +kernel
theorem dX4_copy_89 : decode cX4_copy 89 = .ok (.areturn, 1) := by decide +kernel
theorem dX4_level_0 : decode cX4_level 0 = .ok (.aload_n 0, 1) := by decide +kernel
theorem dX4_level_1 : decode cX4_level 1 = .ok (.getfield 19, 3) := by decide +kernel
theorem dX4_level_4 : decode cX4_level 4 = .ok (.aload_n 0, 1) := by decide +kernel
theorem dX4_level_5 : decode cX4_level 5 = .ok (.getfield 9, 3) := by decide +kernel
theorem dX4_level_8 : decode cX4_level 8 = .ok (.idiv, 1) := by decide +kernel
theorem dX4_level_9 : decode cX4_level 9 = .ok (.ireturn, 1) := by decide +kernel
theorem dX4_strength_0 : decode cX4_strength 0 = .ok (.aload_n 0, 1) := by decide +kernel
theorem dX4_strength_1 : decode cX4_strength 1 = .ok (.getfield 19, 3) := by decide +kernel
theorem dX4_strength_4 : decode cX4_strength 4 = .ok (.ifCond .ne 7, 3) := by decide +kernel
theorem dX4_strength_7 : decode cX4_strength 7 = .ok (.iconst 0, 1) := by decide +kernel
theorem dX4_strength_8 : decode cX4_strength 8 = .ok (.goto 31, 3) := by decide +kernel
theorem dX4_strength_11 : decode cX4_strength 11 = .ok (.ldc2_w 47, 3) := by decide +kernel
theorem dX4_strength_14 : decode cX4_strength 14 = .ok (.aload_n 0, 1) := by decide +kernel
theorem dX4_strength_15 : decode cX4_strength 15 = .ok (.getfield 22, 3) := by decide +kernel
theorem dX4_strength_18 : decode cX4_strength 18 = .ok (.i2l, 1) := by decide +kernel
theorem dX4_strength_19 : decode cX4_strength 19 = .ok (.aload_n 0, 1) := by decide +kernel
theorem dX4_strength_20 : decode cX4_strength 20 = .ok (.getfield 28, 3) := by decide +kernel
theorem dX4_strength_23 : decode cX4_strength 23 = .ok (.i2l, 1) := by decide +kernel
theorem dX4_strength_24 : decode cX4_strength 24 = .ok (.ladd, 1) := by decide +kernel
theorem dX4_strength_25 : decode cX4_strength 25 = .ok (.ldc2_w 49, 3) := by decide +kernel
theorem dX4_strength_28 : decode cX4_strength 28 = .ok (.aload_n 0, 1) := by decide +kernel
theorem dX4_strength_29 : decode cX4_strength 29 = .ok (.getfield 19, 3) := by decide +kernel
theorem dX4_strength_32 : decode cX4_strength 32 = .ok (.i2l, 1) := by decide +kernel
theorem dX4_strength_33 : decode cX4_strength 33 = .ok (.lmul, 1) := by decide +kernel
theorem dX4_strength_34 : decode cX4_strength 34 = .ok (.ldiv, 1) := by decide +kernel
theorem dX4_strength_35 : decode cX4_strength 35 = .ok (.invokestatic 51, 3) := by decide +kernel
theorem dX4_strength_38 : decode cX4_strength 38 = .ok (.l2i, 1) := by decide +kernel
theorem dX4_strength_39 : decode cX4_strength 39 = .ok (.ireturn, 1) := by decide +kernel
set_option maxRecDepth 20000 in
theorem ggX4_give_X6_share : GoodIn wsX4_give wsX6_share := goodIn_r _ [7] (by decide +kernel) (by decide +kernel)
set_option maxRecDepth 20000 in
theorem gX4_give_X6_share_n57 : GoodIn wsX4_give (wsX6_share) := ggX4_give_X6_share
theorem dX4_give_0 : decode cX4_give 0 = .ok (.aload_n 0, 1) := by decide +kernel
theorem dX4_give_1 : decode cX4_give 1 = .ok (.getfield 22, 3) := by decide +kernel
theorem dX4_give_4 : decode cX4_give 4 = .ok (.iload_n 1, 1) := by decide +kernel
theorem dX4_give_5 : decode cX4_give 5 = .ok (.aload_n 0, 1) := by decide +kernel
theorem dX4_give_6 : decode cX4_give 6 = .ok (.getfield 19, 3) := by decide +kernel
theorem dX4_give_9 : decode cX4_give 9 = .ok (.invokestatic 57, 3) := by decide +kernel
theorem dX4_give_12 : decode cX4_give 12 = .ok (.istore_n 3, 1) := by decide +kernel
theorem dX4_give_13 : decode cX4_give 13 = .ok (.aload_n 0, 1) := by decide +kernel
theorem dX4_give_14 : decode cX4_give 14 = .ok (.getfield 25, 3) := by decide +kernel
theorem dX4_give_17 : decode cX4_give 17 = .ok (.iload_n 1, 1) := by decide +kernel
theorem dX4_give_18 : decode cX4_give 18 = .ok (.aload_n 0, 1) := by decide +kernel
theorem dX4_give_19 : decode cX4_give 19 = .ok (.getfield 19, 3) := by decide +kernel
theorem dX4_give_22 : decode cX4_give 22 = .ok (.invokestatic 57, 3) := by decide +kernel
theorem dX4_give_25 : decode cX4_give 25 = .ok (.istore 4, 2) := by decide +kernel
theorem dX4_give_27 : decode cX4_give 27 = .ok (.aload_n 0, 1) := by decide +kernel
theorem dX4_give_28 : decode cX4_give 28 = .ok (.getfield 28, 3) := by decide +kernel
theorem dX4_give_31 : decode cX4_give 31 = .ok (.iload_n 1, 1) := by decide +kernel
theorem dX4_give_32 : decode cX4_give 32 = .ok (.aload_n 0, 1) := by decide +kernel
theorem dX4_give_33 : decode cX4_give 33 = .ok (.getfield 19, 3) := by decide +kernel
theorem dX4_give_36 : decode cX4_give 36 = .ok (.invokestatic 57, 3) := by decide +kernel
theorem dX4_give_39 : decode cX4_give 39 = .ok (.istore 5, 2) := by decide +kernel
theorem dX4_give_41 : decode cX4_give 41 = .ok (.aload_n 0, 1) := by decide +kernel
theorem dX4_give_42 : decode cX4_give 42 = .ok (.dup, 1) := by decide +kernel
theorem dX4_give_43 : decode cX4_give 43 = .ok (.getfield 19, 3) := by decide +kernel
theorem dX4_give_46 : decode cX4_give 46 = .ok (.iload_n 1, 1) := by decide +kernel
theorem dX4_give_47 : decode cX4_give 47 = .ok (.isub, 1) := by decide +kernel
theorem dX4_give_48 : decode cX4_give 48 = .ok (.putfield 19, 3) := by decide +kernel
theorem dX4_give_51 : decode cX4_give 51 = .ok (.aload_n 0, 1) := by decide +kernel
theorem dX4_give_52 : decode cX4_give 52 = .ok (.dup, 1) := by decide +kernel
theorem dX4_give_53 : decode cX4_give 53 = .ok (.getfield 22, 3) := by decide +kernel
theorem dX4_give_56 : decode cX4_give 56 = .ok (.iload_n 3, 1) := by decide +kernel
theorem dX4_give_57 : decode cX4_give 57 = .ok (.isub, 1) := by decide +kernel
theorem dX4_give_58 : decode cX4_give 58 = .ok (.putfield 22, 3) := by decide +kernel
theorem dX4_give_61 : decode cX4_give 61 = .ok (.aload_n 0, 1) := by decide +kernel
theorem dX4_give_62 : decode cX4_give 62 = .ok (.dup, 1) := by decide +kernel
theorem dX4_give_63 : decode cX4_give 63 = .ok (.getfield 25, 3) := by decide +kernel
theorem dX4_give_66 : decode cX4_give 66 = .ok (.iload 4, 2) := by decide +kernel
theorem dX4_give_68 : decode cX4_give 68 = .ok (.isub, 1) := by decide +kernel
theorem dX4_give_69 : decode cX4_give 69 = .ok (.putfield 25, 3) := by decide +kernel
theorem dX4_give_72 : decode cX4_give 72 = .ok (.aload_n 0, 1) := by decide +kernel
theorem dX4_give_73 : decode cX4_give 73 = .ok (.dup, 1) := by decide +kernel
theorem dX4_give_74 : decode cX4_give 74 = .ok (.getfield 28, 3) := by decide +kernel
theorem dX4_give_77 : decode cX4_give 77 = .ok (.iload 5, 2) := by decide +kernel
theorem dX4_give_79 : decode cX4_give 79 = .ok (.isub, 1) := by decide +kernel
theorem dX4_give_80 : decode cX4_give 80 = .ok (.putfield 28, 3) := by decide +kernel
theorem dX4_give_83 : decode cX4_give 83 = .ok (.aload_n 2, 1) := by decide +kernel
theorem dX4_give_84 : decode cX4_give 84 = .ok (.dup, 1) := by decide +kernel
theorem dX4_give_85 : decode cX4_give 85 = .ok (.getfield 19, 3) := by decide +kernel
theorem dX4_give_88 : decode cX4_give 88 = .ok (.iload_n 1, 1) := by decide +kernel
theorem dX4_give_89 : decode cX4_give 89 = .ok (.iadd, 1) := by decide +kernel
theorem dX4_give_90 : decode cX4_give 90 = .ok (.putfield 19, 3) := by decide +kernel
theorem dX4_give_93 : decode cX4_give 93 = .ok (.aload_n 2, 1) := by decide +kernel
theorem dX4_give_94 : decode cX4_give 94 = .ok (.dup, 1) := by decide +kernel
theorem dX4_give_95 : decode cX4_give 95 = .ok (.getfield 22, 3) := by decide +kernel
theorem dX4_give_98 : decode cX4_give 98 = .ok (.iload_n 3, 1) := by decide +kernel
theorem dX4_give_99 : decode cX4_give 99 = .ok (.iadd, 1) := by decide +kernel
theorem dX4_give_100 : decode cX4_give 100 = .ok (.putfield 22, 3) := by decide +kernel
theorem dX4_give_103 : decode cX4_give 103 = .ok (.aload_n 2, 1) := by decide +kernel
theorem dX4_give_104 : decode cX4_give 104 = .ok (.dup, 1) := by decide +kernel
theorem dX4_give_105 : decode cX4_give 105 = .ok (.getfield 25, 3) := by decide +kernel
theorem dX4_give_108 : decode cX4_give 108 = .ok (.iload 4, 2) := by decide +kernel
theorem dX4_give_110 : decode cX4_give 110 = .ok (.iadd, 1) := by decide +kernel
theorem dX4_give_111 : decode cX4_give 111 = .ok (.putfield 25, 3) := by decide +kernel
theorem dX4_give_114 : decode cX4_give 114 = .ok (.aload_n 2, 1) := by decide +kernel
theorem dX4_give_115 : decode cX4_give 115 = .ok (.dup, 1) := by decide +kernel
theorem dX4_give_116 : decode cX4_give 116 = .ok (.getfield 28, 3) := by decide +kernel
theorem dX4_give_119 : decode cX4_give 119 = .ok (.iload 5, 2) := by decide +kernel
theorem dX4_give_121 : decode cX4_give 121 = .ok (.iadd, 1) := by decide +kernel
theorem dX4_give_122 : decode cX4_give 122 = .ok (.putfield 28, 3) := by decide +kernel
theorem dX4_give_125 : decode cX4_give 125 = .ok (.return_, 1) := by decide +kernel
set_option maxRecDepth 20000 in
theorem ggX4_dry_X4_strength : GoodIn wsX4_dry wsX4_strength := goodIn_r _ [12, 7, 13, 14, 15, 16, 17, 18, 5, 19, 20, 21, 22, 23, 24, 25, 26, 27, 28, 29, 30] (by decide +kernel) (by decide +kernel)
set_option maxRecDepth 20000 in
theorem gX4_dry_X4_strength : GoodIn wsX4_dry (wsV RX4 64 RX4 yX4_strength wsX4_strength) := goodIn_app (goodIn_of _ (by decide +kernel)) ggX4_dry_X4_strength
theorem dX4_dry_0 : decode cX4_dry 0 = .ok (.aload_n 0, 1) := by decide +kernel
theorem dX4_dry_1 : decode cX4_dry 1 = .ok (.getfield 9, 3) := by decide +kernel
theorem dX4_dry_4 : decode cX4_dry 4 = .ok (.iload_n 1, 1) := by decide +kernel
theorem dX4_dry_5 : decode cX4_dry 5 = .ok (.imul, 1) := by decide +kernel
theorem dX4_dry_6 : decode cX4_dry 6 = .ok (.istore_n 2, 1) := by decide +kernel
theorem dX4_dry_7 : decode cX4_dry 7 = .ok (.aload_n 0, 1) := by decide +kernel
theorem dX4_dry_8 : decode cX4_dry 8 = .ok (.getfield 31, 3) := by decide +kernel
theorem dX4_dry_11 : decode cX4_dry 11 = .ok (.iload_n 2, 1) := by decide +kernel
theorem dX4_dry_12 : decode cX4_dry 12 = .ok (.bipush 10, 2) := by decide +kernel
theorem dX4_dry_14 : decode cX4_dry 14 = .ok (.idiv, 1) := by decide +kernel
theorem dX4_dry_15 : decode cX4_dry 15 = .ok (.invokestatic 61, 3) := by decide +kernel
theorem dX4_dry_18 : decode cX4_dry 18 = .ok (.istore_n 3, 1) := by decide +kernel
theorem dX4_dry_19 : decode cX4_dry 19 = .ok (.iload_n 2, 1) := by decide +kernel
theorem dX4_dry_20 : decode cX4_dry 20 = .ok (.bipush 10, 2) := by decide +kernel
theorem dX4_dry_22 : decode cX4_dry 22 = .ok (.iload_n 3, 1) := by decide +kernel
theorem dX4_dry_23 : decode cX4_dry 23 = .ok (.imul, 1) := by decide +kernel
theorem dX4_dry_24 : decode cX4_dry 24 = .ok (.isub, 1) := by decide +kernel
theorem dX4_dry_25 : decode cX4_dry 25 = .ok (.bipush 100, 2) := by decide +kernel
theorem dX4_dry_27 : decode cX4_dry 27 = .ok (.aload_n 0, 1) := by decide +kernel
theorem dX4_dry_28 : decode cX4_dry 28 = .ok (.invokevirtual 64, 3) := by decide +kernel
theorem dX4_dry_31 : decode cX4_dry 31 = .ok (.isub, 1) := by decide +kernel
theorem dX4_dry_32 : decode cX4_dry 32 = .ok (.imul, 1) := by decide +kernel
theorem dX4_dry_33 : decode cX4_dry 33 = .ok (.istore 4, 2) := by decide +kernel
theorem dX4_dry_35 : decode cX4_dry 35 = .ok (.aload_n 0, 1) := by decide +kernel
theorem dX4_dry_36 : decode cX4_dry 36 = .ok (.dup, 1) := by decide +kernel
theorem dX4_dry_37 : decode cX4_dry 37 = .ok (.getfield 31, 3) := by decide +kernel
theorem dX4_dry_40 : decode cX4_dry 40 = .ok (.iload_n 3, 1) := by decide +kernel
theorem dX4_dry_41 : decode cX4_dry 41 = .ok (.isub, 1) := by decide +kernel
theorem dX4_dry_42 : decode cX4_dry 42 = .ok (.putfield 31, 3) := by decide +kernel
theorem dX4_dry_45 : decode cX4_dry 45 = .ok (.aload_n 0, 1) := by decide +kernel
theorem dX4_dry_46 : decode cX4_dry 46 = .ok (.dup, 1) := by decide +kernel
theorem dX4_dry_47 : decode cX4_dry 47 = .ok (.getfield 19, 3) := by decide +kernel
theorem dX4_dry_50 : decode cX4_dry 50 = .ok (.aload_n 0, 1) := by decide +kernel
theorem dX4_dry_51 : decode cX4_dry 51 = .ok (.getfield 19, 3) := by decide +kernel
theorem dX4_dry_54 : decode cX4_dry 54 = .ok (.iconst 2, 1) := by decide +kernel
theorem dX4_dry_55 : decode cX4_dry 55 = .ok (.idiv, 1) := by decide +kernel
theorem dX4_dry_56 : decode cX4_dry 56 = .ok (.iload 4, 2) := by decide +kernel
theorem dX4_dry_58 : decode cX4_dry 58 = .ok (.sipush 999, 3) := by decide +kernel
theorem dX4_dry_61 : decode cX4_dry 61 = .ok (.iadd, 1) := by decide +kernel
theorem dX4_dry_62 : decode cX4_dry 62 = .ok (.sipush 1000, 3) := by decide +kernel
theorem dX4_dry_65 : decode cX4_dry 65 = .ok (.idiv, 1) := by decide +kernel
theorem dX4_dry_66 : decode cX4_dry 66 = .ok (.invokestatic 61, 3) := by decide +kernel
theorem dX4_dry_69 : decode cX4_dry 69 = .ok (.isub, 1) := by decide +kernel
theorem dX4_dry_70 : decode cX4_dry 70 = .ok (.putfield 19, 3) := by decide +kernel
theorem dX4_dry_73 : decode cX4_dry 73 = .ok (.return_, 1) := by decide +kernel
theorem dX4_mix_0 : decode cX4_mix 0 = .ok (.aload_n 0, 1) := by decide +kernel
theorem dX4_mix_1 : decode cX4_mix 1 = .ok (.getfield 31, 3) := by decide +kernel
theorem dX4_mix_4 : decode cX4_mix 4 = .ok (.iconst 1, 1) := by decide +kernel
theorem dX4_mix_5 : decode cX4_mix 5 = .ok (.iadd, 1) := by decide +kernel
theorem dX4_mix_6 : decode cX4_mix 6 = .ok (.iconst 2, 1) := by decide +kernel
theorem dX4_mix_7 : decode cX4_mix 7 = .ok (.idiv, 1) := by decide +kernel
theorem dX4_mix_8 : decode cX4_mix 8 = .ok (.istore_n 1, 1) := by decide +kernel
theorem dX4_mix_9 : decode cX4_mix 9 = .ok (.aload_n 0, 1) := by decide +kernel
theorem dX4_mix_10 : decode cX4_mix 10 = .ok (.dup, 1) := by decide +kernel
theorem dX4_mix_11 : decode cX4_mix 11 = .ok (.getfield 31, 3) := by decide +kernel
theorem dX4_mix_14 : decode cX4_mix 14 = .ok (.iload_n 1, 1) := by decide +kernel
theorem dX4_mix_15 : decode cX4_mix 15 = .ok (.isub, 1) := by decide +kernel
theorem dX4_mix_16 : decode cX4_mix 16 = .ok (.putfield 31, 3) := by decide +kernel
theorem dX4_mix_19 : decode cX4_mix 19 = .ok (.aload_n 0, 1) := by decide +kernel
theorem dX4_mix_20 : decode cX4_mix 20 = .ok (.dup, 1) := by decide +kernel
theorem dX4_mix_21 : decode cX4_mix 21 = .ok (.getfield 19, 3) := by decide +kernel
theorem dX4_mix_24 : decode cX4_mix 24 = .ok (.iload_n 1, 1) := by decide +kernel
theorem dX4_mix_25 : decode cX4_mix 25 = .ok (.iadd, 1) := by decide +kernel
theorem dX4_mix_26 : decode cX4_mix 26 = .ok (.putfield 19, 3) := by decide +kernel
theorem dX4_mix_29 : decode cX4_mix 29 = .ok (.aload_n 0, 1) := by decide +kernel
theorem dX4_mix_30 : decode cX4_mix 30 = .ok (.getfield 34, 3) := by decide +kernel
theorem dX4_mix_33 : decode cX4_mix 33 = .ok (.iconst 4, 1) := by decide +kernel
theorem dX4_mix_34 : decode cX4_mix 34 = .ok (.iload_n 1, 1) := by decide +kernel
theorem dX4_mix_35 : decode cX4_mix 35 = .ok (.imul, 1) := by decide +kernel
theorem dX4_mix_36 : decode cX4_mix 36 = .ok (.invokestatic 61, 3) := by decide +kernel
theorem dX4_mix_39 : decode cX4_mix 39 = .ok (.istore_n 2, 1) := by decide +kernel
theorem dX4_mix_40 : decode cX4_mix 40 = .ok (.aload_n 0, 1) := by decide +kernel
theorem dX4_mix_41 : decode cX4_mix 41 = .ok (.dup, 1) := by decide +kernel
theorem dX4_mix_42 : decode cX4_mix 42 = .ok (.getfield 34, 3) := by decide +kernel
theorem dX4_mix_45 : decode cX4_mix 45 = .ok (.iload_n 2, 1) := by decide +kernel
theorem dX4_mix_46 : decode cX4_mix 46 = .ok (.isub, 1) := by decide +kernel
theorem dX4_mix_47 : decode cX4_mix 47 = .ok (.putfield 34, 3) := by decide +kernel
theorem dX4_mix_50 : decode cX4_mix 50 = .ok (.aload_n 0, 1) := by decide +kernel
theorem dX4_mix_51 : decode cX4_mix 51 = .ok (.dup, 1) := by decide +kernel
theorem dX4_mix_52 : decode cX4_mix 52 = .ok (.getfield 22, 3) := by decide +kernel
theorem dX4_mix_55 : decode cX4_mix 55 = .ok (.iload_n 2, 1) := by decide +kernel
theorem dX4_mix_56 : decode cX4_mix 56 = .ok (.iadd, 1) := by decide +kernel
theorem dX4_mix_57 : decode cX4_mix 57 = .ok (.putfield 22, 3) := by decide +kernel
theorem dX4_mix_60 : decode cX4_mix 60 = .ok (.return_, 1) := by decide +kernel
theorem dX4_fall_0 : decode cX4_fall 0 = .ok (.lconst 0, 1) := by decide +kernel
theorem dX4_fall_1 : decode cX4_fall 1 = .ok (.aload_n 0, 1) := by decide +kernel
theorem dX4_fall_2 : decode cX4_fall 2 = .ok (.getfield 25, 3) := by decide +kernel
theorem dX4_fall_5 : decode cX4_fall 5 = .ok (.i2l, 1) := by decide +kernel
theorem dX4_fall_6 : decode cX4_fall 6 = .ok (.ldc2_w 68, 3) := by decide +kernel
theorem dX4_fall_9 : decode cX4_fall 9 = .ok (.aload_n 0, 1) := by decide +kernel
theorem dX4_fall_10 : decode cX4_fall 10 = .ok (.getfield 19, 3) := by decide +kernel
theorem dX4_fall_13 : decode cX4_fall 13 = .ok (.i2l, 1) := by decide +kernel
theorem dX4_fall_14 : decode cX4_fall 14 = .ok (.lmul, 1) := by decide +kernel
theorem dX4_fall_15 : decode cX4_fall 15 = .ok (.lsub, 1) := by decide +kernel
theorem dX4_fall_16 : decode cX4_fall 16 = .ok (.invokestatic 70, 3) := by decide +kernel
theorem dX4_fall_19 : decode cX4_fall 19 = .ok (.l2i, 1) := by decide +kernel
theorem dX4_fall_20 : decode cX4_fall 20 = .ok (.istore_n 1, 1) := by decide +kernel
theorem dX4_fall_21 : decode cX4_fall 21 = .ok (.lconst 0, 1) := by decide +kernel
theorem dX4_fall_22 : decode cX4_fall 22 = .ok (.aload_n 0, 1) := by decide +kernel
theorem dX4_fall_23 : decode cX4_fall 23 = .ok (.getfield 22, 3) := by decide +kernel
theorem dX4_fall_26 : decode cX4_fall 26 = .ok (.i2l, 1) := by decide +kernel
theorem dX4_fall_27 : decode cX4_fall 27 = .ok (.ldc2_w 73, 3) := by decide +kernel
theorem dX4_fall_30 : decode cX4_fall 30 = .ok (.aload_n 0, 1) := by decide +kernel
theorem dX4_fall_31 : decode cX4_fall 31 = .ok (.getfield 19, 3) := by decide +kernel
theorem dX4_fall_34 : decode cX4_fall 34 = .ok (.i2l, 1) := by decide +kernel
theorem dX4_fall_35 : decode cX4_fall 35 = .ok (.lmul, 1) := by decide +kernel
theorem dX4_fall_36 : decode cX4_fall 36 = .ok (.lsub, 1) := by decide +kernel
theorem dX4_fall_37 : decode cX4_fall 37 = .ok (.invokestatic 70, 3) := by decide +kernel
theorem dX4_fall_40 : decode cX4_fall 40 = .ok (.l2i, 1) := by decide +kernel
theorem dX4_fall_41 : decode cX4_fall 41 = .ok (.istore_n 2, 1) := by decide +kernel
theorem dX4_fall_42 : decode cX4_fall 42 = .ok (.lconst 0, 1) := by decide +kernel
theorem dX4_fall_43 : decode cX4_fall 43 = .ok (.aload_n 0, 1) := by decide +kernel
theorem dX4_fall_44 : decode cX4_fall 44 = .ok (.getfield 28, 3) := by decide +kernel
theorem dX4_fall_47 : decode cX4_fall 47 = .ok (.i2l, 1) := by decide +kernel
theorem dX4_fall_48 : decode cX4_fall 48 = .ok (.ldc2_w 75, 3) := by decide +kernel
theorem dX4_fall_51 : decode cX4_fall 51 = .ok (.aload_n 0, 1) := by decide +kernel
theorem dX4_fall_52 : decode cX4_fall 52 = .ok (.getfield 19, 3) := by decide +kernel
theorem dX4_fall_55 : decode cX4_fall 55 = .ok (.i2l, 1) := by decide +kernel
theorem dX4_fall_56 : decode cX4_fall 56 = .ok (.lmul, 1) := by decide +kernel
theorem dX4_fall_57 : decode cX4_fall 57 = .ok (.lsub, 1) := by decide +kernel
theorem dX4_fall_58 : decode cX4_fall 58 = .ok (.invokestatic 70, 3) := by decide +kernel
theorem dX4_fall_61 : decode cX4_fall 61 = .ok (.l2i, 1) := by decide +kernel
theorem dX4_fall_62 : decode cX4_fall 62 = .ok (.istore_n 3, 1) := by decide +kernel
theorem dX4_fall_63 : decode cX4_fall 63 = .ok (.aload_n 0, 1) := by decide +kernel
theorem dX4_fall_64 : decode cX4_fall 64 = .ok (.dup, 1) := by decide +kernel
theorem dX4_fall_65 : decode cX4_fall 65 = .ok (.getfield 25, 3) := by decide +kernel
theorem dX4_fall_68 : decode cX4_fall 68 = .ok (.iload_n 1, 1) := by decide +kernel
theorem dX4_fall_69 : decode cX4_fall 69 = .ok (.isub, 1) := by decide +kernel
theorem dX4_fall_70 : decode cX4_fall 70 = .ok (.putfield 25, 3) := by decide +kernel
theorem dX4_fall_73 : decode cX4_fall 73 = .ok (.aload_n 0, 1) := by decide +kernel
theorem dX4_fall_74 : decode cX4_fall 74 = .ok (.dup, 1) := by decide +kernel
theorem dX4_fall_75 : decode cX4_fall 75 = .ok (.getfield 22, 3) := by decide +kernel
theorem dX4_fall_78 : decode cX4_fall 78 = .ok (.iload_n 2, 1) := by decide +kernel
theorem dX4_fall_79 : decode cX4_fall 79 = .ok (.isub, 1) := by decide +kernel
theorem dX4_fall_80 : decode cX4_fall 80 = .ok (.putfield 22, 3) := by decide +kernel
theorem dX4_fall_83 : decode cX4_fall 83 = .ok (.aload_n 0, 1) := by decide +kernel
theorem dX4_fall_84 : decode cX4_fall 84 = .ok (.dup, 1) := by decide +kernel
theorem dX4_fall_85 : decode cX4_fall 85 = .ok (.getfield 28, 3) := by decide +kernel
theorem dX4_fall_88 : decode cX4_fall 88 = .ok (.iload_n 3, 1) := by decide +kernel
theorem dX4_fall_89 : decode cX4_fall 89 = .ok (.isub, 1) := by decide +kernel
theorem dX4_fall_90 : decode cX4_fall 90 = .ok (.putfield 28, 3) := by decide +kernel
theorem dX4_fall_93 : decode cX4_fall 93 = .ok (.aload_n 0, 1) := by decide +kernel
theorem dX4_fall_94 : decode cX4_fall 94 = .ok (.dup, 1) := by decide +kernel
theorem dX4_fall_95 : decode cX4_fall 95 = .ok (.getfield 37, 3) := by decide +kernel
theorem dX4_fall_98 : decode cX4_fall 98 = .ok (.iload_n 1, 1) := by decide +kernel
theorem dX4_fall_99 : decode cX4_fall 99 = .ok (.iload_n 3, 1) := by decide +kernel
theorem dX4_fall_100 : decode cX4_fall 100 = .ok (.iadd, 1) := by decide +kernel
theorem dX4_fall_101 : decode cX4_fall 101 = .ok (.iadd, 1) := by decide +kernel
theorem dX4_fall_102 : decode cX4_fall 102 = .ok (.putfield 37, 3) := by decide +kernel
theorem dX4_fall_105 : decode cX4_fall 105 = .ok (.aload_n 0, 1) := by decide +kernel
theorem dX4_fall_106 : decode cX4_fall 106 = .ok (.dup, 1) := by decide +kernel
theorem dX4_fall_107 : decode cX4_fall 107 = .ok (.getfield 34, 3) := by decide +kernel
theorem dX4_fall_110 : decode cX4_fall 110 = .ok (.iload_n 2, 1) := by decide +kernel
theorem dX4_fall_111 : decode cX4_fall 111 = .ok (.iadd, 1) := by decide +kernel
theorem dX4_fall_112 : decode cX4_fall 112 = .ok (.putfield 34, 3) := by decide +kernel
theorem dX4_fall_115 : decode cX4_fall 115 = .ok (.iload_n 2, 1) := by decide +kernel
theorem dX4_fall_116 : decode cX4_fall 116 = .ok (.ireturn, 1) := by decide +kernel
set_option maxRecDepth 20000 in
theorem ggX5_init_X4_init : GoodIn wsX5_init wsX4_init := goodIn_r _ [9, 10, 2, 3, 11, 12, 16, 17, 18, 19, 20, 21, 22, 23, 24, 25, 26] (by decide +kernel) (by decide +kernel)
set_option maxRecDepth 20000 in
theorem gX5_init_X4_init_n17 : GoodIn wsX5_init (wsX4_init) := ggX5_init_X4_init
theorem dX5_init_0 : decode cX5_init 0 = .ok (.aload_n 0, 1) := by decide +kernel
theorem dX5_init_1 : decode cX5_init 1 = .ok (.invokespecial 3, 3) := by decide +kernel
theorem dX5_init_4 : decode cX5_init 4 = .ok (.aload_n 0, 1) := by decide +kernel
theorem dX5_init_5 : decode cX5_init 5 = .ok (.bipush 8, 2) := by decide +kernel
theorem dX5_init_7 : decode cX5_init 7 = .ok (.anewarray 9, 3) := by decide +kernel
theorem dX5_init_10 : decode cX5_init 10 = .ok (.putfield 11, 3) := by decide +kernel
theorem dX5_init_13 : decode cX5_init 13 = .ok (.iconst 0, 1) := by decide +kernel
theorem dX5_init_14 : decode cX5_init 14 = .ok (.istore_n 1, 1) := by decide +kernel
theorem dX5_init_15 : decode cX5_init 15 = .ok (.iload_n 1, 1) := by decide +kernel
theorem dX5_init_16 : decode cX5_init 16 = .ok (.bipush 8, 2) := by decide +kernel
theorem dX5_init_18 : decode cX5_init 18 = .ok (.if_icmp .ge 22, 3) := by decide +kernel
theorem dX5_init_21 : decode cX5_init 21 = .ok (.aload_n 0, 1) := by decide +kernel
theorem dX5_init_22 : decode cX5_init 22 = .ok (.getfield 11, 3) := by decide +kernel
theorem dX5_init_25 : decode cX5_init 25 = .ok (.iload_n 1, 1) := by decide +kernel
theorem dX5_init_26 : decode cX5_init 26 = .ok (.new 9, 3) := by decide +kernel
theorem dX5_init_29 : decode cX5_init 29 = .ok (.dup, 1) := by decide +kernel
theorem dX5_init_30 : decode cX5_init 30 = .ok (.invokespecial 17, 3) := by decide +kernel
theorem dX5_init_33 : decode cX5_init 33 = .ok (.aastore, 1) := by decide +kernel
theorem dX5_init_34 : decode cX5_init 34 = .ok (.iinc 1 1, 3) := by decide +kernel
theorem dX5_init_37 : decode cX5_init 37 = .ok (.goto (-22), 3) := by decide +kernel
theorem dX5_init_40 : decode cX5_init 40 = .ok (.return_, 1) := by decide +kernel
set_option maxRecDepth 20000 in
theorem ggX5_copy_X5_init : GoodIn wsX5_copy wsX5_init := goodIn_r _ [8, 9, 10, 11, 12, 4, 13, 14, 15, 16, 17, 18, 19, 35, 36, 37, 38, 39, 40, 41, 42, 43, 44, 45, 46, 47, 48] (by decide +kernel) (by decide +kernel)
set_option maxRecDepth 20000 in
theorem gX5_copy_X5_init : GoodIn wsX5_copy (wsX5_init) := ggX5_copy_X5_init
set_option maxRecDepth 20000 in
theorem ggX5_copy_X4_copy : GoodIn wsX5_copy wsX4_copy := goodIn_r _ [23, 24, 13, 14, 18, 25, 26, 27, 28, 29, 30, 31, 32, 33, 34, 15, 16, 17, 10, 11, 19, 38, 39, 40, 41, 42, 43, 44, 45, 46, 47, 48] (by decide +kernel) (by decide +kernel)
set_option maxRecDepth 20000 in
theorem gX5_copy_X4_copy : GoodIn wsX5_copy (wsV RX5 19 RX4 yX4_copy wsX4_copy) := goodIn_app (goodIn_of _ (by decide +kernel)) ggX5_copy_X4_copy
theorem dX5_copy_0 : decode cX5_copy 0 = .ok (.new 12, 3) := by decide +kernel
theorem dX5_copy_3 : decode cX5_copy 3 = .ok (.dup, 1) := by decide +kernel
theorem dX5_copy_4 : decode cX5_copy 4 = .ok (.invokespecial 18, 3) := by decide +kernel
theorem dX5_copy_7 : decode cX5_copy 7 = .ok (.astore_n 1, 1) := by decide +kernel
theorem dX5_copy_8 : decode cX5_copy 8 = .ok (.iconst 0, 1) := by decide +kernel
theorem dX5_copy_9 : decode cX5_copy 9 = .ok (.istore_n 2, 1) := by decide +kernel
theorem dX5_copy_10 : decode cX5_copy 10 = .ok (.iload_n 2, 1) := by decide +kernel
theorem dX5_copy_11 : decode cX5_copy 11 = .ok (.bipush 8, 2) := by decide +kernel
theorem dX5_copy_13 : decode cX5_copy 13 = .ok (.if_icmp .ge 24, 3) := by decide +kernel
theorem dX5_copy_16 : decode cX5_copy 16 = .ok (.aload_n 1, 1) := by decide +kernel
theorem dX5_copy_17 : decode cX5_copy 17 = .ok (.getfield 11, 3) := by decide +kernel
theorem dX5_copy_20 : decode cX5_copy 20 = .ok (.iload_n 2, 1) := by decide +kernel
theorem dX5_copy_21 : decode cX5_copy 21 = .ok (.aload_n 0, 1) := by decide +kernel
theorem dX5_copy_22 : decode cX5_copy 22 = .ok (.getfield 11, 3) := by decide +kernel
theorem dX5_copy_25 : decode cX5_copy 25 = .ok (.iload_n 2, 1) := by decide +kernel
theorem dX5_copy_26 : decode cX5_copy 26 = .ok (.aaload, 1) := by decide +kernel
theorem dX5_copy_27 : decode cX5_copy 27 = .ok (.invokevirtual 19, 3) := by decide +kernel
theorem dX5_copy_30 : decode cX5_copy 30 = .ok (.aastore, 1) := by decide +kernel
theorem dX5_copy_31 : decode cX5_copy 31 = .ok (.iinc 2 1, 3) := by decide +kernel
theorem dX5_copy_34 : decode cX5_copy 34 = .ok (.goto (-24), 3) := by decide +kernel
theorem dX5_copy_37 : decode cX5_copy 37 = .ok (.aload_n 1, 1) := by decide +kernel
theorem dX5_copy_38 : decode cX5_copy 38 = .ok (.aload_n 0, 1) := by decide +kernel
theorem dX5_copy_39 : decode cX5_copy 39 = .ok (.getfield 23, 3) := by decide +kernel
theorem dX5_copy_42 : decode cX5_copy 42 = .ok (.putfield 23, 3) := by decide +kernel
theorem dX5_copy_45 : decode cX5_copy 45 = .ok (.aload_n 1, 1) := by decide +kernel
theorem dX5_copy_46 : decode cX5_copy 46 = .ok (.areturn, 1) := by decide +kernel
set_option maxRecDepth 20000 in
theorem ggX5_day_X6_tideOf : GoodIn wsX5_day wsX6_tideOf := goodIn_r _ [19, 20, 21, 12, 22] (by decide +kernel) (by decide +kernel)
set_option maxRecDepth 20000 in
theorem gX5_day_X6_tideOf_n27 : GoodIn wsX5_day (wsX6_tideOf) := ggX5_day_X6_tideOf
set_option maxRecDepth 20000 in
theorem ggX5_day_X4_level : GoodIn wsX5_day wsX4_level := goodIn_r _ [27, 28, 29, 73, 74, 75, 76, 77, 78, 79, 80, 81, 82, 83] (by decide +kernel) (by decide +kernel)
set_option maxRecDepth 20000 in
theorem gX5_day_X4_level : GoodIn wsX5_day (wsV RX5 31 RX4 yX4_level wsX4_level) := goodIn_app (goodIn_of _ (by decide +kernel)) ggX5_day_X4_level
set_option maxRecDepth 20000 in
theorem ggX5_day_X4_give : GoodIn wsX5_day wsX4_give := goodIn_r _ [33, 34, 28, 35, 36, 37, 18, 38, 73, 74, 75, 76, 77, 78, 79, 80, 81, 82, 83] (by decide +kernel) (by decide +kernel)
set_option maxRecDepth 20000 in
theorem gX5_day_X4_give : GoodIn wsX5_day (wsV RX5 63 RX4 yX4_give wsX4_give) := goodIn_app (goodIn_of _ (by decide +kernel)) ggX5_day_X4_give
set_option maxRecDepth 20000 in
theorem ggX5_day_X4_dry : GoodIn wsX5_day wsX4_dry := goodIn_r _ [42, 29, 43, 44, 11, 12, 13, 28, 45, 46, 47, 26, 48, 49, 34, 36, 50, 51, 52, 53, 73, 74, 75, 76, 77, 78, 79, 80, 81, 82, 83] (by decide +kernel) (by decide +kernel)
set_option maxRecDepth 20000 in
theorem gX5_day_X4_dry : GoodIn wsX5_day (wsV RX5 73 RX4 yX4_dry wsX4_dry) := goodIn_app (goodIn_of _ (by decide +kernel)) ggX5_day_X4_dry
set_option maxRecDepth 20000 in
theorem ggX5_day_X4_mix : GoodIn wsX5_day wsX4_mix := goodIn_r _ [57, 43, 28, 58, 44, 11, 12, 13, 34, 73, 74, 75, 76, 77, 78, 79, 80, 81, 82, 83] (by decide +kernel) (by decide +kernel)
set_option maxRecDepth 20000 in
theorem gX5_day_X4_mix : GoodIn wsX5_day (wsV RX5 77 RX4 yX4_mix wsX4_mix) := goodIn_app (goodIn_of _ (by decide +kernel)) ggX5_day_X4_mix
set_option maxRecDepth 20000 in
theorem ggX5_day_X4_fall : GoodIn wsX5_day wsX4_fall := goodIn_r _ [62, 35, 63, 28, 64, 65, 12, 66, 34, 67, 36, 68, 69, 58, 73, 74, 75, 76, 77, 78, 79, 80, 81, 82, 83] (by decide +kernel) (by decide +kernel)
set_option maxRecDepth 20000 in
theorem gX5_day_X4_fall : GoodIn wsX5_day (wsV RX5 80 RX4 yX4_fall wsX4_fall) := goodIn_app (goodIn_of _ (by decide +kernel)) ggX5_day_X4_fall
theorem dX5_day_0 : decode cX5_day 0 = .ok (.aload_n 0, 1) := by decide +kernel
theorem dX5_day_1 : decode cX5_day 1 = .ok (.dup, 1) := by decide +kernel
theorem dX5_day_2 : decode cX5_day 2 = .ok (.getfield 23, 3) := by decide +kernel
theorem dX5_day_5 : decode cX5_day 5 = .ok (.iconst 1, 1) := by decide +kernel
theorem dX5_day_6 : decode cX5_day 6 = .ok (.iadd, 1) := by decide +kernel
theorem dX5_day_7 : decode cX5_day 7 = .ok (.putfield 23, 3) := by decide +kernel
theorem dX5_day_10 : decode cX5_day 10 = .ok (.aload_n 0, 1) := by decide +kernel
theorem dX5_day_11 : decode cX5_day 11 = .ok (.getfield 11, 3) := by decide +kernel
theorem dX5_day_14 : decode cX5_day 14 = .ok (.iconst 0, 1) := by decide +kernel
theorem dX5_day_15 : decode cX5_day 15 = .ok (.aaload, 1) := by decide +kernel
theorem dX5_day_16 : decode cX5_day 16 = .ok (.astore 4, 2) := by decide +kernel
theorem dX5_day_18 : decode cX5_day 18 = .ok (.bipush 10, 2) := by decide +kernel
theorem dX5_day_20 : decode cX5_day 20 = .ok (.aload_n 0, 1) := by decide +kernel
theorem dX5_day_21 : decode cX5_day 21 = .ok (.getfield 23, 3) := by decide +kernel
theorem dX5_day_24 : decode cX5_day 24 = .ok (.invokestatic 27, 3) := by decide +kernel
theorem dX5_day_27 : decode cX5_day 27 = .ok (.imul, 1) := by decide +kernel
theorem dX5_day_28 : decode cX5_day 28 = .ok (.aload 4, 2) := by decide +kernel
theorem dX5_day_30 : decode cX5_day 30 = .ok (.invokevirtual 31, 3) := by decide +kernel
theorem dX5_day_33 : decode cX5_day 33 = .ok (.isub, 1) := by decide +kernel
theorem dX5_day_34 : decode cX5_day 34 = .ok (.istore 5, 2) := by decide +kernel
theorem dX5_day_36 : decode cX5_day 36 = .ok (.aload 4, 2) := by decide +kernel
theorem dX5_day_38 : decode cX5_day 38 = .ok (.getfield 35, 3) := by decide +kernel
theorem dX5_day_41 : decode cX5_day 41 = .ok (.ifCond .eq 90, 3) := by decide +kernel
theorem dX5_day_44 : decode cX5_day 44 = .ok (.iload 5, 2) := by decide +kernel
theorem dX5_day_46 : decode cX5_day 46 = .ok (.ifCond .le 85, 3) := by decide +kernel
theorem dX5_day_49 : decode cX5_day 49 = .ok (.iload 5, 2) := by decide +kernel
theorem dX5_day_51 : decode cX5_day 51 = .ok (.aload 4, 2) := by decide +kernel
theorem dX5_day_53 : decode cX5_day 53 = .ok (.getfield 39, 3) := by decide +kernel
theorem dX5_day_56 : decode cX5_day 56 = .ok (.imul, 1) := by decide +kernel
theorem dX5_day_57 : decode cX5_day 57 = .ok (.iconst 4, 1) := by decide +kernel
theorem dX5_day_58 : decode cX5_day 58 = .ok (.idiv, 1) := by decide +kernel
theorem dX5_day_59 : decode cX5_day 59 = .ok (.istore 6, 2) := by decide +kernel
theorem dX5_day_61 : decode cX5_day 61 = .ok (.aload 4, 2) := by decide +kernel
theorem dX5_day_63 : decode cX5_day 63 = .ok (.dup, 1) := by decide +kernel
theorem dX5_day_64 : decode cX5_day 64 = .ok (.getfield 42, 3) := by decide +kernel
theorem dX5_day_67 : decode cX5_day 67 = .ok (.iload 6, 2) := by decide +kernel
theorem dX5_day_69 : decode cX5_day 69 = .ok (.iadd, 1) := by decide +kernel
theorem dX5_day_70 : decode cX5_day 70 = .ok (.putfield 42, 3) := by decide +kernel
theorem dX5_day_73 : decode cX5_day 73 = .ok (.aload 4, 2) := by decide +kernel
theorem dX5_day_75 : decode cX5_day 75 = .ok (.dup, 1) := by decide +kernel
theorem dX5_day_76 : decode cX5_day 76 = .ok (.getfield 45, 3) := by decide +kernel
theorem dX5_day_79 : decode cX5_day 79 = .ok (.bipush 30, 2) := by decide +kernel
theorem dX5_day_81 : decode cX5_day 81 = .ok (.iload 6, 2) := by decide +kernel
theorem dX5_day_83 : decode cX5_day 83 = .ok (.imul, 1) := by decide +kernel
theorem dX5_day_84 : decode cX5_day 84 = .ok (.iadd, 1) := by decide +kernel
theorem dX5_day_85 : decode cX5_day 85 = .ok (.putfield 45, 3) := by decide +kernel
theorem dX5_day_88 : decode cX5_day 88 = .ok (.aload 4, 2) := by decide +kernel
theorem dX5_day_90 : decode cX5_day 90 = .ok (.dup, 1) := by decide +kernel
theorem dX5_day_91 : decode cX5_day 91 = .ok (.getfield 48, 3) := by decide +kernel
theorem dX5_day_94 : decode cX5_day 94 = .ok (.iconst 2, 1) := by decide +kernel
theorem dX5_day_95 : decode cX5_day 95 = .ok (.iload 6, 2) := by decide +kernel
theorem dX5_day_97 : decode cX5_day 97 = .ok (.imul, 1) := by decide +kernel
theorem dX5_day_98 : decode cX5_day 98 = .ok (.iadd, 1) := by decide +kernel
theorem dX5_day_99 : decode cX5_day 99 = .ok (.putfield 48, 3) := by decide +kernel
theorem dX5_day_102 : decode cX5_day 102 = .ok (.aload 4, 2) := by decide +kernel
theorem dX5_day_104 : decode cX5_day 104 = .ok (.dup, 1) := by decide +kernel
theorem dX5_day_105 : decode cX5_day 105 = .ok (.getfield 51, 3) := by decide +kernel
theorem dX5_day_108 : decode cX5_day 108 = .ok (.bipush 6, 2) := by decide +kernel
theorem dX5_day_110 : decode cX5_day 110 = .ok (.iload 6, 2) := by decide +kernel
theorem dX5_day_112 : decode cX5_day 112 = .ok (.imul, 1) := by decide +kernel
theorem dX5_day_113 : decode cX5_day 113 = .ok (.iadd, 1) := by decide +kernel
theorem dX5_day_114 : decode cX5_day 114 = .ok (.putfield 51, 3) := by decide +kernel
theorem dX5_day_117 : decode cX5_day 117 = .ok (.aload_n 0, 1) := by decide +kernel
theorem dX5_day_118 : decode cX5_day 118 = .ok (.dup, 1) := by decide +kernel
theorem dX5_day_119 : decode cX5_day 119 = .ok (.getfield 54, 3) := by decide +kernel
theorem dX5_day_122 : decode cX5_day 122 = .ok (.bipush 30, 2) := by decide +kernel
theorem dX5_day_124 : decode cX5_day 124 = .ok (.iload 6, 2) := by decide +kernel
theorem dX5_day_126 : decode cX5_day 126 = .ok (.imul, 1) := by decide +kernel
theorem dX5_day_127 : decode cX5_day 127 = .ok (.iadd, 1) := by decide +kernel
theorem dX5_day_128 : decode cX5_day 128 = .ok (.putfield 54, 3) := by decide +kernel
theorem dX5_day_131 : decode cX5_day 131 = .ok (.bipush 7, 2) := by decide +kernel
theorem dX5_day_133 : decode cX5_day 133 = .ok (.istore 6, 2) := by decide +kernel
theorem dX5_day_135 : decode cX5_day 135 = .ok (.iload 6, 2) := by decide +kernel
theorem dX5_day_137 : decode cX5_day 137 = .ok (.ifCond .le 101, 3) := by decide +kernel
theorem dX5_day_140 : decode cX5_day 140 = .ok (.aload_n 0, 1) := by decide +kernel
theorem dX5_day_141 : decode cX5_day 141 = .ok (.getfield 11, 3) := by decide +kernel
theorem dX5_day_144 : decode cX5_day 144 = .ok (.iload 6, 2) := by decide +kernel
theorem dX5_day_146 : decode cX5_day 146 = .ok (.iconst 1, 1) := by decide +kernel
theorem dX5_day_147 : decode cX5_day 147 = .ok (.isub, 1) := by decide +kernel
theorem dX5_day_148 : decode cX5_day 148 = .ok (.aaload, 1) := by decide +kernel
theorem dX5_day_149 : decode cX5_day 149 = .ok (.invokevirtual 31, 3) := by decide +kernel
theorem dX5_day_152 : decode cX5_day 152 = .ok (.aload_n 0, 1) := by decide +kernel
theorem dX5_day_153 : decode cX5_day 153 = .ok (.getfield 11, 3) := by decide +kernel
theorem dX5_day_156 : decode cX5_day 156 = .ok (.iload 6, 2) := by decide +kernel
theorem dX5_day_158 : decode cX5_day 158 = .ok (.aaload, 1) := by decide +kernel
theorem dX5_day_159 : decode cX5_day 159 = .ok (.invokevirtual 31, 3) := by decide +kernel
theorem dX5_day_162 : decode cX5_day 162 = .ok (.isub, 1) := by decide +kernel
theorem dX5_day_163 : decode cX5_day 163 = .ok (.istore 7, 2) := by decide +kernel
theorem dX5_day_165 : decode cX5_day 165 = .ok (.aload_n 0, 1) := by decide +kernel
theorem dX5_day_166 : decode cX5_day 166 = .ok (.getfield 11, 3) := by decide +kernel
theorem dX5_day_169 : decode cX5_day 169 = .ok (.iload 6, 2) := by decide +kernel
theorem dX5_day_171 : decode cX5_day 171 = .ok (.aaload, 1) := by decide +kernel
theorem dX5_day_172 : decode cX5_day 172 = .ok (.getfield 35, 3) := by decide +kernel
theorem dX5_day_175 : decode cX5_day 175 = .ok (.ifCond .eq 57, 3) := by decide +kernel
theorem dX5_day_178 : decode cX5_day 178 = .ok (.iload 7, 2) := by decide +kernel
theorem dX5_day_180 : decode cX5_day 180 = .ok (.ifCond .le 52, 3) := by decide +kernel
theorem dX5_day_183 : decode cX5_day 183 = .ok (.aload_n 0, 1) := by decide +kernel
theorem dX5_day_184 : decode cX5_day 184 = .ok (.getfield 11, 3) := by decide +kernel
theorem dX5_day_187 : decode cX5_day 187 = .ok (.iload 6, 2) := by decide +kernel
theorem dX5_day_189 : decode cX5_day 189 = .ok (.iconst 1, 1) := by decide +kernel
theorem dX5_day_190 : decode cX5_day 190 = .ok (.isub, 1) := by decide +kernel
theorem dX5_day_191 : decode cX5_day 191 = .ok (.aaload, 1) := by decide +kernel
theorem dX5_day_192 : decode cX5_day 192 = .ok (.iload 7, 2) := by decide +kernel
theorem dX5_day_194 : decode cX5_day 194 = .ok (.aload_n 0, 1) := by decide +kernel
theorem dX5_day_195 : decode cX5_day 195 = .ok (.getfield 11, 3) := by decide +kernel
theorem dX5_day_198 : decode cX5_day 198 = .ok (.iload 6, 2) := by decide +kernel
theorem dX5_day_200 : decode cX5_day 200 = .ok (.iconst 1, 1) := by decide +kernel
theorem dX5_day_201 : decode cX5_day 201 = .ok (.isub, 1) := by decide +kernel
theorem dX5_day_202 : decode cX5_day 202 = .ok (.aaload, 1) := by decide +kernel
theorem dX5_day_203 : decode cX5_day 203 = .ok (.getfield 39, 3) := by decide +kernel
theorem dX5_day_206 : decode cX5_day 206 = .ok (.aload_n 0, 1) := by decide +kernel
theorem dX5_day_207 : decode cX5_day 207 = .ok (.getfield 11, 3) := by decide +kernel
theorem dX5_day_210 : decode cX5_day 210 = .ok (.iload 6, 2) := by decide +kernel
theorem dX5_day_212 : decode cX5_day 212 = .ok (.aaload, 1) := by decide +kernel
theorem dX5_day_213 : decode cX5_day 213 = .ok (.getfield 39, 3) := by decide +kernel
theorem dX5_day_216 : decode cX5_day 216 = .ok (.invokestatic 57, 3) := by decide +kernel
theorem dX5_day_219 : decode cX5_day 219 = .ok (.imul, 1) := by decide +kernel
theorem dX5_day_220 : decode cX5_day 220 = .ok (.iconst 2, 1) := by decide +kernel
theorem dX5_day_221 : decode cX5_day 221 = .ok (.idiv, 1) := by decide +kernel
theorem dX5_day_222 : decode cX5_day 222 = .ok (.aload_n 0, 1) := by decide +kernel
theorem dX5_day_223 : decode cX5_day 223 = .ok (.getfield 11, 3) := by decide +kernel
theorem dX5_day_226 : decode cX5_day 226 = .ok (.iload 6, 2) := by decide +kernel
theorem dX5_day_228 : decode cX5_day 228 = .ok (.aaload, 1) := by decide +kernel
theorem dX5_day_229 : decode cX5_day 229 = .ok (.invokevirtual 63, 3) := by decide +kernel
theorem dX5_day_232 : decode cX5_day 232 = .ok (.iinc 6 (-1), 3) := by decide +kernel
theorem dX5_day_235 : decode cX5_day 235 = .ok (.goto (-100), 3) := by decide +kernel
theorem dX5_day_238 : decode cX5_day 238 = .ok (.bipush 8, 2) := by decide +kernel
theorem dX5_day_240 : decode cX5_day 240 = .ok (.newarray .int, 2) := by decide +kernel
theorem dX5_day_242 : decode cX5_day 242 = .ok (.astore 6, 2) := by decide +kernel
theorem dX5_day_244 : decode cX5_day 244 = .ok (.aload_n 0, 1) := by decide +kernel
theorem dX5_day_245 : decode cX5_day 245 = .ok (.getfield 11, 3) := by decide +kernel
theorem dX5_day_248 : decode cX5_day 248 = .ok (.astore 7, 2) := by decide +kernel
theorem dX5_day_250 : decode cX5_day 250 = .ok (.aload 7, 2) := by decide +kernel
theorem dX5_day_252 : decode cX5_day 252 = .ok (.arraylength, 1) := by decide +kernel
theorem dX5_day_253 : decode cX5_day 253 = .ok (.istore 8, 2) := by decide +kernel
theorem dX5_day_255 : decode cX5_day 255 = .ok (.iconst 0, 1) := by decide +kernel
theorem dX5_day_256 : decode cX5_day 256 = .ok (.istore 9, 2) := by decide +kernel
theorem dX5_day_258 : decode cX5_day 258 = .ok (.iload 9, 2) := by decide +kernel
theorem dX5_day_260 : decode cX5_day 260 = .ok (.iload 8, 2) := by decide +kernel
theorem dX5_day_262 : decode cX5_day 262 = .ok (.if_icmp .ge 44, 3) := by decide +kernel
theorem dX5_day_265 : decode cX5_day 265 = .ok (.aload 7, 2) := by decide +kernel
theorem dX5_day_267 : decode cX5_day 267 = .ok (.iload 9, 2) := by decide +kernel
theorem dX5_day_269 : decode cX5_day 269 = .ok (.aaload, 1) := by decide +kernel
theorem dX5_day_270 : decode cX5_day 270 = .ok (.astore 10, 2) := by decide +kernel
theorem dX5_day_272 : decode cX5_day 272 = .ok (.aload 10, 2) := by decide +kernel
theorem dX5_day_274 : decode cX5_day 274 = .ok (.getfield 67, 3) := by decide +kernel
theorem dX5_day_277 : decode cX5_day 277 = .ok (.ifCond .ne 23, 3) := by decide +kernel
theorem dX5_day_280 : decode cX5_day 280 = .ok (.aload 10, 2) := by decide +kernel
theorem dX5_day_282 : decode cX5_day 282 = .ok (.dup, 1) := by decide +kernel
theorem dX5_day_283 : decode cX5_day 283 = .ok (.getfield 70, 3) := by decide +kernel
theorem dX5_day_286 : decode cX5_day 286 = .ok (.iload_n 3, 1) := by decide +kernel
theorem dX5_day_287 : decode cX5_day 287 = .ok (.aload 10, 2) := by decide +kernel
theorem dX5_day_289 : decode cX5_day 289 = .ok (.getfield 39, 3) := by decide +kernel
theorem dX5_day_292 : decode cX5_day 292 = .ok (.imul, 1) := by decide +kernel
theorem dX5_day_293 : decode cX5_day 293 = .ok (.bipush 10, 2) := by decide +kernel
theorem dX5_day_295 : decode cX5_day 295 = .ok (.idiv, 1) := by decide +kernel
theorem dX5_day_296 : decode cX5_day 296 = .ok (.iadd, 1) := by decide +kernel
theorem dX5_day_297 : decode cX5_day 297 = .ok (.putfield 70, 3) := by decide +kernel
theorem dX5_day_300 : decode cX5_day 300 = .ok (.iinc 9 1, 3) := by decide +kernel
theorem dX5_day_303 : decode cX5_day 303 = .ok (.goto (-45), 3) := by decide +kernel
theorem dX5_day_306 : decode cX5_day 306 = .ok (.aload_n 0, 1) := by decide +kernel
theorem dX5_day_307 : decode cX5_day 307 = .ok (.getfield 11, 3) := by decide +kernel
theorem dX5_day_310 : decode cX5_day 310 = .ok (.astore 7, 2) := by decide +kernel
theorem dX5_day_312 : decode cX5_day 312 = .ok (.aload 7, 2) := by decide +kernel
theorem dX5_day_314 : decode cX5_day 314 = .ok (.arraylength, 1) := by decide +kernel
theorem dX5_day_315 : decode cX5_day 315 = .ok (.istore 8, 2) := by decide +kernel
theorem dX5_day_317 : decode cX5_day 317 = .ok (.iconst 0, 1) := by decide +kernel
theorem dX5_day_318 : decode cX5_day 318 = .ok (.istore 9, 2) := by decide +kernel
theorem dX5_day_320 : decode cX5_day 320 = .ok (.iload 9, 2) := by decide +kernel
theorem dX5_day_322 : decode cX5_day 322 = .ok (.iload 8, 2) := by decide +kernel
theorem dX5_day_324 : decode cX5_day 324 = .ok (.if_icmp .ge 24, 3) := by decide +kernel
theorem dX5_day_327 : decode cX5_day 327 = .ok (.aload 7, 2) := by decide +kernel
theorem dX5_day_329 : decode cX5_day 329 = .ok (.iload 9, 2) := by decide +kernel
theorem dX5_day_331 : decode cX5_day 331 = .ok (.aaload, 1) := by decide +kernel
theorem dX5_day_332 : decode cX5_day 332 = .ok (.astore 10, 2) := by decide +kernel
theorem dX5_day_334 : decode cX5_day 334 = .ok (.aload 10, 2) := by decide +kernel
theorem dX5_day_336 : decode cX5_day 336 = .ok (.iload_n 1, 1) := by decide +kernel
theorem dX5_day_337 : decode cX5_day 337 = .ok (.iload_n 2, 1) := by decide +kernel
theorem dX5_day_338 : decode cX5_day 338 = .ok (.iadd, 1) := by decide +kernel
theorem dX5_day_339 : decode cX5_day 339 = .ok (.invokevirtual 73, 3) := by decide +kernel
theorem dX5_day_342 : decode cX5_day 342 = .ok (.iinc 9 1, 3) := by decide +kernel
theorem dX5_day_345 : decode cX5_day 345 = .ok (.goto (-25), 3) := by decide +kernel
theorem dX5_day_348 : decode cX5_day 348 = .ok (.aload_n 0, 1) := by decide +kernel
theorem dX5_day_349 : decode cX5_day 349 = .ok (.getfield 11, 3) := by decide +kernel
theorem dX5_day_352 : decode cX5_day 352 = .ok (.astore 7, 2) := by decide +kernel
theorem dX5_day_354 : decode cX5_day 354 = .ok (.aload 7, 2) := by decide +kernel
theorem dX5_day_356 : decode cX5_day 356 = .ok (.arraylength, 1) := by decide +kernel
theorem dX5_day_357 : decode cX5_day 357 = .ok (.istore 8, 2) := by decide +kernel
theorem dX5_day_359 : decode cX5_day 359 = .ok (.iconst 0, 1) := by decide +kernel
theorem dX5_day_360 : decode cX5_day 360 = .ok (.istore 9, 2) := by decide +kernel
theorem dX5_day_362 : decode cX5_day 362 = .ok (.iload 9, 2) := by decide +kernel
theorem dX5_day_364 : decode cX5_day 364 = .ok (.iload 8, 2) := by decide +kernel
theorem dX5_day_366 : decode cX5_day 366 = .ok (.if_icmp .ge 29, 3) := by decide +kernel
theorem dX5_day_369 : decode cX5_day 369 = .ok (.aload 7, 2) := by decide +kernel
theorem dX5_day_371 : decode cX5_day 371 = .ok (.iload 9, 2) := by decide +kernel
theorem dX5_day_373 : decode cX5_day 373 = .ok (.aaload, 1) := by decide +kernel
theorem dX5_day_374 : decode cX5_day 374 = .ok (.astore 10, 2) := by decide +kernel
theorem dX5_day_376 : decode cX5_day 376 = .ok (.aload 10, 2) := by decide +kernel
theorem dX5_day_378 : decode cX5_day 378 = .ok (.getfield 70, 3) := by decide +kernel
theorem dX5_day_381 : decode cX5_day 381 = .ok (.ifCond .le 8, 3) := by decide +kernel
theorem dX5_day_384 : decode cX5_day 384 = .ok (.aload 10, 2) := by decide +kernel
theorem dX5_day_386 : decode cX5_day 386 = .ok (.invokevirtual 77, 3) := by decide +kernel
theorem dX5_day_389 : decode cX5_day 389 = .ok (.iinc 9 1, 3) := by decide +kernel
theorem dX5_day_392 : decode cX5_day 392 = .ok (.goto (-30), 3) := by decide +kernel
theorem dX5_day_395 : decode cX5_day 395 = .ok (.iconst 0, 1) := by decide +kernel
theorem dX5_day_396 : decode cX5_day 396 = .ok (.istore 7, 2) := by decide +kernel
theorem dX5_day_398 : decode cX5_day 398 = .ok (.iload 7, 2) := by decide +kernel
theorem dX5_day_400 : decode cX5_day 400 = .ok (.bipush 8, 2) := by decide +kernel
theorem dX5_day_402 : decode cX5_day 402 = .ok (.if_icmp .ge 24, 3) := by decide +kernel
theorem dX5_day_405 : decode cX5_day 405 = .ok (.aload 6, 2) := by decide +kernel
theorem dX5_day_407 : decode cX5_day 407 = .ok (.iload 7, 2) := by decide +kernel
theorem dX5_day_409 : decode cX5_day 409 = .ok (.aload_n 0, 1) := by decide +kernel
theorem dX5_day_410 : decode cX5_day 410 = .ok (.getfield 11, 3) := by decide +kernel
theorem dX5_day_413 : decode cX5_day 413 = .ok (.iload 7, 2) := by decide +kernel
theorem dX5_day_415 : decode cX5_day 415 = .ok (.aaload, 1) := by decide +kernel
theorem dX5_day_416 : decode cX5_day 416 = .ok (.invokevirtual 80, 3) := by decide +kernel
theorem dX5_day_419 : decode cX5_day 419 = .ok (.iastore, 1) := by decide +kernel
theorem dX5_day_420 : decode cX5_day 420 = .ok (.iinc 7 1, 3) := by decide +kernel
theorem dX5_day_423 : decode cX5_day 423 = .ok (.goto (-25), 3) := by decide +kernel
theorem dX5_day_426 : decode cX5_day 426 = .ok (.aload 6, 2) := by decide +kernel
theorem dX5_day_428 : decode cX5_day 428 = .ok (.areturn, 1) := by decide +kernel
theorem dX6_isIn_0 : decode cX6_isIn 0 = .ok (.iload_n 0, 1) := by decide +kernel
theorem dX6_isIn_1 : decode cX6_isIn 1 = .ok (.iload_n 1, 1) := by decide +kernel
theorem dX6_isIn_2 : decode cX6_isIn 2 = .ok (.if_icmp .lt 12, 3) := by decide +kernel
theorem dX6_isIn_5 : decode cX6_isIn 5 = .ok (.iload_n 0, 1) := by decide +kernel
theorem dX6_isIn_6 : decode cX6_isIn 6 = .ok (.iload_n 2, 1) := by decide +kernel
theorem dX6_isIn_7 : decode cX6_isIn 7 = .ok (.if_icmp .gt 7, 3) := by decide +kernel
theorem dX6_isIn_10 : decode cX6_isIn 10 = .ok (.iconst 1, 1) := by decide +kernel
theorem dX6_isIn_11 : decode cX6_isIn 11 = .ok (.goto 4, 3) := by decide +kernel
theorem dX6_isIn_14 : decode cX6_isIn 14 = .ok (.iconst 0, 1) := by decide +kernel
theorem dX6_isIn_15 : decode cX6_isIn 15 = .ok (.ireturn, 1) := by decide +kernel
theorem dX6_one_0 : decode cX6_one 0 = .ok (.iload_n 0, 1) := by decide +kernel
theorem dX6_one_1 : decode cX6_one 1 = .ok (.ifCond .eq 7, 3) := by decide +kernel
theorem dX6_one_4 : decode cX6_one 4 = .ok (.iconst 1, 1) := by decide +kernel
theorem dX6_one_5 : decode cX6_one 5 = .ok (.goto 4, 3) := by decide +kernel
theorem dX6_one_8 : decode cX6_one 8 = .ok (.iconst 0, 1) := by decide +kernel
theorem dX6_one_9 : decode cX6_one 9 = .ok (.ireturn, 1) := by decide +kernel
theorem dX6_share_0 : decode cX6_share 0 = .ok (.iload_n 2, 1) := by decide +kernel
theorem dX6_share_1 : decode cX6_share 1 = .ok (.ifCond .ne 7, 3) := by decide +kernel
theorem dX6_share_4 : decode cX6_share 4 = .ok (.iconst 0, 1) := by decide +kernel
theorem dX6_share_5 : decode cX6_share 5 = .ok (.goto 12, 3) := by decide +kernel
theorem dX6_share_8 : decode cX6_share 8 = .ok (.iload_n 0, 1) := by decide +kernel
theorem dX6_share_9 : decode cX6_share 9 = .ok (.i2l, 1) := by decide +kernel
theorem dX6_share_10 : decode cX6_share 10 = .ok (.iload_n 1, 1) := by decide +kernel
theorem dX6_share_11 : decode cX6_share 11 = .ok (.i2l, 1) := by decide +kernel
theorem dX6_share_12 : decode cX6_share 12 = .ok (.lmul, 1) := by decide +kernel
theorem dX6_share_13 : decode cX6_share 13 = .ok (.iload_n 2, 1) := by decide +kernel
theorem dX6_share_14 : decode cX6_share 14 = .ok (.i2l, 1) := by decide +kernel
theorem dX6_share_15 : decode cX6_share 15 = .ok (.ldiv, 1) := by decide +kernel
theorem dX6_share_16 : decode cX6_share 16 = .ok (.l2i, 1) := by decide +kernel
theorem dX6_share_17 : decode cX6_share 17 = .ok (.ireturn, 1) := by decide +kernel
theorem dX6_purity_0 : decode cX6_purity 0 = .ok (.iload_n 0, 1) := by decide +kernel
theorem dX6_purity_1 : decode cX6_purity 1 = .ok (.iload_n 1, 1) := by decide +kernel
theorem dX6_purity_2 : decode cX6_purity 2 = .ok (.iadd, 1) := by decide +kernel
theorem dX6_purity_3 : decode cX6_purity 3 = .ok (.ifCond .ne 7, 3) := by decide +kernel
theorem dX6_purity_6 : decode cX6_purity 6 = .ok (.iconst 0, 1) := by decide +kernel
theorem dX6_purity_7 : decode cX6_purity 7 = .ok (.goto 16, 3) := by decide +kernel
theorem dX6_purity_10 : decode cX6_purity 10 = .ok (.ldc2_w 1, 3) := by decide +kernel
theorem dX6_purity_13 : decode cX6_purity 13 = .ok (.iload_n 0, 1) := by decide +kernel
theorem dX6_purity_14 : decode cX6_purity 14 = .ok (.i2l, 1) := by decide +kernel
theorem dX6_purity_15 : decode cX6_purity 15 = .ok (.lmul, 1) := by decide +kernel
theorem dX6_purity_16 : decode cX6_purity 16 = .ok (.iload_n 0, 1) := by decide +kernel
theorem dX6_purity_17 : decode cX6_purity 17 = .ok (.i2l, 1) := by decide +kernel
theorem dX6_purity_18 : decode cX6_purity 18 = .ok (.iload_n 1, 1) := by decide +kernel
theorem dX6_purity_19 : decode cX6_purity 19 = .ok (.i2l, 1) := by decide +kernel
theorem dX6_purity_20 : decode cX6_purity 20 = .ok (.ladd, 1) := by decide +kernel
theorem dX6_purity_21 : decode cX6_purity 21 = .ok (.ldiv, 1) := by decide +kernel
theorem dX6_purity_22 : decode cX6_purity 22 = .ok (.l2i, 1) := by decide +kernel
theorem dX6_purity_23 : decode cX6_purity 23 = .ok (.ireturn, 1) := by decide +kernel
theorem dX6_tideOf_0 : decode cX6_tideOf 0 = .ok (.iconst 2, 1) := by decide +kernel
theorem dX6_tideOf_1 : decode cX6_tideOf 1 = .ok (.iload_n 0, 1) := by decide +kernel
theorem dX6_tideOf_2 : decode cX6_tideOf 2 = .ok (.bipush 14, 2) := by decide +kernel
theorem dX6_tideOf_4 : decode cX6_tideOf 4 = .ok (.irem, 1) := by decide +kernel
theorem dX6_tideOf_5 : decode cX6_tideOf 5 = .ok (.bipush 7, 2) := by decide +kernel
theorem dX6_tideOf_7 : decode cX6_tideOf 7 = .ok (.isub, 1) := by decide +kernel
theorem dX6_tideOf_8 : decode cX6_tideOf 8 = .ok (.invokestatic 3, 3) := by decide +kernel
theorem dX6_tideOf_11 : decode cX6_tideOf 11 = .ok (.iadd, 1) := by decide +kernel
theorem dX6_tideOf_12 : decode cX6_tideOf 12 = .ok (.ireturn, 1) := by decide +kernel
set_option maxRecDepth 20000 in
theorem ggX6_init_X5_init : GoodIn wsX6_init wsX5_init := goodIn_r _ [14, 15, 2, 3, 16, 17, 18, 19, 20, 21, 22, 23, 24, 40, 41, 42, 57, 58, 59, 60, 61, 62, 63, 64, 65, 66, 67] (by decide +kernel) (by decide +kernel)
set_option maxRecDepth 20000 in
theorem gX6_init_X5_init : GoodIn wsX6_init (wsX5_init) := ggX6_init_X5_init
set_option maxRecDepth 20000 in
theorem ggX6_init_Jx4a65c_init_da8c8 : GoodIn wsX6_init wsJx4a65c_init_da8c8 := goodIn_r _ [27, 28, 29, 30, 31, 32, 33, 34, 35, 36, 37, 38, 39, 2, 3, 54, 55, 56] (by decide +kernel) (by decide +kernel)
set_option maxRecDepth 20000 in
theorem gX6_init_Jx4a65c_init_da8c8 : GoodIn wsX6_init (wsJx4a65c_init_da8c8) := ggX6_init_Jx4a65c_init_da8c8
theorem dX6_init_0 : decode cX6_init 0 = .ok (.aload_n 0, 1) := by decide +kernel
theorem dX6_init_1 : decode cX6_init 1 = .ok (.invokespecial 9, 3) := by decide +kernel
theorem dX6_init_4 : decode cX6_init 4 = .ok (.aload_n 0, 1) := by decide +kernel
theorem dX6_init_5 : decode cX6_init 5 = .ok (.new 15, 3) := by decide +kernel
theorem dX6_init_8 : decode cX6_init 8 = .ok (.dup, 1) := by decide +kernel
theorem dX6_init_9 : decode cX6_init 9 = .ok (.invokespecial 17, 3) := by decide +kernel
theorem dX6_init_12 : decode cX6_init 12 = .ok (.putfield 18, 3) := by decide +kernel
theorem dX6_init_15 : decode cX6_init 15 = .ok (.aload_n 0, 1) := by decide +kernel
theorem dX6_init_16 : decode cX6_init 16 = .ok (.new 24, 3) := by decide +kernel
theorem dX6_init_19 : decode cX6_init 19 = .ok (.dup, 1) := by decide +kernel
theorem dX6_init_20 : decode cX6_init 20 = .ok (.invokespecial 26, 3) := by decide +kernel
theorem dX6_init_23 : decode cX6_init 23 = .ok (.putfield 27, 3) := by decide +kernel
theorem dX6_init_26 : decode cX6_init 26 = .ok (.return_, 1) := by decide +kernel
theorem dX6_thrown_0 : decode cX6_thrown 0 = .ok (.aload_n 0, 1) := by decide +kernel
theorem dX6_thrown_1 : decode cX6_thrown 1 = .ok (.getfield 31, 3) := by decide +kernel
theorem dX6_thrown_4 : decode cX6_thrown 4 = .ok (.ireturn, 1) := by decide +kernel
theorem dX6_refuse_0 : decode cX6_refuse 0 = .ok (.iload_n 1, 1) := by decide +kernel
theorem dX6_refuse_1 : decode cX6_refuse 1 = .ok (.ifCond .eq 15, 3) := by decide +kernel
theorem dX6_refuse_4 : decode cX6_refuse 4 = .ok (.aload_n 0, 1) := by decide +kernel
theorem dX6_refuse_5 : decode cX6_refuse 5 = .ok (.getfield 31, 3) := by decide +kernel
theorem dX6_refuse_8 : decode cX6_refuse 8 = .ok (.ifCond .ne 8, 3) := by decide +kernel
theorem dX6_refuse_11 : decode cX6_refuse 11 = .ok (.aload_n 0, 1) := by decide +kernel
theorem dX6_refuse_12 : decode cX6_refuse 12 = .ok (.iload_n 2, 1) := by decide +kernel
theorem dX6_refuse_13 : decode cX6_refuse 13 = .ok (.putfield 31, 3) := by decide +kernel
theorem dX6_refuse_16 : decode cX6_refuse 16 = .ok (.aload_n 0, 1) := by decide +kernel
theorem dX6_refuse_17 : decode cX6_refuse 17 = .ok (.getfield 31, 3) := by decide +kernel
theorem dX6_refuse_20 : decode cX6_refuse 20 = .ok (.ifCond .le 7, 3) := by decide +kernel
theorem dX6_refuse_23 : decode cX6_refuse 23 = .ok (.iconst 1, 1) := by decide +kernel
theorem dX6_refuse_24 : decode cX6_refuse 24 = .ok (.goto 4, 3) := by decide +kernel
theorem dX6_refuse_27 : decode cX6_refuse 27 = .ok (.iconst 0, 1) := by decide +kernel
theorem dX6_refuse_28 : decode cX6_refuse 28 = .ok (.ireturn, 1) := by decide +kernel
set_option maxRecDepth 20000 in
theorem ggX6_start_X6_refuse : GoodIn wsX6_start wsX6_refuse := goodIn_r _ [6, 1, 7, 8, 9, 10, 11, 12, 13, 14, 15, 16, 17] (by decide +kernel) (by decide +kernel)
set_option maxRecDepth 20000 in
theorem gX6_start_X6_refuse : GoodIn wsX6_start (wsV RX6 35 RX6 yX6_refuse wsX6_refuse) := goodIn_app (goodIn_of _ (by decide +kernel)) ggX6_start_X6_refuse
theorem dX6_start_0 : decode cX6_start 0 = .ok (.aload_n 0, 1) := by decide +kernel
theorem dX6_start_1 : decode cX6_start 1 = .ok (.iconst 0, 1) := by decide +kernel
theorem dX6_start_2 : decode cX6_start 2 = .ok (.putfield 31, 3) := by decide +kernel
theorem dX6_start_5 : decode cX6_start 5 = .ok (.aload_n 0, 1) := by decide +kernel
theorem dX6_start_6 : decode cX6_start 6 = .ok (.iload_n 1, 1) := by decide +kernel
theorem dX6_start_7 : decode cX6_start 7 = .ok (.iload_n 2, 1) := by decide +kernel
theorem dX6_start_8 : decode cX6_start 8 = .ok (.invokevirtual 35, 3) := by decide +kernel
theorem dX6_start_11 : decode cX6_start 11 = .ok (.ireturn, 1) := by decide +kernel
set_option maxRecDepth 20000 in
theorem ggX6_isNoPond_X6_isIn : GoodIn wsX6_isNoPond wsX6_isIn := goodIn_r _ [4] (by decide +kernel) (by decide +kernel)
set_option maxRecDepth 20000 in
theorem gX6_isNoPond_X6_isIn : GoodIn wsX6_isNoPond (va_wsS RX6 39 yX6_isIn wsX6_isIn) := goodIn_app (goodIn_of _ (by decide +kernel)) ggX6_isNoPond_X6_isIn
theorem dX6_isNoPond_0 : decode cX6_isNoPond 0 = .ok (.iload_n 0, 1) := by decide +kernel
theorem dX6_isNoPond_1 : decode cX6_isNoPond 1 = .ok (.iconst 0, 1) := by decide +kernel
theorem dX6_isNoPond_2 : decode cX6_isNoPond 2 = .ok (.bipush 7, 2) := by decide +kernel
theorem dX6_isNoPond_4 : decode cX6_isNoPond 4 = .ok (.invokestatic 39, 3) := by decide +kernel
theorem dX6_isNoPond_7 : decode cX6_isNoPond 7 = .ok (.ifCond .ne 7, 3) := by decide +kernel
theorem dX6_isNoPond_10 : decode cX6_isNoPond 10 = .ok (.iconst 1, 1) := by decide +kernel
theorem dX6_isNoPond_11 : decode cX6_isNoPond 11 = .ok (.goto 4, 3) := by decide +kernel
theorem dX6_isNoPond_14 : decode cX6_isNoPond 14 = .ok (.iconst 0, 1) := by decide +kernel
theorem dX6_isNoPond_15 : decode cX6_isNoPond 15 = .ok (.ireturn, 1) := by decide +kernel
set_option maxRecDepth 20000 in
theorem ggX6_isNoPan_X6_isIn : GoodIn wsX6_isNoPan wsX6_isIn := goodIn_r _ [4] (by decide +kernel) (by decide +kernel)
set_option maxRecDepth 20000 in
theorem gX6_isNoPan_X6_isIn : GoodIn wsX6_isNoPan (va_wsS RX6 39 yX6_isIn wsX6_isIn) := goodIn_app (goodIn_of _ (by decide +kernel)) ggX6_isNoPan_X6_isIn
theorem dX6_isNoPan_0 : decode cX6_isNoPan 0 = .ok (.iload_n 0, 1) := by decide +kernel
theorem dX6_isNoPan_1 : decode cX6_isNoPan 1 = .ok (.iconst 5, 1) := by decide +kernel
theorem dX6_isNoPan_2 : decode cX6_isNoPan 2 = .ok (.bipush 7, 2) := by decide +kernel
theorem dX6_isNoPan_4 : decode cX6_isNoPan 4 = .ok (.invokestatic 39, 3) := by decide +kernel
theorem dX6_isNoPan_7 : decode cX6_isNoPan 7 = .ok (.ifCond .ne 7, 3) := by decide +kernel
theorem dX6_isNoPan_10 : decode cX6_isNoPan 10 = .ok (.iconst 1, 1) := by decide +kernel
theorem dX6_isNoPan_11 : decode cX6_isNoPan 11 = .ok (.goto 4, 3) := by decide +kernel
theorem dX6_isNoPan_14 : decode cX6_isNoPan 14 = .ok (.iconst 0, 1) := by decide +kernel
theorem dX6_isNoPan_15 : decode cX6_isNoPan 15 = .ok (.ireturn, 1) := by decide +kernel
set_option maxRecDepth 20000 in
theorem ggX6_isNoFamily_Jx4a65c_size_8abf5 : GoodIn wsX6_isNoFamily wsJx4a65c_size_8abf5 := goodIn_r _ [6, 7, 23, 24, 25] (by decide +kernel) (by decide +kernel)
set_option maxRecDepth 20000 in
theorem gX6_isNoFamily_Jx4a65c_size_8abf5 : GoodIn wsX6_isNoFamily (wsV RX6 43 RJx4a65c yJx4a65c_size_8abf5 wsJx4a65c_size_8abf5) := goodIn_app (goodIn_of _ (by decide +kernel)) ggX6_isNoFamily_Jx4a65c_size_8abf5
set_option maxRecDepth 20000 in
theorem ggX6_isNoFamily_X6_isIn : GoodIn wsX6_isNoFamily wsX6_isIn := goodIn_r _ [11] (by decide +kernel) (by decide +kernel)
set_option maxRecDepth 20000 in
theorem gX6_isNoFamily_X6_isIn : GoodIn wsX6_isNoFamily (va_wsS RX6 39 yX6_isIn wsX6_isIn) := goodIn_app (goodIn_of _ (by decide +kernel)) ggX6_isNoFamily_X6_isIn
theorem dX6_isNoFamily_0 : decode cX6_isNoFamily 0 = .ok (.iload_n 1, 1) := by decide +kernel
theorem dX6_isNoFamily_1 : decode cX6_isNoFamily 1 = .ok (.iconst 0, 1) := by decide +kernel
theorem dX6_isNoFamily_2 : decode cX6_isNoFamily 2 = .ok (.aload_n 0, 1) := by decide +kernel
theorem dX6_isNoFamily_3 : decode cX6_isNoFamily 3 = .ok (.getfield 27, 3) := by decide +kernel
theorem dX6_isNoFamily_6 : decode cX6_isNoFamily 6 = .ok (.invokevirtual 43, 3) := by decide +kernel
theorem dX6_isNoFamily_9 : decode cX6_isNoFamily 9 = .ok (.iconst 1, 1) := by decide +kernel
theorem dX6_isNoFamily_10 : decode cX6_isNoFamily 10 = .ok (.isub, 1) := by decide +kernel
theorem dX6_isNoFamily_11 : decode cX6_isNoFamily 11 = .ok (.invokestatic 39, 3) := by decide +kernel
theorem dX6_isNoFamily_14 : decode cX6_isNoFamily 14 = .ok (.ifCond .ne 7, 3) := by decide +kernel
theorem dX6_isNoFamily_17 : decode cX6_isNoFamily 17 = .ok (.iconst 1, 1) := by decide +kernel
theorem dX6_isNoFamily_18 : decode cX6_isNoFamily 18 = .ok (.goto 4, 3) := by decide +kernel
theorem dX6_isNoFamily_21 : decode cX6_isNoFamily 21 = .ok (.iconst 0, 1) := by decide +kernel
theorem dX6_isNoFamily_22 : decode cX6_isNoFamily 22 = .ok (.ireturn, 1) := by decide +kernel
set_option maxRecDepth 20000 in
theorem ggX6_area_X6_isNoPond : GoodIn wsX6_area wsX6_isNoPond := goodIn_r _ [8, 9, 10, 7, 11] (by decide +kernel) (by decide +kernel)
set_option maxRecDepth 20000 in
theorem gX6_area_X6_isNoPond : GoodIn wsX6_area (va_wsS RX6 47 yX6_isNoPond wsX6_isNoPond) := goodIn_app (goodIn_of _ (by decide +kernel)) ggX6_area_X6_isNoPond
set_option maxRecDepth 20000 in
theorem ggX6_area_X6_start : GoodIn wsX6_area wsX6_start := goodIn_r _ [15, 16, 17, 18, 19, 7, 20, 21, 22, 23, 24, 25, 26, 27, 28, 29, 30, 31] (by decide +kernel) (by decide +kernel)
set_option maxRecDepth 20000 in
theorem gX6_area_X6_start : GoodIn wsX6_area (wsV RX6 51 RX6 yX6_start wsX6_start) := goodIn_app (goodIn_of _ (by decide +kernel)) ggX6_area_X6_start
set_option maxRecDepth 20000 in
theorem ggX6_area_X6_isIn : GoodIn wsX6_area wsX6_isIn := goodIn_r _ [11] (by decide +kernel) (by decide +kernel)
set_option maxRecDepth 20000 in
theorem gX6_area_X6_isIn : GoodIn wsX6_area (va_wsS RX6 39 yX6_isIn wsX6_isIn) := goodIn_app (goodIn_of _ (by decide +kernel)) ggX6_area_X6_isIn
set_option maxRecDepth 20000 in
theorem ggX6_area_X6_refuse : GoodIn wsX6_area wsX6_refuse := goodIn_r _ [20, 16, 21, 22, 23, 24, 25, 26, 27, 28, 29, 30, 31] (by decide +kernel) (by decide +kernel)
set_option maxRecDepth 20000 in
theorem gX6_area_X6_refuse : GoodIn wsX6_area (wsV RX6 35 RX6 yX6_refuse wsX6_refuse) := goodIn_app (goodIn_of _ (by decide +kernel)) ggX6_area_X6_refuse
theorem dX6_area_0 : decode cX6_area 0 = .ok (.aload_n 0, 1) := by decide +kernel
theorem dX6_area_1 : decode cX6_area 1 = .ok (.iload_n 1, 1) := by decide +kernel
theorem dX6_area_2 : decode cX6_area 2 = .ok (.invokestatic 47, 3) := by decide +kernel
theorem dX6_area_5 : decode cX6_area 5 = .ok (.iconst 1, 1) := by decide +kernel
theorem dX6_area_6 : decode cX6_area 6 = .ok (.invokevirtual 51, 3) := by decide +kernel
theorem dX6_area_9 : decode cX6_area 9 = .ok (.ifCond .ne 49, 3) := by decide +kernel
theorem dX6_area_12 : decode cX6_area 12 = .ok (.aload_n 0, 1) := by decide +kernel
theorem dX6_area_13 : decode cX6_area 13 = .ok (.iload_n 2, 1) := by decide +kernel
theorem dX6_area_14 : decode cX6_area 14 = .ok (.iconst 1, 1) := by decide +kernel
theorem dX6_area_15 : decode cX6_area 15 = .ok (.bipush 9, 2) := by decide +kernel
theorem dX6_area_17 : decode cX6_area 17 = .ok (.invokestatic 39, 3) := by decide +kernel
theorem dX6_area_20 : decode cX6_area 20 = .ok (.ifCond .ne 7, 3) := by decide +kernel
theorem dX6_area_23 : decode cX6_area 23 = .ok (.iconst 1, 1) := by decide +kernel
theorem dX6_area_24 : decode cX6_area 24 = .ok (.goto 4, 3) := by decide +kernel
theorem dX6_area_27 : decode cX6_area 27 = .ok (.iconst 0, 1) := by decide +kernel
theorem dX6_area_28 : decode cX6_area 28 = .ok (.iconst 2, 1) := by decide +kernel
theorem dX6_area_29 : decode cX6_area 29 = .ok (.invokevirtual 35, 3) := by decide +kernel
theorem dX6_area_32 : decode cX6_area 32 = .ok (.ifCond .ne 26, 3) := by decide +kernel
theorem dX6_area_35 : decode cX6_area 35 = .ok (.aload_n 0, 1) := by decide +kernel
theorem dX6_area_36 : decode cX6_area 36 = .ok (.aload_n 0, 1) := by decide +kernel
theorem dX6_area_37 : decode cX6_area 37 = .ok (.getfield 18, 3) := by decide +kernel
theorem dX6_area_40 : decode cX6_area 40 = .ok (.getfield 54, 3) := by decide +kernel
theorem dX6_area_43 : decode cX6_area 43 = .ok (.ifCond .le 7, 3) := by decide +kernel
theorem dX6_area_46 : decode cX6_area 46 = .ok (.iconst 1, 1) := by decide +kernel
theorem dX6_area_47 : decode cX6_area 47 = .ok (.goto 4, 3) := by decide +kernel
theorem dX6_area_50 : decode cX6_area 50 = .ok (.iconst 0, 1) := by decide +kernel
theorem dX6_area_51 : decode cX6_area 51 = .ok (.iconst 3, 1) := by decide +kernel
theorem dX6_area_52 : decode cX6_area 52 = .ok (.invokevirtual 35, 3) := by decide +kernel
theorem dX6_area_55 : decode cX6_area 55 = .ok (.ifCond .eq 5, 3) := by decide +kernel
theorem dX6_area_58 : decode cX6_area 58 = .ok (.iconst 0, 1) := by decide +kernel
theorem dX6_area_59 : decode cX6_area 59 = .ok (.ireturn, 1) := by decide +kernel
theorem dX6_area_60 : decode cX6_area 60 = .ok (.aload_n 0, 1) := by decide +kernel
theorem dX6_area_61 : decode cX6_area 61 = .ok (.getfield 18, 3) := by decide +kernel
theorem dX6_area_64 : decode cX6_area 64 = .ok (.getfield 57, 3) := by decide +kernel
theorem dX6_area_67 : decode cX6_area 67 = .ok (.iload_n 1, 1) := by decide +kernel
theorem dX6_area_68 : decode cX6_area 68 = .ok (.aaload, 1) := by decide +kernel
theorem dX6_area_69 : decode cX6_area 69 = .ok (.getfield 61, 3) := by decide +kernel
theorem dX6_area_72 : decode cX6_area 72 = .ok (.istore_n 3, 1) := by decide +kernel
theorem dX6_area_73 : decode cX6_area 73 = .ok (.aload_n 0, 1) := by decide +kernel
theorem dX6_area_74 : decode cX6_area 74 = .ok (.getfield 18, 3) := by decide +kernel
theorem dX6_area_77 : decode cX6_area 77 = .ok (.getfield 57, 3) := by decide +kernel
theorem dX6_area_80 : decode cX6_area 80 = .ok (.iload_n 1, 1) := by decide +kernel
theorem dX6_area_81 : decode cX6_area 81 = .ok (.aaload, 1) := by decide +kernel
theorem dX6_area_82 : decode cX6_area 82 = .ok (.iload_n 2, 1) := by decide +kernel
theorem dX6_area_83 : decode cX6_area 83 = .ok (.putfield 61, 3) := by decide +kernel
theorem dX6_area_86 : decode cX6_area 86 = .ok (.iload_n 3, 1) := by decide +kernel
theorem dX6_area_87 : decode cX6_area 87 = .ok (.ireturn, 1) := by decide +kernel
set_option maxRecDepth 20000 in
theorem ggX6_gate_X6_isNoPond : GoodIn wsX6_gate wsX6_isNoPond := goodIn_r _ [7, 8, 9, 6, 10] (by decide +kernel) (by decide +kernel)
set_option maxRecDepth 20000 in
theorem gX6_gate_X6_isNoPond : GoodIn wsX6_gate (va_wsS RX6 47 yX6_isNoPond wsX6_isNoPond) := goodIn_app (goodIn_of _ (by decide +kernel)) ggX6_gate_X6_isNoPond
set_option maxRecDepth 20000 in
theorem ggX6_gate_X6_start : GoodIn wsX6_gate wsX6_start := goodIn_r _ [14, 15, 16, 17, 18, 6, 19, 20, 21, 22, 23, 24, 25, 26, 27, 28, 29, 30] (by decide +kernel) (by decide +kernel)
set_option maxRecDepth 20000 in
theorem gX6_gate_X6_start : GoodIn wsX6_gate (wsV RX6 51 RX6 yX6_start wsX6_start) := goodIn_app (goodIn_of _ (by decide +kernel)) ggX6_gate_X6_start
theorem dX6_gate_0 : decode cX6_gate 0 = .ok (.aload_n 0, 1) := by decide +kernel
theorem dX6_gate_1 : decode cX6_gate 1 = .ok (.iload_n 1, 1) := by decide +kernel
theorem dX6_gate_2 : decode cX6_gate 2 = .ok (.invokestatic 47, 3) := by decide +kernel
theorem dX6_gate_5 : decode cX6_gate 5 = .ok (.iconst 1, 1) := by decide +kernel
theorem dX6_gate_6 : decode cX6_gate 6 = .ok (.invokevirtual 51, 3) := by decide +kernel
theorem dX6_gate_9 : decode cX6_gate 9 = .ok (.ifCond .eq 5, 3) := by decide +kernel
theorem dX6_gate_12 : decode cX6_gate 12 = .ok (.iconst 0, 1) := by decide +kernel
theorem dX6_gate_13 : decode cX6_gate 13 = .ok (.ireturn, 1) := by decide +kernel
theorem dX6_gate_14 : decode cX6_gate 14 = .ok (.aload_n 0, 1) := by decide +kernel
theorem dX6_gate_15 : decode cX6_gate 15 = .ok (.getfield 18, 3) := by decide +kernel
theorem dX6_gate_18 : decode cX6_gate 18 = .ok (.getfield 57, 3) := by decide +kernel
theorem dX6_gate_21 : decode cX6_gate 21 = .ok (.iload_n 1, 1) := by decide +kernel
theorem dX6_gate_22 : decode cX6_gate 22 = .ok (.aaload, 1) := by decide +kernel
theorem dX6_gate_23 : decode cX6_gate 23 = .ok (.getfield 66, 3) := by decide +kernel
theorem dX6_gate_26 : decode cX6_gate 26 = .ok (.istore_n 3, 1) := by decide +kernel
theorem dX6_gate_27 : decode cX6_gate 27 = .ok (.aload_n 0, 1) := by decide +kernel
theorem dX6_gate_28 : decode cX6_gate 28 = .ok (.getfield 18, 3) := by decide +kernel
theorem dX6_gate_31 : decode cX6_gate 31 = .ok (.getfield 57, 3) := by decide +kernel
theorem dX6_gate_34 : decode cX6_gate 34 = .ok (.iload_n 1, 1) := by decide +kernel
theorem dX6_gate_35 : decode cX6_gate 35 = .ok (.aaload, 1) := by decide +kernel
theorem dX6_gate_36 : decode cX6_gate 36 = .ok (.iload_n 2, 1) := by decide +kernel
theorem dX6_gate_37 : decode cX6_gate 37 = .ok (.putfield 66, 3) := by decide +kernel
theorem dX6_gate_40 : decode cX6_gate 40 = .ok (.iload_n 3, 1) := by decide +kernel
theorem dX6_gate_41 : decode cX6_gate 41 = .ok (.ireturn, 1) := by decide +kernel
set_option maxRecDepth 20000 in
theorem ggX6_cover_X6_isNoPan : GoodIn wsX6_cover wsX6_isNoPan := goodIn_r _ [7, 8, 9, 6, 10] (by decide +kernel) (by decide +kernel)
set_option maxRecDepth 20000 in
theorem gX6_cover_X6_isNoPan : GoodIn wsX6_cover (va_wsS RX6 70 yX6_isNoPan wsX6_isNoPan) := goodIn_app (goodIn_of _ (by decide +kernel)) ggX6_cover_X6_isNoPan
set_option maxRecDepth 20000 in
theorem ggX6_cover_X6_start : GoodIn wsX6_cover wsX6_start := goodIn_r _ [14, 15, 16, 17, 18, 6, 19, 20, 21, 22, 23, 24, 25, 26, 27, 28, 29, 30] (by decide +kernel) (by decide +kernel)
set_option maxRecDepth 20000 in
theorem gX6_cover_X6_start : GoodIn wsX6_cover (wsV RX6 51 RX6 yX6_start wsX6_start) := goodIn_app (goodIn_of _ (by decide +kernel)) ggX6_cover_X6_start
theorem dX6_cover_0 : decode cX6_cover 0 = .ok (.aload_n 0, 1) := by decide +kernel
theorem dX6_cover_1 : decode cX6_cover 1 = .ok (.iload_n 1, 1) := by decide +kernel
theorem dX6_cover_2 : decode cX6_cover 2 = .ok (.invokestatic 70, 3) := by decide +kernel
theorem dX6_cover_5 : decode cX6_cover 5 = .ok (.iconst 1, 1) := by decide +kernel
theorem dX6_cover_6 : decode cX6_cover 6 = .ok (.invokevirtual 51, 3) := by decide +kernel
theorem dX6_cover_9 : decode cX6_cover 9 = .ok (.ifCond .eq 5, 3) := by decide +kernel
theorem dX6_cover_12 : decode cX6_cover 12 = .ok (.iconst 0, 1) := by decide +kernel
theorem dX6_cover_13 : decode cX6_cover 13 = .ok (.ireturn, 1) := by decide +kernel
theorem dX6_cover_14 : decode cX6_cover 14 = .ok (.aload_n 0, 1) := by decide +kernel
theorem dX6_cover_15 : decode cX6_cover 15 = .ok (.getfield 18, 3) := by decide +kernel
theorem dX6_cover_18 : decode cX6_cover 18 = .ok (.getfield 57, 3) := by decide +kernel
theorem dX6_cover_21 : decode cX6_cover 21 = .ok (.iload_n 1, 1) := by decide +kernel
theorem dX6_cover_22 : decode cX6_cover 22 = .ok (.aaload, 1) := by decide +kernel
theorem dX6_cover_23 : decode cX6_cover 23 = .ok (.getfield 73, 3) := by decide +kernel
theorem dX6_cover_26 : decode cX6_cover 26 = .ok (.istore_n 3, 1) := by decide +kernel
theorem dX6_cover_27 : decode cX6_cover 27 = .ok (.aload_n 0, 1) := by decide +kernel
theorem dX6_cover_28 : decode cX6_cover 28 = .ok (.getfield 18, 3) := by decide +kernel
theorem dX6_cover_31 : decode cX6_cover 31 = .ok (.getfield 57, 3) := by decide +kernel
theorem dX6_cover_34 : decode cX6_cover 34 = .ok (.iload_n 1, 1) := by decide +kernel
theorem dX6_cover_35 : decode cX6_cover 35 = .ok (.aaload, 1) := by decide +kernel
theorem dX6_cover_36 : decode cX6_cover 36 = .ok (.iload_n 2, 1) := by decide +kernel
theorem dX6_cover_37 : decode cX6_cover 37 = .ok (.putfield 73, 3) := by decide +kernel
theorem dX6_cover_40 : decode cX6_cover 40 = .ok (.iload_n 3, 1) := by decide +kernel
theorem dX6_cover_41 : decode cX6_cover 41 = .ok (.ireturn, 1) := by decide +kernel
set_option maxRecDepth 20000 in
theorem ggX6_pass_X6_isIn : GoodIn wsX6_pass wsX6_isIn := goodIn_r _ [8] (by decide +kernel) (by decide +kernel)
set_option maxRecDepth 20000 in
theorem gX6_pass_X6_isIn : GoodIn wsX6_pass (va_wsS RX6 39 yX6_isIn wsX6_isIn) := goodIn_app (goodIn_of _ (by decide +kernel)) ggX6_pass_X6_isIn
set_option maxRecDepth 20000 in
theorem ggX6_pass_X6_start : GoodIn wsX6_pass wsX6_start := goodIn_r _ [12, 13, 14, 15, 16, 7, 17, 91, 92, 93, 94, 95, 96, 97, 98, 99, 100, 101] (by decide +kernel) (by decide +kernel)
set_option maxRecDepth 20000 in
theorem gX6_pass_X6_start : GoodIn wsX6_pass (wsV RX6 51 RX6 yX6_start wsX6_start) := goodIn_app (goodIn_of _ (by decide +kernel)) ggX6_pass_X6_start
set_option maxRecDepth 20000 in
theorem ggX6_pass_X6_refuse : GoodIn wsX6_pass wsX6_refuse := goodIn_r _ [17, 13, 91, 92, 93, 94, 95, 96, 97, 98, 99, 100, 101] (by decide +kernel) (by decide +kernel)
set_option maxRecDepth 20000 in
theorem gX6_pass_X6_refuse : GoodIn wsX6_pass (wsV RX6 35 RX6 yX6_refuse wsX6_refuse) := goodIn_app (goodIn_of _ (by decide +kernel)) ggX6_pass_X6_refuse
set_option maxRecDepth 20000 in
theorem ggX6_pass_X5_day : GoodIn wsX6_pass wsX5_day := goodIn_r _ [22, 23, 24, 25, 26, 27, 28, 29, 30, 31, 32, 33, 34, 35, 36, 37, 38, 39, 7, 40, 41, 42, 43, 44, 45, 46, 47, 48, 49, 50, 51, 52, 53, 54, 55, 56, 57, 58, 59, 60, 61, 62, 63, 64, 65, 66, 67, 68, 69, 70, 71, 72, 73, 74, 75, 76, 77, 78, 79, 80, 81, 82, 83, 84, 85, 86, 87, 88, 89, 90, 102, 103, 104, 105, 106, 107, 108, 109, 110, 111, 112, 113, 114, 115] (by decide +kernel) (by decide +kernel)
set_option maxRecDepth 20000 in
theorem gX6_pass_X5_day : GoodIn wsX6_pass (wsV RX6 76 RX5 yX5_day wsX5_day) := goodIn_app (goodIn_of _ (by decide +kernel)) ggX6_pass_X5_day
theorem dX6_pass_0 : decode cX6_pass 0 = .ok (.aload_n 0, 1) := by decide +kernel
theorem dX6_pass_1 : decode cX6_pass 1 = .ok (.iload_n 1, 1) := by decide +kernel
theorem dX6_pass_2 : decode cX6_pass 2 = .ok (.iconst 1, 1) := by decide +kernel
theorem dX6_pass_3 : decode cX6_pass 3 = .ok (.bipush 30, 2) := by decide +kernel
theorem dX6_pass_5 : decode cX6_pass 5 = .ok (.invokestatic 39, 3) := by decide +kernel
theorem dX6_pass_8 : decode cX6_pass 8 = .ok (.ifCond .eq 34, 3) := by decide +kernel
theorem dX6_pass_11 : decode cX6_pass 11 = .ok (.iload_n 2, 1) := by decide +kernel
theorem dX6_pass_12 : decode cX6_pass 12 = .ok (.iconst 0, 1) := by decide +kernel
theorem dX6_pass_13 : decode cX6_pass 13 = .ok (.bipush 9, 2) := by decide +kernel
theorem dX6_pass_15 : decode cX6_pass 15 = .ok (.invokestatic 39, 3) := by decide +kernel
theorem dX6_pass_18 : decode cX6_pass 18 = .ok (.ifCond .eq 24, 3) := by decide +kernel
theorem dX6_pass_21 : decode cX6_pass 21 = .ok (.iload_n 3, 1) := by decide +kernel
theorem dX6_pass_22 : decode cX6_pass 22 = .ok (.iconst 0, 1) := by decide +kernel
theorem dX6_pass_23 : decode cX6_pass 23 = .ok (.bipush 9, 2) := by decide +kernel
theorem dX6_pass_25 : decode cX6_pass 25 = .ok (.invokestatic 39, 3) := by decide +kernel
theorem dX6_pass_28 : decode cX6_pass 28 = .ok (.ifCond .eq 14, 3) := by decide +kernel
theorem dX6_pass_31 : decode cX6_pass 31 = .ok (.iload 4, 2) := by decide +kernel
theorem dX6_pass_33 : decode cX6_pass 33 = .ok (.iconst 0, 1) := by decide +kernel
theorem dX6_pass_34 : decode cX6_pass 34 = .ok (.bipush 40, 2) := by decide +kernel
theorem dX6_pass_36 : decode cX6_pass 36 = .ok (.invokestatic 39, 3) := by decide +kernel
theorem dX6_pass_39 : decode cX6_pass 39 = .ok (.ifCond .ne 7, 3) := by decide +kernel
theorem dX6_pass_42 : decode cX6_pass 42 = .ok (.iconst 1, 1) := by decide +kernel
theorem dX6_pass_43 : decode cX6_pass 43 = .ok (.goto 4, 3) := by decide +kernel
theorem dX6_pass_46 : decode cX6_pass 46 = .ok (.iconst 0, 1) := by decide +kernel
theorem dX6_pass_47 : decode cX6_pass 47 = .ok (.iconst 1, 1) := by decide +kernel
theorem dX6_pass_48 : decode cX6_pass 48 = .ok (.invokevirtual 51, 3) := by decide +kernel
theorem dX6_pass_51 : decode cX6_pass 51 = .ok (.ifCond .ne 31, 3) := by decide +kernel
theorem dX6_pass_54 : decode cX6_pass 54 = .ok (.aload_n 0, 1) := by decide +kernel
theorem dX6_pass_55 : decode cX6_pass 55 = .ok (.aload_n 0, 1) := by decide +kernel
theorem dX6_pass_56 : decode cX6_pass 56 = .ok (.getfield 18, 3) := by decide +kernel
theorem dX6_pass_59 : decode cX6_pass 59 = .ok (.getfield 54, 3) := by decide +kernel
theorem dX6_pass_62 : decode cX6_pass 62 = .ok (.iload_n 1, 1) := by decide +kernel
theorem dX6_pass_63 : decode cX6_pass 63 = .ok (.iadd, 1) := by decide +kernel
theorem dX6_pass_64 : decode cX6_pass 64 = .ok (.sipush 5000, 3) := by decide +kernel
theorem dX6_pass_67 : decode cX6_pass 67 = .ok (.if_icmp .le 7, 3) := by decide +kernel
theorem dX6_pass_70 : decode cX6_pass 70 = .ok (.iconst 1, 1) := by decide +kernel
theorem dX6_pass_71 : decode cX6_pass 71 = .ok (.goto 4, 3) := by decide +kernel
theorem dX6_pass_74 : decode cX6_pass 74 = .ok (.iconst 0, 1) := by decide +kernel
theorem dX6_pass_75 : decode cX6_pass 75 = .ok (.iconst 2, 1) := by decide +kernel
theorem dX6_pass_76 : decode cX6_pass 76 = .ok (.invokevirtual 35, 3) := by decide +kernel
theorem dX6_pass_79 : decode cX6_pass 79 = .ok (.ifCond .eq 5, 3) := by decide +kernel
theorem dX6_pass_82 : decode cX6_pass 82 = .ok (.iconst 0, 1) := by decide +kernel
theorem dX6_pass_83 : decode cX6_pass 83 = .ok (.ireturn, 1) := by decide +kernel
theorem dX6_pass_84 : decode cX6_pass 84 = .ok (.iconst 0, 1) := by decide +kernel
theorem dX6_pass_85 : decode cX6_pass 85 = .ok (.istore 5, 2) := by decide +kernel
theorem dX6_pass_87 : decode cX6_pass 87 = .ok (.iconst 0, 1) := by decide +kernel
theorem dX6_pass_88 : decode cX6_pass 88 = .ok (.istore 6, 2) := by decide +kernel
theorem dX6_pass_90 : decode cX6_pass 90 = .ok (.iload 6, 2) := by decide +kernel
theorem dX6_pass_92 : decode cX6_pass 92 = .ok (.iload_n 1, 1) := by decide +kernel
theorem dX6_pass_93 : decode cX6_pass 93 = .ok (.if_icmp .ge 48, 3) := by decide +kernel
theorem dX6_pass_96 : decode cX6_pass 96 = .ok (.aload_n 0, 1) := by decide +kernel
theorem dX6_pass_97 : decode cX6_pass 97 = .ok (.getfield 18, 3) := by decide +kernel
theorem dX6_pass_100 : decode cX6_pass 100 = .ok (.iload_n 2, 1) := by decide +kernel
theorem dX6_pass_101 : decode cX6_pass 101 = .ok (.iload_n 3, 1) := by decide +kernel
theorem dX6_pass_102 : decode cX6_pass 102 = .ok (.iload 4, 2) := by decide +kernel
theorem dX6_pass_104 : decode cX6_pass 104 = .ok (.invokevirtual 76, 3) := by decide +kernel
theorem dX6_pass_107 : decode cX6_pass 107 = .ok (.astore 7, 2) := by decide +kernel
theorem dX6_pass_109 : decode cX6_pass 109 = .ok (.iconst 5, 1) := by decide +kernel
theorem dX6_pass_110 : decode cX6_pass 110 = .ok (.istore 8, 2) := by decide +kernel
theorem dX6_pass_112 : decode cX6_pass 112 = .ok (.iload 8, 2) := by decide +kernel
theorem dX6_pass_114 : decode cX6_pass 114 = .ok (.bipush 8, 2) := by decide +kernel
theorem dX6_pass_116 : decode cX6_pass 116 = .ok (.if_icmp .ge 19, 3) := by decide +kernel
theorem dX6_pass_119 : decode cX6_pass 119 = .ok (.iload 5, 2) := by decide +kernel
theorem dX6_pass_121 : decode cX6_pass 121 = .ok (.aload 7, 2) := by decide +kernel
theorem dX6_pass_123 : decode cX6_pass 123 = .ok (.iload 8, 2) := by decide +kernel
theorem dX6_pass_125 : decode cX6_pass 125 = .ok (.iaload, 1) := by decide +kernel
theorem dX6_pass_126 : decode cX6_pass 126 = .ok (.iadd, 1) := by decide +kernel
theorem dX6_pass_127 : decode cX6_pass 127 = .ok (.istore 5, 2) := by decide +kernel
theorem dX6_pass_129 : decode cX6_pass 129 = .ok (.iinc 8 1, 3) := by decide +kernel
theorem dX6_pass_132 : decode cX6_pass 132 = .ok (.goto (-20), 3) := by decide +kernel
theorem dX6_pass_135 : decode cX6_pass 135 = .ok (.iinc 6 1, 3) := by decide +kernel
theorem dX6_pass_138 : decode cX6_pass 138 = .ok (.goto (-48), 3) := by decide +kernel
theorem dX6_pass_141 : decode cX6_pass 141 = .ok (.aload_n 0, 1) := by decide +kernel
theorem dX6_pass_142 : decode cX6_pass 142 = .ok (.iload_n 2, 1) := by decide +kernel
theorem dX6_pass_143 : decode cX6_pass 143 = .ok (.putfield 79, 3) := by decide +kernel
theorem dX6_pass_146 : decode cX6_pass 146 = .ok (.aload_n 0, 1) := by decide +kernel
theorem dX6_pass_147 : decode cX6_pass 147 = .ok (.iload_n 3, 1) := by decide +kernel
theorem dX6_pass_148 : decode cX6_pass 148 = .ok (.putfield 82, 3) := by decide +kernel
theorem dX6_pass_151 : decode cX6_pass 151 = .ok (.iload 5, 2) := by decide +kernel
theorem dX6_pass_153 : decode cX6_pass 153 = .ok (.ireturn, 1) := by decide +kernel
set_option maxRecDepth 20000 in
theorem ggX6_skim_X6_isNoPond : GoodIn wsX6_skim wsX6_isNoPond := goodIn_r _ [8, 9, 10, 7, 11] (by decide +kernel) (by decide +kernel)
set_option maxRecDepth 20000 in
theorem gX6_skim_X6_isNoPond : GoodIn wsX6_skim (va_wsS RX6 47 yX6_isNoPond wsX6_isNoPond) := goodIn_app (goodIn_of _ (by decide +kernel)) ggX6_skim_X6_isNoPond
set_option maxRecDepth 20000 in
theorem ggX6_skim_X6_start : GoodIn wsX6_skim wsX6_start := goodIn_r _ [15, 16, 17, 18, 19, 7, 20, 21, 22, 23, 24, 25, 26, 27, 28, 29, 30, 31] (by decide +kernel) (by decide +kernel)
set_option maxRecDepth 20000 in
theorem gX6_skim_X6_start : GoodIn wsX6_skim (wsV RX6 51 RX6 yX6_start wsX6_start) := goodIn_app (goodIn_of _ (by decide +kernel)) ggX6_skim_X6_start
theorem dX6_skim_0 : decode cX6_skim 0 = .ok (.aload_n 0, 1) := by decide +kernel
theorem dX6_skim_1 : decode cX6_skim 1 = .ok (.iload_n 1, 1) := by decide +kernel
theorem dX6_skim_2 : decode cX6_skim 2 = .ok (.invokestatic 47, 3) := by decide +kernel
theorem dX6_skim_5 : decode cX6_skim 5 = .ok (.iconst 1, 1) := by decide +kernel
theorem dX6_skim_6 : decode cX6_skim 6 = .ok (.invokevirtual 51, 3) := by decide +kernel
theorem dX6_skim_9 : decode cX6_skim 9 = .ok (.ifCond .eq 5, 3) := by decide +kernel
theorem dX6_skim_12 : decode cX6_skim 12 = .ok (.iconst 0, 1) := by decide +kernel
theorem dX6_skim_13 : decode cX6_skim 13 = .ok (.ireturn, 1) := by decide +kernel
theorem dX6_skim_14 : decode cX6_skim 14 = .ok (.aload_n 0, 1) := by decide +kernel
theorem dX6_skim_15 : decode cX6_skim 15 = .ok (.getfield 18, 3) := by decide +kernel
theorem dX6_skim_18 : decode cX6_skim 18 = .ok (.getfield 57, 3) := by decide +kernel
theorem dX6_skim_21 : decode cX6_skim 21 = .ok (.iload_n 1, 1) := by decide +kernel
theorem dX6_skim_22 : decode cX6_skim 22 = .ok (.aaload, 1) := by decide +kernel
theorem dX6_skim_23 : decode cX6_skim 23 = .ok (.getfield 85, 3) := by decide +kernel
theorem dX6_skim_26 : decode cX6_skim 26 = .ok (.istore_n 2, 1) := by decide +kernel
theorem dX6_skim_27 : decode cX6_skim 27 = .ok (.aload_n 0, 1) := by decide +kernel
theorem dX6_skim_28 : decode cX6_skim 28 = .ok (.getfield 18, 3) := by decide +kernel
theorem dX6_skim_31 : decode cX6_skim 31 = .ok (.getfield 57, 3) := by decide +kernel
theorem dX6_skim_34 : decode cX6_skim 34 = .ok (.iload_n 1, 1) := by decide +kernel
theorem dX6_skim_35 : decode cX6_skim 35 = .ok (.aaload, 1) := by decide +kernel
theorem dX6_skim_36 : decode cX6_skim 36 = .ok (.iconst 0, 1) := by decide +kernel
theorem dX6_skim_37 : decode cX6_skim 37 = .ok (.putfield 85, 3) := by decide +kernel
theorem dX6_skim_40 : decode cX6_skim 40 = .ok (.aload_n 0, 1) := by decide +kernel
theorem dX6_skim_41 : decode cX6_skim 41 = .ok (.dup, 1) := by decide +kernel
theorem dX6_skim_42 : decode cX6_skim 42 = .ok (.getfield 88, 3) := by decide +kernel
theorem dX6_skim_45 : decode cX6_skim 45 = .ok (.iload_n 2, 1) := by decide +kernel
theorem dX6_skim_46 : decode cX6_skim 46 = .ok (.iadd, 1) := by decide +kernel
theorem dX6_skim_47 : decode cX6_skim 47 = .ok (.putfield 88, 3) := by decide +kernel
theorem dX6_skim_50 : decode cX6_skim 50 = .ok (.iload_n 2, 1) := by decide +kernel
theorem dX6_skim_51 : decode cX6_skim 51 = .ok (.ireturn, 1) := by decide +kernel
set_option maxRecDepth 20000 in
theorem ggX6_drain_X6_isNoPond : GoodIn wsX6_drain wsX6_isNoPond := goodIn_r _ [12, 13, 14, 11, 15] (by decide +kernel) (by decide +kernel)
set_option maxRecDepth 20000 in
theorem gX6_drain_X6_isNoPond : GoodIn wsX6_drain (va_wsS RX6 47 yX6_isNoPond wsX6_isNoPond) := goodIn_app (goodIn_of _ (by decide +kernel)) ggX6_drain_X6_isNoPond
set_option maxRecDepth 20000 in
theorem ggX6_drain_X6_start : GoodIn wsX6_drain wsX6_start := goodIn_r _ [19, 20, 21, 22, 23, 11, 24, 32, 33, 34, 35, 36, 37, 38, 39, 40, 41, 42] (by decide +kernel) (by decide +kernel)
set_option maxRecDepth 20000 in
theorem gX6_drain_X6_start : GoodIn wsX6_drain (wsV RX6 51 RX6 yX6_start wsX6_start) := goodIn_app (goodIn_of _ (by decide +kernel)) ggX6_drain_X6_start
set_option maxRecDepth 20000 in
theorem ggX6_drain_X6_tideOf : GoodIn wsX6_drain wsX6_tideOf := goodIn_r _ [27, 28, 29, 30, 31] (by decide +kernel) (by decide +kernel)
set_option maxRecDepth 20000 in
theorem gX6_drain_X6_tideOf : GoodIn wsX6_drain (va_wsS RX6 94 yX6_tideOf wsX6_tideOf) := goodIn_app (goodIn_of _ (by decide +kernel)) ggX6_drain_X6_tideOf
set_option maxRecDepth 20000 in
theorem ggX6_drain_X6_refuse : GoodIn wsX6_drain wsX6_refuse := goodIn_r _ [24, 20, 32, 33, 34, 35, 36, 37, 38, 39, 40, 41, 42] (by decide +kernel) (by decide +kernel)
set_option maxRecDepth 20000 in
theorem gX6_drain_X6_refuse : GoodIn wsX6_drain (wsV RX6 35 RX6 yX6_refuse wsX6_refuse) := goodIn_app (goodIn_of _ (by decide +kernel)) ggX6_drain_X6_refuse
theorem dX6_drain_0 : decode cX6_drain 0 = .ok (.aload_n 0, 1) := by decide +kernel
theorem dX6_drain_1 : decode cX6_drain 1 = .ok (.iload_n 1, 1) := by decide +kernel
theorem dX6_drain_2 : decode cX6_drain 2 = .ok (.invokestatic 47, 3) := by decide +kernel
theorem dX6_drain_5 : decode cX6_drain 5 = .ok (.iconst 1, 1) := by decide +kernel
theorem dX6_drain_6 : decode cX6_drain 6 = .ok (.invokevirtual 51, 3) := by decide +kernel
theorem dX6_drain_9 : decode cX6_drain 9 = .ok (.ifCond .ne 45, 3) := by decide +kernel
theorem dX6_drain_12 : decode cX6_drain 12 = .ok (.aload_n 0, 1) := by decide +kernel
theorem dX6_drain_13 : decode cX6_drain 13 = .ok (.aload_n 0, 1) := by decide +kernel
theorem dX6_drain_14 : decode cX6_drain 14 = .ok (.getfield 18, 3) := by decide +kernel
theorem dX6_drain_17 : decode cX6_drain 17 = .ok (.getfield 57, 3) := by decide +kernel
theorem dX6_drain_20 : decode cX6_drain 20 = .ok (.iload_n 1, 1) := by decide +kernel
theorem dX6_drain_21 : decode cX6_drain 21 = .ok (.aaload, 1) := by decide +kernel
theorem dX6_drain_22 : decode cX6_drain 22 = .ok (.getfield 91, 3) := by decide +kernel
theorem dX6_drain_25 : decode cX6_drain 25 = .ok (.ifCond .eq 17, 3) := by decide +kernel
theorem dX6_drain_28 : decode cX6_drain 28 = .ok (.aload_n 0, 1) := by decide +kernel
theorem dX6_drain_29 : decode cX6_drain 29 = .ok (.getfield 18, 3) := by decide +kernel
theorem dX6_drain_32 : decode cX6_drain 32 = .ok (.getfield 54, 3) := by decide +kernel
theorem dX6_drain_35 : decode cX6_drain 35 = .ok (.invokestatic 94, 3) := by decide +kernel
theorem dX6_drain_38 : decode cX6_drain 38 = .ok (.iconst 4, 1) := by decide +kernel
theorem dX6_drain_39 : decode cX6_drain 39 = .ok (.if_icmp .le 7, 3) := by decide +kernel
theorem dX6_drain_42 : decode cX6_drain 42 = .ok (.iconst 1, 1) := by decide +kernel
theorem dX6_drain_43 : decode cX6_drain 43 = .ok (.goto 4, 3) := by decide +kernel
theorem dX6_drain_46 : decode cX6_drain 46 = .ok (.iconst 0, 1) := by decide +kernel
theorem dX6_drain_47 : decode cX6_drain 47 = .ok (.iconst 2, 1) := by decide +kernel
theorem dX6_drain_48 : decode cX6_drain 48 = .ok (.invokevirtual 35, 3) := by decide +kernel
theorem dX6_drain_51 : decode cX6_drain 51 = .ok (.ifCond .eq 5, 3) := by decide +kernel
theorem dX6_drain_54 : decode cX6_drain 54 = .ok (.iconst 0, 1) := by decide +kernel
theorem dX6_drain_55 : decode cX6_drain 55 = .ok (.ireturn, 1) := by decide +kernel
theorem dX6_drain_56 : decode cX6_drain 56 = .ok (.aload_n 0, 1) := by decide +kernel
theorem dX6_drain_57 : decode cX6_drain 57 = .ok (.getfield 18, 3) := by decide +kernel
theorem dX6_drain_60 : decode cX6_drain 60 = .ok (.getfield 57, 3) := by decide +kernel
theorem dX6_drain_63 : decode cX6_drain 63 = .ok (.iload_n 1, 1) := by decide +kernel
theorem dX6_drain_64 : decode cX6_drain 64 = .ok (.aaload, 1) := by decide +kernel
theorem dX6_drain_65 : decode cX6_drain 65 = .ok (.astore_n 2, 1) := by decide +kernel
theorem dX6_drain_66 : decode cX6_drain 66 = .ok (.aload_n 2, 1) := by decide +kernel
theorem dX6_drain_67 : decode cX6_drain 67 = .ok (.getfield 91, 3) := by decide +kernel
theorem dX6_drain_70 : decode cX6_drain 70 = .ok (.istore_n 3, 1) := by decide +kernel
theorem dX6_drain_71 : decode cX6_drain 71 = .ok (.aload_n 0, 1) := by decide +kernel
theorem dX6_drain_72 : decode cX6_drain 72 = .ok (.dup, 1) := by decide +kernel
theorem dX6_drain_73 : decode cX6_drain 73 = .ok (.getfield 97, 3) := by decide +kernel
theorem dX6_drain_76 : decode cX6_drain 76 = .ok (.aload_n 2, 1) := by decide +kernel
theorem dX6_drain_77 : decode cX6_drain 77 = .ok (.getfield 100, 3) := by decide +kernel
theorem dX6_drain_80 : decode cX6_drain 80 = .ok (.iadd, 1) := by decide +kernel
theorem dX6_drain_81 : decode cX6_drain 81 = .ok (.putfield 97, 3) := by decide +kernel
theorem dX6_drain_84 : decode cX6_drain 84 = .ok (.aload_n 2, 1) := by decide +kernel
theorem dX6_drain_85 : decode cX6_drain 85 = .ok (.iconst 0, 1) := by decide +kernel
theorem dX6_drain_86 : decode cX6_drain 86 = .ok (.putfield 91, 3) := by decide +kernel
theorem dX6_drain_89 : decode cX6_drain 89 = .ok (.aload_n 2, 1) := by decide +kernel
theorem dX6_drain_90 : decode cX6_drain 90 = .ok (.iconst 0, 1) := by decide +kernel
theorem dX6_drain_91 : decode cX6_drain 91 = .ok (.putfield 100, 3) := by decide +kernel
theorem dX6_drain_94 : decode cX6_drain 94 = .ok (.aload_n 2, 1) := by decide +kernel
theorem dX6_drain_95 : decode cX6_drain 95 = .ok (.iconst 0, 1) := by decide +kernel
theorem dX6_drain_96 : decode cX6_drain 96 = .ok (.putfield 103, 3) := by decide +kernel
theorem dX6_drain_99 : decode cX6_drain 99 = .ok (.aload_n 2, 1) := by decide +kernel
theorem dX6_drain_100 : decode cX6_drain 100 = .ok (.iconst 0, 1) := by decide +kernel
theorem dX6_drain_101 : decode cX6_drain 101 = .ok (.putfield 106, 3) := by decide +kernel
theorem dX6_drain_104 : decode cX6_drain 104 = .ok (.iload_n 3, 1) := by decide +kernel
theorem dX6_drain_105 : decode cX6_drain 105 = .ok (.ireturn, 1) := by decide +kernel
set_option maxRecDepth 20000 in
theorem ggX6_pump_X6_isNoPond : GoodIn wsX6_pump wsX6_isNoPond := goodIn_r _ [8, 9, 10, 7, 11] (by decide +kernel) (by decide +kernel)
set_option maxRecDepth 20000 in
theorem gX6_pump_X6_isNoPond : GoodIn wsX6_pump (va_wsS RX6 47 yX6_isNoPond wsX6_isNoPond) := goodIn_app (goodIn_of _ (by decide +kernel)) ggX6_pump_X6_isNoPond
set_option maxRecDepth 20000 in
theorem ggX6_pump_X6_start : GoodIn wsX6_pump wsX6_start := goodIn_r _ [15, 16, 17, 18, 19, 7, 20, 42, 43, 44, 45, 46, 47, 48, 49, 50, 51, 52] (by decide +kernel) (by decide +kernel)
set_option maxRecDepth 20000 in
theorem gX6_pump_X6_start : GoodIn wsX6_pump (wsV RX6 51 RX6 yX6_start wsX6_start) := goodIn_app (goodIn_of _ (by decide +kernel)) ggX6_pump_X6_start
set_option maxRecDepth 20000 in
theorem ggX6_pump_X6_refuse : GoodIn wsX6_pump wsX6_refuse := goodIn_r _ [20, 16, 42, 43, 44, 45, 46, 47, 48, 49, 50, 51, 52] (by decide +kernel) (by decide +kernel)
set_option maxRecDepth 20000 in
theorem gX6_pump_X6_refuse : GoodIn wsX6_pump (wsV RX6 35 RX6 yX6_refuse wsX6_refuse) := goodIn_app (goodIn_of _ (by decide +kernel)) ggX6_pump_X6_refuse
set_option maxRecDepth 20000 in
theorem ggX6_pump_X4_give : GoodIn wsX6_pump wsX4_give := goodIn_r _ [25, 26, 27, 28, 29, 30, 7, 31, 56, 57, 58, 59, 60, 61, 62, 63, 64, 65, 66] (by decide +kernel) (by decide +kernel)
set_option maxRecDepth 20000 in
theorem gX6_pump_X4_give : GoodIn wsX6_pump (wsV RX6 109 RX4 yX4_give wsX4_give) := goodIn_app (goodIn_of _ (by decide +kernel)) ggX6_pump_X4_give
set_option maxRecDepth 20000 in
theorem ggX6_pump_X4_strength : GoodIn wsX6_pump wsX4_strength := goodIn_r _ [35, 27, 36, 26, 29, 37, 38, 39, 40, 41, 56, 57, 58, 59, 60, 61, 62, 63, 64, 65, 66] (by decide +kernel) (by decide +kernel)
set_option maxRecDepth 20000 in
theorem gX6_pump_X4_strength : GoodIn wsX6_pump (wsV RX6 116 RX4 yX4_strength wsX4_strength) := goodIn_app (goodIn_of _ (by decide +kernel)) ggX6_pump_X4_strength
theorem dX6_pump_0 : decode cX6_pump 0 = .ok (.aload_n 0, 1) := by decide +kernel
theorem dX6_pump_1 : decode cX6_pump 1 = .ok (.iload_n 1, 1) := by decide +kernel
theorem dX6_pump_2 : decode cX6_pump 2 = .ok (.invokestatic 47, 3) := by decide +kernel
theorem dX6_pump_5 : decode cX6_pump 5 = .ok (.ifCond .ne 10, 3) := by decide +kernel
theorem dX6_pump_8 : decode cX6_pump 8 = .ok (.iload_n 2, 1) := by decide +kernel
theorem dX6_pump_9 : decode cX6_pump 9 = .ok (.invokestatic 47, 3) := by decide +kernel
theorem dX6_pump_12 : decode cX6_pump 12 = .ok (.ifCond .eq 7, 3) := by decide +kernel
theorem dX6_pump_15 : decode cX6_pump 15 = .ok (.iconst 1, 1) := by decide +kernel
theorem dX6_pump_16 : decode cX6_pump 16 = .ok (.goto 4, 3) := by decide +kernel
theorem dX6_pump_19 : decode cX6_pump 19 = .ok (.iconst 0, 1) := by decide +kernel
theorem dX6_pump_20 : decode cX6_pump 20 = .ok (.iconst 1, 1) := by decide +kernel
theorem dX6_pump_21 : decode cX6_pump 21 = .ok (.invokevirtual 51, 3) := by decide +kernel
theorem dX6_pump_24 : decode cX6_pump 24 = .ok (.ifCond .ne 55, 3) := by decide +kernel
theorem dX6_pump_27 : decode cX6_pump 27 = .ok (.aload_n 0, 1) := by decide +kernel
theorem dX6_pump_28 : decode cX6_pump 28 = .ok (.iload_n 1, 1) := by decide +kernel
theorem dX6_pump_29 : decode cX6_pump 29 = .ok (.iload_n 2, 1) := by decide +kernel
theorem dX6_pump_30 : decode cX6_pump 30 = .ok (.if_icmp .eq 8, 3) := by decide +kernel
theorem dX6_pump_33 : decode cX6_pump 33 = .ok (.iload_n 3, 1) := by decide +kernel
theorem dX6_pump_34 : decode cX6_pump 34 = .ok (.iconst 1, 1) := by decide +kernel
theorem dX6_pump_35 : decode cX6_pump 35 = .ok (.if_icmp .ge 7, 3) := by decide +kernel
theorem dX6_pump_38 : decode cX6_pump 38 = .ok (.iconst 1, 1) := by decide +kernel
theorem dX6_pump_39 : decode cX6_pump 39 = .ok (.goto 4, 3) := by decide +kernel
theorem dX6_pump_42 : decode cX6_pump 42 = .ok (.iconst 0, 1) := by decide +kernel
theorem dX6_pump_43 : decode cX6_pump 43 = .ok (.iconst 2, 1) := by decide +kernel
theorem dX6_pump_44 : decode cX6_pump 44 = .ok (.invokevirtual 35, 3) := by decide +kernel
theorem dX6_pump_47 : decode cX6_pump 47 = .ok (.ifCond .ne 32, 3) := by decide +kernel
theorem dX6_pump_50 : decode cX6_pump 50 = .ok (.aload_n 0, 1) := by decide +kernel
theorem dX6_pump_51 : decode cX6_pump 51 = .ok (.aload_n 0, 1) := by decide +kernel
theorem dX6_pump_52 : decode cX6_pump 52 = .ok (.getfield 18, 3) := by decide +kernel
theorem dX6_pump_55 : decode cX6_pump 55 = .ok (.getfield 57, 3) := by decide +kernel
theorem dX6_pump_58 : decode cX6_pump 58 = .ok (.iload_n 1, 1) := by decide +kernel
theorem dX6_pump_59 : decode cX6_pump 59 = .ok (.aaload, 1) := by decide +kernel
theorem dX6_pump_60 : decode cX6_pump 60 = .ok (.getfield 91, 3) := by decide +kernel
theorem dX6_pump_63 : decode cX6_pump 63 = .ok (.iload_n 3, 1) := by decide +kernel
theorem dX6_pump_64 : decode cX6_pump 64 = .ok (.if_icmp .ge 7, 3) := by decide +kernel
theorem dX6_pump_67 : decode cX6_pump 67 = .ok (.iconst 1, 1) := by decide +kernel
theorem dX6_pump_68 : decode cX6_pump 68 = .ok (.goto 4, 3) := by decide +kernel
theorem dX6_pump_71 : decode cX6_pump 71 = .ok (.iconst 0, 1) := by decide +kernel
theorem dX6_pump_72 : decode cX6_pump 72 = .ok (.iconst 3, 1) := by decide +kernel
theorem dX6_pump_73 : decode cX6_pump 73 = .ok (.invokevirtual 35, 3) := by decide +kernel
theorem dX6_pump_76 : decode cX6_pump 76 = .ok (.ifCond .eq 5, 3) := by decide +kernel
theorem dX6_pump_79 : decode cX6_pump 79 = .ok (.iconst 0, 1) := by decide +kernel
theorem dX6_pump_80 : decode cX6_pump 80 = .ok (.ireturn, 1) := by decide +kernel
theorem dX6_pump_81 : decode cX6_pump 81 = .ok (.aload_n 0, 1) := by decide +kernel
theorem dX6_pump_82 : decode cX6_pump 82 = .ok (.getfield 18, 3) := by decide +kernel
theorem dX6_pump_85 : decode cX6_pump 85 = .ok (.getfield 57, 3) := by decide +kernel
theorem dX6_pump_88 : decode cX6_pump 88 = .ok (.iload_n 1, 1) := by decide +kernel
theorem dX6_pump_89 : decode cX6_pump 89 = .ok (.aaload, 1) := by decide +kernel
theorem dX6_pump_90 : decode cX6_pump 90 = .ok (.iload_n 3, 1) := by decide +kernel
theorem dX6_pump_91 : decode cX6_pump 91 = .ok (.aload_n 0, 1) := by decide +kernel
theorem dX6_pump_92 : decode cX6_pump 92 = .ok (.getfield 18, 3) := by decide +kernel
theorem dX6_pump_95 : decode cX6_pump 95 = .ok (.getfield 57, 3) := by decide +kernel
theorem dX6_pump_98 : decode cX6_pump 98 = .ok (.iload_n 2, 1) := by decide +kernel
theorem dX6_pump_99 : decode cX6_pump 99 = .ok (.aaload, 1) := by decide +kernel
theorem dX6_pump_100 : decode cX6_pump 100 = .ok (.invokevirtual 109, 3) := by decide +kernel
theorem dX6_pump_103 : decode cX6_pump 103 = .ok (.aload_n 0, 1) := by decide +kernel
theorem dX6_pump_104 : decode cX6_pump 104 = .ok (.dup, 1) := by decide +kernel
theorem dX6_pump_105 : decode cX6_pump 105 = .ok (.getfield 113, 3) := by decide +kernel
theorem dX6_pump_108 : decode cX6_pump 108 = .ok (.iload_n 3, 1) := by decide +kernel
theorem dX6_pump_109 : decode cX6_pump 109 = .ok (.bipush 9, 2) := by decide +kernel
theorem dX6_pump_111 : decode cX6_pump 111 = .ok (.iadd, 1) := by decide +kernel
theorem dX6_pump_112 : decode cX6_pump 112 = .ok (.bipush 10, 2) := by decide +kernel
theorem dX6_pump_114 : decode cX6_pump 114 = .ok (.idiv, 1) := by decide +kernel
theorem dX6_pump_115 : decode cX6_pump 115 = .ok (.isub, 1) := by decide +kernel
theorem dX6_pump_116 : decode cX6_pump 116 = .ok (.putfield 113, 3) := by decide +kernel
theorem dX6_pump_119 : decode cX6_pump 119 = .ok (.aload_n 0, 1) := by decide +kernel
theorem dX6_pump_120 : decode cX6_pump 120 = .ok (.getfield 18, 3) := by decide +kernel
theorem dX6_pump_123 : decode cX6_pump 123 = .ok (.getfield 57, 3) := by decide +kernel
theorem dX6_pump_126 : decode cX6_pump 126 = .ok (.iload_n 2, 1) := by decide +kernel
theorem dX6_pump_127 : decode cX6_pump 127 = .ok (.aaload, 1) := by decide +kernel
theorem dX6_pump_128 : decode cX6_pump 128 = .ok (.invokevirtual 116, 3) := by decide +kernel
theorem dX6_pump_131 : decode cX6_pump 131 = .ok (.ireturn, 1) := by decide +kernel
set_option maxRecDepth 20000 in
theorem ggX6_family_Jx4a65c_size_8abf5 : GoodIn wsX6_family wsJx4a65c_size_8abf5 := goodIn_r _ [7, 8, 84, 85, 86] (by decide +kernel) (by decide +kernel)
set_option maxRecDepth 20000 in
theorem gX6_family_Jx4a65c_size_8abf5 : GoodIn wsX6_family (wsV RX6 43 RJx4a65c yJx4a65c_size_8abf5 wsJx4a65c_size_8abf5) := goodIn_app (goodIn_of _ (by decide +kernel)) ggX6_family_Jx4a65c_size_8abf5
set_option maxRecDepth 20000 in
theorem ggX6_family_X6_start : GoodIn wsX6_family wsX6_start := goodIn_r _ [13, 14, 15, 16, 17, 12, 18, 73, 74, 75, 76, 77, 78, 79, 80, 81, 82, 83] (by decide +kernel) (by decide +kernel)
set_option maxRecDepth 20000 in
theorem gX6_family_X6_start : GoodIn wsX6_family (wsV RX6 51 RX6 yX6_start wsX6_start) := goodIn_app (goodIn_of _ (by decide +kernel)) ggX6_family_X6_start
set_option maxRecDepth 20000 in
theorem ggX6_family_Jx4a65c_add_9ea2d : GoodIn wsX6_family wsJx4a65c_add_9ea2d := goodIn_r _ [22, 23, 24, 25, 8, 26, 27, 28, 6, 29, 30, 31, 32, 33, 34, 35, 36, 37, 38, 39, 40, 41, 42, 43, 44, 45, 46, 47, 48, 49, 50, 51, 52, 53, 54, 55, 56, 57, 58, 59, 60, 61, 62, 63, 64, 65, 66, 67, 68, 69, 70, 71, 72, 84, 85, 86] (by decide +kernel) (by decide +kernel)
set_option maxRecDepth 20000 in
theorem gX6_family_Jx4a65c_add_9ea2d : GoodIn wsX6_family (wsV RX6 119 RJx4a65c yJx4a65c_add_9ea2d wsJx4a65c_add_9ea2d) := goodIn_app (goodIn_of _ (by decide +kernel)) ggX6_family_Jx4a65c_add_9ea2d
theorem dX6_family_0 : decode cX6_family 0 = .ok (.aload_n 0, 1) := by decide +kernel
theorem dX6_family_1 : decode cX6_family 1 = .ok (.aload_n 0, 1) := by decide +kernel
theorem dX6_family_2 : decode cX6_family 2 = .ok (.getfield 27, 3) := by decide +kernel
theorem dX6_family_5 : decode cX6_family 5 = .ok (.invokevirtual 43, 3) := by decide +kernel
theorem dX6_family_8 : decode cX6_family 8 = .ok (.bipush 6, 2) := by decide +kernel
theorem dX6_family_10 : decode cX6_family 10 = .ok (.if_icmp .ne 7, 3) := by decide +kernel
theorem dX6_family_13 : decode cX6_family 13 = .ok (.iconst 1, 1) := by decide +kernel
theorem dX6_family_14 : decode cX6_family 14 = .ok (.goto 4, 3) := by decide +kernel
theorem dX6_family_17 : decode cX6_family 17 = .ok (.iconst 0, 1) := by decide +kernel
theorem dX6_family_18 : decode cX6_family 18 = .ok (.iconst 1, 1) := by decide +kernel
theorem dX6_family_19 : decode cX6_family 19 = .ok (.invokevirtual 51, 3) := by decide +kernel
theorem dX6_family_22 : decode cX6_family 22 = .ok (.ifCond .eq 5, 3) := by decide +kernel
theorem dX6_family_25 : decode cX6_family 25 = .ok (.iconst 0, 1) := by decide +kernel
theorem dX6_family_26 : decode cX6_family 26 = .ok (.ireturn, 1) := by decide +kernel
theorem dX6_family_27 : decode cX6_family 27 = .ok (.aload_n 0, 1) := by decide +kernel
theorem dX6_family_28 : decode cX6_family 28 = .ok (.getfield 27, 3) := by decide +kernel
theorem dX6_family_31 : decode cX6_family 31 = .ok (.bipush 8, 2) := by decide +kernel
theorem dX6_family_33 : decode cX6_family 33 = .ok (.newarray .int, 2) := by decide +kernel
theorem dX6_family_35 : decode cX6_family 35 = .ok (.invokevirtual 119, 3) := by decide +kernel
theorem dX6_family_38 : decode cX6_family 38 = .ok (.pop, 1) := by decide +kernel
theorem dX6_family_39 : decode cX6_family 39 = .ok (.aload_n 0, 1) := by decide +kernel
theorem dX6_family_40 : decode cX6_family 40 = .ok (.getfield 27, 3) := by decide +kernel
theorem dX6_family_43 : decode cX6_family 43 = .ok (.invokevirtual 43, 3) := by decide +kernel
theorem dX6_family_46 : decode cX6_family 46 = .ok (.iconst 1, 1) := by decide +kernel
theorem dX6_family_47 : decode cX6_family 47 = .ok (.isub, 1) := by decide +kernel
theorem dX6_family_48 : decode cX6_family 48 = .ok (.ireturn, 1) := by decide +kernel
set_option maxRecDepth 20000 in
theorem ggX6_right_X6_isNoFamily : GoodIn wsX6_right wsX6_isNoFamily := goodIn_r _ [7, 1, 8, 9, 10, 11, 12, 13, 14, 15, 6, 16, 78, 79, 80, 81, 82, 83, 84, 85, 86, 87, 88, 89, 90, 91] (by decide +kernel) (by decide +kernel)
set_option maxRecDepth 20000 in
theorem gX6_right_X6_isNoFamily : GoodIn wsX6_right (wsV RX6 123 RX6 yX6_isNoFamily wsX6_isNoFamily) := goodIn_app (goodIn_of _ (by decide +kernel)) ggX6_right_X6_isNoFamily
set_option maxRecDepth 20000 in
theorem ggX6_right_X6_isNoPan : GoodIn wsX6_right wsX6_isNoPan := goodIn_r _ [19, 14, 15, 6, 16] (by decide +kernel) (by decide +kernel)
set_option maxRecDepth 20000 in
theorem gX6_right_X6_isNoPan : GoodIn wsX6_right (va_wsS RX6 70 yX6_isNoPan wsX6_isNoPan) := goodIn_app (goodIn_of _ (by decide +kernel)) ggX6_right_X6_isNoPan
set_option maxRecDepth 20000 in
theorem ggX6_right_X6_start : GoodIn wsX6_right wsX6_start := goodIn_r _ [23, 24, 25, 26, 27, 6, 28, 78, 79, 80, 81, 82, 83, 84, 85, 86, 87, 88] (by decide +kernel) (by decide +kernel)
set_option maxRecDepth 20000 in
theorem gX6_right_X6_start : GoodIn wsX6_right (wsV RX6 51 RX6 yX6_start wsX6_start) := goodIn_app (goodIn_of _ (by decide +kernel)) ggX6_right_X6_start
set_option maxRecDepth 20000 in
theorem ggX6_right_X6_isIn : GoodIn wsX6_right wsX6_isIn := goodIn_r _ [16] (by decide +kernel) (by decide +kernel)
set_option maxRecDepth 20000 in
theorem gX6_right_X6_isIn : GoodIn wsX6_right (va_wsS RX6 39 yX6_isIn wsX6_isIn) := goodIn_app (goodIn_of _ (by decide +kernel)) ggX6_right_X6_isIn
set_option maxRecDepth 20000 in
theorem ggX6_right_X6_refuse : GoodIn wsX6_right wsX6_refuse := goodIn_r _ [28, 24, 78, 79, 80, 81, 82, 83, 84, 85, 86, 87, 88] (by decide +kernel) (by decide +kernel)
set_option maxRecDepth 20000 in
theorem gX6_right_X6_refuse : GoodIn wsX6_right (wsV RX6 35 RX6 yX6_refuse wsX6_refuse) := goodIn_app (goodIn_of _ (by decide +kernel)) ggX6_right_X6_refuse
set_option maxRecDepth 20000 in
theorem ggX6_right_Jx4a65c_get_915e3 : GoodIn wsX6_right wsJx4a65c_get_915e3 := goodIn_r _ [32, 13, 33, 34, 35, 36, 37, 38, 39, 40, 41, 42, 43, 11, 44, 45, 89, 90, 91] (by decide +kernel) (by decide +kernel)
set_option maxRecDepth 20000 in
theorem gX6_right_Jx4a65c_get_915e3 : GoodIn wsX6_right (wsV RX6 126 RJx4a65c yJx4a65c_get_915e3 wsJx4a65c_get_915e3) := goodIn_app (goodIn_of _ (by decide +kernel)) ggX6_right_Jx4a65c_get_915e3
set_option maxRecDepth 20000 in
theorem ggX6_right_Jx4a65c_iterator_32c93 : GoodIn wsX6_right wsJx4a65c_iterator_32c93 := goodIn_r _ [49, 50, 51, 52, 53, 54, 55, 56, 57, 58, 59, 60, 61, 62, 63, 92, 93, 94, 95, 89, 90, 91] (by decide +kernel) (by decide +kernel)
set_option maxRecDepth 20000 in
theorem gX6_right_Jx4a65c_iterator_32c93 : GoodIn wsX6_right (wsV RX6 132 RJx4a65c yJx4a65c_iterator_32c93 wsJx4a65c_iterator_32c93) := goodIn_app (goodIn_of _ (by decide +kernel)) ggX6_right_Jx4a65c_iterator_32c93
set_option maxRecDepth 20000 in
theorem ggX6_right_Jx35411_hasNext_aae02 : GoodIn wsX6_right wsJx35411_hasNext_aae02 := goodIn_r _ [67, 68, 56, 92, 93, 94, 95, 89, 90, 91] (by decide +kernel) (by decide +kernel)
set_option maxRecDepth 20000 in
theorem gX6_right_Jx35411_hasNext_aae02_f136Jx35411 : GoodIn wsX6_right (va_wsF RX6 136 RJx35411 ⟨"java/util/Iterator", "hasNext", "()Z"⟩ yJx35411_hasNext_aae02 wsJx35411_hasNext_aae02) := goodIn_app (goodIn_of _ (by decide +kernel)) ggX6_right_Jx35411_hasNext_aae02
set_option maxRecDepth 20000 in
theorem ggX6_right_Jx35411_next_0502b : GoodIn wsX6_right wsJx35411_next_0502b := goodIn_r _ [72, 68, 56, 73, 60, 74, 75, 76, 52, 77, 61, 62, 63, 92, 93, 94, 95, 89, 90, 91] (by decide +kernel) (by decide +kernel)
set_option maxRecDepth 20000 in
theorem gX6_right_Jx35411_next_0502b_f142Jx35411 : GoodIn wsX6_right (va_wsF RX6 142 RJx35411 ⟨"java/util/Iterator", "next", "()Ljava/lang/Object;"⟩ yJx35411_next_0502b wsJx35411_next_0502b) := goodIn_app (goodIn_of _ (by decide +kernel)) ggX6_right_Jx35411_next_0502b
theorem dX6_right_0 : decode cX6_right 0 = .ok (.aload_n 0, 1) := by decide +kernel
theorem dX6_right_1 : decode cX6_right 1 = .ok (.aload_n 0, 1) := by decide +kernel
theorem dX6_right_2 : decode cX6_right 2 = .ok (.iload_n 1, 1) := by decide +kernel
theorem dX6_right_3 : decode cX6_right 3 = .ok (.invokevirtual 123, 3) := by decide +kernel
theorem dX6_right_6 : decode cX6_right 6 = .ok (.ifCond .ne 10, 3) := by decide +kernel
theorem dX6_right_9 : decode cX6_right 9 = .ok (.iload_n 2, 1) := by decide +kernel
theorem dX6_right_10 : decode cX6_right 10 = .ok (.invokestatic 70, 3) := by decide +kernel
theorem dX6_right_13 : decode cX6_right 13 = .ok (.ifCond .eq 7, 3) := by decide +kernel
theorem dX6_right_16 : decode cX6_right 16 = .ok (.iconst 1, 1) := by decide +kernel
theorem dX6_right_17 : decode cX6_right 17 = .ok (.goto 4, 3) := by decide +kernel
theorem dX6_right_20 : decode cX6_right 20 = .ok (.iconst 0, 1) := by decide +kernel
theorem dX6_right_21 : decode cX6_right 21 = .ok (.iconst 1, 1) := by decide +kernel
theorem dX6_right_22 : decode cX6_right 22 = .ok (.invokevirtual 51, 3) := by decide +kernel
theorem dX6_right_25 : decode cX6_right 25 = .ok (.ifCond .ne 26, 3) := by decide +kernel
theorem dX6_right_28 : decode cX6_right 28 = .ok (.aload_n 0, 1) := by decide +kernel
theorem dX6_right_29 : decode cX6_right 29 = .ok (.iload_n 3, 1) := by decide +kernel
theorem dX6_right_30 : decode cX6_right 30 = .ok (.iconst 0, 1) := by decide +kernel
theorem dX6_right_31 : decode cX6_right 31 = .ok (.bipush 12, 2) := by decide +kernel
theorem dX6_right_33 : decode cX6_right 33 = .ok (.invokestatic 39, 3) := by decide +kernel
theorem dX6_right_36 : decode cX6_right 36 = .ok (.ifCond .ne 7, 3) := by decide +kernel
theorem dX6_right_39 : decode cX6_right 39 = .ok (.iconst 1, 1) := by decide +kernel
theorem dX6_right_40 : decode cX6_right 40 = .ok (.goto 4, 3) := by decide +kernel
theorem dX6_right_43 : decode cX6_right 43 = .ok (.iconst 0, 1) := by decide +kernel
theorem dX6_right_44 : decode cX6_right 44 = .ok (.iconst 2, 1) := by decide +kernel
theorem dX6_right_45 : decode cX6_right 45 = .ok (.invokevirtual 35, 3) := by decide +kernel
theorem dX6_right_48 : decode cX6_right 48 = .ok (.ifCond .eq 5, 3) := by decide +kernel
theorem dX6_right_51 : decode cX6_right 51 = .ok (.iconst 0, 1) := by decide +kernel
theorem dX6_right_52 : decode cX6_right 52 = .ok (.ireturn, 1) := by decide +kernel
theorem dX6_right_53 : decode cX6_right 53 = .ok (.aload_n 0, 1) := by decide +kernel
theorem dX6_right_54 : decode cX6_right 54 = .ok (.getfield 27, 3) := by decide +kernel
theorem dX6_right_57 : decode cX6_right 57 = .ok (.iload_n 1, 1) := by decide +kernel
theorem dX6_right_58 : decode cX6_right 58 = .ok (.invokevirtual 126, 3) := by decide +kernel
theorem dX6_right_61 : decode cX6_right 61 = .ok (.checkcast 130, 3) := by decide +kernel
theorem dX6_right_64 : decode cX6_right 64 = .ok (.iload_n 2, 1) := by decide +kernel
theorem dX6_right_65 : decode cX6_right 65 = .ok (.iaload, 1) := by decide +kernel
theorem dX6_right_66 : decode cX6_right 66 = .ok (.istore 4, 2) := by decide +kernel
theorem dX6_right_68 : decode cX6_right 68 = .ok (.iload_n 3, 1) := by decide +kernel
theorem dX6_right_69 : decode cX6_right 69 = .ok (.iload 4, 2) := by decide +kernel
theorem dX6_right_71 : decode cX6_right 71 = .ok (.isub, 1) := by decide +kernel
theorem dX6_right_72 : decode cX6_right 72 = .ok (.istore 5, 2) := by decide +kernel
theorem dX6_right_74 : decode cX6_right 74 = .ok (.aload_n 0, 1) := by decide +kernel
theorem dX6_right_75 : decode cX6_right 75 = .ok (.getfield 27, 3) := by decide +kernel
theorem dX6_right_78 : decode cX6_right 78 = .ok (.invokevirtual 132, 3) := by decide +kernel
theorem dX6_right_81 : decode cX6_right 81 = .ok (.astore 6, 2) := by decide +kernel
theorem dX6_right_83 : decode cX6_right 83 = .ok (.aload 6, 2) := by decide +kernel
theorem dX6_right_85 : decode cX6_right 85 = .ok (.invokeinterface 136 1, 5) := by decide +kernel
theorem dX6_right_90 : decode cX6_right 90 = .ok (.ifCond .eq 27, 3) := by decide +kernel
theorem dX6_right_93 : decode cX6_right 93 = .ok (.aload 6, 2) := by decide +kernel
theorem dX6_right_95 : decode cX6_right 95 = .ok (.invokeinterface 142 1, 5) := by decide +kernel
theorem dX6_right_100 : decode cX6_right 100 = .ok (.checkcast 130, 3) := by decide +kernel
theorem dX6_right_103 : decode cX6_right 103 = .ok (.astore 7, 2) := by decide +kernel
theorem dX6_right_105 : decode cX6_right 105 = .ok (.iload 5, 2) := by decide +kernel
theorem dX6_right_107 : decode cX6_right 107 = .ok (.aload 7, 2) := by decide +kernel
theorem dX6_right_109 : decode cX6_right 109 = .ok (.iload_n 2, 1) := by decide +kernel
theorem dX6_right_110 : decode cX6_right 110 = .ok (.iaload, 1) := by decide +kernel
theorem dX6_right_111 : decode cX6_right 111 = .ok (.iadd, 1) := by decide +kernel
theorem dX6_right_112 : decode cX6_right 112 = .ok (.istore 5, 2) := by decide +kernel
theorem dX6_right_114 : decode cX6_right 114 = .ok (.goto (-31), 3) := by decide +kernel
theorem dX6_right_117 : decode cX6_right 117 = .ok (.aload_n 0, 1) := by decide +kernel
theorem dX6_right_118 : decode cX6_right 118 = .ok (.iload 5, 2) := by decide +kernel
theorem dX6_right_120 : decode cX6_right 120 = .ok (.bipush 12, 2) := by decide +kernel
theorem dX6_right_122 : decode cX6_right 122 = .ok (.if_icmp .le 7, 3) := by decide +kernel
theorem dX6_right_125 : decode cX6_right 125 = .ok (.iconst 1, 1) := by decide +kernel
theorem dX6_right_126 : decode cX6_right 126 = .ok (.goto 4, 3) := by decide +kernel
theorem dX6_right_129 : decode cX6_right 129 = .ok (.iconst 0, 1) := by decide +kernel
theorem dX6_right_130 : decode cX6_right 130 = .ok (.iconst 3, 1) := by decide +kernel
theorem dX6_right_131 : decode cX6_right 131 = .ok (.invokevirtual 35, 3) := by decide +kernel
theorem dX6_right_134 : decode cX6_right 134 = .ok (.ifCond .eq 5, 3) := by decide +kernel
theorem dX6_right_137 : decode cX6_right 137 = .ok (.iconst 0, 1) := by decide +kernel
theorem dX6_right_138 : decode cX6_right 138 = .ok (.ireturn, 1) := by decide +kernel
theorem dX6_right_139 : decode cX6_right 139 = .ok (.aload_n 0, 1) := by decide +kernel
theorem dX6_right_140 : decode cX6_right 140 = .ok (.getfield 27, 3) := by decide +kernel
theorem dX6_right_143 : decode cX6_right 143 = .ok (.iload_n 1, 1) := by decide +kernel
theorem dX6_right_144 : decode cX6_right 144 = .ok (.invokevirtual 126, 3) := by decide +kernel
theorem dX6_right_147 : decode cX6_right 147 = .ok (.checkcast 130, 3) := by decide +kernel
theorem dX6_right_150 : decode cX6_right 150 = .ok (.iload_n 2, 1) := by decide +kernel
theorem dX6_right_151 : decode cX6_right 151 = .ok (.iload_n 3, 1) := by decide +kernel
theorem dX6_right_152 : decode cX6_right 152 = .ok (.iastore, 1) := by decide +kernel
theorem dX6_right_153 : decode cX6_right 153 = .ok (.iload 4, 2) := by decide +kernel
theorem dX6_right_155 : decode cX6_right 155 = .ok (.ireturn, 1) := by decide +kernel
set_option maxRecDepth 20000 in
theorem ggX6_deal_Jx4a65c_iterator_32c93 : GoodIn wsX6_deal wsJx4a65c_iterator_32c93 := goodIn_r _ [9, 10, 11, 12, 13, 14, 15, 16, 17, 18, 19, 20, 21, 22, 23, 53, 54, 55, 56, 57, 58, 59] (by decide +kernel) (by decide +kernel)
set_option maxRecDepth 20000 in
theorem gX6_deal_Jx4a65c_iterator_32c93 : GoodIn wsX6_deal (wsV RX6 132 RJx4a65c yJx4a65c_iterator_32c93 wsJx4a65c_iterator_32c93) := goodIn_app (goodIn_of _ (by decide +kernel)) ggX6_deal_Jx4a65c_iterator_32c93
set_option maxRecDepth 20000 in
theorem ggX6_deal_Jx35411_hasNext_aae02 : GoodIn wsX6_deal wsJx35411_hasNext_aae02 := goodIn_r _ [27, 28, 16, 53, 54, 55, 56, 57, 58, 59] (by decide +kernel) (by decide +kernel)
set_option maxRecDepth 20000 in
theorem gX6_deal_Jx35411_hasNext_aae02_f136Jx35411 : GoodIn wsX6_deal (va_wsF RX6 136 RJx35411 ⟨"java/util/Iterator", "hasNext", "()Z"⟩ yJx35411_hasNext_aae02 wsJx35411_hasNext_aae02) := goodIn_app (goodIn_of _ (by decide +kernel)) ggX6_deal_Jx35411_hasNext_aae02
set_option maxRecDepth 20000 in
theorem ggX6_deal_Jx35411_next_0502b : GoodIn wsX6_deal wsJx35411_next_0502b := goodIn_r _ [32, 28, 16, 33, 20, 34, 35, 36, 12, 37, 21, 22, 23, 53, 54, 55, 56, 57, 58, 59] (by decide +kernel) (by decide +kernel)
set_option maxRecDepth 20000 in
theorem gX6_deal_Jx35411_next_0502b_f142Jx35411 : GoodIn wsX6_deal (va_wsF RX6 142 RJx35411 ⟨"java/util/Iterator", "next", "()Ljava/lang/Object;"⟩ yJx35411_next_0502b wsJx35411_next_0502b) := goodIn_app (goodIn_of _ (by decide +kernel)) ggX6_deal_Jx35411_next_0502b
set_option maxRecDepth 20000 in
theorem ggX6_deal_X6_share : GoodIn wsX6_deal wsX6_share := goodIn_r _ [41] (by decide +kernel) (by decide +kernel)
set_option maxRecDepth 20000 in
theorem gX6_deal_X6_share : GoodIn wsX6_deal (va_wsS RX6 146 yX6_share wsX6_share) := goodIn_app (goodIn_of _ (by decide +kernel)) ggX6_deal_X6_share
theorem dX6_deal_0 : decode cX6_deal 0 = .ok (.iload_n 2, 1) := by decide +kernel
theorem dX6_deal_1 : decode cX6_deal 1 = .ok (.istore 4, 2) := by decide +kernel
theorem dX6_deal_3 : decode cX6_deal 3 = .ok (.iload_n 3, 1) := by decide +kernel
theorem dX6_deal_4 : decode cX6_deal 4 = .ok (.istore 5, 2) := by decide +kernel
theorem dX6_deal_6 : decode cX6_deal 6 = .ok (.aload_n 0, 1) := by decide +kernel
theorem dX6_deal_7 : decode cX6_deal 7 = .ok (.getfield 27, 3) := by decide +kernel
theorem dX6_deal_10 : decode cX6_deal 10 = .ok (.invokevirtual 132, 3) := by decide +kernel
theorem dX6_deal_13 : decode cX6_deal 13 = .ok (.astore 6, 2) := by decide +kernel
theorem dX6_deal_15 : decode cX6_deal 15 = .ok (.aload 6, 2) := by decide +kernel
theorem dX6_deal_17 : decode cX6_deal 17 = .ok (.invokeinterface 136 1, 5) := by decide +kernel
theorem dX6_deal_22 : decode cX6_deal 22 = .ok (.ifCond .eq 83, 3) := by decide +kernel
theorem dX6_deal_25 : decode cX6_deal 25 = .ok (.aload 6, 2) := by decide +kernel
theorem dX6_deal_27 : decode cX6_deal 27 = .ok (.invokeinterface 142 1, 5) := by decide +kernel
theorem dX6_deal_32 : decode cX6_deal 32 = .ok (.checkcast 130, 3) := by decide +kernel
theorem dX6_deal_35 : decode cX6_deal 35 = .ok (.astore 7, 2) := by decide +kernel
theorem dX6_deal_37 : decode cX6_deal 37 = .ok (.iload_n 2, 1) := by decide +kernel
theorem dX6_deal_38 : decode cX6_deal 38 = .ok (.aload 7, 2) := by decide +kernel
theorem dX6_deal_40 : decode cX6_deal 40 = .ok (.iload_n 1, 1) := by decide +kernel
theorem dX6_deal_41 : decode cX6_deal 41 = .ok (.iaload, 1) := by decide +kernel
theorem dX6_deal_42 : decode cX6_deal 42 = .ok (.bipush 12, 2) := by decide +kernel
theorem dX6_deal_44 : decode cX6_deal 44 = .ok (.invokestatic 146, 3) := by decide +kernel
theorem dX6_deal_47 : decode cX6_deal 47 = .ok (.istore 8, 2) := by decide +kernel
theorem dX6_deal_49 : decode cX6_deal 49 = .ok (.iload_n 3, 1) := by decide +kernel
theorem dX6_deal_50 : decode cX6_deal 50 = .ok (.aload 7, 2) := by decide +kernel
theorem dX6_deal_52 : decode cX6_deal 52 = .ok (.iload_n 1, 1) := by decide +kernel
theorem dX6_deal_53 : decode cX6_deal 53 = .ok (.iaload, 1) := by decide +kernel
theorem dX6_deal_54 : decode cX6_deal 54 = .ok (.bipush 12, 2) := by decide +kernel
theorem dX6_deal_56 : decode cX6_deal 56 = .ok (.invokestatic 146, 3) := by decide +kernel
theorem dX6_deal_59 : decode cX6_deal 59 = .ok (.istore 9, 2) := by decide +kernel
theorem dX6_deal_61 : decode cX6_deal 61 = .ok (.aload 7, 2) := by decide +kernel
theorem dX6_deal_63 : decode cX6_deal 63 = .ok (.iconst 0, 1) := by decide +kernel
theorem dX6_deal_64 : decode cX6_deal 64 = .ok (.dup2, 1) := by decide +kernel
theorem dX6_deal_65 : decode cX6_deal 65 = .ok (.iaload, 1) := by decide +kernel
theorem dX6_deal_66 : decode cX6_deal 66 = .ok (.iload 8, 2) := by decide +kernel
theorem dX6_deal_68 : decode cX6_deal 68 = .ok (.iadd, 1) := by decide +kernel
theorem dX6_deal_69 : decode cX6_deal 69 = .ok (.iastore, 1) := by decide +kernel
theorem dX6_deal_70 : decode cX6_deal 70 = .ok (.aload 7, 2) := by decide +kernel
theorem dX6_deal_72 : decode cX6_deal 72 = .ok (.iconst 1, 1) := by decide +kernel
theorem dX6_deal_73 : decode cX6_deal 73 = .ok (.dup2, 1) := by decide +kernel
theorem dX6_deal_74 : decode cX6_deal 74 = .ok (.iaload, 1) := by decide +kernel
theorem dX6_deal_75 : decode cX6_deal 75 = .ok (.iload 9, 2) := by decide +kernel
theorem dX6_deal_77 : decode cX6_deal 77 = .ok (.iadd, 1) := by decide +kernel
theorem dX6_deal_78 : decode cX6_deal 78 = .ok (.iastore, 1) := by decide +kernel
theorem dX6_deal_79 : decode cX6_deal 79 = .ok (.aload 7, 2) := by decide +kernel
theorem dX6_deal_81 : decode cX6_deal 81 = .ok (.iconst 3, 1) := by decide +kernel
theorem dX6_deal_82 : decode cX6_deal 82 = .ok (.dup2, 1) := by decide +kernel
theorem dX6_deal_83 : decode cX6_deal 83 = .ok (.iaload, 1) := by decide +kernel
theorem dX6_deal_84 : decode cX6_deal 84 = .ok (.iload 8, 2) := by decide +kernel
theorem dX6_deal_86 : decode cX6_deal 86 = .ok (.iadd, 1) := by decide +kernel
theorem dX6_deal_87 : decode cX6_deal 87 = .ok (.iastore, 1) := by decide +kernel
theorem dX6_deal_88 : decode cX6_deal 88 = .ok (.iload 4, 2) := by decide +kernel
theorem dX6_deal_90 : decode cX6_deal 90 = .ok (.iload 8, 2) := by decide +kernel
theorem dX6_deal_92 : decode cX6_deal 92 = .ok (.isub, 1) := by decide +kernel
theorem dX6_deal_93 : decode cX6_deal 93 = .ok (.istore 4, 2) := by decide +kernel
theorem dX6_deal_95 : decode cX6_deal 95 = .ok (.iload 5, 2) := by decide +kernel
theorem dX6_deal_97 : decode cX6_deal 97 = .ok (.iload 9, 2) := by decide +kernel
theorem dX6_deal_99 : decode cX6_deal 99 = .ok (.isub, 1) := by decide +kernel
theorem dX6_deal_100 : decode cX6_deal 100 = .ok (.istore 5, 2) := by decide +kernel
theorem dX6_deal_102 : decode cX6_deal 102 = .ok (.goto (-87), 3) := by decide +kernel
theorem dX6_deal_105 : decode cX6_deal 105 = .ok (.aload_n 0, 1) := by decide +kernel
theorem dX6_deal_106 : decode cX6_deal 106 = .ok (.dup, 1) := by decide +kernel
theorem dX6_deal_107 : decode cX6_deal 107 = .ok (.getfield 150, 3) := by decide +kernel
theorem dX6_deal_110 : decode cX6_deal 110 = .ok (.iload 4, 2) := by decide +kernel
theorem dX6_deal_112 : decode cX6_deal 112 = .ok (.iadd, 1) := by decide +kernel
theorem dX6_deal_113 : decode cX6_deal 113 = .ok (.putfield 150, 3) := by decide +kernel
theorem dX6_deal_116 : decode cX6_deal 116 = .ok (.aload_n 0, 1) := by decide +kernel
theorem dX6_deal_117 : decode cX6_deal 117 = .ok (.dup, 1) := by decide +kernel
theorem dX6_deal_118 : decode cX6_deal 118 = .ok (.getfield 153, 3) := by decide +kernel
theorem dX6_deal_121 : decode cX6_deal 121 = .ok (.iload 5, 2) := by decide +kernel
theorem dX6_deal_123 : decode cX6_deal 123 = .ok (.iadd, 1) := by decide +kernel
theorem dX6_deal_124 : decode cX6_deal 124 = .ok (.putfield 153, 3) := by decide +kernel
theorem dX6_deal_127 : decode cX6_deal 127 = .ok (.return_, 1) := by decide +kernel
set_option maxRecDepth 20000 in
theorem ggX6_harvestOf_X6_share : GoodIn wsX6_harvestOf wsX6_share := goodIn_r _ [14] (by decide +kernel) (by decide +kernel)
set_option maxRecDepth 20000 in
theorem gX6_harvestOf_X6_share : GoodIn wsX6_harvestOf (va_wsS RX6 146 yX6_share wsX6_share) := goodIn_app (goodIn_of _ (by decide +kernel)) ggX6_harvestOf_X6_share
theorem dX6_harvestOf_0 : decode cX6_harvestOf 0 = .ok (.aload_n 0, 1) := by decide +kernel
theorem dX6_harvestOf_1 : decode cX6_harvestOf 1 = .ok (.getfield 18, 3) := by decide +kernel
theorem dX6_harvestOf_4 : decode cX6_harvestOf 4 = .ok (.getfield 57, 3) := by decide +kernel
theorem dX6_harvestOf_7 : decode cX6_harvestOf 7 = .ok (.iload_n 1, 1) := by decide +kernel
theorem dX6_harvestOf_8 : decode cX6_harvestOf 8 = .ok (.aaload, 1) := by decide +kernel
theorem dX6_harvestOf_9 : decode cX6_harvestOf 9 = .ok (.astore_n 3, 1) := by decide +kernel
theorem dX6_harvestOf_10 : decode cX6_harvestOf 10 = .ok (.iload_n 2, 1) := by decide +kernel
theorem dX6_harvestOf_11 : decode cX6_harvestOf 11 = .ok (.ifCond .eq 10, 3) := by decide +kernel
theorem dX6_harvestOf_14 : decode cX6_harvestOf 14 = .ok (.aload_n 3, 1) := by decide +kernel
theorem dX6_harvestOf_15 : decode cX6_harvestOf 15 = .ok (.getfield 156, 3) := by decide +kernel
theorem dX6_harvestOf_18 : decode cX6_harvestOf 18 = .ok (.goto 18, 3) := by decide +kernel
theorem dX6_harvestOf_21 : decode cX6_harvestOf 21 = .ok (.aload_n 3, 1) := by decide +kernel
theorem dX6_harvestOf_22 : decode cX6_harvestOf 22 = .ok (.getfield 156, 3) := by decide +kernel
theorem dX6_harvestOf_25 : decode cX6_harvestOf 25 = .ok (.sipush 200, 3) := by decide +kernel
theorem dX6_harvestOf_28 : decode cX6_harvestOf 28 = .ok (.aload_n 3, 1) := by decide +kernel
theorem dX6_harvestOf_29 : decode cX6_harvestOf 29 = .ok (.getfield 61, 3) := by decide +kernel
theorem dX6_harvestOf_32 : decode cX6_harvestOf 32 = .ok (.imul, 1) := by decide +kernel
theorem dX6_harvestOf_33 : decode cX6_harvestOf 33 = .ok (.invokestatic 159, 3) := by decide +kernel
theorem dX6_harvestOf_36 : decode cX6_harvestOf 36 = .ok (.istore 4, 2) := by decide +kernel
theorem dX6_harvestOf_38 : decode cX6_harvestOf 38 = .ok (.iconst 2, 1) := by decide +kernel
theorem dX6_harvestOf_39 : decode cX6_harvestOf 39 = .ok (.newarray .int, 2) := by decide +kernel
theorem dX6_harvestOf_41 : decode cX6_harvestOf 41 = .ok (.dup, 1) := by decide +kernel
theorem dX6_harvestOf_42 : decode cX6_harvestOf 42 = .ok (.iconst 0, 1) := by decide +kernel
theorem dX6_harvestOf_43 : decode cX6_harvestOf 43 = .ok (.iload 4, 2) := by decide +kernel
theorem dX6_harvestOf_45 : decode cX6_harvestOf 45 = .ok (.iastore, 1) := by decide +kernel
theorem dX6_harvestOf_46 : decode cX6_harvestOf 46 = .ok (.dup, 1) := by decide +kernel
theorem dX6_harvestOf_47 : decode cX6_harvestOf 47 = .ok (.iconst 1, 1) := by decide +kernel
theorem dX6_harvestOf_48 : decode cX6_harvestOf 48 = .ok (.aload_n 3, 1) := by decide +kernel
theorem dX6_harvestOf_49 : decode cX6_harvestOf 49 = .ok (.getfield 163, 3) := by decide +kernel
theorem dX6_harvestOf_52 : decode cX6_harvestOf 52 = .ok (.iload 4, 2) := by decide +kernel
theorem dX6_harvestOf_54 : decode cX6_harvestOf 54 = .ok (.aload_n 3, 1) := by decide +kernel
theorem dX6_harvestOf_55 : decode cX6_harvestOf 55 = .ok (.getfield 156, 3) := by decide +kernel
theorem dX6_harvestOf_58 : decode cX6_harvestOf 58 = .ok (.invokestatic 146, 3) := by decide +kernel
theorem dX6_harvestOf_61 : decode cX6_harvestOf 61 = .ok (.iastore, 1) := by decide +kernel
theorem dX6_harvestOf_62 : decode cX6_harvestOf 62 = .ok (.areturn, 1) := by decide +kernel
theorem dX6_canHarvest_0 : decode cX6_canHarvest 0 = .ok (.aload_n 0, 1) := by decide +kernel
theorem dX6_canHarvest_1 : decode cX6_canHarvest 1 = .ok (.getfield 18, 3) := by decide +kernel
theorem dX6_canHarvest_4 : decode cX6_canHarvest 4 = .ok (.getfield 57, 3) := by decide +kernel
theorem dX6_canHarvest_7 : decode cX6_canHarvest 7 = .ok (.iload_n 1, 1) := by decide +kernel
theorem dX6_canHarvest_8 : decode cX6_canHarvest 8 = .ok (.aaload, 1) := by decide +kernel
theorem dX6_canHarvest_9 : decode cX6_canHarvest 9 = .ok (.getfield 156, 3) := by decide +kernel
theorem dX6_canHarvest_12 : decode cX6_canHarvest 12 = .ok (.ifCond .le 29, 3) := by decide +kernel
theorem dX6_canHarvest_15 : decode cX6_canHarvest 15 = .ok (.aload_n 0, 1) := by decide +kernel
theorem dX6_canHarvest_16 : decode cX6_canHarvest 16 = .ok (.getfield 18, 3) := by decide +kernel
theorem dX6_canHarvest_19 : decode cX6_canHarvest 19 = .ok (.getfield 57, 3) := by decide +kernel
theorem dX6_canHarvest_22 : decode cX6_canHarvest 22 = .ok (.iload_n 1, 1) := by decide +kernel
theorem dX6_canHarvest_23 : decode cX6_canHarvest 23 = .ok (.aaload, 1) := by decide +kernel
theorem dX6_canHarvest_24 : decode cX6_canHarvest 24 = .ok (.getfield 166, 3) := by decide +kernel
theorem dX6_canHarvest_27 : decode cX6_canHarvest 27 = .ok (.aload_n 0, 1) := by decide +kernel
theorem dX6_canHarvest_28 : decode cX6_canHarvest 28 = .ok (.getfield 18, 3) := by decide +kernel
theorem dX6_canHarvest_31 : decode cX6_canHarvest 31 = .ok (.getfield 54, 3) := by decide +kernel
theorem dX6_canHarvest_34 : decode cX6_canHarvest 34 = .ok (.if_icmp .eq 7, 3) := by decide +kernel
theorem dX6_canHarvest_37 : decode cX6_canHarvest 37 = .ok (.iconst 1, 1) := by decide +kernel
theorem dX6_canHarvest_38 : decode cX6_canHarvest 38 = .ok (.goto 4, 3) := by decide +kernel
theorem dX6_canHarvest_41 : decode cX6_canHarvest 41 = .ok (.iconst 0, 1) := by decide +kernel
theorem dX6_canHarvest_42 : decode cX6_canHarvest 42 = .ok (.ireturn, 1) := by decide +kernel
set_option maxRecDepth 20000 in
theorem ggX6_harvest_X6_isNoPan : GoodIn wsX6_harvest wsX6_isNoPan := goodIn_r _ [12, 13, 14, 11, 15] (by decide +kernel) (by decide +kernel)
set_option maxRecDepth 20000 in
theorem gX6_harvest_X6_isNoPan : GoodIn wsX6_harvest (va_wsS RX6 70 yX6_isNoPan wsX6_isNoPan) := goodIn_app (goodIn_of _ (by decide +kernel)) ggX6_harvest_X6_isNoPan
set_option maxRecDepth 20000 in
theorem ggX6_harvest_X6_start : GoodIn wsX6_harvest wsX6_start := goodIn_r _ [19, 20, 21, 22, 23, 11, 24, 82, 83, 84, 85, 86, 87, 88, 89, 90, 91, 92] (by decide +kernel) (by decide +kernel)
set_option maxRecDepth 20000 in
theorem gX6_harvest_X6_start : GoodIn wsX6_harvest (wsV RX6 51 RX6 yX6_start wsX6_start) := goodIn_app (goodIn_of _ (by decide +kernel)) ggX6_harvest_X6_start
set_option maxRecDepth 20000 in
theorem ggX6_harvest_X6_canHarvest : GoodIn wsX6_harvest wsX6_canHarvest := goodIn_r _ [28, 1, 2, 3, 6, 5, 82, 83, 84, 85, 86, 87, 88, 89, 90, 91, 92, 93, 94, 95, 96, 97, 98, 99, 100, 101, 102, 103, 104, 105, 106] (by decide +kernel) (by decide +kernel)
set_option maxRecDepth 20000 in
theorem gX6_harvest_X6_canHarvest : GoodIn wsX6_harvest (wsV RX6 169 RX6 yX6_canHarvest wsX6_canHarvest) := goodIn_app (goodIn_of _ (by decide +kernel)) ggX6_harvest_X6_canHarvest
set_option maxRecDepth 20000 in
theorem ggX6_harvest_X6_refuse : GoodIn wsX6_harvest wsX6_refuse := goodIn_r _ [24, 20, 82, 83, 84, 85, 86, 87, 88, 89, 90, 91, 92] (by decide +kernel) (by decide +kernel)
set_option maxRecDepth 20000 in
theorem gX6_harvest_X6_refuse : GoodIn wsX6_harvest (wsV RX6 35 RX6 yX6_refuse wsX6_refuse) := goodIn_app (goodIn_of _ (by decide +kernel)) ggX6_harvest_X6_refuse
set_option maxRecDepth 20000 in
theorem ggX6_harvest_X6_harvestOf : GoodIn wsX6_harvest wsX6_harvestOf := goodIn_r _ [32, 1, 2, 3, 8, 33, 34, 35, 36, 37, 4, 38, 39, 11, 40, 82, 83, 84, 85, 86, 87, 88, 89, 90, 91, 92, 93, 94, 95, 96, 97, 98, 99, 100, 101, 102, 103, 104, 105, 106] (by decide +kernel) (by decide +kernel)
set_option maxRecDepth 20000 in
theorem gX6_harvest_X6_harvestOf : GoodIn wsX6_harvest (wsV RX6 172 RX6 yX6_harvestOf wsX6_harvestOf) := goodIn_app (goodIn_of _ (by decide +kernel)) ggX6_harvest_X6_harvestOf
set_option maxRecDepth 20000 in
theorem ggX6_harvest_X6_deal : GoodIn wsX6_harvest wsX6_deal := goodIn_r _ [44, 45, 46, 47, 48, 49, 50, 51, 52, 53, 54, 55, 56, 57, 58, 59, 60, 61, 62, 63, 64, 65, 66, 67, 68, 69, 70, 71, 72, 73, 74, 75, 76, 77, 78, 79, 80, 81, 38, 39, 11, 40, 82, 83, 84, 85, 86, 87, 88, 89, 90, 91, 92, 107, 108, 109, 110, 111, 112, 113] (by decide +kernel) (by decide +kernel)
set_option maxRecDepth 20000 in
theorem gX6_harvest_X6_deal : GoodIn wsX6_harvest (wsV RX6 179 RX6 yX6_deal wsX6_deal) := goodIn_app (goodIn_of _ (by decide +kernel)) ggX6_harvest_X6_deal
theorem dX6_harvest_0 : decode cX6_harvest 0 = .ok (.aload_n 0, 1) := by decide +kernel
theorem dX6_harvest_1 : decode cX6_harvest 1 = .ok (.iload_n 1, 1) := by decide +kernel
theorem dX6_harvest_2 : decode cX6_harvest 2 = .ok (.invokestatic 70, 3) := by decide +kernel
theorem dX6_harvest_5 : decode cX6_harvest 5 = .ok (.iconst 1, 1) := by decide +kernel
theorem dX6_harvest_6 : decode cX6_harvest 6 = .ok (.invokevirtual 51, 3) := by decide +kernel
theorem dX6_harvest_9 : decode cX6_harvest 9 = .ok (.ifCond .ne 24, 3) := by decide +kernel
theorem dX6_harvest_12 : decode cX6_harvest 12 = .ok (.aload_n 0, 1) := by decide +kernel
theorem dX6_harvest_13 : decode cX6_harvest 13 = .ok (.aload_n 0, 1) := by decide +kernel
theorem dX6_harvest_14 : decode cX6_harvest 14 = .ok (.iload_n 1, 1) := by decide +kernel
theorem dX6_harvest_15 : decode cX6_harvest 15 = .ok (.invokevirtual 169, 3) := by decide +kernel
theorem dX6_harvest_18 : decode cX6_harvest 18 = .ok (.ifCond .ne 7, 3) := by decide +kernel
theorem dX6_harvest_21 : decode cX6_harvest 21 = .ok (.iconst 1, 1) := by decide +kernel
theorem dX6_harvest_22 : decode cX6_harvest 22 = .ok (.goto 4, 3) := by decide +kernel
theorem dX6_harvest_25 : decode cX6_harvest 25 = .ok (.iconst 0, 1) := by decide +kernel
theorem dX6_harvest_26 : decode cX6_harvest 26 = .ok (.iconst 2, 1) := by decide +kernel
theorem dX6_harvest_27 : decode cX6_harvest 27 = .ok (.invokevirtual 35, 3) := by decide +kernel
theorem dX6_harvest_30 : decode cX6_harvest 30 = .ok (.ifCond .eq 5, 3) := by decide +kernel
theorem dX6_harvest_33 : decode cX6_harvest 33 = .ok (.iconst 0, 1) := by decide +kernel
theorem dX6_harvest_34 : decode cX6_harvest 34 = .ok (.ireturn, 1) := by decide +kernel
theorem dX6_harvest_35 : decode cX6_harvest 35 = .ok (.aload_n 0, 1) := by decide +kernel
theorem dX6_harvest_36 : decode cX6_harvest 36 = .ok (.getfield 18, 3) := by decide +kernel
theorem dX6_harvest_39 : decode cX6_harvest 39 = .ok (.getfield 57, 3) := by decide +kernel
theorem dX6_harvest_42 : decode cX6_harvest 42 = .ok (.iload_n 1, 1) := by decide +kernel
theorem dX6_harvest_43 : decode cX6_harvest 43 = .ok (.aaload, 1) := by decide +kernel
theorem dX6_harvest_44 : decode cX6_harvest 44 = .ok (.astore_n 3, 1) := by decide +kernel
theorem dX6_harvest_45 : decode cX6_harvest 45 = .ok (.aload_n 0, 1) := by decide +kernel
theorem dX6_harvest_46 : decode cX6_harvest 46 = .ok (.iload_n 1, 1) := by decide +kernel
theorem dX6_harvest_47 : decode cX6_harvest 47 = .ok (.iload_n 2, 1) := by decide +kernel
theorem dX6_harvest_48 : decode cX6_harvest 48 = .ok (.invokevirtual 172, 3) := by decide +kernel
theorem dX6_harvest_51 : decode cX6_harvest 51 = .ok (.astore 4, 2) := by decide +kernel
theorem dX6_harvest_53 : decode cX6_harvest 53 = .ok (.aload_n 3, 1) := by decide +kernel
theorem dX6_harvest_54 : decode cX6_harvest 54 = .ok (.dup, 1) := by decide +kernel
theorem dX6_harvest_55 : decode cX6_harvest 55 = .ok (.getfield 156, 3) := by decide +kernel
theorem dX6_harvest_58 : decode cX6_harvest 58 = .ok (.aload 4, 2) := by decide +kernel
theorem dX6_harvest_60 : decode cX6_harvest 60 = .ok (.iconst 0, 1) := by decide +kernel
theorem dX6_harvest_61 : decode cX6_harvest 61 = .ok (.iaload, 1) := by decide +kernel
theorem dX6_harvest_62 : decode cX6_harvest 62 = .ok (.isub, 1) := by decide +kernel
theorem dX6_harvest_63 : decode cX6_harvest 63 = .ok (.putfield 156, 3) := by decide +kernel
theorem dX6_harvest_66 : decode cX6_harvest 66 = .ok (.aload_n 3, 1) := by decide +kernel
theorem dX6_harvest_67 : decode cX6_harvest 67 = .ok (.dup, 1) := by decide +kernel
theorem dX6_harvest_68 : decode cX6_harvest 68 = .ok (.getfield 163, 3) := by decide +kernel
theorem dX6_harvest_71 : decode cX6_harvest 71 = .ok (.aload 4, 2) := by decide +kernel
theorem dX6_harvest_73 : decode cX6_harvest 73 = .ok (.iconst 1, 1) := by decide +kernel
theorem dX6_harvest_74 : decode cX6_harvest 74 = .ok (.iaload, 1) := by decide +kernel
theorem dX6_harvest_75 : decode cX6_harvest 75 = .ok (.isub, 1) := by decide +kernel
theorem dX6_harvest_76 : decode cX6_harvest 76 = .ok (.putfield 163, 3) := by decide +kernel
theorem dX6_harvest_79 : decode cX6_harvest 79 = .ok (.aload_n 3, 1) := by decide +kernel
theorem dX6_harvest_80 : decode cX6_harvest 80 = .ok (.aload_n 0, 1) := by decide +kernel
theorem dX6_harvest_81 : decode cX6_harvest 81 = .ok (.getfield 18, 3) := by decide +kernel
theorem dX6_harvest_84 : decode cX6_harvest 84 = .ok (.getfield 54, 3) := by decide +kernel
theorem dX6_harvest_87 : decode cX6_harvest 87 = .ok (.putfield 166, 3) := by decide +kernel
theorem dX6_harvest_90 : decode cX6_harvest 90 = .ok (.aload_n 0, 1) := by decide +kernel
theorem dX6_harvest_91 : decode cX6_harvest 91 = .ok (.dup, 1) := by decide +kernel
theorem dX6_harvest_92 : decode cX6_harvest 92 = .ok (.getfield 176, 3) := by decide +kernel
theorem dX6_harvest_95 : decode cX6_harvest 95 = .ok (.aload 4, 2) := by decide +kernel
theorem dX6_harvest_97 : decode cX6_harvest 97 = .ok (.iconst 0, 1) := by decide +kernel
theorem dX6_harvest_98 : decode cX6_harvest 98 = .ok (.iaload, 1) := by decide +kernel
theorem dX6_harvest_99 : decode cX6_harvest 99 = .ok (.bipush 10, 2) := by decide +kernel
theorem dX6_harvest_101 : decode cX6_harvest 101 = .ok (.idiv, 1) := by decide +kernel
theorem dX6_harvest_102 : decode cX6_harvest 102 = .ok (.iadd, 1) := by decide +kernel
theorem dX6_harvest_103 : decode cX6_harvest 103 = .ok (.putfield 176, 3) := by decide +kernel
theorem dX6_harvest_106 : decode cX6_harvest 106 = .ok (.aload_n 0, 1) := by decide +kernel
theorem dX6_harvest_107 : decode cX6_harvest 107 = .ok (.iload_n 1, 1) := by decide +kernel
theorem dX6_harvest_108 : decode cX6_harvest 108 = .ok (.aload 4, 2) := by decide +kernel
theorem dX6_harvest_110 : decode cX6_harvest 110 = .ok (.iconst 0, 1) := by decide +kernel
theorem dX6_harvest_111 : decode cX6_harvest 111 = .ok (.iaload, 1) := by decide +kernel
theorem dX6_harvest_112 : decode cX6_harvest 112 = .ok (.aload 4, 2) := by decide +kernel
theorem dX6_harvest_114 : decode cX6_harvest 114 = .ok (.iconst 0, 1) := by decide +kernel
theorem dX6_harvest_115 : decode cX6_harvest 115 = .ok (.iaload, 1) := by decide +kernel
theorem dX6_harvest_116 : decode cX6_harvest 116 = .ok (.bipush 10, 2) := by decide +kernel
theorem dX6_harvest_118 : decode cX6_harvest 118 = .ok (.idiv, 1) := by decide +kernel
theorem dX6_harvest_119 : decode cX6_harvest 119 = .ok (.isub, 1) := by decide +kernel
theorem dX6_harvest_120 : decode cX6_harvest 120 = .ok (.aload 4, 2) := by decide +kernel
theorem dX6_harvest_122 : decode cX6_harvest 122 = .ok (.iconst 1, 1) := by decide +kernel
theorem dX6_harvest_123 : decode cX6_harvest 123 = .ok (.iaload, 1) := by decide +kernel
theorem dX6_harvest_124 : decode cX6_harvest 124 = .ok (.iload_n 2, 1) := by decide +kernel
theorem dX6_harvest_125 : decode cX6_harvest 125 = .ok (.ifCond .eq 13, 3) := by decide +kernel
theorem dX6_harvest_128 : decode cX6_harvest 128 = .ok (.bipush 10, 2) := by decide +kernel
theorem dX6_harvest_130 : decode cX6_harvest 130 = .ok (.aload_n 3, 1) := by decide +kernel
theorem dX6_harvest_131 : decode cX6_harvest 131 = .ok (.getfield 61, 3) := by decide +kernel
theorem dX6_harvest_134 : decode cX6_harvest 134 = .ok (.imul, 1) := by decide +kernel
theorem dX6_harvest_135 : decode cX6_harvest 135 = .ok (.goto 4, 3) := by decide +kernel
theorem dX6_harvest_138 : decode cX6_harvest 138 = .ok (.iconst 0, 1) := by decide +kernel
theorem dX6_harvest_139 : decode cX6_harvest 139 = .ok (.iadd, 1) := by decide +kernel
theorem dX6_harvest_140 : decode cX6_harvest 140 = .ok (.invokevirtual 179, 3) := by decide +kernel
theorem dX6_harvest_143 : decode cX6_harvest 143 = .ok (.aload 4, 2) := by decide +kernel
theorem dX6_harvest_145 : decode cX6_harvest 145 = .ok (.iconst 0, 1) := by decide +kernel
theorem dX6_harvest_146 : decode cX6_harvest 146 = .ok (.iaload, 1) := by decide +kernel
theorem dX6_harvest_147 : decode cX6_harvest 147 = .ok (.ireturn, 1) := by decide +kernel
set_option maxRecDepth 20000 in
theorem ggX6_flower_X6_isNoPan : GoodIn wsX6_flower wsX6_isNoPan := goodIn_r _ [16, 17, 18, 15, 19] (by decide +kernel) (by decide +kernel)
set_option maxRecDepth 20000 in
theorem gX6_flower_X6_isNoPan : GoodIn wsX6_flower (va_wsS RX6 70 yX6_isNoPan wsX6_isNoPan) := goodIn_app (goodIn_of _ (by decide +kernel)) ggX6_flower_X6_isNoPan
set_option maxRecDepth 20000 in
theorem ggX6_flower_X6_start : GoodIn wsX6_flower wsX6_start := goodIn_r _ [23, 24, 25, 26, 27, 15, 28, 86, 87, 88, 89, 90, 91, 92, 93, 94, 95, 96] (by decide +kernel) (by decide +kernel)
set_option maxRecDepth 20000 in
theorem gX6_flower_X6_start : GoodIn wsX6_flower (wsV RX6 51 RX6 yX6_start wsX6_start) := goodIn_app (goodIn_of _ (by decide +kernel)) ggX6_flower_X6_start
set_option maxRecDepth 20000 in
theorem ggX6_flower_X4_strength : GoodIn wsX6_flower wsX4_strength := goodIn_r _ [33, 34, 35, 36, 37, 38, 39, 40, 11, 41, 100, 101, 102, 103, 104, 105, 106, 107, 108, 109, 110] (by decide +kernel) (by decide +kernel)
set_option maxRecDepth 20000 in
theorem gX6_flower_X4_strength : GoodIn wsX6_flower (wsV RX6 116 RX4 yX4_strength wsX4_strength) := goodIn_app (goodIn_of _ (by decide +kernel)) ggX6_flower_X4_strength
set_option maxRecDepth 20000 in
theorem ggX6_flower_X6_refuse : GoodIn wsX6_flower wsX6_refuse := goodIn_r _ [28, 24, 86, 87, 88, 89, 90, 91, 92, 93, 94, 95, 96] (by decide +kernel) (by decide +kernel)
set_option maxRecDepth 20000 in
theorem gX6_flower_X6_refuse : GoodIn wsX6_flower (wsV RX6 35 RX6 yX6_refuse wsX6_refuse) := goodIn_app (goodIn_of _ (by decide +kernel)) ggX6_flower_X6_refuse
set_option maxRecDepth 20000 in
theorem ggX6_flower_X6_deal : GoodIn wsX6_flower wsX6_deal := goodIn_r _ [45, 46, 47, 48, 49, 50, 51, 52, 53, 54, 55, 56, 57, 58, 59, 60, 61, 62, 63, 64, 65, 66, 67, 68, 69, 70, 71, 72, 73, 74, 75, 76, 77, 78, 79, 80, 81, 82, 83, 84, 15, 85, 86, 87, 88, 89, 90, 91, 92, 93, 94, 95, 96, 111, 112, 113, 114, 115, 116, 117] (by decide +kernel) (by decide +kernel)
set_option maxRecDepth 20000 in
theorem gX6_flower_X6_deal : GoodIn wsX6_flower (wsV RX6 179 RX6 yX6_deal wsX6_deal) := goodIn_app (goodIn_of _ (by decide +kernel)) ggX6_flower_X6_deal
theorem dX6_flower_0 : decode cX6_flower 0 = .ok (.aload_n 0, 1) := by decide +kernel
theorem dX6_flower_1 : decode cX6_flower 1 = .ok (.iload_n 1, 1) := by decide +kernel
theorem dX6_flower_2 : decode cX6_flower 2 = .ok (.invokestatic 70, 3) := by decide +kernel
theorem dX6_flower_5 : decode cX6_flower 5 = .ok (.iconst 1, 1) := by decide +kernel
theorem dX6_flower_6 : decode cX6_flower 6 = .ok (.invokevirtual 51, 3) := by decide +kernel
theorem dX6_flower_9 : decode cX6_flower 9 = .ok (.ifCond .eq 5, 3) := by decide +kernel
theorem dX6_flower_12 : decode cX6_flower 12 = .ok (.iconst 0, 1) := by decide +kernel
theorem dX6_flower_13 : decode cX6_flower 13 = .ok (.ireturn, 1) := by decide +kernel
theorem dX6_flower_14 : decode cX6_flower 14 = .ok (.aload_n 0, 1) := by decide +kernel
theorem dX6_flower_15 : decode cX6_flower 15 = .ok (.getfield 18, 3) := by decide +kernel
theorem dX6_flower_18 : decode cX6_flower 18 = .ok (.getfield 57, 3) := by decide +kernel
theorem dX6_flower_21 : decode cX6_flower 21 = .ok (.iload_n 1, 1) := by decide +kernel
theorem dX6_flower_22 : decode cX6_flower 22 = .ok (.aaload, 1) := by decide +kernel
theorem dX6_flower_23 : decode cX6_flower 23 = .ok (.astore_n 2, 1) := by decide +kernel
theorem dX6_flower_24 : decode cX6_flower 24 = .ok (.aload_n 0, 1) := by decide +kernel
theorem dX6_flower_25 : decode cX6_flower 25 = .ok (.aload_n 0, 1) := by decide +kernel
theorem dX6_flower_26 : decode cX6_flower 26 = .ok (.getfield 79, 3) := by decide +kernel
theorem dX6_flower_29 : decode cX6_flower 29 = .ok (.bipush 6, 2) := by decide +kernel
theorem dX6_flower_31 : decode cX6_flower 31 = .ok (.if_icmp .lt 34, 3) := by decide +kernel
theorem dX6_flower_34 : decode cX6_flower 34 = .ok (.aload_n 0, 1) := by decide +kernel
theorem dX6_flower_35 : decode cX6_flower 35 = .ok (.getfield 82, 3) := by decide +kernel
theorem dX6_flower_38 : decode cX6_flower 38 = .ok (.iconst 2, 1) := by decide +kernel
theorem dX6_flower_39 : decode cX6_flower 39 = .ok (.if_icmp .gt 26, 3) := by decide +kernel
theorem dX6_flower_42 : decode cX6_flower 42 = .ok (.aload_n 2, 1) := by decide +kernel
theorem dX6_flower_43 : decode cX6_flower 43 = .ok (.invokevirtual 116, 3) := by decide +kernel
theorem dX6_flower_46 : decode cX6_flower 46 = .ok (.bipush 55, 2) := by decide +kernel
theorem dX6_flower_48 : decode cX6_flower 48 = .ok (.if_icmp .lt 17, 3) := by decide +kernel
theorem dX6_flower_51 : decode cX6_flower 51 = .ok (.aload_n 2, 1) := by decide +kernel
theorem dX6_flower_52 : decode cX6_flower 52 = .ok (.getfield 166, 3) := by decide +kernel
theorem dX6_flower_55 : decode cX6_flower 55 = .ok (.aload_n 0, 1) := by decide +kernel
theorem dX6_flower_56 : decode cX6_flower 56 = .ok (.getfield 18, 3) := by decide +kernel
theorem dX6_flower_59 : decode cX6_flower 59 = .ok (.getfield 54, 3) := by decide +kernel
theorem dX6_flower_62 : decode cX6_flower 62 = .ok (.if_icmp .ne 7, 3) := by decide +kernel
theorem dX6_flower_65 : decode cX6_flower 65 = .ok (.iconst 1, 1) := by decide +kernel
theorem dX6_flower_66 : decode cX6_flower 66 = .ok (.goto 4, 3) := by decide +kernel
theorem dX6_flower_69 : decode cX6_flower 69 = .ok (.iconst 0, 1) := by decide +kernel
theorem dX6_flower_70 : decode cX6_flower 70 = .ok (.iconst 2, 1) := by decide +kernel
theorem dX6_flower_71 : decode cX6_flower 71 = .ok (.invokevirtual 35, 3) := by decide +kernel
theorem dX6_flower_74 : decode cX6_flower 74 = .ok (.ifCond .eq 5, 3) := by decide +kernel
theorem dX6_flower_77 : decode cX6_flower 77 = .ok (.iconst 0, 1) := by decide +kernel
theorem dX6_flower_78 : decode cX6_flower 78 = .ok (.ireturn, 1) := by decide +kernel
theorem dX6_flower_79 : decode cX6_flower 79 = .ok (.aload_n 2, 1) := by decide +kernel
theorem dX6_flower_80 : decode cX6_flower 80 = .ok (.getfield 100, 3) := by decide +kernel
theorem dX6_flower_83 : decode cX6_flower 83 = .ok (.iconst 3, 1) := by decide +kernel
theorem dX6_flower_84 : decode cX6_flower 84 = .ok (.aload_n 2, 1) := by decide +kernel
theorem dX6_flower_85 : decode cX6_flower 85 = .ok (.getfield 61, 3) := by decide +kernel
theorem dX6_flower_88 : decode cX6_flower 88 = .ok (.imul, 1) := by decide +kernel
theorem dX6_flower_89 : decode cX6_flower 89 = .ok (.invokestatic 159, 3) := by decide +kernel
theorem dX6_flower_92 : decode cX6_flower 92 = .ok (.istore_n 3, 1) := by decide +kernel
theorem dX6_flower_93 : decode cX6_flower 93 = .ok (.aload_n 2, 1) := by decide +kernel
theorem dX6_flower_94 : decode cX6_flower 94 = .ok (.dup, 1) := by decide +kernel
theorem dX6_flower_95 : decode cX6_flower 95 = .ok (.getfield 100, 3) := by decide +kernel
theorem dX6_flower_98 : decode cX6_flower 98 = .ok (.iload_n 3, 1) := by decide +kernel
theorem dX6_flower_99 : decode cX6_flower 99 = .ok (.isub, 1) := by decide +kernel
theorem dX6_flower_100 : decode cX6_flower 100 = .ok (.putfield 100, 3) := by decide +kernel
theorem dX6_flower_103 : decode cX6_flower 103 = .ok (.aload_n 2, 1) := by decide +kernel
theorem dX6_flower_104 : decode cX6_flower 104 = .ok (.aload_n 0, 1) := by decide +kernel
theorem dX6_flower_105 : decode cX6_flower 105 = .ok (.getfield 18, 3) := by decide +kernel
theorem dX6_flower_108 : decode cX6_flower 108 = .ok (.getfield 54, 3) := by decide +kernel
theorem dX6_flower_111 : decode cX6_flower 111 = .ok (.putfield 166, 3) := by decide +kernel
theorem dX6_flower_114 : decode cX6_flower 114 = .ok (.aload_n 0, 1) := by decide +kernel
theorem dX6_flower_115 : decode cX6_flower 115 = .ok (.iload_n 1, 1) := by decide +kernel
theorem dX6_flower_116 : decode cX6_flower 116 = .ok (.iload_n 3, 1) := by decide +kernel
theorem dX6_flower_117 : decode cX6_flower 117 = .ok (.iconst 0, 1) := by decide +kernel
theorem dX6_flower_118 : decode cX6_flower 118 = .ok (.invokevirtual 179, 3) := by decide +kernel
theorem dX6_flower_121 : decode cX6_flower 121 = .ok (.iload_n 3, 1) := by decide +kernel
theorem dX6_flower_122 : decode cX6_flower 122 = .ok (.ireturn, 1) := by decide +kernel
set_option maxRecDepth 20000 in
theorem ggX6_wash_X6_isNoFamily : GoodIn wsX6_wash wsX6_isNoFamily := goodIn_r _ [8, 1, 9, 10, 11, 12, 13, 14, 15, 16, 7, 17, 48, 49, 50, 51, 52, 53, 54, 55, 56, 57, 58, 59, 60, 61] (by decide +kernel) (by decide +kernel)
set_option maxRecDepth 20000 in
theorem gX6_wash_X6_isNoFamily : GoodIn wsX6_wash (wsV RX6 123 RX6 yX6_isNoFamily wsX6_isNoFamily) := goodIn_app (goodIn_of _ (by decide +kernel)) ggX6_wash_X6_isNoFamily
set_option maxRecDepth 20000 in
theorem ggX6_wash_X6_start : GoodIn wsX6_wash wsX6_start := goodIn_r _ [21, 22, 23, 24, 25, 7, 26, 48, 49, 50, 51, 52, 53, 54, 55, 56, 57, 58] (by decide +kernel) (by decide +kernel)
set_option maxRecDepth 20000 in
theorem gX6_wash_X6_start : GoodIn wsX6_wash (wsV RX6 51 RX6 yX6_start wsX6_start) := goodIn_app (goodIn_of _ (by decide +kernel)) ggX6_wash_X6_start
set_option maxRecDepth 20000 in
theorem ggX6_wash_Jx4a65c_get_915e3 : GoodIn wsX6_wash wsJx4a65c_get_915e3 := goodIn_r _ [30, 14, 31, 32, 33, 34, 35, 36, 37, 38, 39, 40, 41, 12, 42, 43, 59, 60, 61] (by decide +kernel) (by decide +kernel)
set_option maxRecDepth 20000 in
theorem gX6_wash_Jx4a65c_get_915e3 : GoodIn wsX6_wash (wsV RX6 126 RJx4a65c yJx4a65c_get_915e3 wsJx4a65c_get_915e3) := goodIn_app (goodIn_of _ (by decide +kernel)) ggX6_wash_Jx4a65c_get_915e3
set_option maxRecDepth 20000 in
theorem ggX6_wash_X6_refuse : GoodIn wsX6_wash wsX6_refuse := goodIn_r _ [26, 22, 48, 49, 50, 51, 52, 53, 54, 55, 56, 57, 58] (by decide +kernel) (by decide +kernel)
set_option maxRecDepth 20000 in
theorem gX6_wash_X6_refuse : GoodIn wsX6_wash (wsV RX6 35 RX6 yX6_refuse wsX6_refuse) := goodIn_app (goodIn_of _ (by decide +kernel)) ggX6_wash_X6_refuse
set_option maxRecDepth 20000 in
theorem ggX6_wash_X6_purity : GoodIn wsX6_wash wsX6_purity := goodIn_r _ [46, 47] (by decide +kernel) (by decide +kernel)
set_option maxRecDepth 20000 in
theorem gX6_wash_X6_purity : GoodIn wsX6_wash (va_wsS RX6 183 yX6_purity wsX6_purity) := goodIn_app (goodIn_of _ (by decide +kernel)) ggX6_wash_X6_purity
theorem dX6_wash_0 : decode cX6_wash 0 = .ok (.aload_n 0, 1) := by decide +kernel
theorem dX6_wash_1 : decode cX6_wash 1 = .ok (.aload_n 0, 1) := by decide +kernel
theorem dX6_wash_2 : decode cX6_wash 2 = .ok (.iload_n 1, 1) := by decide +kernel
theorem dX6_wash_3 : decode cX6_wash 3 = .ok (.invokevirtual 123, 3) := by decide +kernel
theorem dX6_wash_6 : decode cX6_wash 6 = .ok (.iconst 1, 1) := by decide +kernel
theorem dX6_wash_7 : decode cX6_wash 7 = .ok (.invokevirtual 51, 3) := by decide +kernel
theorem dX6_wash_10 : decode cX6_wash 10 = .ok (.ifCond .ne 32, 3) := by decide +kernel
theorem dX6_wash_13 : decode cX6_wash 13 = .ok (.aload_n 0, 1) := by decide +kernel
theorem dX6_wash_14 : decode cX6_wash 14 = .ok (.aload_n 0, 1) := by decide +kernel
theorem dX6_wash_15 : decode cX6_wash 15 = .ok (.getfield 27, 3) := by decide +kernel
theorem dX6_wash_18 : decode cX6_wash 18 = .ok (.iload_n 1, 1) := by decide +kernel
theorem dX6_wash_19 : decode cX6_wash 19 = .ok (.invokevirtual 126, 3) := by decide +kernel
theorem dX6_wash_22 : decode cX6_wash 22 = .ok (.checkcast 130, 3) := by decide +kernel
theorem dX6_wash_25 : decode cX6_wash 25 = .ok (.iconst 0, 1) := by decide +kernel
theorem dX6_wash_26 : decode cX6_wash 26 = .ok (.iaload, 1) := by decide +kernel
theorem dX6_wash_27 : decode cX6_wash 27 = .ok (.ifCond .ne 7, 3) := by decide +kernel
theorem dX6_wash_30 : decode cX6_wash 30 = .ok (.iconst 1, 1) := by decide +kernel
theorem dX6_wash_31 : decode cX6_wash 31 = .ok (.goto 4, 3) := by decide +kernel
theorem dX6_wash_34 : decode cX6_wash 34 = .ok (.iconst 0, 1) := by decide +kernel
theorem dX6_wash_35 : decode cX6_wash 35 = .ok (.iconst 2, 1) := by decide +kernel
theorem dX6_wash_36 : decode cX6_wash 36 = .ok (.invokevirtual 35, 3) := by decide +kernel
theorem dX6_wash_39 : decode cX6_wash 39 = .ok (.ifCond .eq 5, 3) := by decide +kernel
theorem dX6_wash_42 : decode cX6_wash 42 = .ok (.iconst 0, 1) := by decide +kernel
theorem dX6_wash_43 : decode cX6_wash 43 = .ok (.ireturn, 1) := by decide +kernel
theorem dX6_wash_44 : decode cX6_wash 44 = .ok (.aload_n 0, 1) := by decide +kernel
theorem dX6_wash_45 : decode cX6_wash 45 = .ok (.getfield 27, 3) := by decide +kernel
theorem dX6_wash_48 : decode cX6_wash 48 = .ok (.iload_n 1, 1) := by decide +kernel
theorem dX6_wash_49 : decode cX6_wash 49 = .ok (.invokevirtual 126, 3) := by decide +kernel
theorem dX6_wash_52 : decode cX6_wash 52 = .ok (.checkcast 130, 3) := by decide +kernel
theorem dX6_wash_55 : decode cX6_wash 55 = .ok (.astore_n 2, 1) := by decide +kernel
theorem dX6_wash_56 : decode cX6_wash 56 = .ok (.aload_n 2, 1) := by decide +kernel
theorem dX6_wash_57 : decode cX6_wash 57 = .ok (.iconst 0, 1) := by decide +kernel
theorem dX6_wash_58 : decode cX6_wash 58 = .ok (.iaload, 1) := by decide +kernel
theorem dX6_wash_59 : decode cX6_wash 59 = .ok (.bipush 19, 2) := by decide +kernel
theorem dX6_wash_61 : decode cX6_wash 61 = .ok (.iadd, 1) := by decide +kernel
theorem dX6_wash_62 : decode cX6_wash 62 = .ok (.bipush 20, 2) := by decide +kernel
theorem dX6_wash_64 : decode cX6_wash 64 = .ok (.idiv, 1) := by decide +kernel
theorem dX6_wash_65 : decode cX6_wash 65 = .ok (.istore_n 3, 1) := by decide +kernel
theorem dX6_wash_66 : decode cX6_wash 66 = .ok (.aload_n 2, 1) := by decide +kernel
theorem dX6_wash_67 : decode cX6_wash 67 = .ok (.iconst 0, 1) := by decide +kernel
theorem dX6_wash_68 : decode cX6_wash 68 = .ok (.dup2, 1) := by decide +kernel
theorem dX6_wash_69 : decode cX6_wash 69 = .ok (.iaload, 1) := by decide +kernel
theorem dX6_wash_70 : decode cX6_wash 70 = .ok (.iload_n 3, 1) := by decide +kernel
theorem dX6_wash_71 : decode cX6_wash 71 = .ok (.isub, 1) := by decide +kernel
theorem dX6_wash_72 : decode cX6_wash 72 = .ok (.iastore, 1) := by decide +kernel
theorem dX6_wash_73 : decode cX6_wash 73 = .ok (.aload_n 2, 1) := by decide +kernel
theorem dX6_wash_74 : decode cX6_wash 74 = .ok (.iconst 1, 1) := by decide +kernel
theorem dX6_wash_75 : decode cX6_wash 75 = .ok (.dup2, 1) := by decide +kernel
theorem dX6_wash_76 : decode cX6_wash 76 = .ok (.iaload, 1) := by decide +kernel
theorem dX6_wash_77 : decode cX6_wash 77 = .ok (.iconst 2, 1) := by decide +kernel
theorem dX6_wash_78 : decode cX6_wash 78 = .ok (.idiv, 1) := by decide +kernel
theorem dX6_wash_79 : decode cX6_wash 79 = .ok (.iastore, 1) := by decide +kernel
theorem dX6_wash_80 : decode cX6_wash 80 = .ok (.aload_n 0, 1) := by decide +kernel
theorem dX6_wash_81 : decode cX6_wash 81 = .ok (.dup, 1) := by decide +kernel
theorem dX6_wash_82 : decode cX6_wash 82 = .ok (.getfield 97, 3) := by decide +kernel
theorem dX6_wash_85 : decode cX6_wash 85 = .ok (.iload_n 3, 1) := by decide +kernel
theorem dX6_wash_86 : decode cX6_wash 86 = .ok (.iadd, 1) := by decide +kernel
theorem dX6_wash_87 : decode cX6_wash 87 = .ok (.putfield 97, 3) := by decide +kernel
theorem dX6_wash_90 : decode cX6_wash 90 = .ok (.aload_n 2, 1) := by decide +kernel
theorem dX6_wash_91 : decode cX6_wash 91 = .ok (.iconst 0, 1) := by decide +kernel
theorem dX6_wash_92 : decode cX6_wash 92 = .ok (.iaload, 1) := by decide +kernel
theorem dX6_wash_93 : decode cX6_wash 93 = .ok (.aload_n 2, 1) := by decide +kernel
theorem dX6_wash_94 : decode cX6_wash 94 = .ok (.iconst 1, 1) := by decide +kernel
theorem dX6_wash_95 : decode cX6_wash 95 = .ok (.iaload, 1) := by decide +kernel
theorem dX6_wash_96 : decode cX6_wash 96 = .ok (.invokestatic 183, 3) := by decide +kernel
theorem dX6_wash_99 : decode cX6_wash 99 = .ok (.ireturn, 1) := by decide +kernel
set_option maxRecDepth 20000 in
theorem ggX6_sell_X6_isNoFamily : GoodIn wsX6_sell wsX6_isNoFamily := goodIn_r _ [8, 1, 9, 10, 11, 12, 13, 14, 15, 16, 7, 17, 51, 52, 53, 54, 55, 56, 57, 58, 59, 60, 61, 62, 63, 64] (by decide +kernel) (by decide +kernel)
set_option maxRecDepth 20000 in
theorem gX6_sell_X6_isNoFamily : GoodIn wsX6_sell (wsV RX6 123 RX6 yX6_isNoFamily wsX6_isNoFamily) := goodIn_app (goodIn_of _ (by decide +kernel)) ggX6_sell_X6_isNoFamily
set_option maxRecDepth 20000 in
theorem ggX6_sell_X6_start : GoodIn wsX6_sell wsX6_start := goodIn_r _ [21, 22, 23, 24, 25, 7, 26, 51, 52, 53, 54, 55, 56, 57, 58, 59, 60, 61] (by decide +kernel) (by decide +kernel)
set_option maxRecDepth 20000 in
theorem gX6_sell_X6_start : GoodIn wsX6_sell (wsV RX6 51 RX6 yX6_start wsX6_start) := goodIn_app (goodIn_of _ (by decide +kernel)) ggX6_sell_X6_start
set_option maxRecDepth 20000 in
theorem ggX6_sell_X6_isIn : GoodIn wsX6_sell wsX6_isIn := goodIn_r _ [17] (by decide +kernel) (by decide +kernel)
set_option maxRecDepth 20000 in
theorem gX6_sell_X6_isIn : GoodIn wsX6_sell (va_wsS RX6 39 yX6_isIn wsX6_isIn) := goodIn_app (goodIn_of _ (by decide +kernel)) ggX6_sell_X6_isIn
set_option maxRecDepth 20000 in
theorem ggX6_sell_X6_refuse : GoodIn wsX6_sell wsX6_refuse := goodIn_r _ [26, 22, 51, 52, 53, 54, 55, 56, 57, 58, 59, 60, 61] (by decide +kernel) (by decide +kernel)
set_option maxRecDepth 20000 in
theorem gX6_sell_X6_refuse : GoodIn wsX6_sell (wsV RX6 35 RX6 yX6_refuse wsX6_refuse) := goodIn_app (goodIn_of _ (by decide +kernel)) ggX6_sell_X6_refuse
set_option maxRecDepth 20000 in
theorem ggX6_sell_Jx4a65c_get_915e3 : GoodIn wsX6_sell wsJx4a65c_get_915e3 := goodIn_r _ [30, 14, 31, 32, 33, 34, 35, 36, 37, 38, 39, 40, 41, 12, 42, 43, 62, 63, 64] (by decide +kernel) (by decide +kernel)
set_option maxRecDepth 20000 in
theorem gX6_sell_Jx4a65c_get_915e3 : GoodIn wsX6_sell (wsV RX6 126 RJx4a65c yJx4a65c_get_915e3 wsJx4a65c_get_915e3) := goodIn_app (goodIn_of _ (by decide +kernel)) ggX6_sell_Jx4a65c_get_915e3
set_option maxRecDepth 20000 in
theorem ggX6_sell_X6_purity : GoodIn wsX6_sell wsX6_purity := goodIn_r _ [46, 47] (by decide +kernel) (by decide +kernel)
set_option maxRecDepth 20000 in
theorem gX6_sell_X6_purity : GoodIn wsX6_sell (va_wsS RX6 183 yX6_purity wsX6_purity) := goodIn_app (goodIn_of _ (by decide +kernel)) ggX6_sell_X6_purity
set_option maxRecDepth 20000 in
theorem ggX6_sell_X6_share : GoodIn wsX6_sell wsX6_share := goodIn_r _ [50] (by decide +kernel) (by decide +kernel)
set_option maxRecDepth 20000 in
theorem gX6_sell_X6_share : GoodIn wsX6_sell (va_wsS RX6 146 yX6_share wsX6_share) := goodIn_app (goodIn_of _ (by decide +kernel)) ggX6_sell_X6_share
theorem dX6_sell_0 : decode cX6_sell 0 = .ok (.aload_n 0, 1) := by decide +kernel
theorem dX6_sell_1 : decode cX6_sell 1 = .ok (.aload_n 0, 1) := by decide +kernel
theorem dX6_sell_2 : decode cX6_sell 2 = .ok (.iload_n 1, 1) := by decide +kernel
theorem dX6_sell_3 : decode cX6_sell 3 = .ok (.invokevirtual 123, 3) := by decide +kernel
theorem dX6_sell_6 : decode cX6_sell 6 = .ok (.iconst 1, 1) := by decide +kernel
theorem dX6_sell_7 : decode cX6_sell 7 = .ok (.invokevirtual 51, 3) := by decide +kernel
theorem dX6_sell_10 : decode cX6_sell 10 = .ok (.ifCond .ne 61, 3) := by decide +kernel
theorem dX6_sell_13 : decode cX6_sell 13 = .ok (.aload_n 0, 1) := by decide +kernel
theorem dX6_sell_14 : decode cX6_sell 14 = .ok (.iload_n 2, 1) := by decide +kernel
theorem dX6_sell_15 : decode cX6_sell 15 = .ok (.iconst 1, 1) := by decide +kernel
theorem dX6_sell_16 : decode cX6_sell 16 = .ok (.if_icmp .lt 13, 3) := by decide +kernel
theorem dX6_sell_19 : decode cX6_sell 19 = .ok (.iload_n 3, 1) := by decide +kernel
theorem dX6_sell_20 : decode cX6_sell 20 = .ok (.iconst 1, 1) := by decide +kernel
theorem dX6_sell_21 : decode cX6_sell 21 = .ok (.bipush 99, 2) := by decide +kernel
theorem dX6_sell_23 : decode cX6_sell 23 = .ok (.invokestatic 39, 3) := by decide +kernel
theorem dX6_sell_26 : decode cX6_sell 26 = .ok (.ifCond .ne 7, 3) := by decide +kernel
theorem dX6_sell_29 : decode cX6_sell 29 = .ok (.iconst 1, 1) := by decide +kernel
theorem dX6_sell_30 : decode cX6_sell 30 = .ok (.goto 4, 3) := by decide +kernel
theorem dX6_sell_33 : decode cX6_sell 33 = .ok (.iconst 0, 1) := by decide +kernel
theorem dX6_sell_34 : decode cX6_sell 34 = .ok (.iconst 2, 1) := by decide +kernel
theorem dX6_sell_35 : decode cX6_sell 35 = .ok (.invokevirtual 35, 3) := by decide +kernel
theorem dX6_sell_38 : decode cX6_sell 38 = .ok (.ifCond .ne 33, 3) := by decide +kernel
theorem dX6_sell_41 : decode cX6_sell 41 = .ok (.aload_n 0, 1) := by decide +kernel
theorem dX6_sell_42 : decode cX6_sell 42 = .ok (.aload_n 0, 1) := by decide +kernel
theorem dX6_sell_43 : decode cX6_sell 43 = .ok (.getfield 27, 3) := by decide +kernel
theorem dX6_sell_46 : decode cX6_sell 46 = .ok (.iload_n 1, 1) := by decide +kernel
theorem dX6_sell_47 : decode cX6_sell 47 = .ok (.invokevirtual 126, 3) := by decide +kernel
theorem dX6_sell_50 : decode cX6_sell 50 = .ok (.checkcast 130, 3) := by decide +kernel
theorem dX6_sell_53 : decode cX6_sell 53 = .ok (.iconst 0, 1) := by decide +kernel
theorem dX6_sell_54 : decode cX6_sell 54 = .ok (.iaload, 1) := by decide +kernel
theorem dX6_sell_55 : decode cX6_sell 55 = .ok (.iload_n 2, 1) := by decide +kernel
theorem dX6_sell_56 : decode cX6_sell 56 = .ok (.if_icmp .ge 7, 3) := by decide +kernel
theorem dX6_sell_59 : decode cX6_sell 59 = .ok (.iconst 1, 1) := by decide +kernel
theorem dX6_sell_60 : decode cX6_sell 60 = .ok (.goto 4, 3) := by decide +kernel
theorem dX6_sell_63 : decode cX6_sell 63 = .ok (.iconst 0, 1) := by decide +kernel
theorem dX6_sell_64 : decode cX6_sell 64 = .ok (.iconst 3, 1) := by decide +kernel
theorem dX6_sell_65 : decode cX6_sell 65 = .ok (.invokevirtual 35, 3) := by decide +kernel
theorem dX6_sell_68 : decode cX6_sell 68 = .ok (.ifCond .eq 5, 3) := by decide +kernel
theorem dX6_sell_71 : decode cX6_sell 71 = .ok (.iconst 0, 1) := by decide +kernel
theorem dX6_sell_72 : decode cX6_sell 72 = .ok (.ireturn, 1) := by decide +kernel
theorem dX6_sell_73 : decode cX6_sell 73 = .ok (.aload_n 0, 1) := by decide +kernel
theorem dX6_sell_74 : decode cX6_sell 74 = .ok (.getfield 27, 3) := by decide +kernel
theorem dX6_sell_77 : decode cX6_sell 77 = .ok (.iload_n 1, 1) := by decide +kernel
theorem dX6_sell_78 : decode cX6_sell 78 = .ok (.invokevirtual 126, 3) := by decide +kernel
theorem dX6_sell_81 : decode cX6_sell 81 = .ok (.checkcast 130, 3) := by decide +kernel
theorem dX6_sell_84 : decode cX6_sell 84 = .ok (.astore 4, 2) := by decide +kernel
theorem dX6_sell_86 : decode cX6_sell 86 = .ok (.aload 4, 2) := by decide +kernel
theorem dX6_sell_88 : decode cX6_sell 88 = .ok (.iconst 0, 1) := by decide +kernel
theorem dX6_sell_89 : decode cX6_sell 89 = .ok (.iaload, 1) := by decide +kernel
theorem dX6_sell_90 : decode cX6_sell 90 = .ok (.aload 4, 2) := by decide +kernel
theorem dX6_sell_92 : decode cX6_sell 92 = .ok (.iconst 1, 1) := by decide +kernel
theorem dX6_sell_93 : decode cX6_sell 93 = .ok (.iaload, 1) := by decide +kernel
theorem dX6_sell_94 : decode cX6_sell 94 = .ok (.invokestatic 183, 3) := by decide +kernel
theorem dX6_sell_97 : decode cX6_sell 97 = .ok (.istore 5, 2) := by decide +kernel
theorem dX6_sell_99 : decode cX6_sell 99 = .ok (.iload 5, 2) := by decide +kernel
theorem dX6_sell_101 : decode cX6_sell 101 = .ok (.bipush 90, 2) := by decide +kernel
theorem dX6_sell_103 : decode cX6_sell 103 = .ok (.if_icmp .ge 6, 3) := by decide +kernel
theorem dX6_sell_106 : decode cX6_sell 106 = .ok (.bipush (-2), 2) := by decide +kernel
theorem dX6_sell_108 : decode cX6_sell 108 = .ok (.ireturn, 1) := by decide +kernel
theorem dX6_sell_109 : decode cX6_sell 109 = .ok (.iload_n 2, 1) := by decide +kernel
theorem dX6_sell_110 : decode cX6_sell 110 = .ok (.i2l, 1) := by decide +kernel
theorem dX6_sell_111 : decode cX6_sell 111 = .ok (.iload_n 3, 1) := by decide +kernel
theorem dX6_sell_112 : decode cX6_sell 112 = .ok (.i2l, 1) := by decide +kernel
theorem dX6_sell_113 : decode cX6_sell 113 = .ok (.lmul, 1) := by decide +kernel
theorem dX6_sell_114 : decode cX6_sell 114 = .ok (.ldc2_w 186, 3) := by decide +kernel
theorem dX6_sell_117 : decode cX6_sell 117 = .ok (.ldiv, 1) := by decide +kernel
theorem dX6_sell_118 : decode cX6_sell 118 = .ok (.l2i, 1) := by decide +kernel
theorem dX6_sell_119 : decode cX6_sell 119 = .ok (.istore 6, 2) := by decide +kernel
theorem dX6_sell_121 : decode cX6_sell 121 = .ok (.iload 5, 2) := by decide +kernel
theorem dX6_sell_123 : decode cX6_sell 123 = .ok (.bipush 97, 2) := by decide +kernel
theorem dX6_sell_125 : decode cX6_sell 125 = .ok (.if_icmp .ge 9, 3) := by decide +kernel
theorem dX6_sell_128 : decode cX6_sell 128 = .ok (.iload 6, 2) := by decide +kernel
theorem dX6_sell_130 : decode cX6_sell 130 = .ok (.iconst 2, 1) := by decide +kernel
theorem dX6_sell_131 : decode cX6_sell 131 = .ok (.idiv, 1) := by decide +kernel
theorem dX6_sell_132 : decode cX6_sell 132 = .ok (.istore 6, 2) := by decide +kernel
theorem dX6_sell_134 : decode cX6_sell 134 = .ok (.aload 4, 2) := by decide +kernel
theorem dX6_sell_136 : decode cX6_sell 136 = .ok (.iconst 1, 1) := by decide +kernel
theorem dX6_sell_137 : decode cX6_sell 137 = .ok (.dup2, 1) := by decide +kernel
theorem dX6_sell_138 : decode cX6_sell 138 = .ok (.iaload, 1) := by decide +kernel
theorem dX6_sell_139 : decode cX6_sell 139 = .ok (.aload 4, 2) := by decide +kernel
theorem dX6_sell_141 : decode cX6_sell 141 = .ok (.iconst 1, 1) := by decide +kernel
theorem dX6_sell_142 : decode cX6_sell 142 = .ok (.iaload, 1) := by decide +kernel
theorem dX6_sell_143 : decode cX6_sell 143 = .ok (.iload_n 2, 1) := by decide +kernel
theorem dX6_sell_144 : decode cX6_sell 144 = .ok (.aload 4, 2) := by decide +kernel
theorem dX6_sell_146 : decode cX6_sell 146 = .ok (.iconst 0, 1) := by decide +kernel
theorem dX6_sell_147 : decode cX6_sell 147 = .ok (.iaload, 1) := by decide +kernel
theorem dX6_sell_148 : decode cX6_sell 148 = .ok (.invokestatic 146, 3) := by decide +kernel
theorem dX6_sell_151 : decode cX6_sell 151 = .ok (.isub, 1) := by decide +kernel
theorem dX6_sell_152 : decode cX6_sell 152 = .ok (.iastore, 1) := by decide +kernel
theorem dX6_sell_153 : decode cX6_sell 153 = .ok (.aload 4, 2) := by decide +kernel
theorem dX6_sell_155 : decode cX6_sell 155 = .ok (.iconst 0, 1) := by decide +kernel
theorem dX6_sell_156 : decode cX6_sell 156 = .ok (.dup2, 1) := by decide +kernel
theorem dX6_sell_157 : decode cX6_sell 157 = .ok (.iaload, 1) := by decide +kernel
theorem dX6_sell_158 : decode cX6_sell 158 = .ok (.iload_n 2, 1) := by decide +kernel
theorem dX6_sell_159 : decode cX6_sell 159 = .ok (.isub, 1) := by decide +kernel
theorem dX6_sell_160 : decode cX6_sell 160 = .ok (.iastore, 1) := by decide +kernel
theorem dX6_sell_161 : decode cX6_sell 161 = .ok (.aload 4, 2) := by decide +kernel
theorem dX6_sell_163 : decode cX6_sell 163 = .ok (.iconst 2, 1) := by decide +kernel
theorem dX6_sell_164 : decode cX6_sell 164 = .ok (.dup2, 1) := by decide +kernel
theorem dX6_sell_165 : decode cX6_sell 165 = .ok (.iaload, 1) := by decide +kernel
theorem dX6_sell_166 : decode cX6_sell 166 = .ok (.iload 6, 2) := by decide +kernel
theorem dX6_sell_168 : decode cX6_sell 168 = .ok (.iadd, 1) := by decide +kernel
theorem dX6_sell_169 : decode cX6_sell 169 = .ok (.iastore, 1) := by decide +kernel
theorem dX6_sell_170 : decode cX6_sell 170 = .ok (.aload 4, 2) := by decide +kernel
theorem dX6_sell_172 : decode cX6_sell 172 = .ok (.iconst 4, 1) := by decide +kernel
theorem dX6_sell_173 : decode cX6_sell 173 = .ok (.dup2, 1) := by decide +kernel
theorem dX6_sell_174 : decode cX6_sell 174 = .ok (.iaload, 1) := by decide +kernel
theorem dX6_sell_175 : decode cX6_sell 175 = .ok (.iload_n 2, 1) := by decide +kernel
theorem dX6_sell_176 : decode cX6_sell 176 = .ok (.iadd, 1) := by decide +kernel
theorem dX6_sell_177 : decode cX6_sell 177 = .ok (.iastore, 1) := by decide +kernel
theorem dX6_sell_178 : decode cX6_sell 178 = .ok (.iload 6, 2) := by decide +kernel
theorem dX6_sell_180 : decode cX6_sell 180 = .ok (.ireturn, 1) := by decide +kernel
set_option maxRecDepth 20000 in
theorem ggX6_toldOfPond_X4_level : GoodIn wsX6_toldOfPond wsX4_level := goodIn_r _ [18, 19, 20, 51, 52, 53, 54, 55, 56, 57, 58, 59, 60, 61] (by decide +kernel) (by decide +kernel)
set_option maxRecDepth 20000 in
theorem gX6_toldOfPond_X4_level : GoodIn wsX6_toldOfPond (wsV RX6 188 RX4 yX4_level wsX4_level) := goodIn_app (goodIn_of _ (by decide +kernel)) ggX6_toldOfPond_X4_level
set_option maxRecDepth 20000 in
theorem ggX6_toldOfPond_X4_strength : GoodIn wsX6_toldOfPond wsX4_strength := goodIn_r _ [24, 19, 25, 26, 27, 28, 29, 30, 31, 32, 51, 52, 53, 54, 55, 56, 57, 58, 59, 60, 61] (by decide +kernel) (by decide +kernel)
set_option maxRecDepth 20000 in
theorem gX6_toldOfPond_X4_strength : GoodIn wsX6_toldOfPond (wsV RX6 116 RX4 yX4_strength wsX4_strength) := goodIn_app (goodIn_of _ (by decide +kernel)) ggX6_toldOfPond_X4_strength
set_option maxRecDepth 20000 in
theorem ggX6_toldOfPond_X6_one : GoodIn wsX6_toldOfPond wsX6_one := goodIn_r _ [36] (by decide +kernel) (by decide +kernel)
set_option maxRecDepth 20000 in
theorem gX6_toldOfPond_X6_one : GoodIn wsX6_toldOfPond (va_wsS RX6 191 yX6_one wsX6_one) := goodIn_app (goodIn_of _ (by decide +kernel)) ggX6_toldOfPond_X6_one
theorem dX6_toldOfPond_0 : decode cX6_toldOfPond 0 = .ok (.aload_n 0, 1) := by decide +kernel
theorem dX6_toldOfPond_1 : decode cX6_toldOfPond 1 = .ok (.getfield 18, 3) := by decide +kernel
theorem dX6_toldOfPond_4 : decode cX6_toldOfPond 4 = .ok (.getfield 57, 3) := by decide +kernel
theorem dX6_toldOfPond_7 : decode cX6_toldOfPond 7 = .ok (.iload_n 1, 1) := by decide +kernel
theorem dX6_toldOfPond_8 : decode cX6_toldOfPond 8 = .ok (.aaload, 1) := by decide +kernel
theorem dX6_toldOfPond_9 : decode cX6_toldOfPond 9 = .ok (.astore_n 3, 1) := by decide +kernel
theorem dX6_toldOfPond_10 : decode cX6_toldOfPond 10 = .ok (.bipush 11, 2) := by decide +kernel
theorem dX6_toldOfPond_12 : decode cX6_toldOfPond 12 = .ok (.newarray .int, 2) := by decide +kernel
theorem dX6_toldOfPond_14 : decode cX6_toldOfPond 14 = .ok (.dup, 1) := by decide +kernel
theorem dX6_toldOfPond_15 : decode cX6_toldOfPond 15 = .ok (.iconst 0, 1) := by decide +kernel
theorem dX6_toldOfPond_16 : decode cX6_toldOfPond 16 = .ok (.aload_n 3, 1) := by decide +kernel
theorem dX6_toldOfPond_17 : decode cX6_toldOfPond 17 = .ok (.getfield 61, 3) := by decide +kernel
theorem dX6_toldOfPond_20 : decode cX6_toldOfPond 20 = .ok (.iastore, 1) := by decide +kernel
theorem dX6_toldOfPond_21 : decode cX6_toldOfPond 21 = .ok (.dup, 1) := by decide +kernel
theorem dX6_toldOfPond_22 : decode cX6_toldOfPond 22 = .ok (.iconst 1, 1) := by decide +kernel
theorem dX6_toldOfPond_23 : decode cX6_toldOfPond 23 = .ok (.aload_n 3, 1) := by decide +kernel
theorem dX6_toldOfPond_24 : decode cX6_toldOfPond 24 = .ok (.getfield 91, 3) := by decide +kernel
theorem dX6_toldOfPond_27 : decode cX6_toldOfPond 27 = .ok (.iastore, 1) := by decide +kernel
theorem dX6_toldOfPond_28 : decode cX6_toldOfPond 28 = .ok (.dup, 1) := by decide +kernel
theorem dX6_toldOfPond_29 : decode cX6_toldOfPond 29 = .ok (.iconst 2, 1) := by decide +kernel
theorem dX6_toldOfPond_30 : decode cX6_toldOfPond 30 = .ok (.aload_n 3, 1) := by decide +kernel
theorem dX6_toldOfPond_31 : decode cX6_toldOfPond 31 = .ok (.getfield 100, 3) := by decide +kernel
theorem dX6_toldOfPond_34 : decode cX6_toldOfPond 34 = .ok (.iastore, 1) := by decide +kernel
theorem dX6_toldOfPond_35 : decode cX6_toldOfPond 35 = .ok (.dup, 1) := by decide +kernel
theorem dX6_toldOfPond_36 : decode cX6_toldOfPond 36 = .ok (.iconst 3, 1) := by decide +kernel
theorem dX6_toldOfPond_37 : decode cX6_toldOfPond 37 = .ok (.aload_n 3, 1) := by decide +kernel
theorem dX6_toldOfPond_38 : decode cX6_toldOfPond 38 = .ok (.getfield 103, 3) := by decide +kernel
theorem dX6_toldOfPond_41 : decode cX6_toldOfPond 41 = .ok (.iastore, 1) := by decide +kernel
theorem dX6_toldOfPond_42 : decode cX6_toldOfPond 42 = .ok (.dup, 1) := by decide +kernel
theorem dX6_toldOfPond_43 : decode cX6_toldOfPond 43 = .ok (.iconst 4, 1) := by decide +kernel
theorem dX6_toldOfPond_44 : decode cX6_toldOfPond 44 = .ok (.aload_n 3, 1) := by decide +kernel
theorem dX6_toldOfPond_45 : decode cX6_toldOfPond 45 = .ok (.getfield 106, 3) := by decide +kernel
theorem dX6_toldOfPond_48 : decode cX6_toldOfPond 48 = .ok (.iastore, 1) := by decide +kernel
theorem dX6_toldOfPond_49 : decode cX6_toldOfPond 49 = .ok (.dup, 1) := by decide +kernel
theorem dX6_toldOfPond_50 : decode cX6_toldOfPond 50 = .ok (.iconst 5, 1) := by decide +kernel
theorem dX6_toldOfPond_51 : decode cX6_toldOfPond 51 = .ok (.aload_n 3, 1) := by decide +kernel
theorem dX6_toldOfPond_52 : decode cX6_toldOfPond 52 = .ok (.getfield 85, 3) := by decide +kernel
theorem dX6_toldOfPond_55 : decode cX6_toldOfPond 55 = .ok (.iastore, 1) := by decide +kernel
theorem dX6_toldOfPond_56 : decode cX6_toldOfPond 56 = .ok (.dup, 1) := by decide +kernel
theorem dX6_toldOfPond_57 : decode cX6_toldOfPond 57 = .ok (.bipush 6, 2) := by decide +kernel
theorem dX6_toldOfPond_59 : decode cX6_toldOfPond 59 = .ok (.aload_n 3, 1) := by decide +kernel
theorem dX6_toldOfPond_60 : decode cX6_toldOfPond 60 = .ok (.getfield 156, 3) := by decide +kernel
theorem dX6_toldOfPond_63 : decode cX6_toldOfPond 63 = .ok (.iastore, 1) := by decide +kernel
theorem dX6_toldOfPond_64 : decode cX6_toldOfPond 64 = .ok (.dup, 1) := by decide +kernel
theorem dX6_toldOfPond_65 : decode cX6_toldOfPond 65 = .ok (.bipush 7, 2) := by decide +kernel
theorem dX6_toldOfPond_67 : decode cX6_toldOfPond 67 = .ok (.aload_n 3, 1) := by decide +kernel
theorem dX6_toldOfPond_68 : decode cX6_toldOfPond 68 = .ok (.getfield 163, 3) := by decide +kernel
theorem dX6_toldOfPond_71 : decode cX6_toldOfPond 71 = .ok (.iastore, 1) := by decide +kernel
theorem dX6_toldOfPond_72 : decode cX6_toldOfPond 72 = .ok (.dup, 1) := by decide +kernel
theorem dX6_toldOfPond_73 : decode cX6_toldOfPond 73 = .ok (.bipush 8, 2) := by decide +kernel
theorem dX6_toldOfPond_75 : decode cX6_toldOfPond 75 = .ok (.aload_n 3, 1) := by decide +kernel
theorem dX6_toldOfPond_76 : decode cX6_toldOfPond 76 = .ok (.invokevirtual 188, 3) := by decide +kernel
theorem dX6_toldOfPond_79 : decode cX6_toldOfPond 79 = .ok (.iastore, 1) := by decide +kernel
theorem dX6_toldOfPond_80 : decode cX6_toldOfPond 80 = .ok (.dup, 1) := by decide +kernel
theorem dX6_toldOfPond_81 : decode cX6_toldOfPond 81 = .ok (.bipush 9, 2) := by decide +kernel
theorem dX6_toldOfPond_83 : decode cX6_toldOfPond 83 = .ok (.aload_n 3, 1) := by decide +kernel
theorem dX6_toldOfPond_84 : decode cX6_toldOfPond 84 = .ok (.invokevirtual 116, 3) := by decide +kernel
theorem dX6_toldOfPond_87 : decode cX6_toldOfPond 87 = .ok (.iastore, 1) := by decide +kernel
theorem dX6_toldOfPond_88 : decode cX6_toldOfPond 88 = .ok (.dup, 1) := by decide +kernel
theorem dX6_toldOfPond_89 : decode cX6_toldOfPond 89 = .ok (.bipush 10, 2) := by decide +kernel
theorem dX6_toldOfPond_91 : decode cX6_toldOfPond 91 = .ok (.aload_n 3, 1) := by decide +kernel
theorem dX6_toldOfPond_92 : decode cX6_toldOfPond 92 = .ok (.getfield 166, 3) := by decide +kernel
theorem dX6_toldOfPond_95 : decode cX6_toldOfPond 95 = .ok (.aload_n 0, 1) := by decide +kernel
theorem dX6_toldOfPond_96 : decode cX6_toldOfPond 96 = .ok (.getfield 18, 3) := by decide +kernel
theorem dX6_toldOfPond_99 : decode cX6_toldOfPond 99 = .ok (.getfield 54, 3) := by decide +kernel
theorem dX6_toldOfPond_102 : decode cX6_toldOfPond 102 = .ok (.if_icmp .ne 7, 3) := by decide +kernel
theorem dX6_toldOfPond_105 : decode cX6_toldOfPond 105 = .ok (.iconst 1, 1) := by decide +kernel
theorem dX6_toldOfPond_106 : decode cX6_toldOfPond 106 = .ok (.goto 4, 3) := by decide +kernel
theorem dX6_toldOfPond_109 : decode cX6_toldOfPond 109 = .ok (.iconst 0, 1) := by decide +kernel
theorem dX6_toldOfPond_110 : decode cX6_toldOfPond 110 = .ok (.invokestatic 191, 3) := by decide +kernel
theorem dX6_toldOfPond_113 : decode cX6_toldOfPond 113 = .ok (.iastore, 1) := by decide +kernel
theorem dX6_toldOfPond_114 : decode cX6_toldOfPond 114 = .ok (.astore 4, 2) := by decide +kernel
theorem dX6_toldOfPond_116 : decode cX6_toldOfPond 116 = .ok (.aload 4, 2) := by decide +kernel
theorem dX6_toldOfPond_118 : decode cX6_toldOfPond 118 = .ok (.iload_n 2, 1) := by decide +kernel
theorem dX6_toldOfPond_119 : decode cX6_toldOfPond 119 = .ok (.iaload, 1) := by decide +kernel
theorem dX6_toldOfPond_120 : decode cX6_toldOfPond 120 = .ok (.ireturn, 1) := by decide +kernel
set_option maxRecDepth 20000 in
theorem ggX6_ofPond_X6_isNoPond : GoodIn wsX6_ofPond wsX6_isNoPond := goodIn_r _ [4, 5, 6, 3, 7] (by decide +kernel) (by decide +kernel)
set_option maxRecDepth 20000 in
theorem gX6_ofPond_X6_isNoPond : GoodIn wsX6_ofPond (va_wsS RX6 47 yX6_isNoPond wsX6_isNoPond) := goodIn_app (goodIn_of _ (by decide +kernel)) ggX6_ofPond_X6_isNoPond
set_option maxRecDepth 20000 in
theorem ggX6_ofPond_X6_start : GoodIn wsX6_ofPond wsX6_start := goodIn_r _ [11, 12, 13, 14, 15, 3, 16, 56, 57, 58, 59, 60, 61, 62, 63, 64, 65, 66] (by decide +kernel) (by decide +kernel)
set_option maxRecDepth 20000 in
theorem gX6_ofPond_X6_start : GoodIn wsX6_ofPond (wsV RX6 51 RX6 yX6_start wsX6_start) := goodIn_app (goodIn_of _ (by decide +kernel)) ggX6_ofPond_X6_start
set_option maxRecDepth 20000 in
theorem ggX6_ofPond_X6_isIn : GoodIn wsX6_ofPond wsX6_isIn := goodIn_r _ [7] (by decide +kernel) (by decide +kernel)
set_option maxRecDepth 20000 in
theorem gX6_ofPond_X6_isIn : GoodIn wsX6_ofPond (va_wsS RX6 39 yX6_isIn wsX6_isIn) := goodIn_app (goodIn_of _ (by decide +kernel)) ggX6_ofPond_X6_isIn
set_option maxRecDepth 20000 in
theorem ggX6_ofPond_X6_refuse : GoodIn wsX6_ofPond wsX6_refuse := goodIn_r _ [16, 12, 56, 57, 58, 59, 60, 61, 62, 63, 64, 65, 66] (by decide +kernel) (by decide +kernel)
set_option maxRecDepth 20000 in
theorem gX6_ofPond_X6_refuse : GoodIn wsX6_ofPond (wsV RX6 35 RX6 yX6_refuse wsX6_refuse) := goodIn_app (goodIn_of _ (by decide +kernel)) ggX6_ofPond_X6_refuse
set_option maxRecDepth 20000 in
theorem ggX6_ofPond_X6_toldOfPond : GoodIn wsX6_ofPond wsX6_toldOfPond := goodIn_r _ [20, 21, 22, 23, 24, 25, 26, 27, 28, 29, 30, 31, 32, 33, 34, 35, 36, 37, 38, 39, 40, 41, 42, 43, 44, 45, 46, 47, 48, 49, 50, 51, 52, 53, 54, 3, 55, 56, 57, 58, 59, 60, 61, 62, 63, 64, 65, 66, 67, 68, 69, 70, 71, 72, 73, 74, 75, 76, 77, 78, 79, 80] (by decide +kernel) (by decide +kernel)
set_option maxRecDepth 20000 in
theorem gX6_ofPond_X6_toldOfPond : GoodIn wsX6_ofPond (wsV RX6 195 RX6 yX6_toldOfPond wsX6_toldOfPond) := goodIn_app (goodIn_of _ (by decide +kernel)) ggX6_ofPond_X6_toldOfPond
theorem dX6_ofPond_0 : decode cX6_ofPond 0 = .ok (.aload_n 0, 1) := by decide +kernel
theorem dX6_ofPond_1 : decode cX6_ofPond 1 = .ok (.iload_n 1, 1) := by decide +kernel
theorem dX6_ofPond_2 : decode cX6_ofPond 2 = .ok (.invokestatic 47, 3) := by decide +kernel
theorem dX6_ofPond_5 : decode cX6_ofPond 5 = .ok (.iconst 1, 1) := by decide +kernel
theorem dX6_ofPond_6 : decode cX6_ofPond 6 = .ok (.invokevirtual 51, 3) := by decide +kernel
theorem dX6_ofPond_9 : decode cX6_ofPond 9 = .ok (.ifCond .ne 26, 3) := by decide +kernel
theorem dX6_ofPond_12 : decode cX6_ofPond 12 = .ok (.aload_n 0, 1) := by decide +kernel
theorem dX6_ofPond_13 : decode cX6_ofPond 13 = .ok (.iload_n 2, 1) := by decide +kernel
theorem dX6_ofPond_14 : decode cX6_ofPond 14 = .ok (.iconst 0, 1) := by decide +kernel
theorem dX6_ofPond_15 : decode cX6_ofPond 15 = .ok (.bipush 10, 2) := by decide +kernel
theorem dX6_ofPond_17 : decode cX6_ofPond 17 = .ok (.invokestatic 39, 3) := by decide +kernel
theorem dX6_ofPond_20 : decode cX6_ofPond 20 = .ok (.ifCond .ne 7, 3) := by decide +kernel
theorem dX6_ofPond_23 : decode cX6_ofPond 23 = .ok (.iconst 1, 1) := by decide +kernel
theorem dX6_ofPond_24 : decode cX6_ofPond 24 = .ok (.goto 4, 3) := by decide +kernel
theorem dX6_ofPond_27 : decode cX6_ofPond 27 = .ok (.iconst 0, 1) := by decide +kernel
theorem dX6_ofPond_28 : decode cX6_ofPond 28 = .ok (.iconst 2, 1) := by decide +kernel
theorem dX6_ofPond_29 : decode cX6_ofPond 29 = .ok (.invokevirtual 35, 3) := by decide +kernel
theorem dX6_ofPond_32 : decode cX6_ofPond 32 = .ok (.ifCond .eq 7, 3) := by decide +kernel
theorem dX6_ofPond_35 : decode cX6_ofPond 35 = .ok (.iconst 0, 1) := by decide +kernel
theorem dX6_ofPond_36 : decode cX6_ofPond 36 = .ok (.goto 9, 3) := by decide +kernel
theorem dX6_ofPond_39 : decode cX6_ofPond 39 = .ok (.aload_n 0, 1) := by decide +kernel
theorem dX6_ofPond_40 : decode cX6_ofPond 40 = .ok (.iload_n 1, 1) := by decide +kernel
theorem dX6_ofPond_41 : decode cX6_ofPond 41 = .ok (.iload_n 2, 1) := by decide +kernel
theorem dX6_ofPond_42 : decode cX6_ofPond 42 = .ok (.invokevirtual 195, 3) := by decide +kernel
theorem dX6_ofPond_45 : decode cX6_ofPond 45 = .ok (.ireturn, 1) := by decide +kernel
set_option maxRecDepth 20000 in
theorem ggX6_toldOfFamily_X6_purity : GoodIn wsX6_toldOfFamily wsX6_purity := goodIn_r _ [5, 6] (by decide +kernel) (by decide +kernel)
set_option maxRecDepth 20000 in
theorem gX6_toldOfFamily_X6_purity : GoodIn wsX6_toldOfFamily (va_wsS RX6 183 yX6_purity wsX6_purity) := goodIn_app (goodIn_of _ (by decide +kernel)) ggX6_toldOfFamily_X6_purity
theorem dX6_toldOfFamily_0 : decode cX6_toldOfFamily 0 = .ok (.bipush 6, 2) := by decide +kernel
theorem dX6_toldOfFamily_2 : decode cX6_toldOfFamily 2 = .ok (.newarray .int, 2) := by decide +kernel
theorem dX6_toldOfFamily_4 : decode cX6_toldOfFamily 4 = .ok (.dup, 1) := by decide +kernel
theorem dX6_toldOfFamily_5 : decode cX6_toldOfFamily 5 = .ok (.iconst 0, 1) := by decide +kernel
theorem dX6_toldOfFamily_6 : decode cX6_toldOfFamily 6 = .ok (.aload_n 0, 1) := by decide +kernel
theorem dX6_toldOfFamily_7 : decode cX6_toldOfFamily 7 = .ok (.iconst 0, 1) := by decide +kernel
theorem dX6_toldOfFamily_8 : decode cX6_toldOfFamily 8 = .ok (.iaload, 1) := by decide +kernel
theorem dX6_toldOfFamily_9 : decode cX6_toldOfFamily 9 = .ok (.iastore, 1) := by decide +kernel
theorem dX6_toldOfFamily_10 : decode cX6_toldOfFamily 10 = .ok (.dup, 1) := by decide +kernel
theorem dX6_toldOfFamily_11 : decode cX6_toldOfFamily 11 = .ok (.iconst 1, 1) := by decide +kernel
theorem dX6_toldOfFamily_12 : decode cX6_toldOfFamily 12 = .ok (.aload_n 0, 1) := by decide +kernel
theorem dX6_toldOfFamily_13 : decode cX6_toldOfFamily 13 = .ok (.iconst 1, 1) := by decide +kernel
theorem dX6_toldOfFamily_14 : decode cX6_toldOfFamily 14 = .ok (.iaload, 1) := by decide +kernel
theorem dX6_toldOfFamily_15 : decode cX6_toldOfFamily 15 = .ok (.iastore, 1) := by decide +kernel
theorem dX6_toldOfFamily_16 : decode cX6_toldOfFamily 16 = .ok (.dup, 1) := by decide +kernel
theorem dX6_toldOfFamily_17 : decode cX6_toldOfFamily 17 = .ok (.iconst 2, 1) := by decide +kernel
theorem dX6_toldOfFamily_18 : decode cX6_toldOfFamily 18 = .ok (.aload_n 0, 1) := by decide +kernel
theorem dX6_toldOfFamily_19 : decode cX6_toldOfFamily 19 = .ok (.iconst 0, 1) := by decide +kernel
theorem dX6_toldOfFamily_20 : decode cX6_toldOfFamily 20 = .ok (.iaload, 1) := by decide +kernel
theorem dX6_toldOfFamily_21 : decode cX6_toldOfFamily 21 = .ok (.aload_n 0, 1) := by decide +kernel
theorem dX6_toldOfFamily_22 : decode cX6_toldOfFamily 22 = .ok (.iconst 1, 1) := by decide +kernel
theorem dX6_toldOfFamily_23 : decode cX6_toldOfFamily 23 = .ok (.iaload, 1) := by decide +kernel
theorem dX6_toldOfFamily_24 : decode cX6_toldOfFamily 24 = .ok (.invokestatic 183, 3) := by decide +kernel
theorem dX6_toldOfFamily_27 : decode cX6_toldOfFamily 27 = .ok (.iastore, 1) := by decide +kernel
theorem dX6_toldOfFamily_28 : decode cX6_toldOfFamily 28 = .ok (.dup, 1) := by decide +kernel
theorem dX6_toldOfFamily_29 : decode cX6_toldOfFamily 29 = .ok (.iconst 3, 1) := by decide +kernel
theorem dX6_toldOfFamily_30 : decode cX6_toldOfFamily 30 = .ok (.aload_n 0, 1) := by decide +kernel
theorem dX6_toldOfFamily_31 : decode cX6_toldOfFamily 31 = .ok (.iconst 2, 1) := by decide +kernel
theorem dX6_toldOfFamily_32 : decode cX6_toldOfFamily 32 = .ok (.iaload, 1) := by decide +kernel
theorem dX6_toldOfFamily_33 : decode cX6_toldOfFamily 33 = .ok (.iastore, 1) := by decide +kernel
theorem dX6_toldOfFamily_34 : decode cX6_toldOfFamily 34 = .ok (.dup, 1) := by decide +kernel
theorem dX6_toldOfFamily_35 : decode cX6_toldOfFamily 35 = .ok (.iconst 4, 1) := by decide +kernel
theorem dX6_toldOfFamily_36 : decode cX6_toldOfFamily 36 = .ok (.aload_n 0, 1) := by decide +kernel
theorem dX6_toldOfFamily_37 : decode cX6_toldOfFamily 37 = .ok (.iconst 3, 1) := by decide +kernel
theorem dX6_toldOfFamily_38 : decode cX6_toldOfFamily 38 = .ok (.iaload, 1) := by decide +kernel
theorem dX6_toldOfFamily_39 : decode cX6_toldOfFamily 39 = .ok (.iastore, 1) := by decide +kernel
theorem dX6_toldOfFamily_40 : decode cX6_toldOfFamily 40 = .ok (.dup, 1) := by decide +kernel
theorem dX6_toldOfFamily_41 : decode cX6_toldOfFamily 41 = .ok (.iconst 5, 1) := by decide +kernel
theorem dX6_toldOfFamily_42 : decode cX6_toldOfFamily 42 = .ok (.aload_n 0, 1) := by decide +kernel
theorem dX6_toldOfFamily_43 : decode cX6_toldOfFamily 43 = .ok (.iconst 4, 1) := by decide +kernel
theorem dX6_toldOfFamily_44 : decode cX6_toldOfFamily 44 = .ok (.iaload, 1) := by decide +kernel
theorem dX6_toldOfFamily_45 : decode cX6_toldOfFamily 45 = .ok (.iastore, 1) := by decide +kernel
theorem dX6_toldOfFamily_46 : decode cX6_toldOfFamily 46 = .ok (.astore_n 2, 1) := by decide +kernel
theorem dX6_toldOfFamily_47 : decode cX6_toldOfFamily 47 = .ok (.aload_n 2, 1) := by decide +kernel
theorem dX6_toldOfFamily_48 : decode cX6_toldOfFamily 48 = .ok (.iload_n 1, 1) := by decide +kernel
theorem dX6_toldOfFamily_49 : decode cX6_toldOfFamily 49 = .ok (.iaload, 1) := by decide +kernel
theorem dX6_toldOfFamily_50 : decode cX6_toldOfFamily 50 = .ok (.ireturn, 1) := by decide +kernel
set_option maxRecDepth 20000 in
theorem ggX6_ofFamily_X6_isNoFamily : GoodIn wsX6_ofFamily wsX6_isNoFamily := goodIn_r _ [7, 1, 8, 9, 10, 11, 12, 13, 14, 15, 6, 16, 51, 52, 53, 54, 55, 56, 57, 58, 59, 60, 61, 62, 63, 64] (by decide +kernel) (by decide +kernel)
set_option maxRecDepth 20000 in
theorem gX6_ofFamily_X6_isNoFamily : GoodIn wsX6_ofFamily (wsV RX6 123 RX6 yX6_isNoFamily wsX6_isNoFamily) := goodIn_app (goodIn_of _ (by decide +kernel)) ggX6_ofFamily_X6_isNoFamily
set_option maxRecDepth 20000 in
theorem ggX6_ofFamily_X6_start : GoodIn wsX6_ofFamily wsX6_start := goodIn_r _ [20, 21, 22, 23, 24, 6, 25, 51, 52, 53, 54, 55, 56, 57, 58, 59, 60, 61] (by decide +kernel) (by decide +kernel)
set_option maxRecDepth 20000 in
theorem gX6_ofFamily_X6_start : GoodIn wsX6_ofFamily (wsV RX6 51 RX6 yX6_start wsX6_start) := goodIn_app (goodIn_of _ (by decide +kernel)) ggX6_ofFamily_X6_start
set_option maxRecDepth 20000 in
theorem ggX6_ofFamily_X6_isIn : GoodIn wsX6_ofFamily wsX6_isIn := goodIn_r _ [16] (by decide +kernel) (by decide +kernel)
set_option maxRecDepth 20000 in
theorem gX6_ofFamily_X6_isIn : GoodIn wsX6_ofFamily (va_wsS RX6 39 yX6_isIn wsX6_isIn) := goodIn_app (goodIn_of _ (by decide +kernel)) ggX6_ofFamily_X6_isIn
set_option maxRecDepth 20000 in
theorem ggX6_ofFamily_X6_refuse : GoodIn wsX6_ofFamily wsX6_refuse := goodIn_r _ [25, 21, 51, 52, 53, 54, 55, 56, 57, 58, 59, 60, 61] (by decide +kernel) (by decide +kernel)
set_option maxRecDepth 20000 in
theorem gX6_ofFamily_X6_refuse : GoodIn wsX6_ofFamily (wsV RX6 35 RX6 yX6_refuse wsX6_refuse) := goodIn_app (goodIn_of _ (by decide +kernel)) ggX6_ofFamily_X6_refuse
set_option maxRecDepth 20000 in
theorem ggX6_ofFamily_Jx4a65c_get_915e3 : GoodIn wsX6_ofFamily wsJx4a65c_get_915e3 := goodIn_r _ [29, 13, 30, 31, 32, 33, 34, 35, 36, 37, 38, 39, 40, 11, 41, 42, 62, 63, 64] (by decide +kernel) (by decide +kernel)
set_option maxRecDepth 20000 in
theorem gX6_ofFamily_Jx4a65c_get_915e3 : GoodIn wsX6_ofFamily (wsV RX6 126 RJx4a65c yJx4a65c_get_915e3 wsJx4a65c_get_915e3) := goodIn_app (goodIn_of _ (by decide +kernel)) ggX6_ofFamily_Jx4a65c_get_915e3
set_option maxRecDepth 20000 in
theorem ggX6_ofFamily_X6_toldOfFamily : GoodIn wsX6_ofFamily wsX6_toldOfFamily := goodIn_r _ [45, 46, 47, 48, 6, 49, 50] (by decide +kernel) (by decide +kernel)
set_option maxRecDepth 20000 in
theorem gX6_ofFamily_X6_toldOfFamily : GoodIn wsX6_ofFamily (va_wsS RX6 198 yX6_toldOfFamily wsX6_toldOfFamily) := goodIn_app (goodIn_of _ (by decide +kernel)) ggX6_ofFamily_X6_toldOfFamily
theorem dX6_ofFamily_0 : decode cX6_ofFamily 0 = .ok (.aload_n 0, 1) := by decide +kernel
theorem dX6_ofFamily_1 : decode cX6_ofFamily 1 = .ok (.aload_n 0, 1) := by decide +kernel
theorem dX6_ofFamily_2 : decode cX6_ofFamily 2 = .ok (.iload_n 1, 1) := by decide +kernel
theorem dX6_ofFamily_3 : decode cX6_ofFamily 3 = .ok (.invokevirtual 123, 3) := by decide +kernel
theorem dX6_ofFamily_6 : decode cX6_ofFamily 6 = .ok (.iconst 1, 1) := by decide +kernel
theorem dX6_ofFamily_7 : decode cX6_ofFamily 7 = .ok (.invokevirtual 51, 3) := by decide +kernel
theorem dX6_ofFamily_10 : decode cX6_ofFamily 10 = .ok (.ifCond .ne 25, 3) := by decide +kernel
theorem dX6_ofFamily_13 : decode cX6_ofFamily 13 = .ok (.aload_n 0, 1) := by decide +kernel
theorem dX6_ofFamily_14 : decode cX6_ofFamily 14 = .ok (.iload_n 2, 1) := by decide +kernel
theorem dX6_ofFamily_15 : decode cX6_ofFamily 15 = .ok (.iconst 0, 1) := by decide +kernel
theorem dX6_ofFamily_16 : decode cX6_ofFamily 16 = .ok (.iconst 5, 1) := by decide +kernel
theorem dX6_ofFamily_17 : decode cX6_ofFamily 17 = .ok (.invokestatic 39, 3) := by decide +kernel
theorem dX6_ofFamily_20 : decode cX6_ofFamily 20 = .ok (.ifCond .ne 7, 3) := by decide +kernel
theorem dX6_ofFamily_23 : decode cX6_ofFamily 23 = .ok (.iconst 1, 1) := by decide +kernel
theorem dX6_ofFamily_24 : decode cX6_ofFamily 24 = .ok (.goto 4, 3) := by decide +kernel
theorem dX6_ofFamily_27 : decode cX6_ofFamily 27 = .ok (.iconst 0, 1) := by decide +kernel
theorem dX6_ofFamily_28 : decode cX6_ofFamily 28 = .ok (.iconst 2, 1) := by decide +kernel
theorem dX6_ofFamily_29 : decode cX6_ofFamily 29 = .ok (.invokevirtual 35, 3) := by decide +kernel
theorem dX6_ofFamily_32 : decode cX6_ofFamily 32 = .ok (.ifCond .eq 7, 3) := by decide +kernel
theorem dX6_ofFamily_35 : decode cX6_ofFamily 35 = .ok (.iconst 0, 1) := by decide +kernel
theorem dX6_ofFamily_36 : decode cX6_ofFamily 36 = .ok (.goto 18, 3) := by decide +kernel
theorem dX6_ofFamily_39 : decode cX6_ofFamily 39 = .ok (.aload_n 0, 1) := by decide +kernel
theorem dX6_ofFamily_40 : decode cX6_ofFamily 40 = .ok (.getfield 27, 3) := by decide +kernel
theorem dX6_ofFamily_43 : decode cX6_ofFamily 43 = .ok (.iload_n 1, 1) := by decide +kernel
theorem dX6_ofFamily_44 : decode cX6_ofFamily 44 = .ok (.invokevirtual 126, 3) := by decide +kernel
theorem dX6_ofFamily_47 : decode cX6_ofFamily 47 = .ok (.checkcast 130, 3) := by decide +kernel
theorem dX6_ofFamily_50 : decode cX6_ofFamily 50 = .ok (.iload_n 2, 1) := by decide +kernel
theorem dX6_ofFamily_51 : decode cX6_ofFamily 51 = .ok (.invokestatic 198, 3) := by decide +kernel
theorem dX6_ofFamily_54 : decode cX6_ofFamily 54 = .ok (.ireturn, 1) := by decide +kernel
set_option maxRecDepth 20000 in
theorem ggX6_rightOf_X6_isNoFamily : GoodIn wsX6_rightOf wsX6_isNoFamily := goodIn_r _ [7, 1, 8, 9, 10, 11, 12, 13, 14, 15, 6, 16, 46, 47, 48, 49, 50, 51, 52, 53, 54, 55, 56, 57, 58, 59] (by decide +kernel) (by decide +kernel)
set_option maxRecDepth 20000 in
theorem gX6_rightOf_X6_isNoFamily : GoodIn wsX6_rightOf (wsV RX6 123 RX6 yX6_isNoFamily wsX6_isNoFamily) := goodIn_app (goodIn_of _ (by decide +kernel)) ggX6_rightOf_X6_isNoFamily
set_option maxRecDepth 20000 in
theorem ggX6_rightOf_X6_isNoPan : GoodIn wsX6_rightOf wsX6_isNoPan := goodIn_r _ [19, 14, 15, 6, 16] (by decide +kernel) (by decide +kernel)
set_option maxRecDepth 20000 in
theorem gX6_rightOf_X6_isNoPan : GoodIn wsX6_rightOf (va_wsS RX6 70 yX6_isNoPan wsX6_isNoPan) := goodIn_app (goodIn_of _ (by decide +kernel)) ggX6_rightOf_X6_isNoPan
set_option maxRecDepth 20000 in
theorem ggX6_rightOf_X6_start : GoodIn wsX6_rightOf wsX6_start := goodIn_r _ [23, 24, 25, 26, 27, 6, 28, 46, 47, 48, 49, 50, 51, 52, 53, 54, 55, 56] (by decide +kernel) (by decide +kernel)
set_option maxRecDepth 20000 in
theorem gX6_rightOf_X6_start : GoodIn wsX6_rightOf (wsV RX6 51 RX6 yX6_start wsX6_start) := goodIn_app (goodIn_of _ (by decide +kernel)) ggX6_rightOf_X6_start
set_option maxRecDepth 20000 in
theorem ggX6_rightOf_Jx4a65c_get_915e3 : GoodIn wsX6_rightOf wsJx4a65c_get_915e3 := goodIn_r _ [32, 13, 33, 34, 35, 36, 37, 38, 39, 40, 41, 42, 43, 11, 44, 45, 57, 58, 59] (by decide +kernel) (by decide +kernel)
set_option maxRecDepth 20000 in
theorem gX6_rightOf_Jx4a65c_get_915e3 : GoodIn wsX6_rightOf (wsV RX6 126 RJx4a65c yJx4a65c_get_915e3 wsJx4a65c_get_915e3) := goodIn_app (goodIn_of _ (by decide +kernel)) ggX6_rightOf_Jx4a65c_get_915e3
theorem dX6_rightOf_0 : decode cX6_rightOf 0 = .ok (.aload_n 0, 1) := by decide +kernel
theorem dX6_rightOf_1 : decode cX6_rightOf 1 = .ok (.aload_n 0, 1) := by decide +kernel
theorem dX6_rightOf_2 : decode cX6_rightOf 2 = .ok (.iload_n 1, 1) := by decide +kernel
theorem dX6_rightOf_3 : decode cX6_rightOf 3 = .ok (.invokevirtual 123, 3) := by decide +kernel
theorem dX6_rightOf_6 : decode cX6_rightOf 6 = .ok (.ifCond .ne 10, 3) := by decide +kernel
theorem dX6_rightOf_9 : decode cX6_rightOf 9 = .ok (.iload_n 2, 1) := by decide +kernel
theorem dX6_rightOf_10 : decode cX6_rightOf 10 = .ok (.invokestatic 70, 3) := by decide +kernel
theorem dX6_rightOf_13 : decode cX6_rightOf 13 = .ok (.ifCond .eq 7, 3) := by decide +kernel
theorem dX6_rightOf_16 : decode cX6_rightOf 16 = .ok (.iconst 1, 1) := by decide +kernel
theorem dX6_rightOf_17 : decode cX6_rightOf 17 = .ok (.goto 4, 3) := by decide +kernel
theorem dX6_rightOf_20 : decode cX6_rightOf 20 = .ok (.iconst 0, 1) := by decide +kernel
theorem dX6_rightOf_21 : decode cX6_rightOf 21 = .ok (.iconst 1, 1) := by decide +kernel
theorem dX6_rightOf_22 : decode cX6_rightOf 22 = .ok (.invokevirtual 51, 3) := by decide +kernel
theorem dX6_rightOf_25 : decode cX6_rightOf 25 = .ok (.ifCond .eq 7, 3) := by decide +kernel
theorem dX6_rightOf_28 : decode cX6_rightOf 28 = .ok (.iconst 0, 1) := by decide +kernel
theorem dX6_rightOf_29 : decode cX6_rightOf 29 = .ok (.goto 16, 3) := by decide +kernel
theorem dX6_rightOf_32 : decode cX6_rightOf 32 = .ok (.aload_n 0, 1) := by decide +kernel
theorem dX6_rightOf_33 : decode cX6_rightOf 33 = .ok (.getfield 27, 3) := by decide +kernel
theorem dX6_rightOf_36 : decode cX6_rightOf 36 = .ok (.iload_n 1, 1) := by decide +kernel
theorem dX6_rightOf_37 : decode cX6_rightOf 37 = .ok (.invokevirtual 126, 3) := by decide +kernel
theorem dX6_rightOf_40 : decode cX6_rightOf 40 = .ok (.checkcast 130, 3) := by decide +kernel
theorem dX6_rightOf_43 : decode cX6_rightOf 43 = .ok (.iload_n 2, 1) := by decide +kernel
theorem dX6_rightOf_44 : decode cX6_rightOf 44 = .ok (.iaload, 1) := by decide +kernel
theorem dX6_rightOf_45 : decode cX6_rightOf 45 = .ok (.ireturn, 1) := by decide +kernel
set_option maxRecDepth 20000 in
theorem ggX6_tide_X6_isIn : GoodIn wsX6_tide wsX6_isIn := goodIn_r _ [4] (by decide +kernel) (by decide +kernel)
set_option maxRecDepth 20000 in
theorem gX6_tide_X6_isIn : GoodIn wsX6_tide (va_wsS RX6 39 yX6_isIn wsX6_isIn) := goodIn_app (goodIn_of _ (by decide +kernel)) ggX6_tide_X6_isIn
set_option maxRecDepth 20000 in
theorem ggX6_tide_X6_start : GoodIn wsX6_tide wsX6_start := goodIn_r _ [8, 9, 10, 11, 12, 3, 13, 21, 22, 23, 24, 25, 26, 27, 28, 29, 30, 31] (by decide +kernel) (by decide +kernel)
set_option maxRecDepth 20000 in
theorem gX6_tide_X6_start : GoodIn wsX6_tide (wsV RX6 51 RX6 yX6_start wsX6_start) := goodIn_app (goodIn_of _ (by decide +kernel)) ggX6_tide_X6_start
set_option maxRecDepth 20000 in
theorem ggX6_tide_X6_tideOf : GoodIn wsX6_tide wsX6_tideOf := goodIn_r _ [16, 17, 18, 19, 20] (by decide +kernel) (by decide +kernel)
set_option maxRecDepth 20000 in
theorem gX6_tide_X6_tideOf : GoodIn wsX6_tide (va_wsS RX6 94 yX6_tideOf wsX6_tideOf) := goodIn_app (goodIn_of _ (by decide +kernel)) ggX6_tide_X6_tideOf
theorem dX6_tide_0 : decode cX6_tide 0 = .ok (.aload_n 0, 1) := by decide +kernel
theorem dX6_tide_1 : decode cX6_tide 1 = .ok (.iload_n 1, 1) := by decide +kernel
theorem dX6_tide_2 : decode cX6_tide 2 = .ok (.iconst 0, 1) := by decide +kernel
theorem dX6_tide_3 : decode cX6_tide 3 = .ok (.sipush 9999, 3) := by decide +kernel
theorem dX6_tide_6 : decode cX6_tide 6 = .ok (.invokestatic 39, 3) := by decide +kernel
theorem dX6_tide_9 : decode cX6_tide 9 = .ok (.ifCond .ne 7, 3) := by decide +kernel
theorem dX6_tide_12 : decode cX6_tide 12 = .ok (.iconst 1, 1) := by decide +kernel
theorem dX6_tide_13 : decode cX6_tide 13 = .ok (.goto 4, 3) := by decide +kernel
theorem dX6_tide_16 : decode cX6_tide 16 = .ok (.iconst 0, 1) := by decide +kernel
theorem dX6_tide_17 : decode cX6_tide 17 = .ok (.iconst 1, 1) := by decide +kernel
theorem dX6_tide_18 : decode cX6_tide 18 = .ok (.invokevirtual 51, 3) := by decide +kernel
theorem dX6_tide_21 : decode cX6_tide 21 = .ok (.ifCond .eq 7, 3) := by decide +kernel
theorem dX6_tide_24 : decode cX6_tide 24 = .ok (.iconst 0, 1) := by decide +kernel
theorem dX6_tide_25 : decode cX6_tide 25 = .ok (.goto 7, 3) := by decide +kernel
theorem dX6_tide_28 : decode cX6_tide 28 = .ok (.iload_n 1, 1) := by decide +kernel
theorem dX6_tide_29 : decode cX6_tide 29 = .ok (.invokestatic 94, 3) := by decide +kernel
theorem dX6_tide_32 : decode cX6_tide 32 = .ok (.ireturn, 1) := by decide +kernel
set_option maxRecDepth 20000 in
theorem ggX6_count_X6_one : GoodIn wsX6_count wsX6_one := goodIn_r _ [24] (by decide +kernel) (by decide +kernel)
set_option maxRecDepth 20000 in
theorem gX6_count_X6_one : GoodIn wsX6_count (va_wsS RX6 191 yX6_one wsX6_one) := goodIn_app (goodIn_of _ (by decide +kernel)) ggX6_count_X6_one
set_option maxRecDepth 20000 in
theorem ggX6_count_Jx4a65c_iterator_32c93 : GoodIn wsX6_count wsJx4a65c_iterator_32c93 := goodIn_r _ [29, 30, 31, 32, 33, 34, 35, 36, 37, 38, 39, 40, 41, 42, 43, 88, 89, 90, 91, 92, 93, 94] (by decide +kernel) (by decide +kernel)
set_option maxRecDepth 20000 in
theorem gX6_count_Jx4a65c_iterator_32c93 : GoodIn wsX6_count (wsV RX6 132 RJx4a65c yJx4a65c_iterator_32c93 wsJx4a65c_iterator_32c93) := goodIn_app (goodIn_of _ (by decide +kernel)) ggX6_count_Jx4a65c_iterator_32c93
set_option maxRecDepth 20000 in
theorem ggX6_count_Jx35411_hasNext_aae02 : GoodIn wsX6_count wsJx35411_hasNext_aae02 := goodIn_r _ [47, 48, 36, 88, 89, 90, 91, 92, 93, 94] (by decide +kernel) (by decide +kernel)
set_option maxRecDepth 20000 in
theorem gX6_count_Jx35411_hasNext_aae02_f136Jx35411 : GoodIn wsX6_count (va_wsF RX6 136 RJx35411 ⟨"java/util/Iterator", "hasNext", "()Z"⟩ yJx35411_hasNext_aae02 wsJx35411_hasNext_aae02) := goodIn_app (goodIn_of _ (by decide +kernel)) ggX6_count_Jx35411_hasNext_aae02
set_option maxRecDepth 20000 in
theorem ggX6_count_Jx35411_next_0502b : GoodIn wsX6_count wsJx35411_next_0502b := goodIn_r _ [52, 48, 36, 53, 40, 54, 55, 56, 32, 57, 41, 42, 43, 88, 89, 90, 91, 92, 93, 94] (by decide +kernel) (by decide +kernel)
set_option maxRecDepth 20000 in
theorem gX6_count_Jx35411_next_0502b_f142Jx35411 : GoodIn wsX6_count (va_wsF RX6 142 RJx35411 ⟨"java/util/Iterator", "next", "()Ljava/lang/Object;"⟩ yJx35411_next_0502b wsJx35411_next_0502b) := goodIn_app (goodIn_of _ (by decide +kernel)) ggX6_count_Jx35411_next_0502b
set_option maxRecDepth 20000 in
theorem ggX6_count_Jx4a65c_size_8abf5 : GoodIn wsX6_count wsJx4a65c_size_8abf5 := goodIn_r _ [61, 62, 92, 93, 94] (by decide +kernel) (by decide +kernel)
set_option maxRecDepth 20000 in
theorem gX6_count_Jx4a65c_size_8abf5 : GoodIn wsX6_count (wsV RX6 43 RJx4a65c yJx4a65c_size_8abf5 wsJx4a65c_size_8abf5) := goodIn_app (goodIn_of _ (by decide +kernel)) ggX6_count_Jx4a65c_size_8abf5
theorem dX6_count_0 : decode cX6_count 0 = .ok (.iconst 0, 1) := by decide +kernel
theorem dX6_count_1 : decode cX6_count 1 = .ok (.istore_n 2, 1) := by decide +kernel
theorem dX6_count_2 : decode cX6_count 2 = .ok (.iconst 0, 1) := by decide +kernel
theorem dX6_count_3 : decode cX6_count 3 = .ok (.istore_n 3, 1) := by decide +kernel
theorem dX6_count_4 : decode cX6_count 4 = .ok (.iconst 5, 1) := by decide +kernel
theorem dX6_count_5 : decode cX6_count 5 = .ok (.newarray .int, 2) := by decide +kernel
theorem dX6_count_7 : decode cX6_count 7 = .ok (.astore 4, 2) := by decide +kernel
theorem dX6_count_9 : decode cX6_count 9 = .ok (.iconst 0, 1) := by decide +kernel
theorem dX6_count_10 : decode cX6_count 10 = .ok (.istore 5, 2) := by decide +kernel
theorem dX6_count_12 : decode cX6_count 12 = .ok (.iload 5, 2) := by decide +kernel
theorem dX6_count_14 : decode cX6_count 14 = .ok (.bipush 8, 2) := by decide +kernel
theorem dX6_count_16 : decode cX6_count 16 = .ok (.if_icmp .ge 109, 3) := by decide +kernel
theorem dX6_count_19 : decode cX6_count 19 = .ok (.aload_n 0, 1) := by decide +kernel
theorem dX6_count_20 : decode cX6_count 20 = .ok (.getfield 18, 3) := by decide +kernel
theorem dX6_count_23 : decode cX6_count 23 = .ok (.getfield 57, 3) := by decide +kernel
theorem dX6_count_26 : decode cX6_count 26 = .ok (.iload 5, 2) := by decide +kernel
theorem dX6_count_28 : decode cX6_count 28 = .ok (.aaload, 1) := by decide +kernel
theorem dX6_count_29 : decode cX6_count 29 = .ok (.astore 6, 2) := by decide +kernel
theorem dX6_count_31 : decode cX6_count 31 = .ok (.iload_n 2, 1) := by decide +kernel
theorem dX6_count_32 : decode cX6_count 32 = .ok (.aload 6, 2) := by decide +kernel
theorem dX6_count_34 : decode cX6_count 34 = .ok (.getfield 66, 3) := by decide +kernel
theorem dX6_count_37 : decode cX6_count 37 = .ok (.invokestatic 191, 3) := by decide +kernel
theorem dX6_count_40 : decode cX6_count 40 = .ok (.iload 5, 2) := by decide +kernel
theorem dX6_count_42 : decode cX6_count 42 = .ok (.ishl, 1) := by decide +kernel
theorem dX6_count_43 : decode cX6_count 43 = .ok (.ior, 1) := by decide +kernel
theorem dX6_count_44 : decode cX6_count 44 = .ok (.istore_n 2, 1) := by decide +kernel
theorem dX6_count_45 : decode cX6_count 45 = .ok (.iload_n 3, 1) := by decide +kernel
theorem dX6_count_46 : decode cX6_count 46 = .ok (.aload 6, 2) := by decide +kernel
theorem dX6_count_48 : decode cX6_count 48 = .ok (.getfield 73, 3) := by decide +kernel
theorem dX6_count_51 : decode cX6_count 51 = .ok (.invokestatic 191, 3) := by decide +kernel
theorem dX6_count_54 : decode cX6_count 54 = .ok (.iload 5, 2) := by decide +kernel
theorem dX6_count_56 : decode cX6_count 56 = .ok (.ishl, 1) := by decide +kernel
theorem dX6_count_57 : decode cX6_count 57 = .ok (.ior, 1) := by decide +kernel
theorem dX6_count_58 : decode cX6_count 58 = .ok (.istore_n 3, 1) := by decide +kernel
theorem dX6_count_59 : decode cX6_count 59 = .ok (.aload 4, 2) := by decide +kernel
theorem dX6_count_61 : decode cX6_count 61 = .ok (.iconst 0, 1) := by decide +kernel
theorem dX6_count_62 : decode cX6_count 62 = .ok (.dup2, 1) := by decide +kernel
theorem dX6_count_63 : decode cX6_count 63 = .ok (.iaload, 1) := by decide +kernel
theorem dX6_count_64 : decode cX6_count 64 = .ok (.aload 6, 2) := by decide +kernel
theorem dX6_count_66 : decode cX6_count 66 = .ok (.getfield 100, 3) := by decide +kernel
theorem dX6_count_69 : decode cX6_count 69 = .ok (.iadd, 1) := by decide +kernel
theorem dX6_count_70 : decode cX6_count 70 = .ok (.iastore, 1) := by decide +kernel
theorem dX6_count_71 : decode cX6_count 71 = .ok (.aload 4, 2) := by decide +kernel
theorem dX6_count_73 : decode cX6_count 73 = .ok (.iconst 1, 1) := by decide +kernel
theorem dX6_count_74 : decode cX6_count 74 = .ok (.dup2, 1) := by decide +kernel
theorem dX6_count_75 : decode cX6_count 75 = .ok (.iaload, 1) := by decide +kernel
theorem dX6_count_76 : decode cX6_count 76 = .ok (.aload 6, 2) := by decide +kernel
theorem dX6_count_78 : decode cX6_count 78 = .ok (.getfield 156, 3) := by decide +kernel
theorem dX6_count_81 : decode cX6_count 81 = .ok (.iadd, 1) := by decide +kernel
theorem dX6_count_82 : decode cX6_count 82 = .ok (.iastore, 1) := by decide +kernel
theorem dX6_count_83 : decode cX6_count 83 = .ok (.aload 4, 2) := by decide +kernel
theorem dX6_count_85 : decode cX6_count 85 = .ok (.iconst 2, 1) := by decide +kernel
theorem dX6_count_86 : decode cX6_count 86 = .ok (.dup2, 1) := by decide +kernel
theorem dX6_count_87 : decode cX6_count 87 = .ok (.iaload, 1) := by decide +kernel
theorem dX6_count_88 : decode cX6_count 88 = .ok (.aload 6, 2) := by decide +kernel
theorem dX6_count_90 : decode cX6_count 90 = .ok (.getfield 163, 3) := by decide +kernel
theorem dX6_count_93 : decode cX6_count 93 = .ok (.iadd, 1) := by decide +kernel
theorem dX6_count_94 : decode cX6_count 94 = .ok (.iastore, 1) := by decide +kernel
theorem dX6_count_95 : decode cX6_count 95 = .ok (.aload 4, 2) := by decide +kernel
theorem dX6_count_97 : decode cX6_count 97 = .ok (.iconst 3, 1) := by decide +kernel
theorem dX6_count_98 : decode cX6_count 98 = .ok (.dup2, 1) := by decide +kernel
theorem dX6_count_99 : decode cX6_count 99 = .ok (.iaload, 1) := by decide +kernel
theorem dX6_count_100 : decode cX6_count 100 = .ok (.aload 6, 2) := by decide +kernel
theorem dX6_count_102 : decode cX6_count 102 = .ok (.getfield 91, 3) := by decide +kernel
theorem dX6_count_105 : decode cX6_count 105 = .ok (.iadd, 1) := by decide +kernel
theorem dX6_count_106 : decode cX6_count 106 = .ok (.iastore, 1) := by decide +kernel
theorem dX6_count_107 : decode cX6_count 107 = .ok (.aload 4, 2) := by decide +kernel
theorem dX6_count_109 : decode cX6_count 109 = .ok (.iconst 4, 1) := by decide +kernel
theorem dX6_count_110 : decode cX6_count 110 = .ok (.dup2, 1) := by decide +kernel
theorem dX6_count_111 : decode cX6_count 111 = .ok (.iaload, 1) := by decide +kernel
theorem dX6_count_112 : decode cX6_count 112 = .ok (.aload 6, 2) := by decide +kernel
theorem dX6_count_114 : decode cX6_count 114 = .ok (.getfield 85, 3) := by decide +kernel
theorem dX6_count_117 : decode cX6_count 117 = .ok (.iadd, 1) := by decide +kernel
theorem dX6_count_118 : decode cX6_count 118 = .ok (.iastore, 1) := by decide +kernel
theorem dX6_count_119 : decode cX6_count 119 = .ok (.iinc 5 1, 3) := by decide +kernel
theorem dX6_count_122 : decode cX6_count 122 = .ok (.goto (-110), 3) := by decide +kernel
theorem dX6_count_125 : decode cX6_count 125 = .ok (.iconst 0, 1) := by decide +kernel
theorem dX6_count_126 : decode cX6_count 126 = .ok (.istore 5, 2) := by decide +kernel
theorem dX6_count_128 : decode cX6_count 128 = .ok (.iconst 0, 1) := by decide +kernel
theorem dX6_count_129 : decode cX6_count 129 = .ok (.istore 6, 2) := by decide +kernel
theorem dX6_count_131 : decode cX6_count 131 = .ok (.aload_n 0, 1) := by decide +kernel
theorem dX6_count_132 : decode cX6_count 132 = .ok (.getfield 27, 3) := by decide +kernel
theorem dX6_count_135 : decode cX6_count 135 = .ok (.invokevirtual 132, 3) := by decide +kernel
theorem dX6_count_138 : decode cX6_count 138 = .ok (.astore 7, 2) := by decide +kernel
theorem dX6_count_140 : decode cX6_count 140 = .ok (.aload 7, 2) := by decide +kernel
theorem dX6_count_142 : decode cX6_count 142 = .ok (.invokeinterface 136 1, 5) := by decide +kernel
theorem dX6_count_147 : decode cX6_count 147 = .ok (.ifCond .eq 36, 3) := by decide +kernel
theorem dX6_count_150 : decode cX6_count 150 = .ok (.aload 7, 2) := by decide +kernel
theorem dX6_count_152 : decode cX6_count 152 = .ok (.invokeinterface 142 1, 5) := by decide +kernel
theorem dX6_count_157 : decode cX6_count 157 = .ok (.checkcast 130, 3) := by decide +kernel
theorem dX6_count_160 : decode cX6_count 160 = .ok (.astore 8, 2) := by decide +kernel
theorem dX6_count_162 : decode cX6_count 162 = .ok (.iload 5, 2) := by decide +kernel
theorem dX6_count_164 : decode cX6_count 164 = .ok (.aload 8, 2) := by decide +kernel
theorem dX6_count_166 : decode cX6_count 166 = .ok (.iconst 0, 1) := by decide +kernel
theorem dX6_count_167 : decode cX6_count 167 = .ok (.iaload, 1) := by decide +kernel
theorem dX6_count_168 : decode cX6_count 168 = .ok (.iadd, 1) := by decide +kernel
theorem dX6_count_169 : decode cX6_count 169 = .ok (.istore 5, 2) := by decide +kernel
theorem dX6_count_171 : decode cX6_count 171 = .ok (.iload 6, 2) := by decide +kernel
theorem dX6_count_173 : decode cX6_count 173 = .ok (.aload 8, 2) := by decide +kernel
theorem dX6_count_175 : decode cX6_count 175 = .ok (.iconst 4, 1) := by decide +kernel
theorem dX6_count_176 : decode cX6_count 176 = .ok (.iaload, 1) := by decide +kernel
theorem dX6_count_177 : decode cX6_count 177 = .ok (.iadd, 1) := by decide +kernel
theorem dX6_count_178 : decode cX6_count 178 = .ok (.istore 6, 2) := by decide +kernel
theorem dX6_count_180 : decode cX6_count 180 = .ok (.goto (-40), 3) := by decide +kernel
theorem dX6_count_183 : decode cX6_count 183 = .ok (.bipush 18, 2) := by decide +kernel
theorem dX6_count_185 : decode cX6_count 185 = .ok (.newarray .int, 2) := by decide +kernel
theorem dX6_count_187 : decode cX6_count 187 = .ok (.dup, 1) := by decide +kernel
theorem dX6_count_188 : decode cX6_count 188 = .ok (.iconst 0, 1) := by decide +kernel
theorem dX6_count_189 : decode cX6_count 189 = .ok (.aload_n 0, 1) := by decide +kernel
theorem dX6_count_190 : decode cX6_count 190 = .ok (.getfield 18, 3) := by decide +kernel
theorem dX6_count_193 : decode cX6_count 193 = .ok (.getfield 54, 3) := by decide +kernel
theorem dX6_count_196 : decode cX6_count 196 = .ok (.iastore, 1) := by decide +kernel
theorem dX6_count_197 : decode cX6_count 197 = .ok (.dup, 1) := by decide +kernel
theorem dX6_count_198 : decode cX6_count 198 = .ok (.iconst 1, 1) := by decide +kernel
theorem dX6_count_199 : decode cX6_count 199 = .ok (.aload_n 0, 1) := by decide +kernel
theorem dX6_count_200 : decode cX6_count 200 = .ok (.getfield 27, 3) := by decide +kernel
theorem dX6_count_203 : decode cX6_count 203 = .ok (.invokevirtual 43, 3) := by decide +kernel
theorem dX6_count_206 : decode cX6_count 206 = .ok (.iastore, 1) := by decide +kernel
theorem dX6_count_207 : decode cX6_count 207 = .ok (.dup, 1) := by decide +kernel
theorem dX6_count_208 : decode cX6_count 208 = .ok (.iconst 2, 1) := by decide +kernel
theorem dX6_count_209 : decode cX6_count 209 = .ok (.iload_n 2, 1) := by decide +kernel
theorem dX6_count_210 : decode cX6_count 210 = .ok (.iastore, 1) := by decide +kernel
theorem dX6_count_211 : decode cX6_count 211 = .ok (.dup, 1) := by decide +kernel
theorem dX6_count_212 : decode cX6_count 212 = .ok (.iconst 3, 1) := by decide +kernel
theorem dX6_count_213 : decode cX6_count 213 = .ok (.iload_n 3, 1) := by decide +kernel
theorem dX6_count_214 : decode cX6_count 214 = .ok (.iastore, 1) := by decide +kernel
theorem dX6_count_215 : decode cX6_count 215 = .ok (.dup, 1) := by decide +kernel
theorem dX6_count_216 : decode cX6_count 216 = .ok (.iconst 4, 1) := by decide +kernel
theorem dX6_count_217 : decode cX6_count 217 = .ok (.aload_n 0, 1) := by decide +kernel
theorem dX6_count_218 : decode cX6_count 218 = .ok (.getfield 18, 3) := by decide +kernel
theorem dX6_count_221 : decode cX6_count 221 = .ok (.getfield 202, 3) := by decide +kernel
theorem dX6_count_224 : decode cX6_count 224 = .ok (.iastore, 1) := by decide +kernel
theorem dX6_count_225 : decode cX6_count 225 = .ok (.dup, 1) := by decide +kernel
theorem dX6_count_226 : decode cX6_count 226 = .ok (.iconst 5, 1) := by decide +kernel
theorem dX6_count_227 : decode cX6_count 227 = .ok (.aload 4, 2) := by decide +kernel
theorem dX6_count_229 : decode cX6_count 229 = .ok (.iconst 0, 1) := by decide +kernel
theorem dX6_count_230 : decode cX6_count 230 = .ok (.iaload, 1) := by decide +kernel
theorem dX6_count_231 : decode cX6_count 231 = .ok (.iastore, 1) := by decide +kernel
theorem dX6_count_232 : decode cX6_count 232 = .ok (.dup, 1) := by decide +kernel
theorem dX6_count_233 : decode cX6_count 233 = .ok (.bipush 6, 2) := by decide +kernel
theorem dX6_count_235 : decode cX6_count 235 = .ok (.aload 4, 2) := by decide +kernel
theorem dX6_count_237 : decode cX6_count 237 = .ok (.iconst 1, 1) := by decide +kernel
theorem dX6_count_238 : decode cX6_count 238 = .ok (.iaload, 1) := by decide +kernel
theorem dX6_count_239 : decode cX6_count 239 = .ok (.iastore, 1) := by decide +kernel
theorem dX6_count_240 : decode cX6_count 240 = .ok (.dup, 1) := by decide +kernel
theorem dX6_count_241 : decode cX6_count 241 = .ok (.bipush 7, 2) := by decide +kernel
theorem dX6_count_243 : decode cX6_count 243 = .ok (.iload 5, 2) := by decide +kernel
theorem dX6_count_245 : decode cX6_count 245 = .ok (.iastore, 1) := by decide +kernel
theorem dX6_count_246 : decode cX6_count 246 = .ok (.dup, 1) := by decide +kernel
theorem dX6_count_247 : decode cX6_count 247 = .ok (.bipush 8, 2) := by decide +kernel
theorem dX6_count_249 : decode cX6_count 249 = .ok (.iload 6, 2) := by decide +kernel
theorem dX6_count_251 : decode cX6_count 251 = .ok (.iastore, 1) := by decide +kernel
theorem dX6_count_252 : decode cX6_count 252 = .ok (.dup, 1) := by decide +kernel
theorem dX6_count_253 : decode cX6_count 253 = .ok (.bipush 9, 2) := by decide +kernel
theorem dX6_count_255 : decode cX6_count 255 = .ok (.aload_n 0, 1) := by decide +kernel
theorem dX6_count_256 : decode cX6_count 256 = .ok (.getfield 97, 3) := by decide +kernel
theorem dX6_count_259 : decode cX6_count 259 = .ok (.iastore, 1) := by decide +kernel
theorem dX6_count_260 : decode cX6_count 260 = .ok (.dup, 1) := by decide +kernel
theorem dX6_count_261 : decode cX6_count 261 = .ok (.bipush 10, 2) := by decide +kernel
theorem dX6_count_263 : decode cX6_count 263 = .ok (.aload_n 0, 1) := by decide +kernel
theorem dX6_count_264 : decode cX6_count 264 = .ok (.getfield 176, 3) := by decide +kernel
theorem dX6_count_267 : decode cX6_count 267 = .ok (.iastore, 1) := by decide +kernel
theorem dX6_count_268 : decode cX6_count 268 = .ok (.dup, 1) := by decide +kernel
theorem dX6_count_269 : decode cX6_count 269 = .ok (.bipush 11, 2) := by decide +kernel
theorem dX6_count_271 : decode cX6_count 271 = .ok (.aload_n 0, 1) := by decide +kernel
theorem dX6_count_272 : decode cX6_count 272 = .ok (.getfield 150, 3) := by decide +kernel
theorem dX6_count_275 : decode cX6_count 275 = .ok (.iastore, 1) := by decide +kernel
theorem dX6_count_276 : decode cX6_count 276 = .ok (.dup, 1) := by decide +kernel
theorem dX6_count_277 : decode cX6_count 277 = .ok (.bipush 12, 2) := by decide +kernel
theorem dX6_count_279 : decode cX6_count 279 = .ok (.aload 4, 2) := by decide +kernel
theorem dX6_count_281 : decode cX6_count 281 = .ok (.iconst 2, 1) := by decide +kernel
theorem dX6_count_282 : decode cX6_count 282 = .ok (.iaload, 1) := by decide +kernel
theorem dX6_count_283 : decode cX6_count 283 = .ok (.iastore, 1) := by decide +kernel
theorem dX6_count_284 : decode cX6_count 284 = .ok (.dup, 1) := by decide +kernel
theorem dX6_count_285 : decode cX6_count 285 = .ok (.bipush 13, 2) := by decide +kernel
theorem dX6_count_287 : decode cX6_count 287 = .ok (.aload_n 0, 1) := by decide +kernel
theorem dX6_count_288 : decode cX6_count 288 = .ok (.getfield 153, 3) := by decide +kernel
theorem dX6_count_291 : decode cX6_count 291 = .ok (.iastore, 1) := by decide +kernel
theorem dX6_count_292 : decode cX6_count 292 = .ok (.dup, 1) := by decide +kernel
theorem dX6_count_293 : decode cX6_count 293 = .ok (.bipush 14, 2) := by decide +kernel
theorem dX6_count_295 : decode cX6_count 295 = .ok (.aload 4, 2) := by decide +kernel
theorem dX6_count_297 : decode cX6_count 297 = .ok (.iconst 3, 1) := by decide +kernel
theorem dX6_count_298 : decode cX6_count 298 = .ok (.iaload, 1) := by decide +kernel
theorem dX6_count_299 : decode cX6_count 299 = .ok (.iastore, 1) := by decide +kernel
theorem dX6_count_300 : decode cX6_count 300 = .ok (.dup, 1) := by decide +kernel
theorem dX6_count_301 : decode cX6_count 301 = .ok (.bipush 15, 2) := by decide +kernel
theorem dX6_count_303 : decode cX6_count 303 = .ok (.aload 4, 2) := by decide +kernel
theorem dX6_count_305 : decode cX6_count 305 = .ok (.iconst 4, 1) := by decide +kernel
theorem dX6_count_306 : decode cX6_count 306 = .ok (.iaload, 1) := by decide +kernel
theorem dX6_count_307 : decode cX6_count 307 = .ok (.iastore, 1) := by decide +kernel
theorem dX6_count_308 : decode cX6_count 308 = .ok (.dup, 1) := by decide +kernel
theorem dX6_count_309 : decode cX6_count 309 = .ok (.bipush 16, 2) := by decide +kernel
theorem dX6_count_311 : decode cX6_count 311 = .ok (.aload_n 0, 1) := by decide +kernel
theorem dX6_count_312 : decode cX6_count 312 = .ok (.getfield 88, 3) := by decide +kernel
theorem dX6_count_315 : decode cX6_count 315 = .ok (.iastore, 1) := by decide +kernel
theorem dX6_count_316 : decode cX6_count 316 = .ok (.dup, 1) := by decide +kernel
theorem dX6_count_317 : decode cX6_count 317 = .ok (.bipush 17, 2) := by decide +kernel
theorem dX6_count_319 : decode cX6_count 319 = .ok (.aload_n 0, 1) := by decide +kernel
theorem dX6_count_320 : decode cX6_count 320 = .ok (.getfield 113, 3) := by decide +kernel
theorem dX6_count_323 : decode cX6_count 323 = .ok (.iastore, 1) := by decide +kernel
theorem dX6_count_324 : decode cX6_count 324 = .ok (.astore 7, 2) := by decide +kernel
theorem dX6_count_326 : decode cX6_count 326 = .ok (.aload 7, 2) := by decide +kernel
theorem dX6_count_328 : decode cX6_count 328 = .ok (.iload_n 1, 1) := by decide +kernel
theorem dX6_count_329 : decode cX6_count 329 = .ok (.iaload, 1) := by decide +kernel
theorem dX6_count_330 : decode cX6_count 330 = .ok (.ireturn, 1) := by decide +kernel
set_option maxRecDepth 20000 in
theorem ggX6_many_X6_isIn : GoodIn wsX6_many wsX6_isIn := goodIn_r _ [4] (by decide +kernel) (by decide +kernel)
set_option maxRecDepth 20000 in
theorem gX6_many_X6_isIn : GoodIn wsX6_many (va_wsS RX6 39 yX6_isIn wsX6_isIn) := goodIn_app (goodIn_of _ (by decide +kernel)) ggX6_many_X6_isIn
set_option maxRecDepth 20000 in
theorem ggX6_many_X6_start : GoodIn wsX6_many wsX6_start := goodIn_r _ [8, 9, 10, 11, 12, 3, 13, 79, 80, 81, 82, 83, 84, 85, 86, 87, 88, 89] (by decide +kernel) (by decide +kernel)
set_option maxRecDepth 20000 in
theorem gX6_many_X6_start : GoodIn wsX6_many (wsV RX6 51 RX6 yX6_start wsX6_start) := goodIn_app (goodIn_of _ (by decide +kernel)) ggX6_many_X6_start
set_option maxRecDepth 20000 in
theorem ggX6_many_X6_count : GoodIn wsX6_many wsX6_count := goodIn_r _ [17, 18, 19, 20, 21, 22, 23, 24, 25, 26, 27, 28, 29, 30, 31, 32, 33, 34, 35, 36, 37, 38, 39, 3, 40, 41, 42, 43, 44, 45, 46, 47, 48, 49, 50, 51, 52, 53, 54, 55, 56, 57, 58, 59, 60, 61, 62, 63, 64, 65, 66, 67, 68, 69, 70, 71, 72, 73, 74, 75, 76, 77, 78, 79, 80, 81, 82, 83, 84, 85, 86, 87, 88, 89, 90, 91, 92, 93, 94, 95, 96, 97, 98, 99, 100, 101, 102, 103, 104, 105, 106, 107, 108, 109, 110] (by decide +kernel) (by decide +kernel)
set_option maxRecDepth 20000 in
theorem gX6_many_X6_count : GoodIn wsX6_many (wsV RX6 205 RX6 yX6_count wsX6_count) := goodIn_app (goodIn_of _ (by decide +kernel)) ggX6_many_X6_count
theorem dX6_many_0 : decode cX6_many 0 = .ok (.aload_n 0, 1) := by decide +kernel
theorem dX6_many_1 : decode cX6_many 1 = .ok (.iload_n 1, 1) := by decide +kernel
theorem dX6_many_2 : decode cX6_many 2 = .ok (.iconst 0, 1) := by decide +kernel
theorem dX6_many_3 : decode cX6_many 3 = .ok (.bipush 17, 2) := by decide +kernel
theorem dX6_many_5 : decode cX6_many 5 = .ok (.invokestatic 39, 3) := by decide +kernel
theorem dX6_many_8 : decode cX6_many 8 = .ok (.ifCond .ne 7, 3) := by decide +kernel
theorem dX6_many_11 : decode cX6_many 11 = .ok (.iconst 1, 1) := by decide +kernel
theorem dX6_many_12 : decode cX6_many 12 = .ok (.goto 4, 3) := by decide +kernel
theorem dX6_many_15 : decode cX6_many 15 = .ok (.iconst 0, 1) := by decide +kernel
theorem dX6_many_16 : decode cX6_many 16 = .ok (.iconst 1, 1) := by decide +kernel
theorem dX6_many_17 : decode cX6_many 17 = .ok (.invokevirtual 51, 3) := by decide +kernel
theorem dX6_many_20 : decode cX6_many 20 = .ok (.ifCond .eq 7, 3) := by decide +kernel
theorem dX6_many_23 : decode cX6_many 23 = .ok (.iconst 0, 1) := by decide +kernel
theorem dX6_many_24 : decode cX6_many 24 = .ok (.goto 8, 3) := by decide +kernel
theorem dX6_many_27 : decode cX6_many 27 = .ok (.aload_n 0, 1) := by decide +kernel
theorem dX6_many_28 : decode cX6_many 28 = .ok (.iload_n 1, 1) := by decide +kernel
theorem dX6_many_29 : decode cX6_many 29 = .ok (.invokevirtual 205, 3) := by decide +kernel
theorem dX6_many_32 : decode cX6_many 32 = .ok (.ireturn, 1) := by decide +kernel
set_option maxRecDepth 20000 in
theorem ggX6_meanStrength_X4_strength : GoodIn wsX6_meanStrength wsX4_strength := goodIn_r _ [9, 10, 11, 12, 13, 14, 15, 16, 17, 18, 33, 34, 35, 36, 37, 38, 39, 40, 41, 42, 43] (by decide +kernel) (by decide +kernel)
set_option maxRecDepth 20000 in
theorem gX6_meanStrength_X4_strength : GoodIn wsX6_meanStrength (wsV RX6 116 RX4 yX4_strength wsX4_strength) := goodIn_app (goodIn_of _ (by decide +kernel)) ggX6_meanStrength_X4_strength
theorem dX6_meanStrength_0 : decode cX6_meanStrength 0 = .ok (.aload_n 0, 1) := by decide +kernel
theorem dX6_meanStrength_1 : decode cX6_meanStrength 1 = .ok (.iconst 0, 1) := by decide +kernel
theorem dX6_meanStrength_2 : decode cX6_meanStrength 2 = .ok (.putfield 31, 3) := by decide +kernel
theorem dX6_meanStrength_5 : decode cX6_meanStrength 5 = .ok (.iconst 0, 1) := by decide +kernel
theorem dX6_meanStrength_6 : decode cX6_meanStrength 6 = .ok (.istore_n 1, 1) := by decide +kernel
theorem dX6_meanStrength_7 : decode cX6_meanStrength 7 = .ok (.iconst 0, 1) := by decide +kernel
theorem dX6_meanStrength_8 : decode cX6_meanStrength 8 = .ok (.istore_n 2, 1) := by decide +kernel
theorem dX6_meanStrength_9 : decode cX6_meanStrength 9 = .ok (.aload_n 0, 1) := by decide +kernel
theorem dX6_meanStrength_10 : decode cX6_meanStrength 10 = .ok (.getfield 18, 3) := by decide +kernel
theorem dX6_meanStrength_13 : decode cX6_meanStrength 13 = .ok (.getfield 57, 3) := by decide +kernel
theorem dX6_meanStrength_16 : decode cX6_meanStrength 16 = .ok (.astore_n 3, 1) := by decide +kernel
theorem dX6_meanStrength_17 : decode cX6_meanStrength 17 = .ok (.aload_n 3, 1) := by decide +kernel
theorem dX6_meanStrength_18 : decode cX6_meanStrength 18 = .ok (.arraylength, 1) := by decide +kernel
theorem dX6_meanStrength_19 : decode cX6_meanStrength 19 = .ok (.istore 4, 2) := by decide +kernel
theorem dX6_meanStrength_21 : decode cX6_meanStrength 21 = .ok (.iconst 0, 1) := by decide +kernel
theorem dX6_meanStrength_22 : decode cX6_meanStrength 22 = .ok (.istore 5, 2) := by decide +kernel
theorem dX6_meanStrength_24 : decode cX6_meanStrength 24 = .ok (.iload 5, 2) := by decide +kernel
theorem dX6_meanStrength_26 : decode cX6_meanStrength 26 = .ok (.iload 4, 2) := by decide +kernel
theorem dX6_meanStrength_28 : decode cX6_meanStrength 28 = .ok (.if_icmp .ge 37, 3) := by decide +kernel
theorem dX6_meanStrength_31 : decode cX6_meanStrength 31 = .ok (.aload_n 3, 1) := by decide +kernel
theorem dX6_meanStrength_32 : decode cX6_meanStrength 32 = .ok (.iload 5, 2) := by decide +kernel
theorem dX6_meanStrength_34 : decode cX6_meanStrength 34 = .ok (.aaload, 1) := by decide +kernel
theorem dX6_meanStrength_35 : decode cX6_meanStrength 35 = .ok (.astore 6, 2) := by decide +kernel
theorem dX6_meanStrength_37 : decode cX6_meanStrength 37 = .ok (.aload 6, 2) := by decide +kernel
theorem dX6_meanStrength_39 : decode cX6_meanStrength 39 = .ok (.getfield 91, 3) := by decide +kernel
theorem dX6_meanStrength_42 : decode cX6_meanStrength 42 = .ok (.ifCond .ne 6, 3) := by decide +kernel
theorem dX6_meanStrength_45 : decode cX6_meanStrength 45 = .ok (.goto 14, 3) := by decide +kernel
theorem dX6_meanStrength_48 : decode cX6_meanStrength 48 = .ok (.iload_n 1, 1) := by decide +kernel
theorem dX6_meanStrength_49 : decode cX6_meanStrength 49 = .ok (.aload 6, 2) := by decide +kernel
theorem dX6_meanStrength_51 : decode cX6_meanStrength 51 = .ok (.invokevirtual 116, 3) := by decide +kernel
theorem dX6_meanStrength_54 : decode cX6_meanStrength 54 = .ok (.iadd, 1) := by decide +kernel
theorem dX6_meanStrength_55 : decode cX6_meanStrength 55 = .ok (.istore_n 1, 1) := by decide +kernel
theorem dX6_meanStrength_56 : decode cX6_meanStrength 56 = .ok (.iinc 2 1, 3) := by decide +kernel
theorem dX6_meanStrength_59 : decode cX6_meanStrength 59 = .ok (.iinc 5 1, 3) := by decide +kernel
theorem dX6_meanStrength_62 : decode cX6_meanStrength 62 = .ok (.goto (-38), 3) := by decide +kernel
theorem dX6_meanStrength_65 : decode cX6_meanStrength 65 = .ok (.iload_n 2, 1) := by decide +kernel
theorem dX6_meanStrength_66 : decode cX6_meanStrength 66 = .ok (.ifCond .ne 7, 3) := by decide +kernel
theorem dX6_meanStrength_69 : decode cX6_meanStrength 69 = .ok (.dconst 0, 1) := by decide +kernel
theorem dX6_meanStrength_70 : decode cX6_meanStrength 70 = .ok (.goto 8, 3) := by decide +kernel
theorem dX6_meanStrength_73 : decode cX6_meanStrength 73 = .ok (.iload_n 1, 1) := by decide +kernel
theorem dX6_meanStrength_74 : decode cX6_meanStrength 74 = .ok (.i2d, 1) := by decide +kernel
theorem dX6_meanStrength_75 : decode cX6_meanStrength 75 = .ok (.iload_n 2, 1) := by decide +kernel
theorem dX6_meanStrength_76 : decode cX6_meanStrength 76 = .ok (.i2d, 1) := by decide +kernel
theorem dX6_meanStrength_77 : decode cX6_meanStrength 77 = .ok (.ddiv, 1) := by decide +kernel
theorem dX6_meanStrength_78 : decode cX6_meanStrength 78 = .ok (.dreturn, 1) := by decide +kernel
set_option maxRecDepth 20000 in
theorem ggX6_crustBehind_X5_copy : GoodIn wsX6_crustBehind wsX5_copy := goodIn_r _ [6, 7, 8, 5, 9, 10, 11, 12, 13, 14, 15, 16, 17, 18, 19, 20, 21, 22, 23, 24, 25, 26, 27, 28, 29, 30, 31, 32, 33, 34, 35, 36, 37, 38, 39, 113, 114, 115, 116, 117, 118, 119, 120, 121, 122, 123, 124, 125, 126] (by decide +kernel) (by decide +kernel)
set_option maxRecDepth 20000 in
theorem gX6_crustBehind_X5_copy : GoodIn wsX6_crustBehind (wsV RX6 208 RX5 yX5_copy wsX5_copy) := goodIn_app (goodIn_of _ (by decide +kernel)) ggX6_crustBehind_X5_copy
set_option maxRecDepth 20000 in
theorem ggX6_crustBehind_X5_day : GoodIn wsX6_crustBehind wsX5_day := goodIn_r _ [43, 10, 9, 44, 45, 46, 47, 48, 49, 50, 51, 52, 53, 54, 55, 56, 57, 58, 59, 60, 61, 62, 63, 64, 65, 66, 19, 67, 30, 23, 68, 69, 70, 71, 31, 32, 33, 72, 73, 74, 75, 76, 77, 34, 78, 79, 80, 81, 82, 83, 84, 85, 86, 87, 88, 89, 90, 91, 35, 92, 93, 94, 95, 96, 97, 98, 99, 100, 101, 36, 113, 114, 115, 116, 117, 118, 119, 120, 121, 122, 123, 124, 125, 126] (by decide +kernel) (by decide +kernel)
set_option maxRecDepth 20000 in
theorem gX6_crustBehind_X5_day : GoodIn wsX6_crustBehind (wsV RX6 76 RX5 yX5_day wsX5_day) := goodIn_app (goodIn_of _ (by decide +kernel)) ggX6_crustBehind_X5_day
theorem dX6_crustBehind_0 : decode cX6_crustBehind 0 = .ok (.aload_n 0, 1) := by decide +kernel
theorem dX6_crustBehind_1 : decode cX6_crustBehind 1 = .ok (.getfield 18, 3) := by decide +kernel
theorem dX6_crustBehind_4 : decode cX6_crustBehind 4 = .ok (.invokevirtual 208, 3) := by decide +kernel
theorem dX6_crustBehind_7 : decode cX6_crustBehind 7 = .ok (.astore 4, 2) := by decide +kernel
theorem dX6_crustBehind_9 : decode cX6_crustBehind 9 = .ok (.iconst 1, 1) := by decide +kernel
theorem dX6_crustBehind_10 : decode cX6_crustBehind 10 = .ok (.istore 5, 2) := by decide +kernel
theorem dX6_crustBehind_12 : decode cX6_crustBehind 12 = .ok (.iload 5, 2) := by decide +kernel
theorem dX6_crustBehind_14 : decode cX6_crustBehind 14 = .ok (.bipush 60, 2) := by decide +kernel
theorem dX6_crustBehind_16 : decode cX6_crustBehind 16 = .ok (.if_icmp .gt 25, 3) := by decide +kernel
theorem dX6_crustBehind_19 : decode cX6_crustBehind 19 = .ok (.aload 4, 2) := by decide +kernel
theorem dX6_crustBehind_21 : decode cX6_crustBehind 21 = .ok (.iload_n 2, 1) := by decide +kernel
theorem dX6_crustBehind_22 : decode cX6_crustBehind 22 = .ok (.iload_n 3, 1) := by decide +kernel
theorem dX6_crustBehind_23 : decode cX6_crustBehind 23 = .ok (.iconst 0, 1) := by decide +kernel
theorem dX6_crustBehind_24 : decode cX6_crustBehind 24 = .ok (.invokevirtual 76, 3) := by decide +kernel
theorem dX6_crustBehind_27 : decode cX6_crustBehind 27 = .ok (.iload_n 1, 1) := by decide +kernel
theorem dX6_crustBehind_28 : decode cX6_crustBehind 28 = .ok (.iaload, 1) := by decide +kernel
theorem dX6_crustBehind_29 : decode cX6_crustBehind 29 = .ok (.ifCond .le 6, 3) := by decide +kernel
theorem dX6_crustBehind_32 : decode cX6_crustBehind 32 = .ok (.iload 5, 2) := by decide +kernel
theorem dX6_crustBehind_34 : decode cX6_crustBehind 34 = .ok (.ireturn, 1) := by decide +kernel
theorem dX6_crustBehind_35 : decode cX6_crustBehind 35 = .ok (.iinc 5 1, 3) := by decide +kernel
theorem dX6_crustBehind_38 : decode cX6_crustBehind 38 = .ok (.goto (-26), 3) := by decide +kernel
theorem dX6_crustBehind_41 : decode cX6_crustBehind 41 = .ok (.iconst (-1), 1) := by decide +kernel
theorem dX6_crustBehind_42 : decode cX6_crustBehind 42 = .ok (.ireturn, 1) := by decide +kernel
set_option maxRecDepth 20000 in
theorem ggX6_crustIn_X6_isNoPan : GoodIn wsX6_crustIn wsX6_isNoPan := goodIn_r _ [4, 5, 6, 3, 7] (by decide +kernel) (by decide +kernel)
set_option maxRecDepth 20000 in
theorem gX6_crustIn_X6_isNoPan : GoodIn wsX6_crustIn (va_wsS RX6 70 yX6_isNoPan wsX6_isNoPan) := goodIn_app (goodIn_of _ (by decide +kernel)) ggX6_crustIn_X6_isNoPan
set_option maxRecDepth 20000 in
theorem ggX6_crustIn_X6_start : GoodIn wsX6_crustIn wsX6_start := goodIn_r _ [11, 12, 13, 14, 15, 3, 16, 121, 122, 123, 124, 125, 126, 127, 128, 129, 130, 131] (by decide +kernel) (by decide +kernel)
set_option maxRecDepth 20000 in
theorem gX6_crustIn_X6_start : GoodIn wsX6_crustIn (wsV RX6 51 RX6 yX6_start wsX6_start) := goodIn_app (goodIn_of _ (by decide +kernel)) ggX6_crustIn_X6_start
set_option maxRecDepth 20000 in
theorem ggX6_crustIn_X6_isIn : GoodIn wsX6_crustIn wsX6_isIn := goodIn_r _ [7] (by decide +kernel) (by decide +kernel)
set_option maxRecDepth 20000 in
theorem gX6_crustIn_X6_isIn : GoodIn wsX6_crustIn (va_wsS RX6 39 yX6_isIn wsX6_isIn) := goodIn_app (goodIn_of _ (by decide +kernel)) ggX6_crustIn_X6_isIn
set_option maxRecDepth 20000 in
theorem ggX6_crustIn_X6_refuse : GoodIn wsX6_crustIn wsX6_refuse := goodIn_r _ [16, 12, 121, 122, 123, 124, 125, 126, 127, 128, 129, 130, 131] (by decide +kernel) (by decide +kernel)
set_option maxRecDepth 20000 in
theorem gX6_crustIn_X6_refuse : GoodIn wsX6_crustIn (wsV RX6 35 RX6 yX6_refuse wsX6_refuse) := goodIn_app (goodIn_of _ (by decide +kernel)) ggX6_crustIn_X6_refuse
set_option maxRecDepth 20000 in
theorem ggX6_crustIn_X6_crustBehind : GoodIn wsX6_crustIn wsX6_crustBehind := goodIn_r _ [20, 21, 22, 23, 24, 25, 26, 27, 28, 29, 30, 31, 32, 33, 34, 35, 36, 37, 38, 39, 40, 41, 42, 43, 44, 45, 46, 47, 48, 49, 50, 51, 52, 53, 54, 55, 56, 57, 58, 59, 60, 61, 62, 63, 64, 65, 66, 67, 68, 69, 70, 71, 72, 73, 74, 75, 76, 77, 78, 3, 79, 80, 81, 82, 83, 84, 85, 86, 87, 88, 89, 90, 91, 92, 93, 94, 95, 96, 97, 98, 99, 100, 101, 102, 103, 104, 105, 106, 107, 108, 109, 110, 111, 112, 113, 114, 115, 116, 117, 118, 119, 120, 121, 122, 123, 124, 125, 126, 127, 128, 129, 130, 131, 132, 133, 134, 135, 136, 137, 138, 139, 140, 141, 142, 143, 144, 145] (by decide +kernel) (by decide +kernel)
set_option maxRecDepth 20000 in
theorem gX6_crustIn_X6_crustBehind : GoodIn wsX6_crustIn (wsV RX6 212 RX6 yX6_crustBehind wsX6_crustBehind) := goodIn_app (goodIn_of _ (by decide +kernel)) ggX6_crustIn_X6_crustBehind
theorem dX6_crustIn_0 : decode cX6_crustIn 0 = .ok (.aload_n 0, 1) := by decide +kernel
theorem dX6_crustIn_1 : decode cX6_crustIn 1 = .ok (.iload_n 1, 1) := by decide +kernel
theorem dX6_crustIn_2 : decode cX6_crustIn 2 = .ok (.invokestatic 70, 3) := by decide +kernel
theorem dX6_crustIn_5 : decode cX6_crustIn 5 = .ok (.iconst 1, 1) := by decide +kernel
theorem dX6_crustIn_6 : decode cX6_crustIn 6 = .ok (.invokevirtual 51, 3) := by decide +kernel
theorem dX6_crustIn_9 : decode cX6_crustIn 9 = .ok (.ifCond .ne 36, 3) := by decide +kernel
theorem dX6_crustIn_12 : decode cX6_crustIn 12 = .ok (.aload_n 0, 1) := by decide +kernel
theorem dX6_crustIn_13 : decode cX6_crustIn 13 = .ok (.iload_n 2, 1) := by decide +kernel
theorem dX6_crustIn_14 : decode cX6_crustIn 14 = .ok (.iconst 0, 1) := by decide +kernel
theorem dX6_crustIn_15 : decode cX6_crustIn 15 = .ok (.bipush 9, 2) := by decide +kernel
theorem dX6_crustIn_17 : decode cX6_crustIn 17 = .ok (.invokestatic 39, 3) := by decide +kernel
theorem dX6_crustIn_20 : decode cX6_crustIn 20 = .ok (.ifCond .eq 13, 3) := by decide +kernel
theorem dX6_crustIn_23 : decode cX6_crustIn 23 = .ok (.iload_n 3, 1) := by decide +kernel
theorem dX6_crustIn_24 : decode cX6_crustIn 24 = .ok (.iconst 0, 1) := by decide +kernel
theorem dX6_crustIn_25 : decode cX6_crustIn 25 = .ok (.bipush 9, 2) := by decide +kernel
theorem dX6_crustIn_27 : decode cX6_crustIn 27 = .ok (.invokestatic 39, 3) := by decide +kernel
theorem dX6_crustIn_30 : decode cX6_crustIn 30 = .ok (.ifCond .ne 7, 3) := by decide +kernel
theorem dX6_crustIn_33 : decode cX6_crustIn 33 = .ok (.iconst 1, 1) := by decide +kernel
theorem dX6_crustIn_34 : decode cX6_crustIn 34 = .ok (.goto 4, 3) := by decide +kernel
theorem dX6_crustIn_37 : decode cX6_crustIn 37 = .ok (.iconst 0, 1) := by decide +kernel
theorem dX6_crustIn_38 : decode cX6_crustIn 38 = .ok (.iconst 2, 1) := by decide +kernel
theorem dX6_crustIn_39 : decode cX6_crustIn 39 = .ok (.invokevirtual 35, 3) := by decide +kernel
theorem dX6_crustIn_42 : decode cX6_crustIn 42 = .ok (.ifCond .eq 7, 3) := by decide +kernel
theorem dX6_crustIn_45 : decode cX6_crustIn 45 = .ok (.iconst 0, 1) := by decide +kernel
theorem dX6_crustIn_46 : decode cX6_crustIn 46 = .ok (.goto 10, 3) := by decide +kernel
theorem dX6_crustIn_49 : decode cX6_crustIn 49 = .ok (.aload_n 0, 1) := by decide +kernel
theorem dX6_crustIn_50 : decode cX6_crustIn 50 = .ok (.iload_n 1, 1) := by decide +kernel
theorem dX6_crustIn_51 : decode cX6_crustIn 51 = .ok (.iload_n 2, 1) := by decide +kernel
theorem dX6_crustIn_52 : decode cX6_crustIn 52 = .ok (.iload_n 3, 1) := by decide +kernel
theorem dX6_crustIn_53 : decode cX6_crustIn 53 = .ok (.invokevirtual 212, 3) := by decide +kernel
theorem dX6_crustIn_56 : decode cX6_crustIn 56 = .ok (.ireturn, 1) := by decide +kernel
set_option maxRecDepth 20000 in
theorem ggX6_saltWith_X5_copy : GoodIn wsX6_saltWith wsX5_copy := goodIn_r _ [10, 11, 12, 9, 13, 14, 15, 16, 17, 18, 19, 20, 21, 22, 23, 24, 25, 26, 27, 28, 29, 30, 31, 32, 33, 34, 35, 36, 37, 38, 39, 40, 41, 42, 43, 117, 118, 119, 120, 121, 122, 123, 124, 125, 126, 127, 128, 129, 130] (by decide +kernel) (by decide +kernel)
set_option maxRecDepth 20000 in
theorem gX6_saltWith_X5_copy : GoodIn wsX6_saltWith (wsV RX6 208 RX5 yX5_copy wsX5_copy) := goodIn_app (goodIn_of _ (by decide +kernel)) ggX6_saltWith_X5_copy
set_option maxRecDepth 20000 in
theorem ggX6_saltWith_X5_day : GoodIn wsX6_saltWith wsX5_day := goodIn_r _ [47, 14, 13, 48, 49, 50, 51, 52, 53, 54, 55, 56, 57, 58, 59, 60, 61, 62, 63, 64, 65, 66, 67, 68, 69, 70, 23, 71, 34, 27, 72, 73, 74, 75, 35, 36, 37, 76, 77, 78, 79, 80, 81, 38, 82, 83, 84, 85, 86, 87, 88, 89, 90, 91, 92, 93, 94, 95, 39, 96, 97, 98, 99, 100, 101, 102, 103, 104, 105, 40, 117, 118, 119, 120, 121, 122, 123, 124, 125, 126, 127, 128, 129, 130] (by decide +kernel) (by decide +kernel)
set_option maxRecDepth 20000 in
theorem gX6_saltWith_X5_day : GoodIn wsX6_saltWith (wsV RX6 76 RX5 yX5_day wsX5_day) := goodIn_app (goodIn_of _ (by decide +kernel)) ggX6_saltWith_X5_day
theorem dX6_saltWith_0 : decode cX6_saltWith 0 = .ok (.aload_n 0, 1) := by decide +kernel
theorem dX6_saltWith_1 : decode cX6_saltWith 1 = .ok (.getfield 18, 3) := by decide +kernel
theorem dX6_saltWith_4 : decode cX6_saltWith 4 = .ok (.invokevirtual 208, 3) := by decide +kernel
theorem dX6_saltWith_7 : decode cX6_saltWith 7 = .ok (.astore 5, 2) := by decide +kernel
theorem dX6_saltWith_9 : decode cX6_saltWith 9 = .ok (.iconst 0, 1) := by decide +kernel
theorem dX6_saltWith_10 : decode cX6_saltWith 10 = .ok (.istore 6, 2) := by decide +kernel
theorem dX6_saltWith_12 : decode cX6_saltWith 12 = .ok (.iload 6, 2) := by decide +kernel
theorem dX6_saltWith_14 : decode cX6_saltWith 14 = .ok (.bipush 8, 2) := by decide +kernel
theorem dX6_saltWith_16 : decode cX6_saltWith 16 = .ok (.if_icmp .ge 35, 3) := by decide +kernel
theorem dX6_saltWith_19 : decode cX6_saltWith 19 = .ok (.aload 5, 2) := by decide +kernel
theorem dX6_saltWith_21 : decode cX6_saltWith 21 = .ok (.getfield 57, 3) := by decide +kernel
theorem dX6_saltWith_24 : decode cX6_saltWith 24 = .ok (.iload 6, 2) := by decide +kernel
theorem dX6_saltWith_26 : decode cX6_saltWith 26 = .ok (.aaload, 1) := by decide +kernel
theorem dX6_saltWith_27 : decode cX6_saltWith 27 = .ok (.iload_n 1, 1) := by decide +kernel
theorem dX6_saltWith_28 : decode cX6_saltWith 28 = .ok (.iload 6, 2) := by decide +kernel
theorem dX6_saltWith_30 : decode cX6_saltWith 30 = .ok (.ishr, 1) := by decide +kernel
theorem dX6_saltWith_31 : decode cX6_saltWith 31 = .ok (.iconst 1, 1) := by decide +kernel
theorem dX6_saltWith_32 : decode cX6_saltWith 32 = .ok (.iand, 1) := by decide +kernel
theorem dX6_saltWith_33 : decode cX6_saltWith 33 = .ok (.iconst 1, 1) := by decide +kernel
theorem dX6_saltWith_34 : decode cX6_saltWith 34 = .ok (.if_icmp .ne 7, 3) := by decide +kernel
theorem dX6_saltWith_37 : decode cX6_saltWith 37 = .ok (.iconst 1, 1) := by decide +kernel
theorem dX6_saltWith_38 : decode cX6_saltWith 38 = .ok (.goto 4, 3) := by decide +kernel
theorem dX6_saltWith_41 : decode cX6_saltWith 41 = .ok (.iconst 0, 1) := by decide +kernel
theorem dX6_saltWith_42 : decode cX6_saltWith 42 = .ok (.putfield 66, 3) := by decide +kernel
theorem dX6_saltWith_45 : decode cX6_saltWith 45 = .ok (.iinc 6 1, 3) := by decide +kernel
theorem dX6_saltWith_48 : decode cX6_saltWith 48 = .ok (.goto (-36), 3) := by decide +kernel
theorem dX6_saltWith_51 : decode cX6_saltWith 51 = .ok (.iconst 0, 1) := by decide +kernel
theorem dX6_saltWith_52 : decode cX6_saltWith 52 = .ok (.istore 6, 2) := by decide +kernel
theorem dX6_saltWith_54 : decode cX6_saltWith 54 = .ok (.iload 6, 2) := by decide +kernel
theorem dX6_saltWith_56 : decode cX6_saltWith 56 = .ok (.iload_n 2, 1) := by decide +kernel
theorem dX6_saltWith_57 : decode cX6_saltWith 57 = .ok (.if_icmp .ge 19, 3) := by decide +kernel
theorem dX6_saltWith_60 : decode cX6_saltWith 60 = .ok (.aload 5, 2) := by decide +kernel
theorem dX6_saltWith_62 : decode cX6_saltWith 62 = .ok (.iload_n 3, 1) := by decide +kernel
theorem dX6_saltWith_63 : decode cX6_saltWith 63 = .ok (.iload 4, 2) := by decide +kernel
theorem dX6_saltWith_65 : decode cX6_saltWith 65 = .ok (.iconst 0, 1) := by decide +kernel
theorem dX6_saltWith_66 : decode cX6_saltWith 66 = .ok (.invokevirtual 76, 3) := by decide +kernel
theorem dX6_saltWith_69 : decode cX6_saltWith 69 = .ok (.pop, 1) := by decide +kernel
theorem dX6_saltWith_70 : decode cX6_saltWith 70 = .ok (.iinc 6 1, 3) := by decide +kernel
theorem dX6_saltWith_73 : decode cX6_saltWith 73 = .ok (.goto (-19), 3) := by decide +kernel
theorem dX6_saltWith_76 : decode cX6_saltWith 76 = .ok (.iconst 0, 1) := by decide +kernel
theorem dX6_saltWith_77 : decode cX6_saltWith 77 = .ok (.istore 6, 2) := by decide +kernel
theorem dX6_saltWith_79 : decode cX6_saltWith 79 = .ok (.iconst 5, 1) := by decide +kernel
theorem dX6_saltWith_80 : decode cX6_saltWith 80 = .ok (.istore 7, 2) := by decide +kernel
theorem dX6_saltWith_82 : decode cX6_saltWith 82 = .ok (.iload 7, 2) := by decide +kernel
theorem dX6_saltWith_84 : decode cX6_saltWith 84 = .ok (.bipush 8, 2) := by decide +kernel
theorem dX6_saltWith_86 : decode cX6_saltWith 86 = .ok (.if_icmp .ge 37, 3) := by decide +kernel
theorem dX6_saltWith_89 : decode cX6_saltWith 89 = .ok (.iload 6, 2) := by decide +kernel
theorem dX6_saltWith_91 : decode cX6_saltWith 91 = .ok (.aload 5, 2) := by decide +kernel
theorem dX6_saltWith_93 : decode cX6_saltWith 93 = .ok (.getfield 57, 3) := by decide +kernel
theorem dX6_saltWith_96 : decode cX6_saltWith 96 = .ok (.iload 7, 2) := by decide +kernel
theorem dX6_saltWith_98 : decode cX6_saltWith 98 = .ok (.aaload, 1) := by decide +kernel
theorem dX6_saltWith_99 : decode cX6_saltWith 99 = .ok (.getfield 100, 3) := by decide +kernel
theorem dX6_saltWith_102 : decode cX6_saltWith 102 = .ok (.aload 5, 2) := by decide +kernel
theorem dX6_saltWith_104 : decode cX6_saltWith 104 = .ok (.getfield 57, 3) := by decide +kernel
theorem dX6_saltWith_107 : decode cX6_saltWith 107 = .ok (.iload 7, 2) := by decide +kernel
theorem dX6_saltWith_109 : decode cX6_saltWith 109 = .ok (.aaload, 1) := by decide +kernel
theorem dX6_saltWith_110 : decode cX6_saltWith 110 = .ok (.getfield 156, 3) := by decide +kernel
theorem dX6_saltWith_113 : decode cX6_saltWith 113 = .ok (.iadd, 1) := by decide +kernel
theorem dX6_saltWith_114 : decode cX6_saltWith 114 = .ok (.iadd, 1) := by decide +kernel
theorem dX6_saltWith_115 : decode cX6_saltWith 115 = .ok (.istore 6, 2) := by decide +kernel
theorem dX6_saltWith_117 : decode cX6_saltWith 117 = .ok (.iinc 7 1, 3) := by decide +kernel
theorem dX6_saltWith_120 : decode cX6_saltWith 120 = .ok (.goto (-38), 3) := by decide +kernel
theorem dX6_saltWith_123 : decode cX6_saltWith 123 = .ok (.iload 6, 2) := by decide +kernel
theorem dX6_saltWith_125 : decode cX6_saltWith 125 = .ok (.ireturn, 1) := by decide +kernel
set_option maxRecDepth 20000 in
theorem ggX6_best_X6_saltWith : GoodIn wsX6_best wsX6_saltWith := goodIn_r _ [5, 6, 7, 8, 9, 10, 11, 12, 13, 14, 15, 16, 17, 18, 19, 20, 21, 22, 23, 24, 25, 26, 27, 28, 29, 30, 31, 32, 33, 34, 35, 36, 37, 38, 39, 40, 41, 42, 43, 44, 45, 46, 47, 48, 49, 50, 51, 52, 53, 54, 55, 56, 57, 58, 59, 60, 61, 62, 63, 64, 65, 66, 67, 4, 68, 69, 70, 71, 72, 73, 74, 75, 76, 77, 78, 79, 80, 81, 82, 83, 84, 85, 86, 87, 88, 89, 90, 91, 92, 93, 94, 95, 96, 97, 98, 99, 100, 101, 102, 103, 104, 105, 106, 107, 108, 109, 110, 111, 112, 113, 114, 115, 116, 117, 118, 119, 120, 121, 122, 123, 124, 125, 126, 127, 128, 129, 130, 131, 132, 133, 134] (by decide +kernel) (by decide +kernel)
set_option maxRecDepth 20000 in
theorem gX6_best_X6_saltWith : GoodIn wsX6_best (wsV RX6 215 RX6 yX6_saltWith wsX6_saltWith) := goodIn_app (goodIn_of _ (by decide +kernel)) ggX6_best_X6_saltWith
theorem dX6_best_0 : decode cX6_best 0 = .ok (.iconst 0, 1) := by decide +kernel
theorem dX6_best_1 : decode cX6_best 1 = .ok (.istore 4, 2) := by decide +kernel
theorem dX6_best_3 : decode cX6_best 3 = .ok (.iconst (-1), 1) := by decide +kernel
theorem dX6_best_4 : decode cX6_best 4 = .ok (.istore 5, 2) := by decide +kernel
theorem dX6_best_6 : decode cX6_best 6 = .ok (.iconst 0, 1) := by decide +kernel
theorem dX6_best_7 : decode cX6_best 7 = .ok (.istore 6, 2) := by decide +kernel
theorem dX6_best_9 : decode cX6_best 9 = .ok (.iload 6, 2) := by decide +kernel
theorem dX6_best_11 : decode cX6_best 11 = .ok (.sipush 256, 3) := by decide +kernel
theorem dX6_best_14 : decode cX6_best 14 = .ok (.if_icmp .ge 38, 3) := by decide +kernel
theorem dX6_best_17 : decode cX6_best 17 = .ok (.aload_n 0, 1) := by decide +kernel
theorem dX6_best_18 : decode cX6_best 18 = .ok (.iload 6, 2) := by decide +kernel
theorem dX6_best_20 : decode cX6_best 20 = .ok (.iload_n 1, 1) := by decide +kernel
theorem dX6_best_21 : decode cX6_best 21 = .ok (.iload_n 2, 1) := by decide +kernel
theorem dX6_best_22 : decode cX6_best 22 = .ok (.iload_n 3, 1) := by decide +kernel
theorem dX6_best_23 : decode cX6_best 23 = .ok (.invokevirtual 215, 3) := by decide +kernel
theorem dX6_best_26 : decode cX6_best 26 = .ok (.istore 7, 2) := by decide +kernel
theorem dX6_best_28 : decode cX6_best 28 = .ok (.iload 7, 2) := by decide +kernel
theorem dX6_best_30 : decode cX6_best 30 = .ok (.iload 5, 2) := by decide +kernel
theorem dX6_best_32 : decode cX6_best 32 = .ok (.if_icmp .gt 6, 3) := by decide +kernel
theorem dX6_best_35 : decode cX6_best 35 = .ok (.goto 11, 3) := by decide +kernel
theorem dX6_best_38 : decode cX6_best 38 = .ok (.iload 7, 2) := by decide +kernel
theorem dX6_best_40 : decode cX6_best 40 = .ok (.istore 5, 2) := by decide +kernel
theorem dX6_best_42 : decode cX6_best 42 = .ok (.iload 6, 2) := by decide +kernel
theorem dX6_best_44 : decode cX6_best 44 = .ok (.istore 4, 2) := by decide +kernel
theorem dX6_best_46 : decode cX6_best 46 = .ok (.iinc 6 1, 3) := by decide +kernel
theorem dX6_best_49 : decode cX6_best 49 = .ok (.goto (-40), 3) := by decide +kernel
theorem dX6_best_52 : decode cX6_best 52 = .ok (.iload 4, 2) := by decide +kernel
theorem dX6_best_54 : decode cX6_best 54 = .ok (.ireturn, 1) := by decide +kernel
set_option maxRecDepth 20000 in
theorem ggX6_bestGates_X6_isIn : GoodIn wsX6_bestGates wsX6_isIn := goodIn_r _ [4] (by decide +kernel) (by decide +kernel)
set_option maxRecDepth 20000 in
theorem gX6_bestGates_X6_isIn : GoodIn wsX6_bestGates (va_wsS RX6 39 yX6_isIn wsX6_isIn) := goodIn_app (goodIn_of _ (by decide +kernel)) ggX6_bestGates_X6_isIn
set_option maxRecDepth 20000 in
theorem ggX6_bestGates_X6_start : GoodIn wsX6_bestGates wsX6_start := goodIn_r _ [8, 9, 10, 11, 12, 3, 13, 126, 127, 128, 129, 130, 131, 132, 133, 134, 135, 136] (by decide +kernel) (by decide +kernel)
set_option maxRecDepth 20000 in
theorem gX6_bestGates_X6_start : GoodIn wsX6_bestGates (wsV RX6 51 RX6 yX6_start wsX6_start) := goodIn_app (goodIn_of _ (by decide +kernel)) ggX6_bestGates_X6_start
set_option maxRecDepth 20000 in
theorem ggX6_bestGates_X6_best : GoodIn wsX6_bestGates wsX6_best := goodIn_r _ [17, 18, 19, 20, 3, 21, 22, 23, 24, 25, 26, 27, 28, 29, 30, 31, 32, 33, 34, 35, 36, 37, 38, 39, 40, 41, 42, 43, 44, 45, 46, 47, 48, 49, 50, 51, 52, 53, 54, 55, 56, 57, 58, 59, 60, 61, 62, 63, 64, 65, 66, 67, 68, 69, 70, 71, 72, 73, 74, 75, 76, 77, 78, 79, 80, 81, 82, 83, 84, 85, 86, 87, 88, 89, 90, 91, 92, 93, 94, 95, 96, 97, 98, 99, 100, 101, 102, 103, 104, 105, 106, 107, 108, 109, 110, 111, 112, 113, 114, 115, 116, 117, 118, 119, 120, 121, 122, 123, 124, 125, 126, 127, 128, 129, 130, 131, 132, 133, 134, 135, 136, 137, 138, 139, 140, 141, 142, 143, 144, 145, 146, 147, 148, 149, 150] (by decide +kernel) (by decide +kernel)
set_option maxRecDepth 20000 in
theorem gX6_bestGates_X6_best : GoodIn wsX6_bestGates (wsV RX6 219 RX6 yX6_best wsX6_best) := goodIn_app (goodIn_of _ (by decide +kernel)) ggX6_bestGates_X6_best
theorem dX6_bestGates_0 : decode cX6_bestGates 0 = .ok (.aload_n 0, 1) := by decide +kernel
theorem dX6_bestGates_1 : decode cX6_bestGates 1 = .ok (.iload_n 1, 1) := by decide +kernel
theorem dX6_bestGates_2 : decode cX6_bestGates 2 = .ok (.iconst 1, 1) := by decide +kernel
theorem dX6_bestGates_3 : decode cX6_bestGates 3 = .ok (.bipush 9, 2) := by decide +kernel
theorem dX6_bestGates_5 : decode cX6_bestGates 5 = .ok (.invokestatic 39, 3) := by decide +kernel
theorem dX6_bestGates_8 : decode cX6_bestGates 8 = .ok (.ifCond .eq 23, 3) := by decide +kernel
theorem dX6_bestGates_11 : decode cX6_bestGates 11 = .ok (.iload_n 2, 1) := by decide +kernel
theorem dX6_bestGates_12 : decode cX6_bestGates 12 = .ok (.iconst 0, 1) := by decide +kernel
theorem dX6_bestGates_13 : decode cX6_bestGates 13 = .ok (.bipush 9, 2) := by decide +kernel
theorem dX6_bestGates_15 : decode cX6_bestGates 15 = .ok (.invokestatic 39, 3) := by decide +kernel
theorem dX6_bestGates_18 : decode cX6_bestGates 18 = .ok (.ifCond .eq 13, 3) := by decide +kernel
theorem dX6_bestGates_21 : decode cX6_bestGates 21 = .ok (.iload_n 3, 1) := by decide +kernel
theorem dX6_bestGates_22 : decode cX6_bestGates 22 = .ok (.iconst 0, 1) := by decide +kernel
theorem dX6_bestGates_23 : decode cX6_bestGates 23 = .ok (.bipush 9, 2) := by decide +kernel
theorem dX6_bestGates_25 : decode cX6_bestGates 25 = .ok (.invokestatic 39, 3) := by decide +kernel
theorem dX6_bestGates_28 : decode cX6_bestGates 28 = .ok (.ifCond .ne 7, 3) := by decide +kernel
theorem dX6_bestGates_31 : decode cX6_bestGates 31 = .ok (.iconst 1, 1) := by decide +kernel
theorem dX6_bestGates_32 : decode cX6_bestGates 32 = .ok (.goto 4, 3) := by decide +kernel
theorem dX6_bestGates_35 : decode cX6_bestGates 35 = .ok (.iconst 0, 1) := by decide +kernel
theorem dX6_bestGates_36 : decode cX6_bestGates 36 = .ok (.iconst 1, 1) := by decide +kernel
theorem dX6_bestGates_37 : decode cX6_bestGates 37 = .ok (.invokevirtual 51, 3) := by decide +kernel
theorem dX6_bestGates_40 : decode cX6_bestGates 40 = .ok (.ifCond .eq 7, 3) := by decide +kernel
theorem dX6_bestGates_43 : decode cX6_bestGates 43 = .ok (.iconst 0, 1) := by decide +kernel
theorem dX6_bestGates_44 : decode cX6_bestGates 44 = .ok (.goto 10, 3) := by decide +kernel
theorem dX6_bestGates_47 : decode cX6_bestGates 47 = .ok (.aload_n 0, 1) := by decide +kernel
theorem dX6_bestGates_48 : decode cX6_bestGates 48 = .ok (.iload_n 1, 1) := by decide +kernel
theorem dX6_bestGates_49 : decode cX6_bestGates 49 = .ok (.iload_n 2, 1) := by decide +kernel
theorem dX6_bestGates_50 : decode cX6_bestGates 50 = .ok (.iload_n 3, 1) := by decide +kernel
theorem dX6_bestGates_51 : decode cX6_bestGates 51 = .ok (.invokevirtual 219, 3) := by decide +kernel
theorem dX6_bestGates_54 : decode cX6_bestGates 54 = .ok (.ireturn, 1) := by decide +kernel
set_option maxRecDepth 20000 in
theorem ggX6_wouldBe_X6_isNoPan : GoodIn wsX6_wouldBe wsX6_isNoPan := goodIn_r _ [9, 10, 11, 8, 12] (by decide +kernel) (by decide +kernel)
set_option maxRecDepth 20000 in
theorem gX6_wouldBe_X6_isNoPan : GoodIn wsX6_wouldBe (va_wsS RX6 70 yX6_isNoPan wsX6_isNoPan) := goodIn_app (goodIn_of _ (by decide +kernel)) ggX6_wouldBe_X6_isNoPan
set_option maxRecDepth 20000 in
theorem ggX6_wouldBe_X6_isNoFamily : GoodIn wsX6_wouldBe wsX6_isNoFamily := goodIn_r _ [16, 1, 17, 18, 19, 20, 21, 22, 10, 11, 8, 12, 73, 74, 75, 76, 77, 78, 79, 80, 81, 82, 83, 98, 99, 100] (by decide +kernel) (by decide +kernel)
set_option maxRecDepth 20000 in
theorem gX6_wouldBe_X6_isNoFamily : GoodIn wsX6_wouldBe (wsV RX6 123 RX6 yX6_isNoFamily wsX6_isNoFamily) := goodIn_app (goodIn_of _ (by decide +kernel)) ggX6_wouldBe_X6_isNoFamily
set_option maxRecDepth 20000 in
theorem ggX6_wouldBe_X6_start : GoodIn wsX6_wouldBe wsX6_start := goodIn_r _ [26, 27, 28, 29, 30, 8, 31, 73, 74, 75, 76, 77, 78, 79, 80, 81, 82, 83] (by decide +kernel) (by decide +kernel)
set_option maxRecDepth 20000 in
theorem gX6_wouldBe_X6_start : GoodIn wsX6_wouldBe (wsV RX6 51 RX6 yX6_start wsX6_start) := goodIn_app (goodIn_of _ (by decide +kernel)) ggX6_wouldBe_X6_start
set_option maxRecDepth 20000 in
theorem ggX6_wouldBe_X6_canHarvest : GoodIn wsX6_wouldBe wsX6_canHarvest := goodIn_r _ [35, 3, 4, 36, 37, 38, 73, 74, 75, 76, 77, 78, 79, 80, 81, 82, 83, 84, 85, 86, 87, 88, 89, 90, 91, 92, 93, 94, 95, 96, 97] (by decide +kernel) (by decide +kernel)
set_option maxRecDepth 20000 in
theorem gX6_wouldBe_X6_canHarvest : GoodIn wsX6_wouldBe (wsV RX6 169 RX6 yX6_canHarvest wsX6_canHarvest) := goodIn_app (goodIn_of _ (by decide +kernel)) ggX6_wouldBe_X6_canHarvest
set_option maxRecDepth 20000 in
theorem ggX6_wouldBe_X6_harvestOf : GoodIn wsX6_wouldBe wsX6_harvestOf := goodIn_r _ [42, 3, 4, 36, 5, 43, 44, 45, 46, 47, 48, 49, 50, 8, 51, 73, 74, 75, 76, 77, 78, 79, 80, 81, 82, 83, 84, 85, 86, 87, 88, 89, 90, 91, 92, 93, 94, 95, 96, 97] (by decide +kernel) (by decide +kernel)
set_option maxRecDepth 20000 in
theorem gX6_wouldBe_X6_harvestOf : GoodIn wsX6_wouldBe (wsV RX6 172 RX6 yX6_harvestOf wsX6_harvestOf) := goodIn_app (goodIn_of _ (by decide +kernel)) ggX6_wouldBe_X6_harvestOf
set_option maxRecDepth 20000 in
theorem ggX6_wouldBe_Jx4a65c_get_915e3 : GoodIn wsX6_wouldBe wsJx4a65c_get_915e3 := goodIn_r _ [55, 22, 56, 57, 58, 59, 60, 61, 62, 63, 64, 65, 66, 20, 67, 68, 98, 99, 100] (by decide +kernel) (by decide +kernel)
set_option maxRecDepth 20000 in
theorem gX6_wouldBe_Jx4a65c_get_915e3 : GoodIn wsX6_wouldBe (wsV RX6 126 RJx4a65c yJx4a65c_get_915e3 wsJx4a65c_get_915e3) := goodIn_app (goodIn_of _ (by decide +kernel)) ggX6_wouldBe_Jx4a65c_get_915e3
set_option maxRecDepth 20000 in
theorem ggX6_wouldBe_X6_share : GoodIn wsX6_wouldBe wsX6_share := goodIn_r _ [51] (by decide +kernel) (by decide +kernel)
set_option maxRecDepth 20000 in
theorem gX6_wouldBe_X6_share : GoodIn wsX6_wouldBe (va_wsS RX6 146 yX6_share wsX6_share) := goodIn_app (goodIn_of _ (by decide +kernel)) ggX6_wouldBe_X6_share
set_option maxRecDepth 20000 in
theorem ggX6_wouldBe_X6_purity : GoodIn wsX6_wouldBe wsX6_purity := goodIn_r _ [71, 72] (by decide +kernel) (by decide +kernel)
set_option maxRecDepth 20000 in
theorem gX6_wouldBe_X6_purity : GoodIn wsX6_wouldBe (va_wsS RX6 183 yX6_purity wsX6_purity) := goodIn_app (goodIn_of _ (by decide +kernel)) ggX6_wouldBe_X6_purity
theorem dX6_wouldBe_0 : decode cX6_wouldBe 0 = .ok (.aload_n 0, 1) := by decide +kernel
theorem dX6_wouldBe_1 : decode cX6_wouldBe 1 = .ok (.iload_n 1, 1) := by decide +kernel
theorem dX6_wouldBe_2 : decode cX6_wouldBe 2 = .ok (.invokestatic 70, 3) := by decide +kernel
theorem dX6_wouldBe_5 : decode cX6_wouldBe 5 = .ok (.ifCond .ne 11, 3) := by decide +kernel
theorem dX6_wouldBe_8 : decode cX6_wouldBe 8 = .ok (.aload_n 0, 1) := by decide +kernel
theorem dX6_wouldBe_9 : decode cX6_wouldBe 9 = .ok (.iload_n 3, 1) := by decide +kernel
theorem dX6_wouldBe_10 : decode cX6_wouldBe 10 = .ok (.invokevirtual 123, 3) := by decide +kernel
theorem dX6_wouldBe_13 : decode cX6_wouldBe 13 = .ok (.ifCond .eq 7, 3) := by decide +kernel
theorem dX6_wouldBe_16 : decode cX6_wouldBe 16 = .ok (.iconst 1, 1) := by decide +kernel
theorem dX6_wouldBe_17 : decode cX6_wouldBe 17 = .ok (.goto 4, 3) := by decide +kernel
theorem dX6_wouldBe_20 : decode cX6_wouldBe 20 = .ok (.iconst 0, 1) := by decide +kernel
theorem dX6_wouldBe_21 : decode cX6_wouldBe 21 = .ok (.iconst 1, 1) := by decide +kernel
theorem dX6_wouldBe_22 : decode cX6_wouldBe 22 = .ok (.invokevirtual 51, 3) := by decide +kernel
theorem dX6_wouldBe_25 : decode cX6_wouldBe 25 = .ok (.ifCond .eq 5, 3) := by decide +kernel
theorem dX6_wouldBe_28 : decode cX6_wouldBe 28 = .ok (.iconst 0, 1) := by decide +kernel
theorem dX6_wouldBe_29 : decode cX6_wouldBe 29 = .ok (.ireturn, 1) := by decide +kernel
theorem dX6_wouldBe_30 : decode cX6_wouldBe 30 = .ok (.aload_n 0, 1) := by decide +kernel
theorem dX6_wouldBe_31 : decode cX6_wouldBe 31 = .ok (.iload_n 1, 1) := by decide +kernel
theorem dX6_wouldBe_32 : decode cX6_wouldBe 32 = .ok (.invokevirtual 169, 3) := by decide +kernel
theorem dX6_wouldBe_35 : decode cX6_wouldBe 35 = .ok (.ifCond .ne 5, 3) := by decide +kernel
theorem dX6_wouldBe_38 : decode cX6_wouldBe 38 = .ok (.iconst (-1), 1) := by decide +kernel
theorem dX6_wouldBe_39 : decode cX6_wouldBe 39 = .ok (.ireturn, 1) := by decide +kernel
theorem dX6_wouldBe_40 : decode cX6_wouldBe 40 = .ok (.aload_n 0, 1) := by decide +kernel
theorem dX6_wouldBe_41 : decode cX6_wouldBe 41 = .ok (.iload_n 1, 1) := by decide +kernel
theorem dX6_wouldBe_42 : decode cX6_wouldBe 42 = .ok (.iload_n 2, 1) := by decide +kernel
theorem dX6_wouldBe_43 : decode cX6_wouldBe 43 = .ok (.invokevirtual 172, 3) := by decide +kernel
theorem dX6_wouldBe_46 : decode cX6_wouldBe 46 = .ok (.astore 4, 2) := by decide +kernel
theorem dX6_wouldBe_48 : decode cX6_wouldBe 48 = .ok (.aload_n 0, 1) := by decide +kernel
theorem dX6_wouldBe_49 : decode cX6_wouldBe 49 = .ok (.getfield 27, 3) := by decide +kernel
theorem dX6_wouldBe_52 : decode cX6_wouldBe 52 = .ok (.iload_n 3, 1) := by decide +kernel
theorem dX6_wouldBe_53 : decode cX6_wouldBe 53 = .ok (.invokevirtual 126, 3) := by decide +kernel
theorem dX6_wouldBe_56 : decode cX6_wouldBe 56 = .ok (.checkcast 130, 3) := by decide +kernel
theorem dX6_wouldBe_59 : decode cX6_wouldBe 59 = .ok (.astore 5, 2) := by decide +kernel
theorem dX6_wouldBe_61 : decode cX6_wouldBe 61 = .ok (.aload 4, 2) := by decide +kernel
theorem dX6_wouldBe_63 : decode cX6_wouldBe 63 = .ok (.iconst 1, 1) := by decide +kernel
theorem dX6_wouldBe_64 : decode cX6_wouldBe 64 = .ok (.iaload, 1) := by decide +kernel
theorem dX6_wouldBe_65 : decode cX6_wouldBe 65 = .ok (.iload_n 2, 1) := by decide +kernel
theorem dX6_wouldBe_66 : decode cX6_wouldBe 66 = .ok (.ifCond .eq 21, 3) := by decide +kernel
theorem dX6_wouldBe_69 : decode cX6_wouldBe 69 = .ok (.bipush 10, 2) := by decide +kernel
theorem dX6_wouldBe_71 : decode cX6_wouldBe 71 = .ok (.aload_n 0, 1) := by decide +kernel
theorem dX6_wouldBe_72 : decode cX6_wouldBe 72 = .ok (.getfield 18, 3) := by decide +kernel
theorem dX6_wouldBe_75 : decode cX6_wouldBe 75 = .ok (.getfield 57, 3) := by decide +kernel
theorem dX6_wouldBe_78 : decode cX6_wouldBe 78 = .ok (.iload_n 1, 1) := by decide +kernel
theorem dX6_wouldBe_79 : decode cX6_wouldBe 79 = .ok (.aaload, 1) := by decide +kernel
theorem dX6_wouldBe_80 : decode cX6_wouldBe 80 = .ok (.getfield 61, 3) := by decide +kernel
theorem dX6_wouldBe_83 : decode cX6_wouldBe 83 = .ok (.imul, 1) := by decide +kernel
theorem dX6_wouldBe_84 : decode cX6_wouldBe 84 = .ok (.goto 4, 3) := by decide +kernel
theorem dX6_wouldBe_87 : decode cX6_wouldBe 87 = .ok (.iconst 0, 1) := by decide +kernel
theorem dX6_wouldBe_88 : decode cX6_wouldBe 88 = .ok (.iadd, 1) := by decide +kernel
theorem dX6_wouldBe_89 : decode cX6_wouldBe 89 = .ok (.istore 6, 2) := by decide +kernel
theorem dX6_wouldBe_91 : decode cX6_wouldBe 91 = .ok (.aload 5, 2) := by decide +kernel
theorem dX6_wouldBe_93 : decode cX6_wouldBe 93 = .ok (.iconst 0, 1) := by decide +kernel
theorem dX6_wouldBe_94 : decode cX6_wouldBe 94 = .ok (.iaload, 1) := by decide +kernel
theorem dX6_wouldBe_95 : decode cX6_wouldBe 95 = .ok (.aload 4, 2) := by decide +kernel
theorem dX6_wouldBe_97 : decode cX6_wouldBe 97 = .ok (.iconst 0, 1) := by decide +kernel
theorem dX6_wouldBe_98 : decode cX6_wouldBe 98 = .ok (.iaload, 1) := by decide +kernel
theorem dX6_wouldBe_99 : decode cX6_wouldBe 99 = .ok (.aload 4, 2) := by decide +kernel
theorem dX6_wouldBe_101 : decode cX6_wouldBe 101 = .ok (.iconst 0, 1) := by decide +kernel
theorem dX6_wouldBe_102 : decode cX6_wouldBe 102 = .ok (.iaload, 1) := by decide +kernel
theorem dX6_wouldBe_103 : decode cX6_wouldBe 103 = .ok (.bipush 10, 2) := by decide +kernel
theorem dX6_wouldBe_105 : decode cX6_wouldBe 105 = .ok (.idiv, 1) := by decide +kernel
theorem dX6_wouldBe_106 : decode cX6_wouldBe 106 = .ok (.isub, 1) := by decide +kernel
theorem dX6_wouldBe_107 : decode cX6_wouldBe 107 = .ok (.aload 5, 2) := by decide +kernel
theorem dX6_wouldBe_109 : decode cX6_wouldBe 109 = .ok (.iload_n 1, 1) := by decide +kernel
theorem dX6_wouldBe_110 : decode cX6_wouldBe 110 = .ok (.iaload, 1) := by decide +kernel
theorem dX6_wouldBe_111 : decode cX6_wouldBe 111 = .ok (.bipush 12, 2) := by decide +kernel
theorem dX6_wouldBe_113 : decode cX6_wouldBe 113 = .ok (.invokestatic 146, 3) := by decide +kernel
theorem dX6_wouldBe_116 : decode cX6_wouldBe 116 = .ok (.iadd, 1) := by decide +kernel
theorem dX6_wouldBe_117 : decode cX6_wouldBe 117 = .ok (.aload 5, 2) := by decide +kernel
theorem dX6_wouldBe_119 : decode cX6_wouldBe 119 = .ok (.iconst 1, 1) := by decide +kernel
theorem dX6_wouldBe_120 : decode cX6_wouldBe 120 = .ok (.iaload, 1) := by decide +kernel
theorem dX6_wouldBe_121 : decode cX6_wouldBe 121 = .ok (.iload 6, 2) := by decide +kernel
theorem dX6_wouldBe_123 : decode cX6_wouldBe 123 = .ok (.aload 5, 2) := by decide +kernel
theorem dX6_wouldBe_125 : decode cX6_wouldBe 125 = .ok (.iload_n 1, 1) := by decide +kernel
theorem dX6_wouldBe_126 : decode cX6_wouldBe 126 = .ok (.iaload, 1) := by decide +kernel
theorem dX6_wouldBe_127 : decode cX6_wouldBe 127 = .ok (.bipush 12, 2) := by decide +kernel
theorem dX6_wouldBe_129 : decode cX6_wouldBe 129 = .ok (.invokestatic 146, 3) := by decide +kernel
theorem dX6_wouldBe_132 : decode cX6_wouldBe 132 = .ok (.iadd, 1) := by decide +kernel
theorem dX6_wouldBe_133 : decode cX6_wouldBe 133 = .ok (.invokestatic 183, 3) := by decide +kernel
theorem dX6_wouldBe_136 : decode cX6_wouldBe 136 = .ok (.ireturn, 1) := by decide +kernel
set_option maxRecDepth 20000 in
theorem ggX6_tideFrom_X6_tideOf : GoodIn wsX6_tideFrom wsX6_tideOf := goodIn_r _ [6, 7, 8, 9, 10] (by decide +kernel) (by decide +kernel)
set_option maxRecDepth 20000 in
theorem gX6_tideFrom_X6_tideOf : GoodIn wsX6_tideFrom (va_wsS RX6 94 yX6_tideOf wsX6_tideOf) := goodIn_app (goodIn_of _ (by decide +kernel)) ggX6_tideFrom_X6_tideOf
theorem dX6_tideFrom_0 : decode cX6_tideFrom 0 = .ok (.aload_n 0, 1) := by decide +kernel
theorem dX6_tideFrom_1 : decode cX6_tideFrom 1 = .ok (.getfield 18, 3) := by decide +kernel
theorem dX6_tideFrom_4 : decode cX6_tideFrom 4 = .ok (.getfield 54, 3) := by decide +kernel
theorem dX6_tideFrom_7 : decode cX6_tideFrom 7 = .ok (.istore_n 3, 1) := by decide +kernel
theorem dX6_tideFrom_8 : decode cX6_tideFrom 8 = .ok (.iload_n 3, 1) := by decide +kernel
theorem dX6_tideFrom_9 : decode cX6_tideFrom 9 = .ok (.aload_n 0, 1) := by decide +kernel
theorem dX6_tideFrom_10 : decode cX6_tideFrom 10 = .ok (.getfield 18, 3) := by decide +kernel
theorem dX6_tideFrom_13 : decode cX6_tideFrom 13 = .ok (.getfield 54, 3) := by decide +kernel
theorem dX6_tideFrom_16 : decode cX6_tideFrom 16 = .ok (.bipush 14, 2) := by decide +kernel
theorem dX6_tideFrom_18 : decode cX6_tideFrom 18 = .ok (.iadd, 1) := by decide +kernel
theorem dX6_tideFrom_19 : decode cX6_tideFrom 19 = .ok (.if_icmp .ge 34, 3) := by decide +kernel
theorem dX6_tideFrom_22 : decode cX6_tideFrom 22 = .ok (.iload_n 2, 1) := by decide +kernel
theorem dX6_tideFrom_23 : decode cX6_tideFrom 23 = .ok (.ifCond .eq 14, 3) := by decide +kernel
theorem dX6_tideFrom_26 : decode cX6_tideFrom 26 = .ok (.iload_n 3, 1) := by decide +kernel
theorem dX6_tideFrom_27 : decode cX6_tideFrom 27 = .ok (.invokestatic 94, 3) := by decide +kernel
theorem dX6_tideFrom_30 : decode cX6_tideFrom 30 = .ok (.iload_n 1, 1) := by decide +kernel
theorem dX6_tideFrom_31 : decode cX6_tideFrom 31 = .ok (.if_icmp .lt 16, 3) := by decide +kernel
theorem dX6_tideFrom_34 : decode cX6_tideFrom 34 = .ok (.goto 11, 3) := by decide +kernel
theorem dX6_tideFrom_37 : decode cX6_tideFrom 37 = .ok (.iload_n 3, 1) := by decide +kernel
theorem dX6_tideFrom_38 : decode cX6_tideFrom 38 = .ok (.invokestatic 94, 3) := by decide +kernel
theorem dX6_tideFrom_41 : decode cX6_tideFrom 41 = .ok (.iload_n 1, 1) := by decide +kernel
theorem dX6_tideFrom_42 : decode cX6_tideFrom 42 = .ok (.if_icmp .gt 5, 3) := by decide +kernel
theorem dX6_tideFrom_45 : decode cX6_tideFrom 45 = .ok (.iload_n 3, 1) := by decide +kernel
theorem dX6_tideFrom_46 : decode cX6_tideFrom 46 = .ok (.ireturn, 1) := by decide +kernel
theorem dX6_tideFrom_47 : decode cX6_tideFrom 47 = .ok (.iinc 3 1, 3) := by decide +kernel
theorem dX6_tideFrom_50 : decode cX6_tideFrom 50 = .ok (.goto (-42), 3) := by decide +kernel
theorem dX6_tideFrom_53 : decode cX6_tideFrom 53 = .ok (.iconst (-1), 1) := by decide +kernel
theorem dX6_tideFrom_54 : decode cX6_tideFrom 54 = .ok (.ireturn, 1) := by decide +kernel
set_option maxRecDepth 20000 in
theorem ggX6_tideOn_X6_isIn : GoodIn wsX6_tideOn wsX6_isIn := goodIn_r _ [4] (by decide +kernel) (by decide +kernel)
set_option maxRecDepth 20000 in
theorem gX6_tideOn_X6_isIn : GoodIn wsX6_tideOn (va_wsS RX6 39 yX6_isIn wsX6_isIn) := goodIn_app (goodIn_of _ (by decide +kernel)) ggX6_tideOn_X6_isIn
set_option maxRecDepth 20000 in
theorem ggX6_tideOn_X6_start : GoodIn wsX6_tideOn wsX6_start := goodIn_r _ [8, 9, 10, 11, 12, 3, 13, 27, 28, 29, 30, 31, 32, 33, 34, 35, 36, 37] (by decide +kernel) (by decide +kernel)
set_option maxRecDepth 20000 in
theorem gX6_tideOn_X6_start : GoodIn wsX6_tideOn (wsV RX6 51 RX6 yX6_start wsX6_start) := goodIn_app (goodIn_of _ (by decide +kernel)) ggX6_tideOn_X6_start
set_option maxRecDepth 20000 in
theorem ggX6_tideOn_X6_tideFrom : GoodIn wsX6_tideOn wsX6_tideFrom := goodIn_r _ [17, 18, 19, 20, 21, 3, 22, 23, 24, 25, 26, 27, 28, 29, 30, 31, 32, 33, 34, 35, 36, 37, 38, 39, 40] (by decide +kernel) (by decide +kernel)
set_option maxRecDepth 20000 in
theorem gX6_tideOn_X6_tideFrom : GoodIn wsX6_tideOn (wsV RX6 222 RX6 yX6_tideFrom wsX6_tideFrom) := goodIn_app (goodIn_of _ (by decide +kernel)) ggX6_tideOn_X6_tideFrom
theorem dX6_tideOn_0 : decode cX6_tideOn 0 = .ok (.aload_n 0, 1) := by decide +kernel
theorem dX6_tideOn_1 : decode cX6_tideOn 1 = .ok (.iload_n 1, 1) := by decide +kernel
theorem dX6_tideOn_2 : decode cX6_tideOn 2 = .ok (.iconst 0, 1) := by decide +kernel
theorem dX6_tideOn_3 : decode cX6_tideOn 3 = .ok (.bipush 20, 2) := by decide +kernel
theorem dX6_tideOn_5 : decode cX6_tideOn 5 = .ok (.invokestatic 39, 3) := by decide +kernel
theorem dX6_tideOn_8 : decode cX6_tideOn 8 = .ok (.ifCond .ne 7, 3) := by decide +kernel
theorem dX6_tideOn_11 : decode cX6_tideOn 11 = .ok (.iconst 1, 1) := by decide +kernel
theorem dX6_tideOn_12 : decode cX6_tideOn 12 = .ok (.goto 4, 3) := by decide +kernel
theorem dX6_tideOn_15 : decode cX6_tideOn 15 = .ok (.iconst 0, 1) := by decide +kernel
theorem dX6_tideOn_16 : decode cX6_tideOn 16 = .ok (.iconst 1, 1) := by decide +kernel
theorem dX6_tideOn_17 : decode cX6_tideOn 17 = .ok (.invokevirtual 51, 3) := by decide +kernel
theorem dX6_tideOn_20 : decode cX6_tideOn 20 = .ok (.ifCond .eq 7, 3) := by decide +kernel
theorem dX6_tideOn_23 : decode cX6_tideOn 23 = .ok (.iconst 0, 1) := by decide +kernel
theorem dX6_tideOn_24 : decode cX6_tideOn 24 = .ok (.goto 9, 3) := by decide +kernel
theorem dX6_tideOn_27 : decode cX6_tideOn 27 = .ok (.aload_n 0, 1) := by decide +kernel
theorem dX6_tideOn_28 : decode cX6_tideOn 28 = .ok (.iload_n 1, 1) := by decide +kernel
theorem dX6_tideOn_29 : decode cX6_tideOn 29 = .ok (.iload_n 2, 1) := by decide +kernel
theorem dX6_tideOn_30 : decode cX6_tideOn 30 = .ok (.invokevirtual 222, 3) := by decide +kernel
theorem dX6_tideOn_33 : decode cX6_tideOn 33 = .ok (.ireturn, 1) := by decide +kernel
theorem dX6_add_0 : decode cX6_add 0 = .ok (.lload_n 0, 1) := by decide +kernel
theorem dX6_add_1 : decode cX6_add 1 = .ok (.ldc2_w 226, 3) := by decide +kernel
theorem dX6_add_4 : decode cX6_add 4 = .ok (.lmul, 1) := by decide +kernel
theorem dX6_add_5 : decode cX6_add 5 = .ok (.lload_n 2, 1) := by decide +kernel
theorem dX6_add_6 : decode cX6_add 6 = .ok (.ladd, 1) := by decide +kernel
theorem dX6_add_7 : decode cX6_add 7 = .ok (.lreturn, 1) := by decide +kernel
set_option maxRecDepth 20000 in
theorem ggX6_digest_X6_count : GoodIn wsX6_digest wsX6_count := goodIn_r _ [9, 10, 11, 12, 13, 14, 15, 16, 17, 18, 19, 3, 4, 20, 21, 22, 23, 24, 25, 26, 27, 28, 29, 8, 30, 31, 32, 33, 34, 35, 36, 37, 38, 39, 40, 41, 42, 43, 44, 45, 46, 47, 48, 49, 50, 51, 52, 53, 54, 55, 56, 57, 58, 59, 60, 61, 62, 63, 64, 65, 66, 67, 68, 203, 204, 205, 206, 207, 208, 209, 210, 211, 212, 213, 214, 215, 216, 217, 218, 219, 220, 221, 222, 223, 224, 225, 226, 227, 228, 229, 230, 231, 232, 233, 234] (by decide +kernel) (by decide +kernel)
set_option maxRecDepth 20000 in
theorem gX6_digest_X6_count : GoodIn wsX6_digest (wsV RX6 205 RX6 yX6_count wsX6_count) := goodIn_app (goodIn_of _ (by decide +kernel)) ggX6_digest_X6_count
set_option maxRecDepth 20000 in
theorem ggX6_digest_X6_add : GoodIn wsX6_digest wsX6_add := goodIn_r _ [71, 72] (by decide +kernel) (by decide +kernel)
set_option maxRecDepth 20000 in
theorem gX6_digest_X6_add : GoodIn wsX6_digest (va_wsS RX6 230 yX6_add wsX6_add) := goodIn_app (goodIn_of _ (by decide +kernel)) ggX6_digest_X6_add
set_option maxRecDepth 20000 in
theorem ggX6_digest_X6_toldOfPond : GoodIn wsX6_digest wsX6_toldOfPond := goodIn_r _ [76, 11, 12, 10, 77, 18, 15, 78, 79, 19, 16, 17, 80, 20, 81, 82, 83, 84, 85, 86, 87, 88, 89, 90, 91, 92, 93, 94, 95, 96, 97, 98, 99, 28, 29, 8, 30, 203, 204, 205, 206, 207, 208, 209, 210, 211, 212, 213, 214, 215, 216, 217, 218, 219, 220, 221, 222, 223, 224, 225, 226, 227] (by decide +kernel) (by decide +kernel)
set_option maxRecDepth 20000 in
theorem gX6_digest_X6_toldOfPond : GoodIn wsX6_digest (wsV RX6 195 RX6 yX6_toldOfPond wsX6_toldOfPond) := goodIn_app (goodIn_of _ (by decide +kernel)) ggX6_digest_X6_toldOfPond
set_option maxRecDepth 20000 in
theorem ggX6_digest_Jx4a65c_iterator_32c93 : GoodIn wsX6_digest wsJx4a65c_iterator_32c93 := goodIn_r _ [35, 36, 37, 38, 39, 40, 41, 42, 43, 44, 45, 46, 47, 48, 49, 228, 229, 230, 231, 232, 233, 234] (by decide +kernel) (by decide +kernel)
set_option maxRecDepth 20000 in
theorem gX6_digest_Jx4a65c_iterator_32c93 : GoodIn wsX6_digest (wsV RX6 132 RJx4a65c yJx4a65c_iterator_32c93 wsJx4a65c_iterator_32c93) := goodIn_app (goodIn_of _ (by decide +kernel)) ggX6_digest_Jx4a65c_iterator_32c93
set_option maxRecDepth 20000 in
theorem ggX6_digest_Jx35411_hasNext_aae02 : GoodIn wsX6_digest wsJx35411_hasNext_aae02 := goodIn_r _ [53, 54, 42, 228, 229, 230, 231, 232, 233, 234] (by decide +kernel) (by decide +kernel)
set_option maxRecDepth 20000 in
theorem gX6_digest_Jx35411_hasNext_aae02_f136Jx35411 : GoodIn wsX6_digest (va_wsF RX6 136 RJx35411 ⟨"java/util/Iterator", "hasNext", "()Z"⟩ yJx35411_hasNext_aae02 wsJx35411_hasNext_aae02) := goodIn_app (goodIn_of _ (by decide +kernel)) ggX6_digest_Jx35411_hasNext_aae02
set_option maxRecDepth 20000 in
theorem ggX6_digest_Jx35411_next_0502b : GoodIn wsX6_digest wsJx35411_next_0502b := goodIn_r _ [58, 54, 42, 59, 46, 60, 61, 62, 38, 63, 47, 48, 49, 228, 229, 230, 231, 232, 233, 234] (by decide +kernel) (by decide +kernel)
set_option maxRecDepth 20000 in
theorem gX6_digest_Jx35411_next_0502b_f142Jx35411 : GoodIn wsX6_digest (va_wsF RX6 142 RJx35411 ⟨"java/util/Iterator", "next", "()Ljava/lang/Object;"⟩ yJx35411_next_0502b wsJx35411_next_0502b) := goodIn_app (goodIn_of _ (by decide +kernel)) ggX6_digest_Jx35411_next_0502b
set_option maxRecDepth 20000 in
theorem ggX6_digest_X6_toldOfFamily : GoodIn wsX6_digest wsX6_toldOfFamily := goodIn_r _ [102, 10, 103, 104, 8, 105, 106] (by decide +kernel) (by decide +kernel)
set_option maxRecDepth 20000 in
theorem gX6_digest_X6_toldOfFamily : GoodIn wsX6_digest (va_wsS RX6 198 yX6_toldOfFamily wsX6_toldOfFamily) := goodIn_app (goodIn_of _ (by decide +kernel)) ggX6_digest_X6_toldOfFamily
set_option maxRecDepth 20000 in
theorem ggX6_digest_X6_crustBehind : GoodIn wsX6_digest wsX6_crustBehind := goodIn_r _ [110, 11, 111, 112, 113, 114, 115, 116, 117, 118, 119, 120, 121, 122, 123, 44, 45, 124, 125, 84, 126, 127, 128, 87, 129, 130, 131, 132, 133, 134, 86, 93, 135, 94, 136, 137, 138, 139, 140, 141, 142, 143, 144, 145, 146, 147, 148, 149, 150, 151, 152, 153, 154, 98, 155, 10, 156, 157, 158, 8, 159, 160, 161, 162, 163, 82, 83, 85, 164, 165, 166, 167, 168, 169, 170, 171, 172, 173, 174, 175, 89, 90, 91, 92, 95, 96, 97, 99, 176, 177, 178, 179, 180, 181, 182, 183, 184, 185, 186, 187, 188, 189, 203, 204, 205, 206, 207, 208, 209, 210, 211, 212, 213, 214, 215, 216, 217, 218, 219, 220, 221, 222, 223, 224, 225, 226, 227] (by decide +kernel) (by decide +kernel)
set_option maxRecDepth 20000 in
theorem gX6_digest_X6_crustBehind : GoodIn wsX6_digest (wsV RX6 212 RX6 yX6_crustBehind wsX6_crustBehind) := goodIn_app (goodIn_of _ (by decide +kernel)) ggX6_digest_X6_crustBehind
set_option maxRecDepth 20000 in
theorem ggX6_digest_X6_best : GoodIn wsX6_digest wsX6_best := goodIn_r _ [193, 194, 195, 196, 8, 197, 11, 12, 13, 15, 16, 111, 112, 113, 114, 115, 116, 117, 118, 119, 120, 121, 122, 123, 44, 45, 124, 125, 84, 126, 127, 128, 87, 129, 130, 131, 132, 133, 134, 86, 93, 135, 94, 136, 137, 138, 139, 140, 141, 142, 143, 144, 145, 146, 147, 148, 149, 150, 151, 152, 153, 154, 98, 155, 10, 156, 157, 158, 159, 160, 161, 162, 163, 82, 83, 85, 164, 165, 166, 167, 168, 169, 170, 171, 172, 173, 174, 175, 89, 90, 91, 92, 95, 96, 97, 99, 176, 177, 178, 179, 180, 181, 182, 183, 184, 185, 186, 187, 188, 189, 203, 204, 205, 206, 207, 208, 209, 210, 211, 212, 213, 214, 215, 216, 217, 218, 219, 220, 221, 222, 223, 224, 225, 226, 227] (by decide +kernel) (by decide +kernel)
set_option maxRecDepth 20000 in
theorem gX6_digest_X6_best : GoodIn wsX6_digest (wsV RX6 219 RX6 yX6_best wsX6_best) := goodIn_app (goodIn_of _ (by decide +kernel)) ggX6_digest_X6_best
set_option maxRecDepth 20000 in
theorem ggX6_digest_X6_tideFrom : GoodIn wsX6_digest wsX6_tideFrom := goodIn_r _ [201, 11, 20, 202, 158, 8, 159, 160, 161, 98, 162, 203, 204, 205, 206, 207, 208, 209, 210, 211, 212, 213, 214, 215, 216] (by decide +kernel) (by decide +kernel)
set_option maxRecDepth 20000 in
theorem gX6_digest_X6_tideFrom : GoodIn wsX6_digest (wsV RX6 222 RX6 yX6_tideFrom wsX6_tideFrom) := goodIn_app (goodIn_of _ (by decide +kernel)) ggX6_digest_X6_tideFrom
theorem dX6_digest_0 : decode cX6_digest 0 = .ok (.aload_n 0, 1) := by decide +kernel
theorem dX6_digest_1 : decode cX6_digest 1 = .ok (.iconst 0, 1) := by decide +kernel
theorem dX6_digest_2 : decode cX6_digest 2 = .ok (.putfield 31, 3) := by decide +kernel
theorem dX6_digest_5 : decode cX6_digest 5 = .ok (.ldc2_w 228, 3) := by decide +kernel
theorem dX6_digest_8 : decode cX6_digest 8 = .ok (.lstore_n 1, 1) := by decide +kernel
theorem dX6_digest_9 : decode cX6_digest 9 = .ok (.iconst 0, 1) := by decide +kernel
theorem dX6_digest_10 : decode cX6_digest 10 = .ok (.istore_n 3, 1) := by decide +kernel
theorem dX6_digest_11 : decode cX6_digest 11 = .ok (.iload_n 3, 1) := by decide +kernel
theorem dX6_digest_12 : decode cX6_digest 12 = .ok (.bipush 18, 2) := by decide +kernel
theorem dX6_digest_14 : decode cX6_digest 14 = .ok (.if_icmp .ge 20, 3) := by decide +kernel
theorem dX6_digest_17 : decode cX6_digest 17 = .ok (.lload_n 1, 1) := by decide +kernel
theorem dX6_digest_18 : decode cX6_digest 18 = .ok (.aload_n 0, 1) := by decide +kernel
theorem dX6_digest_19 : decode cX6_digest 19 = .ok (.iload_n 3, 1) := by decide +kernel
theorem dX6_digest_20 : decode cX6_digest 20 = .ok (.invokevirtual 205, 3) := by decide +kernel
theorem dX6_digest_23 : decode cX6_digest 23 = .ok (.i2l, 1) := by decide +kernel
theorem dX6_digest_24 : decode cX6_digest 24 = .ok (.invokestatic 230, 3) := by decide +kernel
theorem dX6_digest_27 : decode cX6_digest 27 = .ok (.lstore_n 1, 1) := by decide +kernel
theorem dX6_digest_28 : decode cX6_digest 28 = .ok (.iinc 3 1, 3) := by decide +kernel
theorem dX6_digest_31 : decode cX6_digest 31 = .ok (.goto (-20), 3) := by decide +kernel
theorem dX6_digest_34 : decode cX6_digest 34 = .ok (.iconst 0, 1) := by decide +kernel
theorem dX6_digest_35 : decode cX6_digest 35 = .ok (.istore_n 3, 1) := by decide +kernel
theorem dX6_digest_36 : decode cX6_digest 36 = .ok (.iload_n 3, 1) := by decide +kernel
theorem dX6_digest_37 : decode cX6_digest 37 = .ok (.bipush 8, 2) := by decide +kernel
theorem dX6_digest_39 : decode cX6_digest 39 = .ok (.if_icmp .ge 38, 3) := by decide +kernel
theorem dX6_digest_42 : decode cX6_digest 42 = .ok (.iconst 0, 1) := by decide +kernel
theorem dX6_digest_43 : decode cX6_digest 43 = .ok (.istore 4, 2) := by decide +kernel
theorem dX6_digest_45 : decode cX6_digest 45 = .ok (.iload 4, 2) := by decide +kernel
theorem dX6_digest_47 : decode cX6_digest 47 = .ok (.bipush 11, 2) := by decide +kernel
theorem dX6_digest_49 : decode cX6_digest 49 = .ok (.if_icmp .ge 22, 3) := by decide +kernel
theorem dX6_digest_52 : decode cX6_digest 52 = .ok (.lload_n 1, 1) := by decide +kernel
theorem dX6_digest_53 : decode cX6_digest 53 = .ok (.aload_n 0, 1) := by decide +kernel
theorem dX6_digest_54 : decode cX6_digest 54 = .ok (.iload_n 3, 1) := by decide +kernel
theorem dX6_digest_55 : decode cX6_digest 55 = .ok (.iload 4, 2) := by decide +kernel
theorem dX6_digest_57 : decode cX6_digest 57 = .ok (.invokevirtual 195, 3) := by decide +kernel
theorem dX6_digest_60 : decode cX6_digest 60 = .ok (.i2l, 1) := by decide +kernel
theorem dX6_digest_61 : decode cX6_digest 61 = .ok (.invokestatic 230, 3) := by decide +kernel
theorem dX6_digest_64 : decode cX6_digest 64 = .ok (.lstore_n 1, 1) := by decide +kernel
theorem dX6_digest_65 : decode cX6_digest 65 = .ok (.iinc 4 1, 3) := by decide +kernel
theorem dX6_digest_68 : decode cX6_digest 68 = .ok (.goto (-23), 3) := by decide +kernel
theorem dX6_digest_71 : decode cX6_digest 71 = .ok (.iinc 3 1, 3) := by decide +kernel
theorem dX6_digest_74 : decode cX6_digest 74 = .ok (.goto (-38), 3) := by decide +kernel
theorem dX6_digest_77 : decode cX6_digest 77 = .ok (.aload_n 0, 1) := by decide +kernel
theorem dX6_digest_78 : decode cX6_digest 78 = .ok (.getfield 27, 3) := by decide +kernel
theorem dX6_digest_81 : decode cX6_digest 81 = .ok (.invokevirtual 132, 3) := by decide +kernel
theorem dX6_digest_84 : decode cX6_digest 84 = .ok (.astore_n 3, 1) := by decide +kernel
theorem dX6_digest_85 : decode cX6_digest 85 = .ok (.aload_n 3, 1) := by decide +kernel
theorem dX6_digest_86 : decode cX6_digest 86 = .ok (.invokeinterface 136 1, 5) := by decide +kernel
theorem dX6_digest_91 : decode cX6_digest 91 = .ok (.ifCond .eq 73, 3) := by decide +kernel
theorem dX6_digest_94 : decode cX6_digest 94 = .ok (.aload_n 3, 1) := by decide +kernel
theorem dX6_digest_95 : decode cX6_digest 95 = .ok (.invokeinterface 142 1, 5) := by decide +kernel
theorem dX6_digest_100 : decode cX6_digest 100 = .ok (.checkcast 130, 3) := by decide +kernel
theorem dX6_digest_103 : decode cX6_digest 103 = .ok (.astore 4, 2) := by decide +kernel
theorem dX6_digest_105 : decode cX6_digest 105 = .ok (.iconst 0, 1) := by decide +kernel
theorem dX6_digest_106 : decode cX6_digest 106 = .ok (.istore 5, 2) := by decide +kernel
theorem dX6_digest_108 : decode cX6_digest 108 = .ok (.iload 5, 2) := by decide +kernel
theorem dX6_digest_110 : decode cX6_digest 110 = .ok (.bipush 6, 2) := by decide +kernel
theorem dX6_digest_112 : decode cX6_digest 112 = .ok (.if_icmp .ge 22, 3) := by decide +kernel
theorem dX6_digest_115 : decode cX6_digest 115 = .ok (.lload_n 1, 1) := by decide +kernel
theorem dX6_digest_116 : decode cX6_digest 116 = .ok (.aload 4, 2) := by decide +kernel
theorem dX6_digest_118 : decode cX6_digest 118 = .ok (.iload 5, 2) := by decide +kernel
theorem dX6_digest_120 : decode cX6_digest 120 = .ok (.invokestatic 198, 3) := by decide +kernel
theorem dX6_digest_123 : decode cX6_digest 123 = .ok (.i2l, 1) := by decide +kernel
theorem dX6_digest_124 : decode cX6_digest 124 = .ok (.invokestatic 230, 3) := by decide +kernel
theorem dX6_digest_127 : decode cX6_digest 127 = .ok (.lstore_n 1, 1) := by decide +kernel
theorem dX6_digest_128 : decode cX6_digest 128 = .ok (.iinc 5 1, 3) := by decide +kernel
theorem dX6_digest_131 : decode cX6_digest 131 = .ok (.goto (-23), 3) := by decide +kernel
theorem dX6_digest_134 : decode cX6_digest 134 = .ok (.iconst 5, 1) := by decide +kernel
theorem dX6_digest_135 : decode cX6_digest 135 = .ok (.istore 5, 2) := by decide +kernel
theorem dX6_digest_137 : decode cX6_digest 137 = .ok (.iload 5, 2) := by decide +kernel
theorem dX6_digest_139 : decode cX6_digest 139 = .ok (.bipush 8, 2) := by decide +kernel
theorem dX6_digest_141 : decode cX6_digest 141 = .ok (.if_icmp .ge 20, 3) := by decide +kernel
theorem dX6_digest_144 : decode cX6_digest 144 = .ok (.lload_n 1, 1) := by decide +kernel
theorem dX6_digest_145 : decode cX6_digest 145 = .ok (.aload 4, 2) := by decide +kernel
theorem dX6_digest_147 : decode cX6_digest 147 = .ok (.iload 5, 2) := by decide +kernel
theorem dX6_digest_149 : decode cX6_digest 149 = .ok (.iaload, 1) := by decide +kernel
theorem dX6_digest_150 : decode cX6_digest 150 = .ok (.i2l, 1) := by decide +kernel
theorem dX6_digest_151 : decode cX6_digest 151 = .ok (.invokestatic 230, 3) := by decide +kernel
theorem dX6_digest_154 : decode cX6_digest 154 = .ok (.lstore_n 1, 1) := by decide +kernel
theorem dX6_digest_155 : decode cX6_digest 155 = .ok (.iinc 5 1, 3) := by decide +kernel
theorem dX6_digest_158 : decode cX6_digest 158 = .ok (.goto (-21), 3) := by decide +kernel
theorem dX6_digest_161 : decode cX6_digest 161 = .ok (.goto (-76), 3) := by decide +kernel
theorem dX6_digest_164 : decode cX6_digest 164 = .ok (.iconst 5, 1) := by decide +kernel
theorem dX6_digest_165 : decode cX6_digest 165 = .ok (.istore_n 3, 1) := by decide +kernel
theorem dX6_digest_166 : decode cX6_digest 166 = .ok (.iload_n 3, 1) := by decide +kernel
theorem dX6_digest_167 : decode cX6_digest 167 = .ok (.bipush 8, 2) := by decide +kernel
theorem dX6_digest_169 : decode cX6_digest 169 = .ok (.if_icmp .ge 23, 3) := by decide +kernel
theorem dX6_digest_172 : decode cX6_digest 172 = .ok (.lload_n 1, 1) := by decide +kernel
theorem dX6_digest_173 : decode cX6_digest 173 = .ok (.aload_n 0, 1) := by decide +kernel
theorem dX6_digest_174 : decode cX6_digest 174 = .ok (.iload_n 3, 1) := by decide +kernel
theorem dX6_digest_175 : decode cX6_digest 175 = .ok (.bipush 7, 2) := by decide +kernel
theorem dX6_digest_177 : decode cX6_digest 177 = .ok (.iconst 3, 1) := by decide +kernel
theorem dX6_digest_178 : decode cX6_digest 178 = .ok (.invokevirtual 212, 3) := by decide +kernel
theorem dX6_digest_181 : decode cX6_digest 181 = .ok (.i2l, 1) := by decide +kernel
theorem dX6_digest_182 : decode cX6_digest 182 = .ok (.invokestatic 230, 3) := by decide +kernel
theorem dX6_digest_185 : decode cX6_digest 185 = .ok (.lstore_n 1, 1) := by decide +kernel
theorem dX6_digest_186 : decode cX6_digest 186 = .ok (.iinc 3 1, 3) := by decide +kernel
theorem dX6_digest_189 : decode cX6_digest 189 = .ok (.goto (-23), 3) := by decide +kernel
theorem dX6_digest_192 : decode cX6_digest 192 = .ok (.lload_n 1, 1) := by decide +kernel
theorem dX6_digest_193 : decode cX6_digest 193 = .ok (.aload_n 0, 1) := by decide +kernel
theorem dX6_digest_194 : decode cX6_digest 194 = .ok (.iconst 3, 1) := by decide +kernel
theorem dX6_digest_195 : decode cX6_digest 195 = .ok (.bipush 6, 2) := by decide +kernel
theorem dX6_digest_197 : decode cX6_digest 197 = .ok (.iconst 2, 1) := by decide +kernel
theorem dX6_digest_198 : decode cX6_digest 198 = .ok (.invokevirtual 219, 3) := by decide +kernel
theorem dX6_digest_201 : decode cX6_digest 201 = .ok (.i2l, 1) := by decide +kernel
theorem dX6_digest_202 : decode cX6_digest 202 = .ok (.invokestatic 230, 3) := by decide +kernel
theorem dX6_digest_205 : decode cX6_digest 205 = .ok (.lstore_n 1, 1) := by decide +kernel
theorem dX6_digest_206 : decode cX6_digest 206 = .ok (.lload_n 1, 1) := by decide +kernel
theorem dX6_digest_207 : decode cX6_digest 207 = .ok (.aload_n 0, 1) := by decide +kernel
theorem dX6_digest_208 : decode cX6_digest 208 = .ok (.bipush 9, 2) := by decide +kernel
theorem dX6_digest_210 : decode cX6_digest 210 = .ok (.iconst 1, 1) := by decide +kernel
theorem dX6_digest_211 : decode cX6_digest 211 = .ok (.invokevirtual 222, 3) := by decide +kernel
theorem dX6_digest_214 : decode cX6_digest 214 = .ok (.i2l, 1) := by decide +kernel
theorem dX6_digest_215 : decode cX6_digest 215 = .ok (.invokestatic 230, 3) := by decide +kernel
theorem dX6_digest_218 : decode cX6_digest 218 = .ok (.aload_n 0, 1) := by decide +kernel
theorem dX6_digest_219 : decode cX6_digest 219 = .ok (.iconst 3, 1) := by decide +kernel
theorem dX6_digest_220 : decode cX6_digest 220 = .ok (.iconst 0, 1) := by decide +kernel
theorem dX6_digest_221 : decode cX6_digest 221 = .ok (.invokevirtual 222, 3) := by decide +kernel
theorem dX6_digest_224 : decode cX6_digest 224 = .ok (.i2l, 1) := by decide +kernel
theorem dX6_digest_225 : decode cX6_digest 225 = .ok (.invokestatic 230, 3) := by decide +kernel
theorem dX6_digest_228 : decode cX6_digest 228 = .ok (.lreturn, 1) := by decide +kernel
