def RX4 : String := "SaltRowModel$Pond"
def TX4 : u_T := fun k => match k with
  | _ => ("", "", "", false)
def tyX4 : Nat → FieldType := fun k => match k with
  | _ => .int
abbrev wsX40 : List Cond := u_ws RX4 TX4 0
theorem nmX4 : ∀ a, a < 0 → ∀ b, b < 0 → a ≠ b → (TX4 a).2.1 ≠ (TX4 b).2.1 := by decide +kernel
theorem tyX4_ok : ∀ k, k < 0 → parseFieldDescriptor (TX4 k).2.2.1 = some (tyX4 k) := by decide +kernel
def RX5 : String := "SaltRowModel$Row"
def TX5 : u_T := fun k => match k with
  | _ => ("", "", "", false)
def tyX5 : Nat → FieldType := fun k => match k with
  | _ => .int
abbrev wsX50 : List Cond := u_ws RX5 TX5 0
theorem nmX5 : ∀ a, a < 0 → ∀ b, b < 0 → a ≠ b → (TX5 a).2.1 ≠ (TX5 b).2.1 := by decide +kernel
theorem tyX5_ok : ∀ k, k < 0 → parseFieldDescriptor (TX5 k).2.2.1 = some (tyX5 k) := by decide +kernel
def RX6 : String := "SaltRowModel"
def TX6 : u_T := fun k => match k with
  | _ => ("", "", "", false)
def tyX6 : Nat → FieldType := fun k => match k with
  | _ => .int
abbrev wsX60 : List Cond := u_ws RX6 TX6 0
theorem nmX6 : ∀ a, a < 0 → ∀ b, b < 0 → a ≠ b → (TX6 a).2.1 ≠ (TX6 b).2.1 := by decide +kernel
theorem tyX6_ok : ∀ k, k < 0 → parseFieldDescriptor (TX6 k).2.2.1 = some (tyX6 k) := by decide +kernel
def RJx145de : String := "java/io/Serializable"
def TJx145de : u_T := fun k => match k with
  | _ => ("", "", "", false)
def tyJx145de : Nat → FieldType := fun k => match k with
  | _ => .int
abbrev wsJx145de0 : List Cond := u_ws RJx145de TJx145de 0
theorem nmJx145de : ∀ a, a < 0 → ∀ b, b < 0 → a ≠ b → (TJx145de a).2.1 ≠ (TJx145de b).2.1 := by decide +kernel
theorem tyJx145de_ok : ∀ k, k < 0 → parseFieldDescriptor (TJx145de k).2.2.1 = some (tyJx145de k) := by decide +kernel
def RJ9 : String := "java/lang/Math"
def TJ9 : u_T := fun k => match k with
  | _ => ("", "", "", false)
def tyJ9 : Nat → FieldType := fun k => match k with
  | _ => .int
abbrev wsJ90 : List Cond := u_ws RJ9 TJ9 0
theorem nmJ9 : ∀ a, a < 0 → ∀ b, b < 0 → a ≠ b → (TJ9 a).2.1 ≠ (TJ9 b).2.1 := by decide +kernel
theorem tyJ9_ok : ∀ k, k < 0 → parseFieldDescriptor (TJ9 k).2.2.1 = some (tyJ9 k) := by decide +kernel
abbrev cJ9_abs_0f7a4 : ByteArray := prog_13_method_59_code
def yJ9_abs_0f7a4 : MethodName := ⟨RJ9, "abs", "(I)I"⟩
abbrev cJ9_max_f86c9 : ByteArray := prog_13_method_66_code
def yJ9_max_f86c9 : MethodName := ⟨RJ9, "max", "(JJ)J"⟩
abbrev cJ9_min_7cf53 : ByteArray := prog_13_method_69_code
def yJ9_min_7cf53 : MethodName := ⟨RJ9, "min", "(II)I"⟩
def RJ0 : String := "java/lang/String"
def TJ0 : u_T := fun k => match k with
  | _ => ("", "", "", false)
def tyJ0 : Nat → FieldType := fun k => match k with
  | _ => .int
abbrev wsJ00 : List Cond := u_ws RJ0 TJ0 0
theorem nmJ0 : ∀ a, a < 0 → ∀ b, b < 0 → a ≠ b → (TJ0 a).2.1 ≠ (TJ0 b).2.1 := by decide +kernel
theorem tyJ0_ok : ∀ k, k < 0 → parseFieldDescriptor (TJ0 k).2.2.1 = some (tyJ0 k) := by decide +kernel
def RL : String := "SaltRowLaw"
abbrev cL_below : ByteArray := method_2_code
def yL_below : MethodName := ⟨RL, "below", "(II)I"⟩
abbrev cL_cell : ByteArray := method_3_code
def yL_cell : MethodName := ⟨RL, "cell", "([II)I"⟩
abbrev cL_write : ByteArray := method_4_code
def yL_write : MethodName := ⟨RL, "write", "(LSaltRow;[II)V"⟩
abbrev cL_law : ByteArray := code
def yL_law : MethodName := ⟨RL, "law", "([I)Z"⟩
abbrev cL_isHeld : ByteArray := method_6_code
def yL_isHeld : MethodName := ⟨RL, "isHeld", "(LSaltRow;)Z"⟩
def wsJ9_abs_0f7a4 : List Cond := .code yJ9_abs_0f7a4 cJ9_abs_0f7a4 1 (some .int) :: ([])
def wsJ9_max_f86c9 : List Cond := .code yJ9_max_f86c9 cJ9_max_f86c9 4 (some .long) :: ([])
def wsJ9_min_7cf53 : List Cond := .code yJ9_min_7cf53 cJ9_min_7cf53 2 (some .int) :: ([])
def wsL_below : List Cond := .code yL_below cL_below 2 (some .int) :: ([.constant RL 7 (2147483647)])
def wsL_cell : List Cond := .code yL_cell cL_cell 2 (some .int) :: ([.constant RL 8 (790386105)])
def wsL_write_r1 : List Cond := [Cond.methodLink RL 9 yL_cell, Cond.static yL_cell, Cond.initialized RL, Cond.code yL_cell cL_cell 2 (some .int), Cond.constant RL 8 (790386105), Cond.methodLink RL 15 yL_below, Cond.static yL_below, Cond.code yL_below cL_below 2 (some .int), Cond.constant RL 7 (2147483647), Cond.methodLink RL 19 yX3_area, Cond.instanceMethod yX3_area, Cond.selects RX3 yX3_area yX3_area, Cond.initialized RX3, Cond.code yX3_area cX3_area 4 (some .int), Cond.classLink RX3 30 "java/lang/IllegalArgumentException", Cond.initialized "java/lang/IllegalArgumentException", Cond.classLink RX3 41 "java/lang/IllegalStateException", Cond.initialized "java/lang/IllegalStateException", Cond.fieldLink RX3 10 "SaltRow" "row" "LSaltRow$Row;", Cond.fieldLink RX3 37 "SaltRow$Row" "day" "I", Cond.fieldLink RX3 46 "SaltRow$Row" "ponds" "[LSaltRow$Pond;", Cond.fieldLink RX3 50 "SaltRow$Pond" "area" "I", Cond.methodLink RX3 26 yX3_needPond, Cond.instanceMethod yX3_needPond]
def wsL_write_r2 : List Cond := [Cond.selects RX3 yX3_needPond yX3_needPond, Cond.code yX3_needPond cX3_needPond 2 none, Cond.classLink RX3 311 "java/lang/IndexOutOfBoundsException", Cond.initialized "java/lang/IndexOutOfBoundsException", Cond.methodLink RL 24 yX3_gate, Cond.instanceMethod yX3_gate, Cond.selects RX3 yX3_gate yX3_gate, Cond.code yX3_gate cX3_gate 4 (some .boolean), Cond.fieldLink RX3 55 "SaltRow$Pond" "isOpen" "Z", Cond.methodLink RL 28 yX3_family, Cond.instanceMethod yX3_family, Cond.selects RX3 yX3_family yX3_family, Cond.code yX3_family cX3_family 1 (some .int), Cond.fieldLink RX3 129 "SaltRow" "familyCount" "I", Cond.methodLink RL 32 yX3_right, Cond.instanceMethod yX3_right, Cond.selects RX3 yX3_right yX3_right, Cond.code yX3_right cX3_right 5 (some .int), Cond.fieldLink RX3 21 "SaltRow" "families" "[LSaltRow$Family;", Cond.fieldLink RX3 139 "SaltRow$Family" "rights" "[I", Cond.methodLink RX3 134 yX3_needFamily, Cond.instanceMethod yX3_needFamily, Cond.selects RX3 yX3_needFamily yX3_needFamily, Cond.code yX3_needFamily cX3_needFamily 2 none]
def wsL_write_r3 : List Cond := [Cond.methodLink RX3 59 yX3_needPan, Cond.instanceMethod yX3_needPan, Cond.selects RX3 yX3_needPan yX3_needPan, Cond.code yX3_needPan cX3_needPan 2 none, Cond.methodLink RX3 143 yX3_rightsIn, Cond.instanceMethod yX3_rightsIn, Cond.selects RX3 yX3_rightsIn yX3_rightsIn, Cond.code yX3_rightsIn cX3_rightsIn 4 (some .int)]
def wsL_write : List Cond := .code yL_write cL_write 5 none :: ((wsL_write_r1 ++ (wsL_write_r2 ++ wsL_write_r3)) ++ wsX30 ++ wsX20 ++ wsX10 ++ wsX00 ++ (vx_atS RX3 34 "java/lang/IllegalArgumentException" ["java/lang/RuntimeException", "java/lang/Exception"]).filter goodWord ++ (vx_atS RX3 45 "java/lang/IllegalStateException" ["java/lang/RuntimeException", "java/lang/Exception"]).filter goodWord ++ (vx_atS RX3 315 "java/lang/IndexOutOfBoundsException" ["java/lang/RuntimeException", "java/lang/Exception"]).filter goodWord)
def wsL_isHeld_r1 : List Cond := [Cond.constantLong RL 82 (300), Cond.constantLong RL 84 (8), Cond.constantLong RL 86 (200), Cond.methodLink RL 49 yX3_ofPond, Cond.instanceMethod yX3_ofPond, Cond.selects RX3 yX3_ofPond yX3_ofPond, Cond.initialized RX3, Cond.code yX3_ofPond cX3_ofPond 3 (some .int), Cond.classLink RX3 30 "java/lang/IllegalArgumentException", Cond.initialized "java/lang/IllegalArgumentException", Cond.fieldLink RX3 10 "SaltRow" "row" "LSaltRow$Row;", Cond.fieldLink RX3 46 "SaltRow$Row" "ponds" "[LSaltRow$Pond;", Cond.methodLink RX3 26 yX3_needPond, Cond.instanceMethod yX3_needPond, Cond.selects RX3 yX3_needPond yX3_needPond, Cond.code yX3_needPond cX3_needPond 2 none, Cond.classLink RX3 311 "java/lang/IndexOutOfBoundsException", Cond.initialized "java/lang/IndexOutOfBoundsException", Cond.methodLink RX3 223 yX1_read, Cond.instanceMethod yX1_read, Cond.selects RX1 yX1_read yX1_read, Cond.initialized RX1, Cond.code yX1_read cX1_read 2 (some .int), Cond.fieldLink RX1 9 "SaltRow$Pond" "area" "I"]
def wsL_isHeld_r2 : List Cond := [Cond.fieldLink RX1 15 "SaltRow$Pond" "brine" "I", Cond.fieldLink RX1 22 "SaltRow$Pond" "salt" "I", Cond.fieldLink RX1 36 "SaltRow$Pond" "gypsum" "I", Cond.fieldLink RX1 25 "SaltRow$Pond" "bitter" "I", Cond.fieldLink RX1 39 "SaltRow$Pond" "fresh" "I", Cond.fieldLink RX1 42 "SaltRow$Pond" "crustSalt" "I", Cond.fieldLink RX1 45 "SaltRow$Pond" "crustDirt" "I", Cond.fieldLink RX1 55 "SaltRow$Pond" "wasHarvested" "Z", Cond.methodLink RX1 48 yX1_level, Cond.instanceMethod yX1_level, Cond.selects RX1 yX1_level yX1_level, Cond.code yX1_level cX1_level 1 (some .int), Cond.static yX3_portion, Cond.code yX3_portion cX3_portion 6 (some .int), Cond.methodLink RX1 52 yX1_strength, Cond.instanceMethod yX1_strength, Cond.selects RX1 yX1_strength yX1_strength, Cond.code yX1_strength cX1_strength 1 (some .int), Cond.constantLong RX1 28 (5), Cond.methodLink RX1 30 Lib.Math.min.name, Cond.static Lib.Math.min.name, Cond.initialized "java/lang/Math", Cond.code Lib.Math.min.name Lib.Math.min.code 2 (some .int)]
def wsL_isHeld : List Cond := .code yL_isHeld cL_isHeld 4 (some .boolean) :: ((wsL_isHeld_r1 ++ wsL_isHeld_r2) ++ wsX30 ++ wsX20 ++ wsX10 ++ (vx_atS RX3 34 "java/lang/IllegalArgumentException" ["java/lang/RuntimeException", "java/lang/Exception"]).filter goodWord ++ (vx_atS RX3 315 "java/lang/IndexOutOfBoundsException" ["java/lang/RuntimeException", "java/lang/Exception"]).filter goodWord)
def wsL_law0_r1 : List Cond := [Cond.classLink RL 20 RX3, Cond.instantiable RX3 10, Cond.initialized RX3, Cond.arrayClass .int, Cond.methodLink RL 36 yX3_init, Cond.instanceMethod yX3_init, Cond.code yX3_init cX3_init 2 none, Cond.methodLink RX3 1 objectInit, Cond.instanceMethod objectInit, Cond.code objectInit ⟨#[0xb1]⟩ 1 none, Cond.classLink RX3 7 RX2, Cond.instantiable RX2 5, Cond.initialized RX2, Cond.fieldLink RX3 10 "SaltRow" "row" "LSaltRow$Row;", Cond.fieldLink RX3 16 "SaltRow" "trial" "LSaltRow$Row;", Cond.classLink RX3 19 RX0, Cond.fieldLink RX3 21 "SaltRow" "families" "[LSaltRow$Family;", Cond.instantiable RX0 6, Cond.initialized RX0, Cond.methodLink RX3 9 yX2_init, Cond.instanceMethod yX2_init, Cond.code yX2_init cX2_init 2 none, Cond.methodLink RX2 3 objectInit, Cond.classLink RX2 9 RX1]
def wsL_law0_r2 : List Cond := [Cond.fieldLink RX2 11 "SaltRow$Row" "ponds" "[LSaltRow$Pond;", Cond.instantiable RX1 12, Cond.initialized RX1, Cond.instanceMethod yX1_init, Cond.code yX1_init cX1_init 1 none, Cond.methodLink RX1 3 objectInit, Cond.fieldLink RX1 9 "SaltRow$Pond" "area" "I", Cond.instanceMethod yX0_init, Cond.code yX0_init cX0_init 1 none, Cond.methodLink RX0 3 objectInit, Cond.fieldLink RX0 9 "SaltRow$Family" "rights" "[I", Cond.methodLink RL 37 yL_write, Cond.static yL_write, Cond.initialized RL, Cond.code yL_write cL_write 5 none, Cond.methodLink RL 9 yL_cell, Cond.static yL_cell, Cond.code yL_cell cL_cell 2 (some .int), Cond.constant RL 8 (790386105), Cond.methodLink RL 15 yL_below, Cond.static yL_below, Cond.code yL_below cL_below 2 (some .int), Cond.constant RL 7 (2147483647), Cond.methodLink RL 19 yX3_area]
def wsL_law0_r3 : List Cond := [Cond.instanceMethod yX3_area, Cond.selects RX3 yX3_area yX3_area, Cond.code yX3_area cX3_area 4 (some .int), Cond.classLink RX3 30 "java/lang/IllegalArgumentException", Cond.initialized "java/lang/IllegalArgumentException", Cond.classLink RX3 41 "java/lang/IllegalStateException", Cond.initialized "java/lang/IllegalStateException", Cond.fieldLink RX3 37 "SaltRow$Row" "day" "I", Cond.fieldLink RX3 46 "SaltRow$Row" "ponds" "[LSaltRow$Pond;", Cond.fieldLink RX3 50 "SaltRow$Pond" "area" "I", Cond.methodLink RX3 26 yX3_needPond, Cond.instanceMethod yX3_needPond, Cond.selects RX3 yX3_needPond yX3_needPond, Cond.code yX3_needPond cX3_needPond 2 none, Cond.classLink RX3 311 "java/lang/IndexOutOfBoundsException", Cond.initialized "java/lang/IndexOutOfBoundsException", Cond.methodLink RL 24 yX3_gate, Cond.instanceMethod yX3_gate, Cond.selects RX3 yX3_gate yX3_gate, Cond.code yX3_gate cX3_gate 4 (some .boolean), Cond.fieldLink RX3 55 "SaltRow$Pond" "isOpen" "Z", Cond.methodLink RL 28 yX3_family, Cond.instanceMethod yX3_family, Cond.selects RX3 yX3_family yX3_family]
def wsL_law0_r4 : List Cond := [Cond.code yX3_family cX3_family 1 (some .int), Cond.fieldLink RX3 129 "SaltRow" "familyCount" "I", Cond.methodLink RL 32 yX3_right, Cond.instanceMethod yX3_right, Cond.selects RX3 yX3_right yX3_right, Cond.code yX3_right cX3_right 5 (some .int), Cond.fieldLink RX3 139 "SaltRow$Family" "rights" "[I", Cond.methodLink RX3 134 yX3_needFamily, Cond.instanceMethod yX3_needFamily, Cond.selects RX3 yX3_needFamily yX3_needFamily, Cond.code yX3_needFamily cX3_needFamily 2 none, Cond.methodLink RX3 59 yX3_needPan, Cond.instanceMethod yX3_needPan, Cond.selects RX3 yX3_needPan yX3_needPan, Cond.code yX3_needPan cX3_needPan 2 none, Cond.methodLink RX3 143 yX3_rightsIn, Cond.instanceMethod yX3_rightsIn, Cond.selects RX3 yX3_rightsIn yX3_rightsIn, Cond.code yX3_rightsIn cX3_rightsIn 4 (some .int), Cond.methodLink RL 41 yX3_pass, Cond.instanceMethod yX3_pass, Cond.selects RX3 yX3_pass yX3_pass, Cond.code yX3_pass cX3_pass 7 (some .int), Cond.methodLink RX3 67 yX3_needWeather]
def wsL_law0_r5 : List Cond := [Cond.instanceMethod yX3_needWeather, Cond.selects RX3 yX3_needWeather yX3_needWeather, Cond.code yX3_needWeather cX3_needWeather 3 none, Cond.methodLink RX3 75 yX2_letDayGoBy, Cond.instanceMethod yX2_letDayGoBy, Cond.selects RX2 yX2_letDayGoBy yX2_letDayGoBy, Cond.code yX2_letDayGoBy cX2_letDayGoBy 6 none, Cond.fieldLink RX2 18 "SaltRow$Row" "day" "I", Cond.fieldLink RX2 22 "SaltRow$Row" "sun" "I", Cond.fieldLink RX2 25 "SaltRow$Row" "wind" "I", Cond.fieldLink RX2 41 "SaltRow$Pond" "wasHarvested" "Z", Cond.methodLink RX2 35 yX2_letSeaIn, Cond.instanceMethod yX2_letSeaIn, Cond.selects RX2 yX2_letSeaIn yX2_letSeaIn, Cond.code yX2_letSeaIn cX2_letSeaIn 4 none, Cond.fieldLink RX2 66 "SaltRow$Pond" "isOpen" "Z", Cond.fieldLink RX2 69 "SaltRow$Pond" "area" "I", Cond.fieldLink RX2 28 "SaltRow$Row" "seaSalt" "I", Cond.static yX3_tideAt, Cond.code yX3_tideAt cX3_tideAt 1 (some .int), Cond.methodLink RX3 324 Lib.Math.abs.name, Cond.static Lib.Math.abs.name, Cond.initialized "java/lang/Math", Cond.code Lib.Math.abs.name Lib.Math.abs.code 1 (some .int)]
def wsL_law0_r6 : List Cond := [Cond.methodLink RX2 62 yX1_level, Cond.instanceMethod yX1_level, Cond.selects RX1 yX1_level yX1_level, Cond.code yX1_level cX1_level 1 (some .int), Cond.fieldLink RX1 15 "SaltRow$Pond" "brine" "I", Cond.static yX3_portion, Cond.code yX3_portion cX3_portion 6 (some .int), Cond.methodLink RX2 72 yX1_takeIn, Cond.instanceMethod yX1_takeIn, Cond.selects RX1 yX1_takeIn yX1_takeIn, Cond.code yX1_takeIn cX1_takeIn 5 none, Cond.fieldLink RX1 22 "SaltRow$Pond" "salt" "I", Cond.fieldLink RX1 36 "SaltRow$Pond" "gypsum" "I", Cond.fieldLink RX1 25 "SaltRow$Pond" "bitter" "I", Cond.methodLink RX2 38 yX2_letBrineFlowOn, Cond.instanceMethod yX2_letBrineFlowOn, Cond.selects RX2 yX2_letBrineFlowOn yX2_letBrineFlowOn, Cond.code yX2_letBrineFlowOn cX2_letBrineFlowOn 5 none, Cond.methodLink RX2 76 Lib.Math.min.name, Cond.static Lib.Math.min.name, Cond.code Lib.Math.min.name Lib.Math.min.code 2 (some .int), Cond.constantLong RX2 82 (2), Cond.methodLink RX2 88 yX1_giveBrine, Cond.instanceMethod yX1_giveBrine]
def wsL_law0_r7 : List Cond := [Cond.selects RX1 yX1_giveBrine yX1_giveBrine, Cond.code yX1_giveBrine cX1_giveBrine 6 none, Cond.methodLink RX1 68 yX1_takeIn, Cond.methodLink RX2 45 yX1_rainFalls, Cond.instanceMethod yX1_rainFalls, Cond.selects RX1 yX1_rainFalls yX1_rainFalls, Cond.code yX1_rainFalls cX1_rainFalls 2 none, Cond.fieldLink RX1 65 "SaltRow$Pond" "isCovered" "Z", Cond.fieldLink RX1 39 "SaltRow$Pond" "fresh" "I", Cond.methodLink RX2 49 yX1_dryOut, Cond.instanceMethod yX1_dryOut, Cond.selects RX1 yX1_dryOut yX1_dryOut, Cond.code yX1_dryOut cX1_dryOut 4 none, Cond.methodLink RX1 30 Lib.Math.min.name, Cond.methodLink RX1 52 yX1_strength, Cond.instanceMethod yX1_strength, Cond.selects RX1 yX1_strength yX1_strength, Cond.code yX1_strength cX1_strength 1 (some .int), Cond.constantLong RX1 28 (5), Cond.static yX3_roundedUp, Cond.code yX3_roundedUp cX3_roundedUp 2 (some .int), Cond.methodLink RX2 52 yX1_mixFresh, Cond.instanceMethod yX1_mixFresh, Cond.selects RX1 yX1_mixFresh yX1_mixFresh]
def wsL_law0_r8 : List Cond := [Cond.code yX1_mixFresh cX1_mixFresh 3 none, Cond.fieldLink RX1 42 "SaltRow$Pond" "crustSalt" "I", Cond.methodLink RX2 55 yX1_dropMinerals, Cond.instanceMethod yX1_dropMinerals, Cond.selects RX1 yX1_dropMinerals yX1_dropMinerals, Cond.code yX1_dropMinerals cX1_dropMinerals 3 none, Cond.fieldLink RX1 59 "SaltRow$Pond" "saltFallen" "I", Cond.fieldLink RX1 45 "SaltRow$Pond" "crustDirt" "I", Cond.methodLink RX1 75 yX1_above, Cond.instanceMethod yX1_above, Cond.selects RX1 yX1_above yX1_above, Cond.code yX1_above cX1_above 3 (some .int), Cond.methodLink RX1 78 Lib.MathLoose.max_long.x, Cond.static Lib.MathLoose.max_long.x, Cond.code Lib.MathLoose.max_long.x Lib.MathLoose.max_long.code 4 (some .long), Cond.methodLink RX3 79 yX2_saltFallenInPans, Cond.instanceMethod yX2_saltFallenInPans, Cond.selects RX2 yX2_saltFallenInPans yX2_saltFallenInPans, Cond.code yX2_saltFallenInPans cX2_saltFallenInPans 3 (some .int), Cond.fieldLink RX2 95 "SaltRow$Pond" "saltFallen" "I", Cond.methodLink RL 45 yL_isHeld, Cond.static yL_isHeld, Cond.code yL_isHeld cL_isHeld 4 (some .boolean), Cond.constantLong RL 82 (300)]
def wsL_law0_r9 : List Cond := [Cond.constantLong RL 84 (8), Cond.constantLong RL 86 (200), Cond.methodLink RL 49 yX3_ofPond, Cond.instanceMethod yX3_ofPond, Cond.selects RX3 yX3_ofPond yX3_ofPond, Cond.code yX3_ofPond cX3_ofPond 3 (some .int), Cond.methodLink RX3 223 yX1_read, Cond.instanceMethod yX1_read, Cond.selects RX1 yX1_read yX1_read, Cond.code yX1_read cX1_read 2 (some .int), Cond.fieldLink RX1 55 "SaltRow$Pond" "wasHarvested" "Z", Cond.methodLink RX1 48 yX1_level, Cond.methodLink RL 52 yX3_harvest, Cond.instanceMethod yX3_harvest, Cond.selects RX3 yX3_harvest yX3_harvest, Cond.code yX3_harvest cX3_harvest 7 (some .int), Cond.fieldLink RX3 164 "SaltRow$Pond" "crustSalt" "I", Cond.fieldLink RX3 167 "SaltRow$Pond" "crustDirt" "I", Cond.fieldLink RX3 170 "SaltRow$Pond" "wasHarvested" "Z", Cond.fieldLink RX3 173 "SaltRow" "crownSalt" "I", Cond.methodLink RX3 148 yX1_canBeHarvested, Cond.instanceMethod yX1_canBeHarvested, Cond.selects RX1 yX1_canBeHarvested yX1_canBeHarvested, Cond.code yX1_canBeHarvested cX1_canBeHarvested 1 (some .boolean)]
def wsL_law0_r10 : List Cond := [Cond.methodLink RX3 154 yX1_saltOfHarvest, Cond.instanceMethod yX1_saltOfHarvest, Cond.selects RX1 yX1_saltOfHarvest yX1_saltOfHarvest, Cond.code yX1_saltOfHarvest cX1_saltOfHarvest 2 (some .int), Cond.methodLink RX3 158 yX1_dirtOfCrustWith, Cond.instanceMethod yX1_dirtOfCrustWith, Cond.selects RX1 yX1_dirtOfCrustWith yX1_dirtOfCrustWith, Cond.code yX1_dirtOfCrustWith cX1_dirtOfCrustWith 2 (some .int), Cond.methodLink RX3 161 yX1_dirtOfFloor, Cond.instanceMethod yX1_dirtOfFloor, Cond.selects RX1 yX1_dirtOfFloor yX1_dirtOfFloor, Cond.code yX1_dirtOfFloor cX1_dirtOfFloor 2 (some .int), Cond.methodLink RX3 176 yX3_crownsPart, Cond.static yX3_crownsPart, Cond.code yX3_crownsPart cX3_crownsPart 1 (some .int), Cond.methodLink RX3 179 yX3_shareOut, Cond.instanceMethod yX3_shareOut, Cond.selects RX3 yX3_shareOut yX3_shareOut, Cond.code yX3_shareOut cX3_shareOut 10 none, Cond.constantLong RX3 267 (12), Cond.fieldLink RX3 246 "SaltRow" "cloisterSalt" "I", Cond.fieldLink RX3 249 "SaltRow" "cloisterDirt" "I", Cond.methodLink RX3 214 yX3_portion, Cond.methodLink RX3 308 yX0_getSalt]
def wsL_law0_r11 : List Cond := [Cond.instanceMethod yX0_getSalt, Cond.selects RX0 yX0_getSalt yX0_getSalt, Cond.code yX0_getSalt cX0_getSalt 3 none, Cond.fieldLink RX0 15 "SaltRow$Family" "salt" "I", Cond.fieldLink RX0 19 "SaltRow$Family" "dirt" "I", Cond.fieldLink RX0 29 "SaltRow$Family" "saltGot" "I", Cond.methodLink RL 56 yX3_ofFamily, Cond.instanceMethod yX3_ofFamily, Cond.selects RX3 yX3_ofFamily yX3_ofFamily, Cond.code yX3_ofFamily cX3_ofFamily 3 (some .int), Cond.methodLink RX3 228 yX0_read, Cond.instanceMethod yX0_read, Cond.selects RX0 yX0_read yX0_read, Cond.code yX0_read cX0_read 2 (some .int), Cond.fieldLink RX0 26 "SaltRow$Family" "coins" "I", Cond.fieldLink RX0 32 "SaltRow$Family" "saltSold" "I", Cond.static yX3_purity, Cond.code yX3_purity cX3_purity 2 (some .int), Cond.constantLong RX3 327 (100), Cond.methodLink RL 59 yX3_wash, Cond.instanceMethod yX3_wash, Cond.selects RX3 yX3_wash yX3_wash, Cond.code yX3_wash cX3_wash 4 (some .int), Cond.fieldLink RX3 197 "SaltRow$Family" "salt" "I"]
def wsL_law0_r12 : List Cond := [Cond.fieldLink RX3 200 "SaltRow$Family" "dirt" "I", Cond.fieldLink RX3 100 "SaltRow" "lostSalt" "I", Cond.methodLink RX3 122 yX3_roundedUp, Cond.methodLink RX3 203 yX3_purity, Cond.methodLink RL 63 yX3_rightOf, Cond.instanceMethod yX3_rightOf, Cond.selects RX3 yX3_rightOf yX3_rightOf, Cond.code yX3_rightOf cX3_rightOf 3 (some .int), Cond.methodLink RL 66 yX3_skim, Cond.instanceMethod yX3_skim, Cond.selects RX3 yX3_skim yX3_skim, Cond.code yX3_skim cX3_skim 3 (some .int), Cond.fieldLink RX3 83 "SaltRow$Pond" "fresh" "I", Cond.fieldLink RX3 86 "SaltRow" "skimmed" "I", Cond.methodLink RL 69 yX3_many, Cond.instanceMethod yX3_many, Cond.selects RX3 yX3_many yX3_many, Cond.code yX3_many cX3_many 2 (some .int), Cond.fieldLink RX3 237 "SaltRow$Row" "seaSalt" "I", Cond.fieldLink RX3 119 "SaltRow" "worksCoins" "I", Cond.methodLink RX3 231 yX2_openGates, Cond.instanceMethod yX2_openGates, Cond.selects RX2 yX2_openGates yX2_openGates, Cond.code yX2_openGates cX2_openGates 3 (some .int)]
def wsL_law0_r13 : List Cond := [Cond.methodLink RX3 234 yX2_coveredPans, Cond.instanceMethod yX2_coveredPans, Cond.selects RX2 yX2_coveredPans yX2_coveredPans, Cond.code yX2_coveredPans cX2_coveredPans 3 (some .int), Cond.fieldLink RX2 92 "SaltRow$Pond" "isCovered" "Z", Cond.methodLink RX3 240 yX2_sumOfPonds, Cond.instanceMethod yX2_sumOfPonds, Cond.selects RX2 yX2_sumOfPonds yX2_sumOfPonds, Cond.code yX2_sumOfPonds cX2_sumOfPonds 4 (some .int), Cond.methodLink RX2 104 yX1_read, Cond.methodLink RX3 243 yX3_sumOfFamilies, Cond.instanceMethod yX3_sumOfFamilies, Cond.selects RX3 yX3_sumOfFamilies yX3_sumOfFamilies, Cond.code yX3_sumOfFamilies cX3_sumOfFamilies 4 (some .int), Cond.methodLink RL 72 yX3_digest, Cond.instanceMethod yX3_digest, Cond.selects RX3 yX3_digest yX3_digest, Cond.code yX3_digest cX3_digest 5 (some .long), Cond.constantLong RX3 271 (7804), Cond.constantLong RX3 273 (31), Cond.methodLink RX3 275 yX3_many, Cond.methodLink RX3 278 yX3_ofPond, Cond.methodLink RX3 281 yX3_digestOfFamily, Cond.instanceMethod yX3_digestOfFamily]
def wsL_law0_r14 : List Cond := [Cond.selects RX3 yX3_digestOfFamily yX3_digestOfFamily, Cond.code yX3_digestOfFamily cX3_digestOfFamily 7 (some .long), Cond.methodLink RX3 296 yX3_ofFamily, Cond.methodLink RX3 299 yX3_rightOf, Cond.methodLink RX3 285 yX3_crustIn, Cond.instanceMethod yX3_crustIn, Cond.selects RX3 yX3_crustIn yX3_crustIn, Cond.code yX3_crustIn cX3_crustIn 5 (some .int), Cond.fieldLink RX3 258 "SaltRow$Pond" "saltFallen" "I", Cond.methodLink RX3 254 yX2_copyFrom, Cond.instanceMethod yX2_copyFrom, Cond.selects RX2 yX2_copyFrom yX2_copyFrom, Cond.code yX2_copyFrom cX2_copyFrom 3 none, Cond.methodLink RX2 31 yX1_copyFrom, Cond.instanceMethod yX1_copyFrom, Cond.selects RX1 yX1_copyFrom yX1_copyFrom, Cond.code yX1_copyFrom cX1_copyFrom 2 none, Cond.fieldLink RX1 62 "SaltRow$Pond" "isOpen" "Z", Cond.methodLink RX3 289 yX3_bestGates, Cond.instanceMethod yX3_bestGates, Cond.selects RX3 yX3_bestGates yX3_bestGates, Cond.code yX3_bestGates cX3_bestGates 8 (some .int), Cond.methodLink RX3 263 yX3_saltInPansWith, Cond.instanceMethod yX3_saltInPansWith]
def wsL_law0_r15 : List Cond := [Cond.selects RX3 yX3_saltInPansWith yX3_saltInPansWith, Cond.code yX3_saltInPansWith cX3_saltInPansWith 6 (some .int), Cond.methodLink RX3 302 yX2_setGates, Cond.instanceMethod yX2_setGates, Cond.selects RX2 yX2_setGates yX2_setGates, Cond.code yX2_setGates cX2_setGates 3 none, Cond.methodLink RX3 305 yX2_saltInPans, Cond.instanceMethod yX2_saltInPans, Cond.selects RX2 yX2_saltInPans yX2_saltInPans, Cond.code yX2_saltInPans cX2_saltInPans 3 (some .int), Cond.fieldLink RX2 98 "SaltRow$Pond" "salt" "I", Cond.fieldLink RX2 101 "SaltRow$Pond" "crustSalt" "I", Cond.methodLink RX3 292 yX3_tideOn, Cond.instanceMethod yX3_tideOn, Cond.selects RX3 yX3_tideOn yX3_tideOn, Cond.code yX3_tideOn cX3_tideOn 5 (some .int), Cond.methodLink RX3 94 yX3_tideAt, Cond.methodLink RL 76 yX3_bestGates, Cond.methodLink RL 79 yX3_crustIn]
def wsL_law0 : List Cond := (wsL_law0_r1 ++ (wsL_law0_r2 ++ (wsL_law0_r3 ++ (wsL_law0_r4 ++ (wsL_law0_r5 ++ (wsL_law0_r6 ++ (wsL_law0_r7 ++ (wsL_law0_r8 ++ (wsL_law0_r9 ++ (wsL_law0_r10 ++ (wsL_law0_r11 ++ (wsL_law0_r12 ++ (wsL_law0_r13 ++ (wsL_law0_r14 ++ wsL_law0_r15)))))))))))))) ++ wsX30 ++ wsX20 ++ wsX00 ++ wsX10 ++ ([] : List Cond)
def wsL_law : List Cond := wsL_law0 ++ (vx_atS RX3 34 "java/lang/IllegalArgumentException" ["java/lang/RuntimeException", "java/lang/Exception"]).filter goodWord ++ (vx_atS RX3 45 "java/lang/IllegalStateException" ["java/lang/RuntimeException", "java/lang/Exception"]).filter goodWord ++ (vx_atS RX3 315 "java/lang/IndexOutOfBoundsException" ["java/lang/RuntimeException", "java/lang/Exception"]).filter goodWord
set_option maxRecDepth 20000 in
theorem wsL_law_in0 : ∀ w ∈ wsL_law0, w ∈ lw_tbl := fun w h => (goodIn_p wsL_law0 [26, 29, 34, 41, 118, 539, 535, 531, 543, 351, 549, 553, 371, 375, 380, 386, 177, 249, 272, 276, 279, 282, 286, 289, 293, 297, 300, 306, 311, 315, 320, 324, 328, 332, 336, 339, 343, 557, 435, 440, 391, 395, 400, 404, 408, 411, 415, 421, 445, 450, 430, 425, 455, 347, 459, 463, 467, 471, 476, 510, 518, 481, 485, 489, 493, 498, 502, 506, 526] (by decide +kernel) (by decide +kernel) w h).1
theorem wsL_law_x0 : ∀ w ∈ (vx_atS RX3 34 "java/lang/IllegalArgumentException" ["java/lang/RuntimeException", "java/lang/Exception"]).filter goodWord, w ∈ lw_tbl := by decide +kernel
theorem wsL_law_x1 : ∀ w ∈ (vx_atS RX3 45 "java/lang/IllegalStateException" ["java/lang/RuntimeException", "java/lang/Exception"]).filter goodWord, w ∈ lw_tbl := by decide +kernel
theorem wsL_law_x2 : ∀ w ∈ (vx_atS RX3 315 "java/lang/IndexOutOfBoundsException" ["java/lang/RuntimeException", "java/lang/Exception"]).filter goodWord, w ∈ lw_tbl := by decide +kernel
theorem wsL_law_in : ∀ w ∈ wsL_law, w ∈ lw_tbl := fun w h => (List.mem_append.mp h).elim (fun h => (List.mem_append.mp h).elim (fun h => (List.mem_append.mp h).elim (fun h => wsL_law_in0 w h) (fun h => wsL_law_x0 w h)) (fun h => wsL_law_x1 w h)) (fun h => wsL_law_x2 w h)
theorem inlX0 : ∀ w ∈ wsX00, w ∈ wsL_law := fun _ h => List.mem_append_left _ (List.mem_append_left _ (List.mem_append_left _ (List.mem_append_left _ (List.mem_append_left _ (List.mem_append_right _ h)))))
theorem inX0 : ∀ w ∈ wsX00, w ∈ lw_tbl := fun w h => wsL_law_in w (inlX0 w h)
theorem inlX1 : ∀ w ∈ wsX10, w ∈ wsL_law := fun _ h => List.mem_append_left _ (List.mem_append_left _ (List.mem_append_left _ (List.mem_append_left _ (List.mem_append_right _ h))))
theorem inX1 : ∀ w ∈ wsX10, w ∈ lw_tbl := fun w h => wsL_law_in w (inlX1 w h)
theorem inlX2 : ∀ w ∈ wsX20, w ∈ wsL_law := fun _ h => List.mem_append_left _ (List.mem_append_left _ (List.mem_append_left _ (List.mem_append_left _ (List.mem_append_left _ (List.mem_append_left _ (List.mem_append_right _ h))))))
theorem inX2 : ∀ w ∈ wsX20, w ∈ lw_tbl := fun w h => wsL_law_in w (inlX2 w h)
theorem inlX3 : ∀ w ∈ wsX30, w ∈ wsL_law := fun _ h => List.mem_append_left _ (List.mem_append_left _ (List.mem_append_left _ (List.mem_append_left _ (List.mem_append_left _ (List.mem_append_left _ (List.mem_append_left _ (List.mem_append_right _ h)))))))
theorem inX3 : ∀ w ∈ wsX30, w ∈ lw_tbl := fun w h => wsL_law_in w (inlX3 w h)
theorem inX4 : ∀ w ∈ wsX40, w ∈ lw_tbl := by decide +kernel
theorem inX5 : ∀ w ∈ wsX50, w ∈ lw_tbl := by decide +kernel
theorem inX6 : ∀ w ∈ wsX60, w ∈ lw_tbl := by decide +kernel
theorem inJx145de : ∀ w ∈ wsJx145de0, w ∈ lw_tbl := by decide +kernel
theorem inJ9 : ∀ w ∈ wsJ90, w ∈ lw_tbl := by decide +kernel
theorem inJ0 : ∀ w ∈ wsJ00, w ∈ lw_tbl := by decide +kernel
theorem dJ9_abs_0f7a4_0 : decode cJ9_abs_0f7a4 0 = .ok (.iload_n 0, 1) := by decide +kernel
theorem dJ9_abs_0f7a4_1 : decode cJ9_abs_0f7a4 1 = .ok (.ifCond .ge 8, 3) := by decide +kernel
theorem dJ9_abs_0f7a4_4 : decode cJ9_abs_0f7a4 4 = .ok (.iload_n 0, 1) := by decide +kernel
theorem dJ9_abs_0f7a4_5 : decode cJ9_abs_0f7a4 5 = .ok (.ineg, 1) := by decide +kernel
theorem dJ9_abs_0f7a4_6 : decode cJ9_abs_0f7a4 6 = .ok (.goto 4, 3) := by decide +kernel
theorem dJ9_abs_0f7a4_9 : decode cJ9_abs_0f7a4 9 = .ok (.iload_n 0, 1) := by decide +kernel
theorem dJ9_abs_0f7a4_10 : decode cJ9_abs_0f7a4 10 = .ok (.ireturn, 1) := by decide +kernel
theorem dJ9_max_f86c9_0 : decode cJ9_max_f86c9 0 = .ok (.lload_n 0, 1) := by decide +kernel
theorem dJ9_max_f86c9_1 : decode cJ9_max_f86c9 1 = .ok (.lload_n 2, 1) := by decide +kernel
theorem dJ9_max_f86c9_2 : decode cJ9_max_f86c9 2 = .ok (.lcmp, 1) := by decide +kernel
theorem dJ9_max_f86c9_3 : decode cJ9_max_f86c9 3 = .ok (.ifCond .lt 7, 3) := by decide +kernel
theorem dJ9_max_f86c9_6 : decode cJ9_max_f86c9 6 = .ok (.lload_n 0, 1) := by decide +kernel
theorem dJ9_max_f86c9_7 : decode cJ9_max_f86c9 7 = .ok (.goto 4, 3) := by decide +kernel
theorem dJ9_max_f86c9_10 : decode cJ9_max_f86c9 10 = .ok (.lload_n 2, 1) := by decide +kernel
theorem dJ9_max_f86c9_11 : decode cJ9_max_f86c9 11 = .ok (.lreturn, 1) := by decide +kernel
theorem dJ9_min_7cf53_0 : decode cJ9_min_7cf53 0 = .ok (.iload_n 0, 1) := by decide +kernel
theorem dJ9_min_7cf53_1 : decode cJ9_min_7cf53 1 = .ok (.iload_n 1, 1) := by decide +kernel
theorem dJ9_min_7cf53_2 : decode cJ9_min_7cf53 2 = .ok (.if_icmp .gt 7, 3) := by decide +kernel
theorem dJ9_min_7cf53_5 : decode cJ9_min_7cf53 5 = .ok (.iload_n 0, 1) := by decide +kernel
theorem dJ9_min_7cf53_6 : decode cJ9_min_7cf53 6 = .ok (.goto 4, 3) := by decide +kernel
theorem dJ9_min_7cf53_9 : decode cJ9_min_7cf53 9 = .ok (.iload_n 1, 1) := by decide +kernel
theorem dJ9_min_7cf53_10 : decode cJ9_min_7cf53 10 = .ok (.ireturn, 1) := by decide +kernel
theorem dL_below_0 : decode cL_below 0 = .ok (.iload_n 0, 1) := by decide +kernel
theorem dL_below_1 : decode cL_below 1 = .ok (.ldc 7, 2) := by decide +kernel
theorem dL_below_3 : decode cL_below 3 = .ok (.iand, 1) := by decide +kernel
theorem dL_below_4 : decode cL_below 4 = .ok (.iload_n 1, 1) := by decide +kernel
theorem dL_below_5 : decode cL_below 5 = .ok (.irem, 1) := by decide +kernel
theorem dL_below_6 : decode cL_below 6 = .ok (.ireturn, 1) := by decide +kernel
theorem dL_cell_0 : decode cL_cell 0 = .ok (.iload_n 1, 1) := by decide +kernel
theorem dL_cell_1 : decode cL_cell 1 = .ok (.aload_n 0, 1) := by decide +kernel
theorem dL_cell_2 : decode cL_cell 2 = .ok (.arraylength, 1) := by decide +kernel
theorem dL_cell_3 : decode cL_cell 3 = .ok (.if_icmp .ge 9, 3) := by decide +kernel
theorem dL_cell_6 : decode cL_cell 6 = .ok (.aload_n 0, 1) := by decide +kernel
theorem dL_cell_7 : decode cL_cell 7 = .ok (.iload_n 1, 1) := by decide +kernel
theorem dL_cell_8 : decode cL_cell 8 = .ok (.iaload, 1) := by decide +kernel
theorem dL_cell_9 : decode cL_cell 9 = .ok (.goto 9, 3) := by decide +kernel
theorem dL_cell_12 : decode cL_cell 12 = .ok (.ldc 8, 2) := by decide +kernel
theorem dL_cell_14 : decode cL_cell 14 = .ok (.iload_n 1, 1) := by decide +kernel
theorem dL_cell_15 : decode cL_cell 15 = .ok (.iconst 3, 1) := by decide +kernel
theorem dL_cell_16 : decode cL_cell 16 = .ok (.iadd, 1) := by decide +kernel
theorem dL_cell_17 : decode cL_cell 17 = .ok (.imul, 1) := by decide +kernel
theorem dL_cell_18 : decode cL_cell 18 = .ok (.ireturn, 1) := by decide +kernel
set_option maxRecDepth 20000 in
theorem ggL_write_L_cell : GoodIn wsL_write wsL_cell := goodIn_r _ [4, 5] (by decide +kernel) (by decide +kernel)
set_option maxRecDepth 20000 in
theorem gL_write_L_cell : GoodIn wsL_write (va_wsS RL 9 yL_cell wsL_cell) := goodIn_app (goodIn_of _ (by decide +kernel)) ggL_write_L_cell
set_option maxRecDepth 20000 in
theorem ggL_write_L_below : GoodIn wsL_write wsL_below := goodIn_r _ [8, 9] (by decide +kernel) (by decide +kernel)
set_option maxRecDepth 20000 in
theorem gL_write_L_below : GoodIn wsL_write (va_wsS RL 15 yL_below wsL_below) := goodIn_app (goodIn_of _ (by decide +kernel)) ggL_write_L_below
set_option maxRecDepth 20000 in
theorem ggL_write_X3_area : GoodIn wsL_write wsX3_area := goodIn_ca (goodIn_ca (goodIn_ca (goodIn_r _ [14, 15, 16, 17, 18, 19, 20, 21, 22, 23, 24, 25, 13, 26, 27, 28, 57, 58, 59, 60, 61, 62, 63, 64, 65, 66, 67, 68, 69, 70, 71, 72, 73, 74, 75, 76, 77, 78, 79, 80, 81, 82, 83] (by decide +kernel) (by decide +kernel)) (goodIn_sub (fun _ h => List.mem_cons_of_mem _ (List.mem_append_left _ (List.mem_append_left _ (List.mem_append_right _ h)))) (by decide +kernel))) (goodIn_sub (fun _ h => List.mem_cons_of_mem _ (List.mem_append_left _ (List.mem_append_right _ h))) (by decide +kernel))) (goodIn_sub (fun _ h => List.mem_cons_of_mem _ (List.mem_append_right _ h)) (by decide +kernel))
set_option maxRecDepth 20000 in
theorem gL_write_X3_area : GoodIn wsL_write (wsV RL 19 RX3 yX3_area wsX3_area) := goodIn_app (goodIn_of _ (by decide +kernel)) ggL_write_X3_area
set_option maxRecDepth 20000 in
theorem ggL_write_X3_gate : GoodIn wsL_write wsX3_gate := goodIn_ca (goodIn_r _ [32, 19, 21, 33, 23, 24, 25, 13, 26, 27, 28, 57, 58, 59, 60, 61, 62, 63, 64, 65, 66, 67, 68, 69, 70, 71, 72, 73, 74, 75, 76, 77, 78, 79, 80, 81, 82, 83] (by decide +kernel) (by decide +kernel)) (goodIn_sub (fun _ h => List.mem_cons_of_mem _ (List.mem_append_right _ h)) (by decide +kernel))
set_option maxRecDepth 20000 in
theorem gL_write_X3_gate : GoodIn wsL_write (wsV RL 24 RX3 yX3_gate wsX3_gate) := goodIn_app (goodIn_of _ (by decide +kernel)) ggL_write_X3_gate
set_option maxRecDepth 20000 in
theorem ggL_write_X3_family : GoodIn wsL_write wsX3_family := goodIn_ca (goodIn_r _ [37, 17, 18, 38, 57, 58, 59, 60, 61, 62, 63, 64, 65, 66] (by decide +kernel) (by decide +kernel)) (goodIn_sub (fun _ h => List.mem_cons_of_mem _ (List.mem_append_left _ (List.mem_append_right _ h))) (by decide +kernel))
set_option maxRecDepth 20000 in
theorem gL_write_X3_family : GoodIn wsL_write (wsV RL 28 RX3 yX3_family wsX3_family) := goodIn_app (goodIn_of _ (by decide +kernel)) ggL_write_X3_family
set_option maxRecDepth 20000 in
theorem ggL_write_X3_right : GoodIn wsL_write wsX3_right := goodIn_ca (goodIn_ca (goodIn_ca (goodIn_r _ [42, 15, 16, 17, 18, 43, 44, 45, 46, 47, 13, 48, 27, 28, 38, 49, 50, 51, 52, 53, 54, 55, 56, 57, 58, 59, 60, 61, 62, 63, 64, 65, 66, 84, 85, 86, 87, 88, 89] (by decide +kernel) (by decide +kernel)) (goodIn_sub (fun _ h => List.mem_cons_of_mem _ (List.mem_append_left _ (List.mem_append_left _ (List.mem_append_right _ h)))) (by decide +kernel))) (goodIn_sub (fun _ h => List.mem_cons_of_mem _ (List.mem_append_left _ (List.mem_append_right _ h))) (by decide +kernel))) (goodIn_sub (fun _ h => List.mem_cons_of_mem _ (List.mem_append_right _ h)) (by decide +kernel))
set_option maxRecDepth 20000 in
theorem gL_write_X3_right : GoodIn wsL_write (wsV RL 32 RX3 yX3_right wsX3_right) := goodIn_app (goodIn_of _ (by decide +kernel)) ggL_write_X3_right
theorem dL_write_0 : decode cL_write 0 = .ok (.iconst 0, 1) := by decide +kernel
theorem dL_write_1 : decode cL_write 1 = .ok (.istore_n 3, 1) := by decide +kernel
theorem dL_write_2 : decode cL_write 2 = .ok (.iload_n 3, 1) := by decide +kernel
theorem dL_write_3 : decode cL_write 3 = .ok (.bipush 8, 2) := by decide +kernel
theorem dL_write_5 : decode cL_write 5 = .ok (.if_icmp .ge 55, 3) := by decide +kernel
theorem dL_write_8 : decode cL_write 8 = .ok (.aload_n 1, 1) := by decide +kernel
theorem dL_write_9 : decode cL_write 9 = .ok (.iload_n 3, 1) := by decide +kernel
theorem dL_write_10 : decode cL_write 10 = .ok (.iload_n 2, 1) := by decide +kernel
theorem dL_write_11 : decode cL_write 11 = .ok (.iadd, 1) := by decide +kernel
theorem dL_write_12 : decode cL_write 12 = .ok (.invokestatic 9, 3) := by decide +kernel
theorem dL_write_15 : decode cL_write 15 = .ok (.istore 4, 2) := by decide +kernel
theorem dL_write_17 : decode cL_write 17 = .ok (.aload_n 0, 1) := by decide +kernel
theorem dL_write_18 : decode cL_write 18 = .ok (.iload_n 3, 1) := by decide +kernel
theorem dL_write_19 : decode cL_write 19 = .ok (.iconst 1, 1) := by decide +kernel
theorem dL_write_20 : decode cL_write 20 = .ok (.iload 4, 2) := by decide +kernel
theorem dL_write_22 : decode cL_write 22 = .ok (.bipush 9, 2) := by decide +kernel
theorem dL_write_24 : decode cL_write 24 = .ok (.invokestatic 15, 3) := by decide +kernel
theorem dL_write_27 : decode cL_write 27 = .ok (.iadd, 1) := by decide +kernel
theorem dL_write_28 : decode cL_write 28 = .ok (.invokevirtual 19, 3) := by decide +kernel
theorem dL_write_31 : decode cL_write 31 = .ok (.pop, 1) := by decide +kernel
theorem dL_write_32 : decode cL_write 32 = .ok (.aload_n 0, 1) := by decide +kernel
theorem dL_write_33 : decode cL_write 33 = .ok (.iload_n 3, 1) := by decide +kernel
theorem dL_write_34 : decode cL_write 34 = .ok (.iload 4, 2) := by decide +kernel
theorem dL_write_36 : decode cL_write 36 = .ok (.iconst 2, 1) := by decide +kernel
theorem dL_write_37 : decode cL_write 37 = .ok (.ishr, 1) := by decide +kernel
theorem dL_write_38 : decode cL_write 38 = .ok (.iconst 4, 1) := by decide +kernel
theorem dL_write_39 : decode cL_write 39 = .ok (.invokestatic 15, 3) := by decide +kernel
theorem dL_write_42 : decode cL_write 42 = .ok (.ifCond .le 7, 3) := by decide +kernel
theorem dL_write_45 : decode cL_write 45 = .ok (.iconst 1, 1) := by decide +kernel
theorem dL_write_46 : decode cL_write 46 = .ok (.goto 4, 3) := by decide +kernel
theorem dL_write_49 : decode cL_write 49 = .ok (.iconst 0, 1) := by decide +kernel
theorem dL_write_50 : decode cL_write 50 = .ok (.invokevirtual 24, 3) := by decide +kernel
theorem dL_write_53 : decode cL_write 53 = .ok (.pop, 1) := by decide +kernel
theorem dL_write_54 : decode cL_write 54 = .ok (.iinc 3 1, 3) := by decide +kernel
theorem dL_write_57 : decode cL_write 57 = .ok (.goto (-55), 3) := by decide +kernel
theorem dL_write_60 : decode cL_write 60 = .ok (.iconst 0, 1) := by decide +kernel
theorem dL_write_61 : decode cL_write 61 = .ok (.istore_n 3, 1) := by decide +kernel
theorem dL_write_62 : decode cL_write 62 = .ok (.iload_n 3, 1) := by decide +kernel
theorem dL_write_63 : decode cL_write 63 = .ok (.iconst 3, 1) := by decide +kernel
theorem dL_write_64 : decode cL_write 64 = .ok (.if_icmp .ge 52, 3) := by decide +kernel
theorem dL_write_67 : decode cL_write 67 = .ok (.aload_n 0, 1) := by decide +kernel
theorem dL_write_68 : decode cL_write 68 = .ok (.invokevirtual 28, 3) := by decide +kernel
theorem dL_write_71 : decode cL_write 71 = .ok (.pop, 1) := by decide +kernel
theorem dL_write_72 : decode cL_write 72 = .ok (.iconst 5, 1) := by decide +kernel
theorem dL_write_73 : decode cL_write 73 = .ok (.istore 4, 2) := by decide +kernel
theorem dL_write_75 : decode cL_write 75 = .ok (.iload 4, 2) := by decide +kernel
theorem dL_write_77 : decode cL_write 77 = .ok (.bipush 8, 2) := by decide +kernel
theorem dL_write_79 : decode cL_write 79 = .ok (.if_icmp .ge 31, 3) := by decide +kernel
theorem dL_write_82 : decode cL_write 82 = .ok (.aload_n 0, 1) := by decide +kernel
theorem dL_write_83 : decode cL_write 83 = .ok (.iload_n 3, 1) := by decide +kernel
theorem dL_write_84 : decode cL_write 84 = .ok (.iload 4, 2) := by decide +kernel
theorem dL_write_86 : decode cL_write 86 = .ok (.aload_n 1, 1) := by decide +kernel
theorem dL_write_87 : decode cL_write 87 = .ok (.iload_n 3, 1) := by decide +kernel
theorem dL_write_88 : decode cL_write 88 = .ok (.iload 4, 2) := by decide +kernel
theorem dL_write_90 : decode cL_write 90 = .ok (.iadd, 1) := by decide +kernel
theorem dL_write_91 : decode cL_write 91 = .ok (.iload_n 2, 1) := by decide +kernel
theorem dL_write_92 : decode cL_write 92 = .ok (.iadd, 1) := by decide +kernel
theorem dL_write_93 : decode cL_write 93 = .ok (.invokestatic 9, 3) := by decide +kernel
theorem dL_write_96 : decode cL_write 96 = .ok (.iconst 5, 1) := by decide +kernel
theorem dL_write_97 : decode cL_write 97 = .ok (.invokestatic 15, 3) := by decide +kernel
theorem dL_write_100 : decode cL_write 100 = .ok (.invokevirtual 32, 3) := by decide +kernel
theorem dL_write_103 : decode cL_write 103 = .ok (.pop, 1) := by decide +kernel
theorem dL_write_104 : decode cL_write 104 = .ok (.iinc 4 1, 3) := by decide +kernel
theorem dL_write_107 : decode cL_write 107 = .ok (.goto (-32), 3) := by decide +kernel
theorem dL_write_110 : decode cL_write 110 = .ok (.iinc 3 1, 3) := by decide +kernel
theorem dL_write_113 : decode cL_write 113 = .ok (.goto (-51), 3) := by decide +kernel
theorem dL_write_116 : decode cL_write 116 = .ok (.return_, 1) := by decide +kernel
set_option maxRecDepth 20000 in
theorem ggL_law_X3_init : GoodIn wsL_law wsX3_init := goodIn_r _ [6, 7, 8, 9, 10, 11, 12, 13, 14, 15, 16, 17, 18, 19, 20, 21, 22, 23, 24, 25, 26, 27, 28, 29, 30, 31, 32, 33, 3, 34, 365, 366, 367, 368, 369, 355, 356, 357, 358, 359, 360, 361, 362, 363, 364, 370, 371, 372, 373, 374, 375, 376, 377, 378, 379, 380, 381, 382, 383, 384, 385, 386, 387] (by decide +kernel) (by decide +kernel)
set_option maxRecDepth 20000 in
theorem gL_law_X3_init : GoodIn wsL_law (wsX3_init) := ggL_law_X3_init
set_option maxRecDepth 20000 in
theorem ggL_law_L_write : GoodIn wsL_law wsL_write := goodIn_ca (goodIn_ca (goodIn_ca (goodIn_r _ [38, 39, 40, 37, 41, 42, 43, 44, 45, 46, 47, 48, 49, 2, 50, 51, 52, 53, 54, 13, 55, 56, 57, 58, 59, 60, 61, 62, 63, 64, 65, 66, 67, 68, 69, 70, 71, 72, 73, 74, 75, 76, 77, 16, 78, 79, 80, 81, 82, 83, 84, 85, 86, 87, 88, 89, 90, 355, 356, 357, 358, 359, 360, 361, 362, 363, 364, 365, 366, 367, 368, 369, 376, 377, 378, 379, 380, 381, 382, 383, 384, 385, 386, 387, 370, 371, 372, 373, 374, 375] (by decide +kernel) (by decide +kernel)) (goodIn_sub (fun _ h => List.mem_append_left _ (List.mem_append_left _ (List.mem_append_right _ h))) (by decide +kernel))) (goodIn_sub (fun _ h => List.mem_append_left _ (List.mem_append_right _ h)) (by decide +kernel))) (goodIn_sub (fun _ h => List.mem_append_right _ h) (by decide +kernel))
set_option maxRecDepth 20000 in
theorem gL_law_L_write : GoodIn wsL_law (va_wsS RL 37 yL_write wsL_write) := goodIn_app (goodIn_of _ (by decide +kernel)) ggL_law_L_write
set_option maxRecDepth 20000 in
theorem ggL_law_L_cell : GoodIn wsL_law wsL_cell := goodIn_r _ [41, 42] (by decide +kernel) (by decide +kernel)
set_option maxRecDepth 20000 in
theorem gL_law_L_cell : GoodIn wsL_law (va_wsS RL 9 yL_cell wsL_cell) := goodIn_app (goodIn_of _ (by decide +kernel)) ggL_law_L_cell
set_option maxRecDepth 20000 in
theorem ggL_law_L_below : GoodIn wsL_law wsL_below := goodIn_r _ [45, 46] (by decide +kernel) (by decide +kernel)
set_option maxRecDepth 20000 in
theorem gL_law_L_below : GoodIn wsL_law (va_wsS RL 15 yL_below wsL_below) := goodIn_app (goodIn_of _ (by decide +kernel)) ggL_law_L_below
set_option maxRecDepth 20000 in
theorem ggL_law_X3_pass : GoodIn wsL_law wsX3_pass := goodIn_ca (goodIn_ca (goodIn_r _ [94, 51, 52, 53, 54, 13, 55, 95, 96, 97, 2, 98, 99, 100, 101, 12, 102, 103, 104, 105, 24, 106, 107, 108, 109, 110, 111, 112, 113, 114, 115, 116, 117, 118, 119, 120, 121, 122, 26, 123, 124, 30, 125, 126, 127, 128, 129, 130, 131, 132, 133, 134, 135, 136, 137, 138, 139, 140, 141, 142, 143, 144, 145, 146, 147, 148, 149, 150, 151, 152, 153, 154, 155, 156, 157, 158, 159, 160, 161, 162, 163, 164, 165, 166, 167, 168, 169, 170, 171, 172, 173, 174, 175, 176, 177, 178, 179, 180, 181, 182, 183, 184, 185, 186, 187, 355, 356, 357, 358, 359, 360, 361, 362, 363, 364, 365, 366, 367, 368, 369, 376, 377, 378, 379, 380, 381, 382, 383, 384, 385, 386, 387] (by decide +kernel) (by decide +kernel)) (goodIn_sub (fun _ h => List.mem_append_left _ (List.mem_append_left _ (List.mem_append_right _ h))) (by decide +kernel))) (goodIn_sub (fun _ h => List.mem_append_left _ (List.mem_append_right _ h)) (by decide +kernel))
set_option maxRecDepth 20000 in
theorem gL_law_X3_pass : GoodIn wsL_law (wsV RL 41 RX3 yX3_pass wsX3_pass) := goodIn_app (goodIn_of _ (by decide +kernel)) ggL_law_X3_pass
set_option maxRecDepth 20000 in
theorem ggL_law_L_isHeld : GoodIn wsL_law wsL_isHeld := goodIn_ca (goodIn_ca (goodIn_r _ [190, 191, 192, 193, 194, 195, 196, 2, 197, 51, 52, 13, 56, 58, 59, 60, 61, 62, 63, 198, 199, 200, 26, 201, 30, 124, 131, 132, 133, 152, 169, 175, 202, 203, 121, 122, 123, 125, 126, 158, 159, 160, 161, 162, 157, 139, 118, 140, 355, 356, 357, 358, 359, 360, 361, 362, 363, 364, 365, 366, 367, 368, 369, 376, 377, 378, 379, 380, 381, 382, 383, 384, 385, 386, 387] (by decide +kernel) (by decide +kernel)) (goodIn_sub (fun _ h => List.mem_append_left _ (List.mem_append_left _ (List.mem_append_right _ h))) (by decide +kernel))) (goodIn_sub (fun _ h => List.mem_append_right _ h) (by decide +kernel))
set_option maxRecDepth 20000 in
theorem gL_law_L_isHeld : GoodIn wsL_law (va_wsS RL 45 yL_isHeld wsL_isHeld) := goodIn_app (goodIn_of _ (by decide +kernel)) ggL_law_L_isHeld
set_option maxRecDepth 20000 in
theorem ggL_law_X3_ofPond : GoodIn wsL_law wsX3_ofPond := goodIn_ca (goodIn_ca (goodIn_r _ [197, 51, 52, 13, 56, 58, 59, 60, 2, 61, 62, 63, 198, 199, 200, 26, 201, 30, 124, 131, 132, 133, 152, 169, 175, 202, 203, 121, 122, 123, 125, 126, 158, 159, 160, 161, 162, 157, 139, 118, 140, 355, 356, 357, 358, 359, 360, 361, 362, 363, 364, 365, 366, 367, 368, 369, 376, 377, 378, 379, 380, 381, 382, 383, 384, 385, 386, 387] (by decide +kernel) (by decide +kernel)) (goodIn_sub (fun _ h => List.mem_append_left _ (List.mem_append_left _ (List.mem_append_right _ h))) (by decide +kernel))) (goodIn_sub (fun _ h => List.mem_append_right _ h) (by decide +kernel))
set_option maxRecDepth 20000 in
theorem gL_law_X3_ofPond : GoodIn wsL_law (wsV RL 49 RX3 yX3_ofPond wsX3_ofPond) := goodIn_app (goodIn_of _ (by decide +kernel)) ggL_law_X3_ofPond
set_option maxRecDepth 20000 in
theorem ggL_law_X3_harvest : GoodIn wsL_law wsX3_harvest := goodIn_ca (goodIn_ca (goodIn_r _ [207, 53, 54, 13, 56, 208, 209, 210, 211, 83, 84, 85, 2, 86, 62, 63, 212, 213, 214, 26, 215, 169, 202, 216, 217, 218, 219, 30, 157, 139, 118, 140, 220, 221, 222, 223, 175, 125, 126, 224, 225, 226, 227, 228, 229, 230, 231, 232, 233, 234, 73, 16, 78, 235, 236, 237, 238, 239, 240, 241, 18, 242, 243, 244, 245, 355, 356, 357, 358, 359, 360, 361, 362, 363, 364, 365, 366, 367, 368, 369, 376, 377, 378, 379, 380, 381, 382, 383, 384, 385, 386, 387, 370, 371, 372, 373, 374, 375] (by decide +kernel) (by decide +kernel)) (goodIn_sub (fun _ h => List.mem_append_left _ (List.mem_append_right _ h)) (by decide +kernel))) (goodIn_sub (fun _ h => List.mem_append_right _ h) (by decide +kernel))
set_option maxRecDepth 20000 in
theorem gL_law_X3_harvest : GoodIn wsL_law (wsV RL 52 RX3 yX3_harvest wsX3_harvest) := goodIn_app (goodIn_of _ (by decide +kernel)) ggL_law_X3_harvest
set_option maxRecDepth 20000 in
theorem ggL_law_X3_ofFamily : GoodIn wsL_law wsX3_ofFamily := goodIn_ca (goodIn_ca (goodIn_r _ [249, 51, 52, 16, 79, 80, 81, 2, 82, 62, 63, 73, 250, 251, 252, 18, 253, 243, 244, 254, 245, 255, 256, 257, 258, 238, 125, 126, 355, 356, 357, 358, 359, 360, 361, 362, 363, 364, 370, 371, 372, 373, 374, 375] (by decide +kernel) (by decide +kernel)) (goodIn_sub (fun _ h => List.mem_append_left _ (List.mem_append_left _ (List.mem_append_right _ h))) (by decide +kernel))) (goodIn_sub (fun _ h => List.mem_append_right _ h) (by decide +kernel))
set_option maxRecDepth 20000 in
theorem gL_law_X3_ofFamily : GoodIn wsL_law (wsV RL 56 RX3 yX3_ofFamily wsX3_ofFamily) := goodIn_app (goodIn_of _ (by decide +kernel)) ggL_law_X3_ofFamily
set_option maxRecDepth 20000 in
theorem ggL_law_X3_wash : GoodIn wsL_law wsX3_wash := goodIn_ca (goodIn_ca (goodIn_r _ [262, 53, 54, 16, 263, 264, 265, 79, 80, 81, 2, 82, 62, 63, 73, 266, 163, 164, 267, 256, 257, 258, 238, 125, 126, 355, 356, 357, 358, 359, 360, 361, 362, 363, 364, 370, 371, 372, 373, 374, 375] (by decide +kernel) (by decide +kernel)) (goodIn_sub (fun _ h => List.mem_append_left _ (List.mem_append_right _ h)) (by decide +kernel))) (goodIn_sub (fun _ h => List.mem_append_right _ h) (by decide +kernel))
set_option maxRecDepth 20000 in
theorem gL_law_X3_wash : GoodIn wsL_law (wsV RL 59 RX3 yX3_wash wsX3_wash) := goodIn_app (goodIn_of _ (by decide +kernel)) ggL_law_X3_wash
set_option maxRecDepth 20000 in
theorem ggL_law_X3_rightOf : GoodIn wsL_law wsX3_rightOf := goodIn_ca (goodIn_r _ [271, 16, 78, 79, 80, 81, 2, 82, 62, 63, 73, 83, 84, 85, 86, 355, 356, 357, 358, 359, 360, 361, 362, 363, 364, 370, 371, 372, 373, 374, 375] (by decide +kernel) (by decide +kernel)) (goodIn_sub (fun _ h => List.mem_append_right _ h) (by decide +kernel))
set_option maxRecDepth 20000 in
theorem gL_law_X3_rightOf : GoodIn wsL_law (wsV RL 63 RX3 yX3_rightOf wsX3_rightOf) := goodIn_app (goodIn_of _ (by decide +kernel)) ggL_law_X3_rightOf
set_option maxRecDepth 20000 in
theorem ggL_law_X3_right : GoodIn wsL_law wsX3_right := goodIn_ca (goodIn_ca (goodIn_ca (goodIn_r _ [77, 51, 52, 53, 54, 16, 78, 79, 80, 81, 2, 82, 62, 63, 73, 83, 84, 85, 86, 87, 88, 89, 90, 355, 356, 357, 358, 359, 360, 361, 362, 363, 364, 370, 371, 372, 373, 374, 375] (by decide +kernel) (by decide +kernel)) (goodIn_sub (fun _ h => List.mem_append_left _ (List.mem_append_left _ (List.mem_append_right _ h))) (by decide +kernel))) (goodIn_sub (fun _ h => List.mem_append_left _ (List.mem_append_right _ h)) (by decide +kernel))) (goodIn_sub (fun _ h => List.mem_append_right _ h) (by decide +kernel))
set_option maxRecDepth 20000 in
theorem gL_law_X3_right : GoodIn wsL_law (wsV RL 32 RX3 yX3_right wsX3_right) := goodIn_app (goodIn_of _ (by decide +kernel)) ggL_law_X3_right
set_option maxRecDepth 20000 in
theorem ggL_law_X3_skim : GoodIn wsL_law wsX3_skim := goodIn_ca (goodIn_r _ [275, 13, 56, 276, 277, 58, 59, 60, 2, 61, 62, 63, 355, 356, 357, 358, 359, 360, 361, 362, 363, 364, 365, 366, 367, 368, 369, 376, 377, 378, 379, 380, 381, 382, 383, 384, 385, 386, 387] (by decide +kernel) (by decide +kernel)) (goodIn_sub (fun _ h => List.mem_append_right _ h) (by decide +kernel))
set_option maxRecDepth 20000 in
theorem gL_law_X3_skim : GoodIn wsL_law (wsV RL 66 RX3 yX3_skim wsX3_skim) := goodIn_app (goodIn_of _ (by decide +kernel)) ggL_law_X3_skim
set_option maxRecDepth 20000 in
theorem ggL_law_X3_many : GoodIn wsL_law wsX3_many := goodIn_ca (goodIn_r _ [281, 51, 52, 13, 55, 73, 282, 265, 211, 236, 237, 277, 283, 284, 285, 286, 12, 287, 24, 111, 288, 289, 290, 291, 292, 293, 294, 295, 296, 297, 199, 200, 26, 201, 30, 124, 131, 132, 133, 152, 169, 175, 202, 203, 121, 122, 123, 125, 2, 126, 158, 159, 160, 161, 162, 157, 139, 118, 140, 298, 299, 300, 301, 16, 250, 251, 252, 18, 253, 243, 244, 254, 245, 255, 256, 257, 258, 238, 355, 356, 357, 358, 359, 360, 361, 362, 363, 364, 365, 366, 367, 368, 369, 376, 377, 378, 379, 380, 381, 382, 383, 384, 385, 386, 387, 370, 371, 372, 373, 374, 375] (by decide +kernel) (by decide +kernel)) (goodIn_sub (fun _ h => List.mem_append_left _ (List.mem_append_left _ (List.mem_append_right _ h))) (by decide +kernel))
set_option maxRecDepth 20000 in
theorem gL_law_X3_many : GoodIn wsL_law (wsV RL 69 RX3 yX3_many wsX3_many) := goodIn_app (goodIn_of _ (by decide +kernel)) ggL_law_X3_many
set_option maxRecDepth 20000 in
theorem ggL_law_X3_digest : GoodIn wsL_law wsX3_digest := goodIn_ca (goodIn_ca (goodIn_r _ [305, 306, 307, 73, 308, 279, 280, 2, 281, 51, 52, 13, 55, 282, 265, 211, 236, 237, 277, 283, 284, 285, 286, 12, 287, 24, 111, 288, 289, 290, 291, 292, 293, 294, 295, 296, 297, 199, 200, 26, 201, 30, 124, 131, 132, 133, 152, 169, 175, 202, 203, 121, 122, 123, 125, 126, 158, 159, 160, 161, 162, 157, 139, 118, 140, 298, 299, 300, 301, 16, 250, 251, 252, 18, 253, 243, 244, 254, 245, 255, 256, 257, 258, 238, 309, 195, 196, 197, 56, 58, 59, 60, 61, 62, 63, 198, 310, 311, 312, 313, 314, 247, 248, 249, 79, 80, 81, 82, 315, 269, 270, 271, 78, 83, 84, 85, 86, 316, 317, 318, 319, 14, 320, 95, 96, 97, 98, 321, 322, 323, 324, 103, 104, 105, 113, 325, 326, 327, 328, 174, 329, 151, 99, 100, 101, 102, 106, 107, 108, 109, 110, 112, 114, 115, 116, 117, 119, 120, 127, 128, 129, 130, 134, 135, 136, 137, 138, 141, 142, 143, 144, 145, 146, 147, 148, 149, 150, 153, 154, 155, 156, 163, 164, 165, 166, 167, 168, 170, 171, 172, 173, 176, 177, 178, 179, 180, 181, 182, 330, 331, 332, 333, 334, 335, 336, 337, 338, 339, 340, 341, 342, 343, 344, 345, 346, 347, 348, 349, 350, 351, 352, 355, 356, 357, 358, 359, 360, 361, 362, 363, 364, 365, 366, 367, 368, 369, 376, 377, 378, 379, 380, 381, 382, 383, 384, 385, 386, 387, 370, 371, 372, 373, 374, 375] (by decide +kernel) (by decide +kernel)) (goodIn_sub (fun _ h => List.mem_append_left _ (List.mem_append_left _ (List.mem_append_right _ h))) (by decide +kernel))) (goodIn_sub (fun _ h => List.mem_append_right _ h) (by decide +kernel))
set_option maxRecDepth 20000 in
theorem gL_law_X3_digest : GoodIn wsL_law (wsV RL 72 RX3 yX3_digest wsX3_digest) := goodIn_app (goodIn_of _ (by decide +kernel)) ggL_law_X3_digest
set_option maxRecDepth 20000 in
theorem ggL_law_X3_bestGates : GoodIn wsL_law wsX3_bestGates := goodIn_ca (goodIn_r _ [333, 51, 52, 95, 96, 97, 2, 98, 334, 335, 336, 337, 14, 13, 321, 322, 323, 12, 324, 103, 104, 105, 113, 24, 325, 326, 327, 26, 328, 30, 124, 131, 132, 133, 152, 169, 175, 174, 329, 151, 202, 338, 339, 340, 341, 111, 99, 100, 101, 102, 106, 107, 108, 109, 110, 112, 114, 115, 116, 117, 118, 119, 120, 121, 122, 123, 125, 126, 127, 128, 129, 130, 134, 135, 136, 137, 138, 139, 140, 141, 142, 143, 144, 145, 146, 147, 148, 149, 150, 153, 154, 155, 156, 157, 158, 159, 160, 161, 162, 163, 164, 165, 166, 167, 168, 170, 171, 172, 173, 176, 177, 178, 179, 180, 181, 182, 342, 343, 344, 345, 346, 347, 355, 356, 357, 358, 359, 360, 361, 362, 363, 364, 365, 366, 367, 368, 369, 376, 377, 378, 379, 380, 381, 382, 383, 384, 385, 386, 387] (by decide +kernel) (by decide +kernel)) (goodIn_sub (fun _ h => List.mem_append_left _ (List.mem_append_left _ (List.mem_append_right _ h))) (by decide +kernel))
set_option maxRecDepth 20000 in
theorem gL_law_X3_bestGates : GoodIn wsL_law (wsV RL 76 RX3 yX3_bestGates wsX3_bestGates) := goodIn_app (goodIn_of _ (by decide +kernel)) ggL_law_X3_bestGates
set_option maxRecDepth 20000 in
theorem ggL_law_X3_crustIn : GoodIn wsL_law wsX3_crustIn := goodIn_ca (goodIn_ca (goodIn_r _ [319, 14, 13, 56, 320, 83, 84, 85, 2, 86, 62, 63, 95, 96, 97, 98, 51, 52, 321, 322, 323, 12, 324, 103, 104, 105, 113, 24, 325, 326, 327, 26, 328, 30, 124, 131, 132, 133, 152, 169, 175, 174, 329, 151, 202, 99, 100, 101, 102, 106, 107, 108, 109, 110, 111, 112, 114, 115, 116, 117, 118, 119, 120, 121, 122, 123, 125, 126, 127, 128, 129, 130, 134, 135, 136, 137, 138, 139, 140, 141, 142, 143, 144, 145, 146, 147, 148, 149, 150, 153, 154, 155, 156, 157, 158, 159, 160, 161, 162, 163, 164, 165, 166, 167, 168, 170, 171, 172, 173, 176, 177, 178, 179, 180, 181, 182, 355, 356, 357, 358, 359, 360, 361, 362, 363, 364, 365, 366, 367, 368, 369, 376, 377, 378, 379, 380, 381, 382, 383, 384, 385, 386, 387] (by decide +kernel) (by decide +kernel)) (goodIn_sub (fun _ h => List.mem_append_right _ h) (by decide +kernel))) (goodIn_sub (fun _ h => List.mem_append_left _ (List.mem_append_left _ (List.mem_append_right _ h))) (by decide +kernel))
set_option maxRecDepth 20000 in
theorem gL_law_X3_crustIn : GoodIn wsL_law (wsV RL 79 RX3 yX3_crustIn wsX3_crustIn) := goodIn_app (goodIn_of _ (by decide +kernel)) ggL_law_X3_crustIn
theorem dL_law_0 : decode cL_law 0 = .ok (.new 20, 3) := by decide +kernel
theorem dL_law_3 : decode cL_law 3 = .ok (.dup, 1) := by decide +kernel
theorem dL_law_4 : decode cL_law 4 = .ok (.invokespecial 36, 3) := by decide +kernel
theorem dL_law_7 : decode cL_law 7 = .ok (.astore_n 1, 1) := by decide +kernel
theorem dL_law_8 : decode cL_law 8 = .ok (.aload_n 1, 1) := by decide +kernel
theorem dL_law_9 : decode cL_law 9 = .ok (.aload_n 0, 1) := by decide +kernel
theorem dL_law_10 : decode cL_law 10 = .ok (.iconst 5, 1) := by decide +kernel
theorem dL_law_11 : decode cL_law 11 = .ok (.invokestatic 37, 3) := by decide +kernel
theorem dL_law_14 : decode cL_law 14 = .ok (.bipush 6, 2) := by decide +kernel
theorem dL_law_16 : decode cL_law 16 = .ok (.newarray .int, 2) := by decide +kernel
theorem dL_law_18 : decode cL_law 18 = .ok (.astore_n 2, 1) := by decide +kernel
theorem dL_law_19 : decode cL_law 19 = .ok (.iconst 0, 1) := by decide +kernel
theorem dL_law_20 : decode cL_law 20 = .ok (.istore_n 3, 1) := by decide +kernel
theorem dL_law_21 : decode cL_law 21 = .ok (.iload_n 3, 1) := by decide +kernel
theorem dL_law_22 : decode cL_law 22 = .ok (.bipush 22, 2) := by decide +kernel
theorem dL_law_24 : decode cL_law 24 = .ok (.if_icmp .ge 399, 3) := by decide +kernel
theorem dL_law_27 : decode cL_law 27 = .ok (.aload_n 0, 1) := by decide +kernel
theorem dL_law_28 : decode cL_law 28 = .ok (.iload_n 3, 1) := by decide +kernel
theorem dL_law_29 : decode cL_law 29 = .ok (.bipush 16, 2) := by decide +kernel
theorem dL_law_31 : decode cL_law 31 = .ok (.irem, 1) := by decide +kernel
theorem dL_law_32 : decode cL_law 32 = .ok (.invokestatic 9, 3) := by decide +kernel
theorem dL_law_35 : decode cL_law 35 = .ok (.bipush 29, 2) := by decide +kernel
theorem dL_law_37 : decode cL_law 37 = .ok (.iload_n 3, 1) := by decide +kernel
theorem dL_law_38 : decode cL_law 38 = .ok (.imul, 1) := by decide +kernel
theorem dL_law_39 : decode cL_law 39 = .ok (.iadd, 1) := by decide +kernel
theorem dL_law_40 : decode cL_law 40 = .ok (.istore 4, 2) := by decide +kernel
theorem dL_law_42 : decode cL_law 42 = .ok (.iconst 5, 1) := by decide +kernel
theorem dL_law_43 : decode cL_law 43 = .ok (.iload 4, 2) := by decide +kernel
theorem dL_law_45 : decode cL_law 45 = .ok (.iconst 1, 1) := by decide +kernel
theorem dL_law_46 : decode cL_law 46 = .ok (.ishr, 1) := by decide +kernel
theorem dL_law_47 : decode cL_law 47 = .ok (.iconst 3, 1) := by decide +kernel
theorem dL_law_48 : decode cL_law 48 = .ok (.invokestatic 15, 3) := by decide +kernel
theorem dL_law_51 : decode cL_law 51 = .ok (.iadd, 1) := by decide +kernel
theorem dL_law_52 : decode cL_law 52 = .ok (.istore 5, 2) := by decide +kernel
theorem dL_law_54 : decode cL_law 54 = .ok (.iload 4, 2) := by decide +kernel
theorem dL_law_56 : decode cL_law 56 = .ok (.iconst 2, 1) := by decide +kernel
theorem dL_law_57 : decode cL_law 57 = .ok (.ishr, 1) := by decide +kernel
theorem dL_law_58 : decode cL_law 58 = .ok (.iconst 3, 1) := by decide +kernel
theorem dL_law_59 : decode cL_law 59 = .ok (.invokestatic 15, 3) := by decide +kernel
theorem dL_law_62 : decode cL_law 62 = .ok (.istore 6, 2) := by decide +kernel
theorem dL_law_64 : decode cL_law 64 = .ok (.iload 4, 2) := by decide +kernel
theorem dL_law_66 : decode cL_law 66 = .ok (.bipush 7, 2) := by decide +kernel
theorem dL_law_68 : decode cL_law 68 = .ok (.invokestatic 15, 3) := by decide +kernel
theorem dL_law_71 : decode cL_law 71 = .ok (.tableswitch 203 0 5 #[37, 37, 37, 106, 154, 174], 37) := by decide +kernel
theorem dL_law_108 : decode cL_law 108 = .ok (.aload_n 1, 1) := by decide +kernel
theorem dL_law_109 : decode cL_law 109 = .ok (.iconst 1, 1) := by decide +kernel
theorem dL_law_110 : decode cL_law 110 = .ok (.iload 4, 2) := by decide +kernel
theorem dL_law_112 : decode cL_law 112 = .ok (.iconst 3, 1) := by decide +kernel
theorem dL_law_113 : decode cL_law 113 = .ok (.ishr, 1) := by decide +kernel
theorem dL_law_114 : decode cL_law 114 = .ok (.bipush 9, 2) := by decide +kernel
theorem dL_law_116 : decode cL_law 116 = .ok (.invokestatic 15, 3) := by decide +kernel
theorem dL_law_119 : decode cL_law 119 = .ok (.iadd, 1) := by decide +kernel
theorem dL_law_120 : decode cL_law 120 = .ok (.iload 4, 2) := by decide +kernel
theorem dL_law_122 : decode cL_law 122 = .ok (.iconst 4, 1) := by decide +kernel
theorem dL_law_123 : decode cL_law 123 = .ok (.ishr, 1) := by decide +kernel
theorem dL_law_124 : decode cL_law 124 = .ok (.bipush 10, 2) := by decide +kernel
theorem dL_law_126 : decode cL_law 126 = .ok (.invokestatic 15, 3) := by decide +kernel
theorem dL_law_129 : decode cL_law 129 = .ok (.iload 4, 2) := by decide +kernel
theorem dL_law_131 : decode cL_law 131 = .ok (.iconst 5, 1) := by decide +kernel
theorem dL_law_132 : decode cL_law 132 = .ok (.ishr, 1) := by decide +kernel
theorem dL_law_133 : decode cL_law 133 = .ok (.bipush 10, 2) := by decide +kernel
theorem dL_law_135 : decode cL_law 135 = .ok (.invokestatic 15, 3) := by decide +kernel
theorem dL_law_138 : decode cL_law 138 = .ok (.iload 4, 2) := by decide +kernel
theorem dL_law_140 : decode cL_law 140 = .ok (.bipush 6, 2) := by decide +kernel
theorem dL_law_142 : decode cL_law 142 = .ok (.ishr, 1) := by decide +kernel
theorem dL_law_143 : decode cL_law 143 = .ok (.iconst 5, 1) := by decide +kernel
theorem dL_law_144 : decode cL_law 144 = .ok (.invokestatic 15, 3) := by decide +kernel
theorem dL_law_147 : decode cL_law 147 = .ok (.ifCond .ne 16, 3) := by decide +kernel
theorem dL_law_150 : decode cL_law 150 = .ok (.iload 4, 2) := by decide +kernel
theorem dL_law_152 : decode cL_law 152 = .ok (.bipush 7, 2) := by decide +kernel
theorem dL_law_154 : decode cL_law 154 = .ok (.ishr, 1) := by decide +kernel
theorem dL_law_155 : decode cL_law 155 = .ok (.bipush 41, 2) := by decide +kernel
theorem dL_law_157 : decode cL_law 157 = .ok (.invokestatic 15, 3) := by decide +kernel
theorem dL_law_160 : decode cL_law 160 = .ok (.goto 4, 3) := by decide +kernel
theorem dL_law_163 : decode cL_law 163 = .ok (.iconst 0, 1) := by decide +kernel
theorem dL_law_164 : decode cL_law 164 = .ok (.invokevirtual 41, 3) := by decide +kernel
theorem dL_law_167 : decode cL_law 167 = .ok (.pop, 1) := by decide +kernel
theorem dL_law_168 : decode cL_law 168 = .ok (.aload_n 1, 1) := by decide +kernel
theorem dL_law_169 : decode cL_law 169 = .ok (.invokestatic 45, 3) := by decide +kernel
theorem dL_law_172 : decode cL_law 172 = .ok (.ifCond .ne 116, 3) := by decide +kernel
theorem dL_law_175 : decode cL_law 175 = .ok (.iconst 0, 1) := by decide +kernel
theorem dL_law_176 : decode cL_law 176 = .ok (.ireturn, 1) := by decide +kernel
theorem dL_law_177 : decode cL_law 177 = .ok (.aload_n 1, 1) := by decide +kernel
theorem dL_law_178 : decode cL_law 178 = .ok (.iload 5, 2) := by decide +kernel
theorem dL_law_180 : decode cL_law 180 = .ok (.bipush 6, 2) := by decide +kernel
theorem dL_law_182 : decode cL_law 182 = .ok (.invokevirtual 49, 3) := by decide +kernel
theorem dL_law_185 : decode cL_law 185 = .ok (.ifCond .le 103, 3) := by decide +kernel
theorem dL_law_188 : decode cL_law 188 = .ok (.aload_n 1, 1) := by decide +kernel
theorem dL_law_189 : decode cL_law 189 = .ok (.iload 5, 2) := by decide +kernel
theorem dL_law_191 : decode cL_law 191 = .ok (.bipush 10, 2) := by decide +kernel
theorem dL_law_193 : decode cL_law 193 = .ok (.invokevirtual 49, 3) := by decide +kernel
theorem dL_law_196 : decode cL_law 196 = .ok (.ifCond .ne 92, 3) := by decide +kernel
theorem dL_law_199 : decode cL_law 199 = .ok (.aload_n 1, 1) := by decide +kernel
theorem dL_law_200 : decode cL_law 200 = .ok (.iload 5, 2) := by decide +kernel
theorem dL_law_202 : decode cL_law 202 = .ok (.iload 4, 2) := by decide +kernel
theorem dL_law_204 : decode cL_law 204 = .ok (.iconst 3, 1) := by decide +kernel
theorem dL_law_205 : decode cL_law 205 = .ok (.ishr, 1) := by decide +kernel
theorem dL_law_206 : decode cL_law 206 = .ok (.iconst 2, 1) := by decide +kernel
theorem dL_law_207 : decode cL_law 207 = .ok (.invokestatic 15, 3) := by decide +kernel
theorem dL_law_210 : decode cL_law 210 = .ok (.ifCond .ne 7, 3) := by decide +kernel
theorem dL_law_213 : decode cL_law 213 = .ok (.iconst 1, 1) := by decide +kernel
theorem dL_law_214 : decode cL_law 214 = .ok (.goto 4, 3) := by decide +kernel
theorem dL_law_217 : decode cL_law 217 = .ok (.iconst 0, 1) := by decide +kernel
theorem dL_law_218 : decode cL_law 218 = .ok (.invokevirtual 52, 3) := by decide +kernel
theorem dL_law_221 : decode cL_law 221 = .ok (.pop, 1) := by decide +kernel
theorem dL_law_222 : decode cL_law 222 = .ok (.goto 66, 3) := by decide +kernel
theorem dL_law_225 : decode cL_law 225 = .ok (.aload_n 1, 1) := by decide +kernel
theorem dL_law_226 : decode cL_law 226 = .ok (.iload 6, 2) := by decide +kernel
theorem dL_law_228 : decode cL_law 228 = .ok (.iconst 0, 1) := by decide +kernel
theorem dL_law_229 : decode cL_law 229 = .ok (.invokevirtual 56, 3) := by decide +kernel
theorem dL_law_232 : decode cL_law 232 = .ok (.ifCond .le 56, 3) := by decide +kernel
theorem dL_law_235 : decode cL_law 235 = .ok (.aload_n 1, 1) := by decide +kernel
theorem dL_law_236 : decode cL_law 236 = .ok (.iload 6, 2) := by decide +kernel
theorem dL_law_238 : decode cL_law 238 = .ok (.invokevirtual 59, 3) := by decide +kernel
theorem dL_law_241 : decode cL_law 241 = .ok (.pop, 1) := by decide +kernel
theorem dL_law_242 : decode cL_law 242 = .ok (.goto 46, 3) := by decide +kernel
theorem dL_law_245 : decode cL_law 245 = .ok (.aload_n 1, 1) := by decide +kernel
theorem dL_law_246 : decode cL_law 246 = .ok (.iload 6, 2) := by decide +kernel
theorem dL_law_248 : decode cL_law 248 = .ok (.iload 5, 2) := by decide +kernel
theorem dL_law_250 : decode cL_law 250 = .ok (.iload 4, 2) := by decide +kernel
theorem dL_law_252 : decode cL_law 252 = .ok (.iconst 3, 1) := by decide +kernel
theorem dL_law_253 : decode cL_law 253 = .ok (.ishr, 1) := by decide +kernel
theorem dL_law_254 : decode cL_law 254 = .ok (.iconst 1, 1) := by decide +kernel
theorem dL_law_255 : decode cL_law 255 = .ok (.aload_n 1, 1) := by decide +kernel
theorem dL_law_256 : decode cL_law 256 = .ok (.iload 6, 2) := by decide +kernel
theorem dL_law_258 : decode cL_law 258 = .ok (.iload 5, 2) := by decide +kernel
theorem dL_law_260 : decode cL_law 260 = .ok (.invokevirtual 63, 3) := by decide +kernel
theorem dL_law_263 : decode cL_law 263 = .ok (.iadd, 1) := by decide +kernel
theorem dL_law_264 : decode cL_law 264 = .ok (.invokestatic 15, 3) := by decide +kernel
theorem dL_law_267 : decode cL_law 267 = .ok (.invokevirtual 32, 3) := by decide +kernel
theorem dL_law_270 : decode cL_law 270 = .ok (.pop, 1) := by decide +kernel
theorem dL_law_271 : decode cL_law 271 = .ok (.goto 17, 3) := by decide +kernel
theorem dL_law_274 : decode cL_law 274 = .ok (.aload_n 1, 1) := by decide +kernel
theorem dL_law_275 : decode cL_law 275 = .ok (.iload 4, 2) := by decide +kernel
theorem dL_law_277 : decode cL_law 277 = .ok (.iconst 3, 1) := by decide +kernel
theorem dL_law_278 : decode cL_law 278 = .ok (.ishr, 1) := by decide +kernel
theorem dL_law_279 : decode cL_law 279 = .ok (.bipush 8, 2) := by decide +kernel
theorem dL_law_281 : decode cL_law 281 = .ok (.invokestatic 15, 3) := by decide +kernel
theorem dL_law_284 : decode cL_law 284 = .ok (.invokevirtual 66, 3) := by decide +kernel
theorem dL_law_287 : decode cL_law 287 = .ok (.pop, 1) := by decide +kernel
theorem dL_law_288 : decode cL_law 288 = .ok (.bipush 6, 2) := by decide +kernel
theorem dL_law_290 : decode cL_law 290 = .ok (.newarray .int, 2) := by decide +kernel
theorem dL_law_292 : decode cL_law 292 = .ok (.dup, 1) := by decide +kernel
theorem dL_law_293 : decode cL_law 293 = .ok (.iconst 0, 1) := by decide +kernel
theorem dL_law_294 : decode cL_law 294 = .ok (.aload_n 1, 1) := by decide +kernel
theorem dL_law_295 : decode cL_law 295 = .ok (.bipush 8, 2) := by decide +kernel
theorem dL_law_297 : decode cL_law 297 = .ok (.invokevirtual 69, 3) := by decide +kernel
theorem dL_law_300 : decode cL_law 300 = .ok (.iastore, 1) := by decide +kernel
theorem dL_law_301 : decode cL_law 301 = .ok (.dup, 1) := by decide +kernel
theorem dL_law_302 : decode cL_law 302 = .ok (.iconst 1, 1) := by decide +kernel
theorem dL_law_303 : decode cL_law 303 = .ok (.aload_n 1, 1) := by decide +kernel
theorem dL_law_304 : decode cL_law 304 = .ok (.bipush 9, 2) := by decide +kernel
theorem dL_law_306 : decode cL_law 306 = .ok (.invokevirtual 69, 3) := by decide +kernel
theorem dL_law_309 : decode cL_law 309 = .ok (.iastore, 1) := by decide +kernel
theorem dL_law_310 : decode cL_law 310 = .ok (.dup, 1) := by decide +kernel
theorem dL_law_311 : decode cL_law 311 = .ok (.iconst 2, 1) := by decide +kernel
theorem dL_law_312 : decode cL_law 312 = .ok (.aload_n 1, 1) := by decide +kernel
theorem dL_law_313 : decode cL_law 313 = .ok (.bipush 10, 2) := by decide +kernel
theorem dL_law_315 : decode cL_law 315 = .ok (.invokevirtual 69, 3) := by decide +kernel
theorem dL_law_318 : decode cL_law 318 = .ok (.iastore, 1) := by decide +kernel
theorem dL_law_319 : decode cL_law 319 = .ok (.dup, 1) := by decide +kernel
theorem dL_law_320 : decode cL_law 320 = .ok (.iconst 3, 1) := by decide +kernel
theorem dL_law_321 : decode cL_law 321 = .ok (.aload_n 1, 1) := by decide +kernel
theorem dL_law_322 : decode cL_law 322 = .ok (.bipush 11, 2) := by decide +kernel
theorem dL_law_324 : decode cL_law 324 = .ok (.invokevirtual 69, 3) := by decide +kernel
theorem dL_law_327 : decode cL_law 327 = .ok (.iastore, 1) := by decide +kernel
theorem dL_law_328 : decode cL_law 328 = .ok (.dup, 1) := by decide +kernel
theorem dL_law_329 : decode cL_law 329 = .ok (.iconst 4, 1) := by decide +kernel
theorem dL_law_330 : decode cL_law 330 = .ok (.aload_n 1, 1) := by decide +kernel
theorem dL_law_331 : decode cL_law 331 = .ok (.bipush 13, 2) := by decide +kernel
theorem dL_law_333 : decode cL_law 333 = .ok (.invokevirtual 69, 3) := by decide +kernel
theorem dL_law_336 : decode cL_law 336 = .ok (.iastore, 1) := by decide +kernel
theorem dL_law_337 : decode cL_law 337 = .ok (.dup, 1) := by decide +kernel
theorem dL_law_338 : decode cL_law 338 = .ok (.iconst 5, 1) := by decide +kernel
theorem dL_law_339 : decode cL_law 339 = .ok (.aload_n 1, 1) := by decide +kernel
theorem dL_law_340 : decode cL_law 340 = .ok (.bipush 16, 2) := by decide +kernel
theorem dL_law_342 : decode cL_law 342 = .ok (.invokevirtual 69, 3) := by decide +kernel
theorem dL_law_345 : decode cL_law 345 = .ok (.iastore, 1) := by decide +kernel
theorem dL_law_346 : decode cL_law 346 = .ok (.astore 7, 2) := by decide +kernel
theorem dL_law_348 : decode cL_law 348 = .ok (.iconst 0, 1) := by decide +kernel
theorem dL_law_349 : decode cL_law 349 = .ok (.istore 8, 2) := by decide +kernel
theorem dL_law_351 : decode cL_law 351 = .ok (.iload 8, 2) := by decide +kernel
theorem dL_law_353 : decode cL_law 353 = .ok (.bipush 6, 2) := by decide +kernel
theorem dL_law_355 : decode cL_law 355 = .ok (.if_icmp .ge 32, 3) := by decide +kernel
theorem dL_law_358 : decode cL_law 358 = .ok (.aload 7, 2) := by decide +kernel
theorem dL_law_360 : decode cL_law 360 = .ok (.iload 8, 2) := by decide +kernel
theorem dL_law_362 : decode cL_law 362 = .ok (.iaload, 1) := by decide +kernel
theorem dL_law_363 : decode cL_law 363 = .ok (.aload_n 2, 1) := by decide +kernel
theorem dL_law_364 : decode cL_law 364 = .ok (.iload 8, 2) := by decide +kernel
theorem dL_law_366 : decode cL_law 366 = .ok (.iaload, 1) := by decide +kernel
theorem dL_law_367 : decode cL_law 367 = .ok (.if_icmp .ge 5, 3) := by decide +kernel
theorem dL_law_370 : decode cL_law 370 = .ok (.iconst 0, 1) := by decide +kernel
theorem dL_law_371 : decode cL_law 371 = .ok (.ireturn, 1) := by decide +kernel
theorem dL_law_372 : decode cL_law 372 = .ok (.aload_n 2, 1) := by decide +kernel
theorem dL_law_373 : decode cL_law 373 = .ok (.iload 8, 2) := by decide +kernel
theorem dL_law_375 : decode cL_law 375 = .ok (.aload 7, 2) := by decide +kernel
theorem dL_law_377 : decode cL_law 377 = .ok (.iload 8, 2) := by decide +kernel
theorem dL_law_379 : decode cL_law 379 = .ok (.iaload, 1) := by decide +kernel
theorem dL_law_380 : decode cL_law 380 = .ok (.iastore, 1) := by decide +kernel
theorem dL_law_381 : decode cL_law 381 = .ok (.iinc 8 1, 3) := by decide +kernel
theorem dL_law_384 : decode cL_law 384 = .ok (.goto (-33), 3) := by decide +kernel
theorem dL_law_387 : decode cL_law 387 = .ok (.aload_n 1, 1) := by decide +kernel
theorem dL_law_388 : decode cL_law 388 = .ok (.iconst 0, 1) := by decide +kernel
theorem dL_law_389 : decode cL_law 389 = .ok (.iload 5, 2) := by decide +kernel
theorem dL_law_391 : decode cL_law 391 = .ok (.invokevirtual 63, 3) := by decide +kernel
theorem dL_law_394 : decode cL_law 394 = .ok (.aload_n 1, 1) := by decide +kernel
theorem dL_law_395 : decode cL_law 395 = .ok (.iconst 1, 1) := by decide +kernel
theorem dL_law_396 : decode cL_law 396 = .ok (.iload 5, 2) := by decide +kernel
theorem dL_law_398 : decode cL_law 398 = .ok (.invokevirtual 63, 3) := by decide +kernel
theorem dL_law_401 : decode cL_law 401 = .ok (.iadd, 1) := by decide +kernel
theorem dL_law_402 : decode cL_law 402 = .ok (.aload_n 1, 1) := by decide +kernel
theorem dL_law_403 : decode cL_law 403 = .ok (.iconst 2, 1) := by decide +kernel
theorem dL_law_404 : decode cL_law 404 = .ok (.iload 5, 2) := by decide +kernel
theorem dL_law_406 : decode cL_law 406 = .ok (.invokevirtual 63, 3) := by decide +kernel
theorem dL_law_409 : decode cL_law 409 = .ok (.iadd, 1) := by decide +kernel
theorem dL_law_410 : decode cL_law 410 = .ok (.bipush 12, 2) := by decide +kernel
theorem dL_law_412 : decode cL_law 412 = .ok (.if_icmp .le 5, 3) := by decide +kernel
theorem dL_law_415 : decode cL_law 415 = .ok (.iconst 0, 1) := by decide +kernel
theorem dL_law_416 : decode cL_law 416 = .ok (.ireturn, 1) := by decide +kernel
theorem dL_law_417 : decode cL_law 417 = .ok (.iinc 3 1, 3) := by decide +kernel
theorem dL_law_420 : decode cL_law 420 = .ok (.goto (-399), 3) := by decide +kernel
theorem dL_law_423 : decode cL_law 423 = .ok (.aload_n 1, 1) := by decide +kernel
theorem dL_law_424 : decode cL_law 424 = .ok (.invokevirtual 72, 3) := by decide +kernel
theorem dL_law_427 : decode cL_law 427 = .ok (.lstore_n 3, 1) := by decide +kernel
theorem dL_law_428 : decode cL_law 428 = .ok (.aload_n 1, 1) := by decide +kernel
theorem dL_law_429 : decode cL_law 429 = .ok (.iconst 2, 1) := by decide +kernel
theorem dL_law_430 : decode cL_law 430 = .ok (.iconst 5, 1) := by decide +kernel
theorem dL_law_431 : decode cL_law 431 = .ok (.iconst 5, 1) := by decide +kernel
theorem dL_law_432 : decode cL_law 432 = .ok (.invokevirtual 76, 3) := by decide +kernel
theorem dL_law_435 : decode cL_law 435 = .ok (.sipush 256, 3) := by decide +kernel
theorem dL_law_438 : decode cL_law 438 = .ok (.if_icmp .ge 29, 3) := by decide +kernel
theorem dL_law_441 : decode cL_law 441 = .ok (.aload_n 1, 1) := by decide +kernel
theorem dL_law_442 : decode cL_law 442 = .ok (.iconst 5, 1) := by decide +kernel
theorem dL_law_443 : decode cL_law 443 = .ok (.bipush 9, 2) := by decide +kernel
theorem dL_law_445 : decode cL_law 445 = .ok (.bipush 9, 2) := by decide +kernel
theorem dL_law_447 : decode cL_law 447 = .ok (.invokevirtual 79, 3) := by decide +kernel
theorem dL_law_450 : decode cL_law 450 = .ok (.iconst (-1), 1) := by decide +kernel
theorem dL_law_451 : decode cL_law 451 = .ok (.if_icmp .lt 16, 3) := by decide +kernel
theorem dL_law_454 : decode cL_law 454 = .ok (.aload_n 1, 1) := by decide +kernel
theorem dL_law_455 : decode cL_law 455 = .ok (.invokevirtual 72, 3) := by decide +kernel
theorem dL_law_458 : decode cL_law 458 = .ok (.lload_n 3, 1) := by decide +kernel
theorem dL_law_459 : decode cL_law 459 = .ok (.lcmp, 1) := by decide +kernel
theorem dL_law_460 : decode cL_law 460 = .ok (.ifCond .ne 7, 3) := by decide +kernel
theorem dL_law_463 : decode cL_law 463 = .ok (.iconst 1, 1) := by decide +kernel
theorem dL_law_464 : decode cL_law 464 = .ok (.goto 4, 3) := by decide +kernel
theorem dL_law_467 : decode cL_law 467 = .ok (.iconst 0, 1) := by decide +kernel
theorem dL_law_468 : decode cL_law 468 = .ok (.ireturn, 1) := by decide +kernel
set_option maxRecDepth 20000 in
theorem ggL_isHeld_X3_ofPond : GoodIn wsL_isHeld wsX3_ofPond := goodIn_ca (goodIn_ca (goodIn_r _ [8, 9, 10, 11, 12, 13, 14, 15, 7, 16, 17, 18, 19, 20, 21, 22, 23, 24, 25, 26, 27, 28, 29, 30, 31, 32, 33, 34, 35, 36, 37, 38, 39, 40, 41, 42, 43, 44, 45, 46, 47, 48, 49, 50, 51, 52, 53, 54, 55, 56, 57, 58, 59, 60, 61, 62, 63, 64, 65, 66, 67, 68, 69, 70, 71, 72, 73, 74] (by decide +kernel) (by decide +kernel)) (goodIn_sub (fun _ h => List.mem_cons_of_mem _ (List.mem_append_left _ (List.mem_append_right _ h))) (by decide +kernel))) (goodIn_sub (fun _ h => List.mem_cons_of_mem _ (List.mem_append_right _ h)) (by decide +kernel))
set_option maxRecDepth 20000 in
theorem gL_isHeld_X3_ofPond : GoodIn wsL_isHeld (wsV RL 49 RX3 yX3_ofPond wsX3_ofPond) := goodIn_app (goodIn_of _ (by decide +kernel)) ggL_isHeld_X3_ofPond
theorem dL_isHeld_0 : decode cL_isHeld 0 = .ok (.iconst 0, 1) := by decide +kernel
theorem dL_isHeld_1 : decode cL_isHeld 1 = .ok (.istore_n 1, 1) := by decide +kernel
theorem dL_isHeld_2 : decode cL_isHeld 2 = .ok (.iload_n 1, 1) := by decide +kernel
theorem dL_isHeld_3 : decode cL_isHeld 3 = .ok (.bipush 8, 2) := by decide +kernel
theorem dL_isHeld_5 : decode cL_isHeld 5 = .ok (.if_icmp .ge 67, 3) := by decide +kernel
theorem dL_isHeld_8 : decode cL_isHeld 8 = .ok (.aload_n 0, 1) := by decide +kernel
theorem dL_isHeld_9 : decode cL_isHeld 9 = .ok (.iload_n 1, 1) := by decide +kernel
theorem dL_isHeld_10 : decode cL_isHeld 10 = .ok (.iconst 1, 1) := by decide +kernel
theorem dL_isHeld_11 : decode cL_isHeld 11 = .ok (.invokevirtual 49, 3) := by decide +kernel
theorem dL_isHeld_14 : decode cL_isHeld 14 = .ok (.i2l, 1) := by decide +kernel
theorem dL_isHeld_15 : decode cL_isHeld 15 = .ok (.lstore_n 2, 1) := by decide +kernel
theorem dL_isHeld_16 : decode cL_isHeld 16 = .ok (.aload_n 0, 1) := by decide +kernel
theorem dL_isHeld_17 : decode cL_isHeld 17 = .ok (.iload_n 1, 1) := by decide +kernel
theorem dL_isHeld_18 : decode cL_isHeld 18 = .ok (.iconst 2, 1) := by decide +kernel
theorem dL_isHeld_19 : decode cL_isHeld 19 = .ok (.invokevirtual 49, 3) := by decide +kernel
theorem dL_isHeld_22 : decode cL_isHeld 22 = .ok (.i2l, 1) := by decide +kernel
theorem dL_isHeld_23 : decode cL_isHeld 23 = .ok (.ldc2_w 82, 3) := by decide +kernel
theorem dL_isHeld_26 : decode cL_isHeld 26 = .ok (.lload_n 2, 1) := by decide +kernel
theorem dL_isHeld_27 : decode cL_isHeld 27 = .ok (.lmul, 1) := by decide +kernel
theorem dL_isHeld_28 : decode cL_isHeld 28 = .ok (.lcmp, 1) := by decide +kernel
theorem dL_isHeld_29 : decode cL_isHeld 29 = .ok (.ifCond .gt 35, 3) := by decide +kernel
theorem dL_isHeld_32 : decode cL_isHeld 32 = .ok (.aload_n 0, 1) := by decide +kernel
theorem dL_isHeld_33 : decode cL_isHeld 33 = .ok (.iload_n 1, 1) := by decide +kernel
theorem dL_isHeld_34 : decode cL_isHeld 34 = .ok (.iconst 3, 1) := by decide +kernel
theorem dL_isHeld_35 : decode cL_isHeld 35 = .ok (.invokevirtual 49, 3) := by decide +kernel
theorem dL_isHeld_38 : decode cL_isHeld 38 = .ok (.i2l, 1) := by decide +kernel
theorem dL_isHeld_39 : decode cL_isHeld 39 = .ok (.ldc2_w 84, 3) := by decide +kernel
theorem dL_isHeld_42 : decode cL_isHeld 42 = .ok (.lload_n 2, 1) := by decide +kernel
theorem dL_isHeld_43 : decode cL_isHeld 43 = .ok (.lmul, 1) := by decide +kernel
theorem dL_isHeld_44 : decode cL_isHeld 44 = .ok (.lcmp, 1) := by decide +kernel
theorem dL_isHeld_45 : decode cL_isHeld 45 = .ok (.ifCond .gt 19, 3) := by decide +kernel
theorem dL_isHeld_48 : decode cL_isHeld 48 = .ok (.aload_n 0, 1) := by decide +kernel
theorem dL_isHeld_49 : decode cL_isHeld 49 = .ok (.iload_n 1, 1) := by decide +kernel
theorem dL_isHeld_50 : decode cL_isHeld 50 = .ok (.iconst 4, 1) := by decide +kernel
theorem dL_isHeld_51 : decode cL_isHeld 51 = .ok (.invokevirtual 49, 3) := by decide +kernel
theorem dL_isHeld_54 : decode cL_isHeld 54 = .ok (.i2l, 1) := by decide +kernel
theorem dL_isHeld_55 : decode cL_isHeld 55 = .ok (.ldc2_w 86, 3) := by decide +kernel
theorem dL_isHeld_58 : decode cL_isHeld 58 = .ok (.lload_n 2, 1) := by decide +kernel
theorem dL_isHeld_59 : decode cL_isHeld 59 = .ok (.lmul, 1) := by decide +kernel
theorem dL_isHeld_60 : decode cL_isHeld 60 = .ok (.lcmp, 1) := by decide +kernel
theorem dL_isHeld_61 : decode cL_isHeld 61 = .ok (.ifCond .le 5, 3) := by decide +kernel
theorem dL_isHeld_64 : decode cL_isHeld 64 = .ok (.iconst 0, 1) := by decide +kernel
theorem dL_isHeld_65 : decode cL_isHeld 65 = .ok (.ireturn, 1) := by decide +kernel
theorem dL_isHeld_66 : decode cL_isHeld 66 = .ok (.iinc 1 1, 3) := by decide +kernel
theorem dL_isHeld_69 : decode cL_isHeld 69 = .ok (.goto (-67), 3) := by decide +kernel
theorem dL_isHeld_72 : decode cL_isHeld 72 = .ok (.iconst 1, 1) := by decide +kernel
theorem dL_isHeld_73 : decode cL_isHeld 73 = .ok (.ireturn, 1) := by decide +kernel
