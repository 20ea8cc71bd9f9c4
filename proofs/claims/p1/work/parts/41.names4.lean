def RL : String := "SaltRowLaw"
abbrev cL_area : ByteArray := method_3_code
def yL_area : MethodName := ⟨RL, "area", "(LSaltRow;II[J)I"⟩
abbrev cL_gate : ByteArray := method_4_code
def yL_gate : MethodName := ⟨RL, "gate", "(LSaltRow;IZ[J)I"⟩
abbrev cL_cover : ByteArray := method_5_code
def yL_cover : MethodName := ⟨RL, "cover", "(LSaltRow;IZ[J)I"⟩
abbrev cL_pass : ByteArray := method_6_code
def yL_pass : MethodName := ⟨RL, "pass", "(LSaltRow;IIII[J)I"⟩
abbrev cL_skim : ByteArray := method_7_code
def yL_skim : MethodName := ⟨RL, "skim", "(LSaltRow;I[J)I"⟩
abbrev cL_drain : ByteArray := method_8_code
def yL_drain : MethodName := ⟨RL, "drain", "(LSaltRow;I[J)I"⟩
abbrev cL_pump : ByteArray := method_9_code
def yL_pump : MethodName := ⟨RL, "pump", "(LSaltRow;III[J)I"⟩
abbrev cL_family : ByteArray := method_10_code
def yL_family : MethodName := ⟨RL, "family", "(LSaltRow;[J)I"⟩
abbrev cL_right : ByteArray := method_11_code
def yL_right : MethodName := ⟨RL, "right", "(LSaltRow;III[J)I"⟩
abbrev cL_harvest : ByteArray := method_12_code
def yL_harvest : MethodName := ⟨RL, "harvest", "(LSaltRow;IZ[J)I"⟩
abbrev cL_flower : ByteArray := method_13_code
def yL_flower : MethodName := ⟨RL, "flower", "(LSaltRow;I[J)I"⟩
abbrev cL_wash : ByteArray := method_14_code
def yL_wash : MethodName := ⟨RL, "wash", "(LSaltRow;I[J)I"⟩
abbrev cL_sell : ByteArray := method_15_code
def yL_sell : MethodName := ⟨RL, "sell", "(LSaltRow;III[J)I"⟩
abbrev cL_ofPond : ByteArray := method_16_code
def yL_ofPond : MethodName := ⟨RL, "ofPond", "(LSaltRow;II[J)I"⟩
abbrev cL_ofFamily : ByteArray := method_17_code
def yL_ofFamily : MethodName := ⟨RL, "ofFamily", "(LSaltRow;II[J)I"⟩
abbrev cL_rightOf : ByteArray := method_18_code
def yL_rightOf : MethodName := ⟨RL, "rightOf", "(LSaltRow;II[J)I"⟩
abbrev cL_tide : ByteArray := method_19_code
def yL_tide : MethodName := ⟨RL, "tide", "(LSaltRow;I[J)I"⟩
abbrev cL_many : ByteArray := method_20_code
def yL_many : MethodName := ⟨RL, "many", "(LSaltRow;I[J)I"⟩
abbrev cL_crustIn : ByteArray := method_21_code
def yL_crustIn : MethodName := ⟨RL, "crustIn", "(LSaltRow;III[J)I"⟩
abbrev cL_bestGates : ByteArray := method_22_code
def yL_bestGates : MethodName := ⟨RL, "bestGates", "(LSaltRow;III[J)I"⟩
abbrev cL_wouldBe : ByteArray := method_23_code
def yL_wouldBe : MethodName := ⟨RL, "wouldBe", "(LSaltRow;IZI[J)I"⟩
abbrev cL_tideOn : ByteArray := method_24_code
def yL_tideOn : MethodName := ⟨RL, "tideOn", "(LSaltRow;IZ[J)I"⟩
abbrev cL_law : ByteArray := code
def yL_law : MethodName := ⟨RL, "law", "([I)Z"⟩
def wsL_area : List Cond := .codeWith yL_area cL_area 5 (some .int) [(0, 10, 13, 13), (0, 10, 17, 15), (0, 10, 21, 17)] :: ([.classLink RL 13 "java/lang/IndexOutOfBoundsException", .classLink RL 15 "java/lang/IllegalArgumentException", .classLink RL 17 "java/lang/IllegalStateException", .methodLink RL 7 yX3_area, .instanceMethod yX3_area, .selects RX3 yX3_area yX3_area, .initialized RX3, .code yX3_area cX3_area 4 (some .int), .classLink RX3 30 "java/lang/IllegalArgumentException", .initialized "java/lang/IllegalArgumentException", .classLink RX3 41 "java/lang/IllegalStateException", .initialized "java/lang/IllegalStateException", .fieldLink RX3 10 "SaltRow" "row" "LSaltRow$Row;", .fieldLink RX3 37 "SaltRow$Row" "day" "I", .fieldLink RX3 46 "SaltRow$Row" "ponds" "[LSaltRow$Pond;", .fieldLink RX3 50 "SaltRow$Pond" "area" "I", .methodLink RX3 26 yX3_needPond, .instanceMethod yX3_needPond, .selects RX3 yX3_needPond yX3_needPond, .code yX3_needPond cX3_needPond 2 none, .classLink RX3 311 "java/lang/IndexOutOfBoundsException", .initialized "java/lang/IndexOutOfBoundsException"] ++ wsX30 ++ wsX20 ++ wsX10 ++ (vx_atS RX3 34 "java/lang/IllegalArgumentException" ["java/lang/RuntimeException", "java/lang/Exception"]).filter goodWord ++ (vx_atS RX3 45 "java/lang/IllegalStateException" ["java/lang/RuntimeException", "java/lang/Exception"]).filter goodWord ++ (vx_atS RX3 315 "java/lang/IndexOutOfBoundsException" ["java/lang/RuntimeException", "java/lang/Exception"]).filter goodWord)
def wsL_gate : List Cond := .codeWith yL_gate cL_gate 5 (some .int) [(0, 17, 20, 13)] :: ([.classLink RL 13 "java/lang/IndexOutOfBoundsException", .methodLink RL 19 yX3_gate, .instanceMethod yX3_gate, .selects RX3 yX3_gate yX3_gate, .initialized RX3, .code yX3_gate cX3_gate 4 (some .boolean), .fieldLink RX3 10 "SaltRow" "row" "LSaltRow$Row;", .fieldLink RX3 46 "SaltRow$Row" "ponds" "[LSaltRow$Pond;", .fieldLink RX3 55 "SaltRow$Pond" "isOpen" "Z", .methodLink RX3 26 yX3_needPond, .instanceMethod yX3_needPond, .selects RX3 yX3_needPond yX3_needPond, .code yX3_needPond cX3_needPond 2 none, .classLink RX3 311 "java/lang/IndexOutOfBoundsException", .initialized "java/lang/IndexOutOfBoundsException"] ++ wsX30 ++ wsX20 ++ wsX10 ++ (vx_atS RX3 315 "java/lang/IndexOutOfBoundsException" ["java/lang/RuntimeException", "java/lang/Exception"]).filter goodWord)
def wsL_cover : List Cond := .codeWith yL_cover cL_cover 5 (some .int) [(0, 17, 20, 13)] :: ([.classLink RL 13 "java/lang/IndexOutOfBoundsException", .methodLink RL 23 yX3_cover, .instanceMethod yX3_cover, .selects RX3 yX3_cover yX3_cover, .initialized RX3, .code yX3_cover cX3_cover 4 (some .boolean), .fieldLink RX3 10 "SaltRow" "row" "LSaltRow$Row;", .fieldLink RX3 46 "SaltRow$Row" "ponds" "[LSaltRow$Pond;", .fieldLink RX3 62 "SaltRow$Pond" "isCovered" "Z", .methodLink RX3 59 yX3_needPan, .instanceMethod yX3_needPan, .selects RX3 yX3_needPan yX3_needPan, .code yX3_needPan cX3_needPan 2 none, .classLink RX3 311 "java/lang/IndexOutOfBoundsException", .initialized "java/lang/IndexOutOfBoundsException"] ++ wsX30 ++ wsX20 ++ wsX10 ++ (vx_atS RX3 315 "java/lang/IndexOutOfBoundsException" ["java/lang/RuntimeException", "java/lang/Exception"]).filter goodWord)
def wsL_pass_r1 : List Cond := [Cond.classLink RL 15 "java/lang/IllegalArgumentException", Cond.classLink RL 17 "java/lang/IllegalStateException", Cond.methodLink RL 26 yX3_pass, Cond.instanceMethod yX3_pass, Cond.selects RX3 yX3_pass yX3_pass, Cond.initialized RX3, Cond.code yX3_pass cX3_pass 7 (some .int), Cond.classLink RX3 30 "java/lang/IllegalArgumentException", Cond.initialized "java/lang/IllegalArgumentException", Cond.classLink RX3 41 "java/lang/IllegalStateException", Cond.initialized "java/lang/IllegalStateException", Cond.fieldLink RX3 10 "SaltRow" "row" "LSaltRow$Row;", Cond.fieldLink RX3 37 "SaltRow$Row" "day" "I", Cond.methodLink RX3 67 yX3_needWeather, Cond.instanceMethod yX3_needWeather, Cond.selects RX3 yX3_needWeather yX3_needWeather, Cond.code yX3_needWeather cX3_needWeather 3 none, Cond.methodLink RX3 75 yX2_letDayGoBy, Cond.instanceMethod yX2_letDayGoBy, Cond.selects RX2 yX2_letDayGoBy yX2_letDayGoBy, Cond.initialized RX2, Cond.code yX2_letDayGoBy cX2_letDayGoBy 6 none, Cond.fieldLink RX2 18 "SaltRow$Row" "day" "I", Cond.fieldLink RX2 22 "SaltRow$Row" "sun" "I"]
def wsL_pass_r2 : List Cond := [Cond.fieldLink RX2 25 "SaltRow$Row" "wind" "I", Cond.fieldLink RX2 11 "SaltRow$Row" "ponds" "[LSaltRow$Pond;", Cond.fieldLink RX2 41 "SaltRow$Pond" "wasHarvested" "Z", Cond.methodLink RX2 35 yX2_letSeaIn, Cond.instanceMethod yX2_letSeaIn, Cond.selects RX2 yX2_letSeaIn yX2_letSeaIn, Cond.code yX2_letSeaIn cX2_letSeaIn 4 none, Cond.fieldLink RX2 66 "SaltRow$Pond" "isOpen" "Z", Cond.fieldLink RX2 69 "SaltRow$Pond" "area" "I", Cond.fieldLink RX2 28 "SaltRow$Row" "seaSalt" "I", Cond.static yX3_tideAt, Cond.code yX3_tideAt cX3_tideAt 1 (some .int), Cond.methodLink RX3 324 Lib.Math.abs.name, Cond.static Lib.Math.abs.name, Cond.initialized "java/lang/Math", Cond.code Lib.Math.abs.name Lib.Math.abs.code 1 (some .int), Cond.methodLink RX2 62 yX1_level, Cond.instanceMethod yX1_level, Cond.selects RX1 yX1_level yX1_level, Cond.initialized RX1, Cond.code yX1_level cX1_level 1 (some .int), Cond.fieldLink RX1 15 "SaltRow$Pond" "brine" "I", Cond.fieldLink RX1 9 "SaltRow$Pond" "area" "I", Cond.static yX3_portion]
def wsL_pass_r3 : List Cond := [Cond.code yX3_portion cX3_portion 6 (some .int), Cond.methodLink RX2 72 yX1_takeIn, Cond.instanceMethod yX1_takeIn, Cond.selects RX1 yX1_takeIn yX1_takeIn, Cond.code yX1_takeIn cX1_takeIn 5 none, Cond.fieldLink RX1 22 "SaltRow$Pond" "salt" "I", Cond.fieldLink RX1 36 "SaltRow$Pond" "gypsum" "I", Cond.fieldLink RX1 25 "SaltRow$Pond" "bitter" "I", Cond.methodLink RX2 38 yX2_letBrineFlowOn, Cond.instanceMethod yX2_letBrineFlowOn, Cond.selects RX2 yX2_letBrineFlowOn yX2_letBrineFlowOn, Cond.code yX2_letBrineFlowOn cX2_letBrineFlowOn 5 none, Cond.methodLink RX2 76 Lib.Math.min.name, Cond.static Lib.Math.min.name, Cond.code Lib.Math.min.name Lib.Math.min.code 2 (some .int), Cond.constantLong RX2 82 (2), Cond.methodLink RX2 88 yX1_giveBrine, Cond.instanceMethod yX1_giveBrine, Cond.selects RX1 yX1_giveBrine yX1_giveBrine, Cond.code yX1_giveBrine cX1_giveBrine 6 none, Cond.methodLink RX1 68 yX1_takeIn, Cond.methodLink RX2 45 yX1_rainFalls, Cond.instanceMethod yX1_rainFalls, Cond.selects RX1 yX1_rainFalls yX1_rainFalls]
def wsL_pass_r4 : List Cond := [Cond.code yX1_rainFalls cX1_rainFalls 2 none, Cond.fieldLink RX1 65 "SaltRow$Pond" "isCovered" "Z", Cond.fieldLink RX1 39 "SaltRow$Pond" "fresh" "I", Cond.methodLink RX2 49 yX1_dryOut, Cond.instanceMethod yX1_dryOut, Cond.selects RX1 yX1_dryOut yX1_dryOut, Cond.code yX1_dryOut cX1_dryOut 4 none, Cond.methodLink RX1 30 Lib.Math.min.name, Cond.methodLink RX1 52 yX1_strength, Cond.instanceMethod yX1_strength, Cond.selects RX1 yX1_strength yX1_strength, Cond.code yX1_strength cX1_strength 1 (some .int), Cond.constantLong RX1 28 (5), Cond.static yX3_roundedUp, Cond.code yX3_roundedUp cX3_roundedUp 2 (some .int), Cond.methodLink RX2 52 yX1_mixFresh, Cond.instanceMethod yX1_mixFresh, Cond.selects RX1 yX1_mixFresh yX1_mixFresh, Cond.code yX1_mixFresh cX1_mixFresh 3 none, Cond.fieldLink RX1 42 "SaltRow$Pond" "crustSalt" "I", Cond.methodLink RX2 55 yX1_dropMinerals, Cond.instanceMethod yX1_dropMinerals, Cond.selects RX1 yX1_dropMinerals yX1_dropMinerals, Cond.code yX1_dropMinerals cX1_dropMinerals 3 none]
def wsL_pass_r5 : List Cond := [Cond.fieldLink RX1 59 "SaltRow$Pond" "saltFallen" "I", Cond.fieldLink RX1 45 "SaltRow$Pond" "crustDirt" "I", Cond.methodLink RX1 75 yX1_above, Cond.instanceMethod yX1_above, Cond.selects RX1 yX1_above yX1_above, Cond.code yX1_above cX1_above 3 (some .int), Cond.methodLink RX1 78 Lib.MathLoose.max_long.x, Cond.static Lib.MathLoose.max_long.x, Cond.code Lib.MathLoose.max_long.x Lib.MathLoose.max_long.code 4 (some .long), Cond.methodLink RX3 79 yX2_saltFallenInPans, Cond.instanceMethod yX2_saltFallenInPans, Cond.selects RX2 yX2_saltFallenInPans yX2_saltFallenInPans, Cond.code yX2_saltFallenInPans cX2_saltFallenInPans 3 (some .int), Cond.fieldLink RX2 95 "SaltRow$Pond" "saltFallen" "I"]
def wsL_pass : List Cond := .codeWith yL_pass cL_pass 7 (some .int) [(0, 14, 17, 15), (0, 14, 21, 17)] :: ((wsL_pass_r1 ++ (wsL_pass_r2 ++ (wsL_pass_r3 ++ (wsL_pass_r4 ++ wsL_pass_r5)))) ++ wsX30 ++ wsX20 ++ wsX10 ++ (vx_atS RX3 34 "java/lang/IllegalArgumentException" ["java/lang/RuntimeException", "java/lang/Exception"]).filter goodWord ++ (vx_atS RX3 45 "java/lang/IllegalStateException" ["java/lang/RuntimeException", "java/lang/Exception"]).filter goodWord)
def wsL_skim : List Cond := .codeWith yL_skim cL_skim 4 (some .int) [(0, 9, 12, 13)] :: ([.classLink RL 13 "java/lang/IndexOutOfBoundsException", .methodLink RL 30 yX3_skim, .instanceMethod yX3_skim, .selects RX3 yX3_skim yX3_skim, .initialized RX3, .code yX3_skim cX3_skim 3 (some .int), .fieldLink RX3 10 "SaltRow" "row" "LSaltRow$Row;", .fieldLink RX3 46 "SaltRow$Row" "ponds" "[LSaltRow$Pond;", .fieldLink RX3 83 "SaltRow$Pond" "fresh" "I", .fieldLink RX3 86 "SaltRow" "skimmed" "I", .methodLink RX3 26 yX3_needPond, .instanceMethod yX3_needPond, .selects RX3 yX3_needPond yX3_needPond, .code yX3_needPond cX3_needPond 2 none, .classLink RX3 311 "java/lang/IndexOutOfBoundsException", .initialized "java/lang/IndexOutOfBoundsException"] ++ wsX30 ++ wsX20 ++ wsX10 ++ (vx_atS RX3 315 "java/lang/IndexOutOfBoundsException" ["java/lang/RuntimeException", "java/lang/Exception"]).filter goodWord)
def wsL_drain_r1 : List Cond := [Cond.classLink RL 13 "java/lang/IndexOutOfBoundsException", Cond.classLink RL 17 "java/lang/IllegalStateException", Cond.methodLink RL 34 yX3_drain, Cond.instanceMethod yX3_drain, Cond.selects RX3 yX3_drain yX3_drain, Cond.initialized RX3, Cond.code yX3_drain cX3_drain 3 (some .int), Cond.classLink RX3 41 "java/lang/IllegalStateException", Cond.initialized "java/lang/IllegalStateException", Cond.fieldLink RX3 10 "SaltRow" "row" "LSaltRow$Row;", Cond.fieldLink RX3 46 "SaltRow$Row" "ponds" "[LSaltRow$Pond;", Cond.fieldLink RX3 89 "SaltRow$Pond" "brine" "I", Cond.fieldLink RX3 37 "SaltRow$Row" "day" "I", Cond.fieldLink RX3 100 "SaltRow" "lostSalt" "I", Cond.fieldLink RX3 103 "SaltRow$Pond" "salt" "I", Cond.methodLink RX3 26 yX3_needPond, Cond.instanceMethod yX3_needPond, Cond.selects RX3 yX3_needPond yX3_needPond, Cond.code yX3_needPond cX3_needPond 2 none, Cond.classLink RX3 311 "java/lang/IndexOutOfBoundsException", Cond.initialized "java/lang/IndexOutOfBoundsException", Cond.methodLink RX3 94 yX3_tideAt, Cond.static yX3_tideAt, Cond.code yX3_tideAt cX3_tideAt 1 (some .int)]
def wsL_drain_r2 : List Cond := [Cond.methodLink RX3 324 Lib.Math.abs.name, Cond.static Lib.Math.abs.name, Cond.initialized "java/lang/Math", Cond.code Lib.Math.abs.name Lib.Math.abs.code 1 (some .int), Cond.methodLink RX3 106 yX1_loseAllBrine, Cond.instanceMethod yX1_loseAllBrine, Cond.selects RX1 yX1_loseAllBrine yX1_loseAllBrine, Cond.initialized RX1, Cond.code yX1_loseAllBrine cX1_loseAllBrine 1 none, Cond.fieldLink RX1 15 "SaltRow$Pond" "brine" "I", Cond.fieldLink RX1 22 "SaltRow$Pond" "salt" "I", Cond.fieldLink RX1 36 "SaltRow$Pond" "gypsum" "I", Cond.fieldLink RX1 25 "SaltRow$Pond" "bitter" "I"]
def wsL_drain : List Cond := .codeWith yL_drain cL_drain 4 (some .int) [(0, 9, 12, 13), (0, 9, 15, 17)] :: ((wsL_drain_r1 ++ wsL_drain_r2) ++ wsX30 ++ wsX20 ++ wsX10 ++ (vx_atS RX3 45 "java/lang/IllegalStateException" ["java/lang/RuntimeException", "java/lang/Exception"]).filter goodWord ++ (vx_atS RX3 315 "java/lang/IndexOutOfBoundsException" ["java/lang/RuntimeException", "java/lang/Exception"]).filter goodWord)
def wsL_pump_r1 : List Cond := [Cond.classLink RL 13 "java/lang/IndexOutOfBoundsException", Cond.classLink RL 15 "java/lang/IllegalArgumentException", Cond.classLink RL 17 "java/lang/IllegalStateException", Cond.methodLink RL 37 yX3_pump, Cond.instanceMethod yX3_pump, Cond.selects RX3 yX3_pump yX3_pump, Cond.initialized RX3, Cond.code yX3_pump cX3_pump 4 (some .int), Cond.classLink RX3 30 "java/lang/IllegalArgumentException", Cond.initialized "java/lang/IllegalArgumentException", Cond.classLink RX3 41 "java/lang/IllegalStateException", Cond.initialized "java/lang/IllegalStateException", Cond.fieldLink RX3 10 "SaltRow" "row" "LSaltRow$Row;", Cond.fieldLink RX3 46 "SaltRow$Row" "ponds" "[LSaltRow$Pond;", Cond.fieldLink RX3 89 "SaltRow$Pond" "brine" "I", Cond.fieldLink RX3 119 "SaltRow" "worksCoins" "I", Cond.methodLink RX3 26 yX3_needPond, Cond.instanceMethod yX3_needPond, Cond.selects RX3 yX3_needPond yX3_needPond, Cond.code yX3_needPond cX3_needPond 2 none, Cond.classLink RX3 311 "java/lang/IndexOutOfBoundsException", Cond.initialized "java/lang/IndexOutOfBoundsException", Cond.methodLink RX3 115 yX1_giveBrine, Cond.instanceMethod yX1_giveBrine]
def wsL_pump_r2 : List Cond := [Cond.selects RX1 yX1_giveBrine yX1_giveBrine, Cond.initialized RX1, Cond.code yX1_giveBrine cX1_giveBrine 6 none, Cond.fieldLink RX1 22 "SaltRow$Pond" "salt" "I", Cond.fieldLink RX1 15 "SaltRow$Pond" "brine" "I", Cond.fieldLink RX1 36 "SaltRow$Pond" "gypsum" "I", Cond.fieldLink RX1 25 "SaltRow$Pond" "bitter" "I", Cond.static yX3_portion, Cond.code yX3_portion cX3_portion 6 (some .int), Cond.methodLink RX1 68 yX1_takeIn, Cond.instanceMethod yX1_takeIn, Cond.selects RX1 yX1_takeIn yX1_takeIn, Cond.code yX1_takeIn cX1_takeIn 5 none, Cond.methodLink RX3 122 yX3_roundedUp, Cond.static yX3_roundedUp, Cond.code yX3_roundedUp cX3_roundedUp 2 (some .int), Cond.methodLink RX3 126 yX1_strength, Cond.instanceMethod yX1_strength, Cond.selects RX1 yX1_strength yX1_strength, Cond.code yX1_strength cX1_strength 1 (some .int), Cond.constantLong RX1 28 (5), Cond.methodLink RX1 30 Lib.Math.min.name, Cond.static Lib.Math.min.name, Cond.initialized "java/lang/Math"]
def wsL_pump_r3 : List Cond := [Cond.code Lib.Math.min.name Lib.Math.min.code 2 (some .int)]
def wsL_pump : List Cond := .codeWith yL_pump cL_pump 6 (some .int) [(0, 12, 15, 13), (0, 12, 19, 15), (0, 12, 23, 17)] :: ((wsL_pump_r1 ++ (wsL_pump_r2 ++ wsL_pump_r3)) ++ wsX30 ++ wsX20 ++ wsX10 ++ (vx_atS RX3 34 "java/lang/IllegalArgumentException" ["java/lang/RuntimeException", "java/lang/Exception"]).filter goodWord ++ (vx_atS RX3 45 "java/lang/IllegalStateException" ["java/lang/RuntimeException", "java/lang/Exception"]).filter goodWord ++ (vx_atS RX3 315 "java/lang/IndexOutOfBoundsException" ["java/lang/RuntimeException", "java/lang/Exception"]).filter goodWord)
def wsL_family : List Cond := .codeWith yL_family cL_family 3 (some .int) [(0, 8, 11, 17)] :: ([.classLink RL 17 "java/lang/IllegalStateException", .methodLink RL 41 yX3_family, .instanceMethod yX3_family, .selects RX3 yX3_family yX3_family, .initialized RX3, .code yX3_family cX3_family 1 (some .int), .classLink RX3 41 "java/lang/IllegalStateException", .initialized "java/lang/IllegalStateException", .fieldLink RX3 129 "SaltRow" "familyCount" "I"] ++ wsX30 ++ (vx_atS RX3 45 "java/lang/IllegalStateException" ["java/lang/RuntimeException", "java/lang/Exception"]).filter goodWord)
def wsL_right_r1 : List Cond := [Cond.classLink RL 13 "java/lang/IndexOutOfBoundsException", Cond.classLink RL 15 "java/lang/IllegalArgumentException", Cond.classLink RL 17 "java/lang/IllegalStateException", Cond.methodLink RL 45 yX3_right, Cond.instanceMethod yX3_right, Cond.selects RX3 yX3_right yX3_right, Cond.initialized RX3, Cond.code yX3_right cX3_right 5 (some .int), Cond.classLink RX3 30 "java/lang/IllegalArgumentException", Cond.initialized "java/lang/IllegalArgumentException", Cond.classLink RX3 41 "java/lang/IllegalStateException", Cond.initialized "java/lang/IllegalStateException", Cond.fieldLink RX3 21 "SaltRow" "families" "[LSaltRow$Family;", Cond.fieldLink RX3 139 "SaltRow$Family" "rights" "[I", Cond.methodLink RX3 134 yX3_needFamily, Cond.instanceMethod yX3_needFamily, Cond.selects RX3 yX3_needFamily yX3_needFamily, Cond.code yX3_needFamily cX3_needFamily 2 none, Cond.classLink RX3 311 "java/lang/IndexOutOfBoundsException", Cond.initialized "java/lang/IndexOutOfBoundsException", Cond.fieldLink RX3 129 "SaltRow" "familyCount" "I", Cond.methodLink RX3 59 yX3_needPan, Cond.instanceMethod yX3_needPan, Cond.selects RX3 yX3_needPan yX3_needPan]
def wsL_right_r2 : List Cond := [Cond.code yX3_needPan cX3_needPan 2 none, Cond.methodLink RX3 143 yX3_rightsIn, Cond.instanceMethod yX3_rightsIn, Cond.selects RX3 yX3_rightsIn yX3_rightsIn, Cond.code yX3_rightsIn cX3_rightsIn 4 (some .int)]
def wsL_right : List Cond := .codeWith yL_right cL_right 6 (some .int) [(0, 12, 15, 13), (0, 12, 19, 15), (0, 12, 23, 17)] :: ((wsL_right_r1 ++ wsL_right_r2) ++ wsX30 ++ wsX00 ++ (vx_atS RX3 34 "java/lang/IllegalArgumentException" ["java/lang/RuntimeException", "java/lang/Exception"]).filter goodWord ++ (vx_atS RX3 45 "java/lang/IllegalStateException" ["java/lang/RuntimeException", "java/lang/Exception"]).filter goodWord ++ (vx_atS RX3 315 "java/lang/IndexOutOfBoundsException" ["java/lang/RuntimeException", "java/lang/Exception"]).filter goodWord)
def wsL_harvest_r1 : List Cond := [Cond.classLink RL 13 "java/lang/IndexOutOfBoundsException", Cond.classLink RL 17 "java/lang/IllegalStateException", Cond.methodLink RL 48 yX3_harvest, Cond.instanceMethod yX3_harvest, Cond.selects RX3 yX3_harvest yX3_harvest, Cond.initialized RX3, Cond.code yX3_harvest cX3_harvest 7 (some .int), Cond.classLink RX3 41 "java/lang/IllegalStateException", Cond.initialized "java/lang/IllegalStateException", Cond.fieldLink RX3 10 "SaltRow" "row" "LSaltRow$Row;", Cond.fieldLink RX3 46 "SaltRow$Row" "ponds" "[LSaltRow$Pond;", Cond.fieldLink RX3 164 "SaltRow$Pond" "crustSalt" "I", Cond.fieldLink RX3 167 "SaltRow$Pond" "crustDirt" "I", Cond.fieldLink RX3 170 "SaltRow$Pond" "wasHarvested" "Z", Cond.fieldLink RX3 173 "SaltRow" "crownSalt" "I", Cond.methodLink RX3 59 yX3_needPan, Cond.instanceMethod yX3_needPan, Cond.selects RX3 yX3_needPan yX3_needPan, Cond.code yX3_needPan cX3_needPan 2 none, Cond.classLink RX3 311 "java/lang/IndexOutOfBoundsException", Cond.initialized "java/lang/IndexOutOfBoundsException", Cond.methodLink RX3 148 yX1_canBeHarvested, Cond.instanceMethod yX1_canBeHarvested, Cond.selects RX1 yX1_canBeHarvested yX1_canBeHarvested]
def wsL_harvest_r2 : List Cond := [Cond.initialized RX1, Cond.code yX1_canBeHarvested cX1_canBeHarvested 1 (some .boolean), Cond.fieldLink RX1 42 "SaltRow$Pond" "crustSalt" "I", Cond.fieldLink RX1 55 "SaltRow$Pond" "wasHarvested" "Z", Cond.methodLink RX3 154 yX1_saltOfHarvest, Cond.instanceMethod yX1_saltOfHarvest, Cond.selects RX1 yX1_saltOfHarvest yX1_saltOfHarvest, Cond.code yX1_saltOfHarvest cX1_saltOfHarvest 2 (some .int), Cond.fieldLink RX1 9 "SaltRow$Pond" "area" "I", Cond.methodLink RX1 30 Lib.Math.min.name, Cond.static Lib.Math.min.name, Cond.initialized "java/lang/Math", Cond.code Lib.Math.min.name Lib.Math.min.code 2 (some .int), Cond.methodLink RX3 158 yX1_dirtOfCrustWith, Cond.instanceMethod yX1_dirtOfCrustWith, Cond.selects RX1 yX1_dirtOfCrustWith yX1_dirtOfCrustWith, Cond.code yX1_dirtOfCrustWith cX1_dirtOfCrustWith 2 (some .int), Cond.fieldLink RX1 45 "SaltRow$Pond" "crustDirt" "I", Cond.static yX3_portion, Cond.code yX3_portion cX3_portion 6 (some .int), Cond.methodLink RX3 161 yX1_dirtOfFloor, Cond.instanceMethod yX1_dirtOfFloor, Cond.selects RX1 yX1_dirtOfFloor yX1_dirtOfFloor, Cond.code yX1_dirtOfFloor cX1_dirtOfFloor 2 (some .int)]
def wsL_harvest_r3 : List Cond := [Cond.methodLink RX3 176 yX3_crownsPart, Cond.static yX3_crownsPart, Cond.code yX3_crownsPart cX3_crownsPart 1 (some .int), Cond.methodLink RX3 179 yX3_shareOut, Cond.instanceMethod yX3_shareOut, Cond.selects RX3 yX3_shareOut yX3_shareOut, Cond.code yX3_shareOut cX3_shareOut 10 none, Cond.fieldLink RX3 129 "SaltRow" "familyCount" "I", Cond.fieldLink RX3 21 "SaltRow" "families" "[LSaltRow$Family;", Cond.fieldLink RX3 139 "SaltRow$Family" "rights" "[I", Cond.constantLong RX3 267 (12), Cond.fieldLink RX3 246 "SaltRow" "cloisterSalt" "I", Cond.fieldLink RX3 249 "SaltRow" "cloisterDirt" "I", Cond.methodLink RX3 214 yX3_portion, Cond.methodLink RX3 308 yX0_getSalt, Cond.instanceMethod yX0_getSalt, Cond.selects RX0 yX0_getSalt yX0_getSalt, Cond.initialized RX0, Cond.code yX0_getSalt cX0_getSalt 3 none, Cond.fieldLink RX0 15 "SaltRow$Family" "salt" "I", Cond.fieldLink RX0 19 "SaltRow$Family" "dirt" "I", Cond.fieldLink RX0 29 "SaltRow$Family" "saltGot" "I"]
def wsL_harvest : List Cond := .codeWith yL_harvest cL_harvest 5 (some .int) [(0, 10, 13, 13), (0, 10, 17, 17)] :: ((wsL_harvest_r1 ++ (wsL_harvest_r2 ++ wsL_harvest_r3)) ++ wsX30 ++ wsX20 ++ wsX10 ++ wsX00 ++ (vx_atS RX3 45 "java/lang/IllegalStateException" ["java/lang/RuntimeException", "java/lang/Exception"]).filter goodWord ++ (vx_atS RX3 315 "java/lang/IndexOutOfBoundsException" ["java/lang/RuntimeException", "java/lang/Exception"]).filter goodWord)
def wsL_flower_r1 : List Cond := [Cond.classLink RL 13 "java/lang/IndexOutOfBoundsException", Cond.classLink RL 17 "java/lang/IllegalStateException", Cond.methodLink RL 52 yX3_flower, Cond.instanceMethod yX3_flower, Cond.selects RX3 yX3_flower yX3_flower, Cond.initialized RX3, Cond.code yX3_flower cX3_flower 4 (some .int), Cond.classLink RX3 41 "java/lang/IllegalStateException", Cond.initialized "java/lang/IllegalStateException", Cond.fieldLink RX3 10 "SaltRow" "row" "LSaltRow$Row;", Cond.fieldLink RX3 46 "SaltRow$Row" "ponds" "[LSaltRow$Pond;", Cond.fieldLink RX3 182 "SaltRow$Row" "sun" "I", Cond.fieldLink RX3 185 "SaltRow$Row" "wind" "I", Cond.fieldLink RX3 170 "SaltRow$Pond" "wasHarvested" "Z", Cond.fieldLink RX3 50 "SaltRow$Pond" "area" "I", Cond.fieldLink RX3 103 "SaltRow$Pond" "salt" "I", Cond.methodLink RX3 192 Lib.Math.min.name, Cond.static Lib.Math.min.name, Cond.initialized "java/lang/Math", Cond.code Lib.Math.min.name Lib.Math.min.code 2 (some .int), Cond.methodLink RX3 59 yX3_needPan, Cond.instanceMethod yX3_needPan, Cond.selects RX3 yX3_needPan yX3_needPan, Cond.code yX3_needPan cX3_needPan 2 none]
def wsL_flower_r2 : List Cond := [Cond.classLink RX3 311 "java/lang/IndexOutOfBoundsException", Cond.initialized "java/lang/IndexOutOfBoundsException", Cond.methodLink RX3 126 yX1_strength, Cond.instanceMethod yX1_strength, Cond.selects RX1 yX1_strength yX1_strength, Cond.initialized RX1, Cond.code yX1_strength cX1_strength 1 (some .int), Cond.fieldLink RX1 22 "SaltRow$Pond" "salt" "I", Cond.fieldLink RX1 25 "SaltRow$Pond" "bitter" "I", Cond.constantLong RX1 28 (5), Cond.fieldLink RX1 15 "SaltRow$Pond" "brine" "I", Cond.methodLink RX1 30 Lib.Math.min.name, Cond.static yX3_portion, Cond.code yX3_portion cX3_portion 6 (some .int), Cond.methodLink RX3 179 yX3_shareOut, Cond.instanceMethod yX3_shareOut, Cond.selects RX3 yX3_shareOut yX3_shareOut, Cond.code yX3_shareOut cX3_shareOut 10 none, Cond.fieldLink RX3 129 "SaltRow" "familyCount" "I", Cond.fieldLink RX3 21 "SaltRow" "families" "[LSaltRow$Family;", Cond.fieldLink RX3 139 "SaltRow$Family" "rights" "[I", Cond.constantLong RX3 267 (12), Cond.fieldLink RX3 246 "SaltRow" "cloisterSalt" "I", Cond.fieldLink RX3 249 "SaltRow" "cloisterDirt" "I"]
def wsL_flower_r3 : List Cond := [Cond.methodLink RX3 214 yX3_portion, Cond.methodLink RX3 308 yX0_getSalt, Cond.instanceMethod yX0_getSalt, Cond.selects RX0 yX0_getSalt yX0_getSalt, Cond.initialized RX0, Cond.code yX0_getSalt cX0_getSalt 3 none, Cond.fieldLink RX0 15 "SaltRow$Family" "salt" "I", Cond.fieldLink RX0 19 "SaltRow$Family" "dirt" "I", Cond.fieldLink RX0 29 "SaltRow$Family" "saltGot" "I"]
def wsL_flower : List Cond := .codeWith yL_flower cL_flower 4 (some .int) [(0, 9, 12, 13), (0, 9, 15, 17)] :: ((wsL_flower_r1 ++ (wsL_flower_r2 ++ wsL_flower_r3)) ++ wsX30 ++ wsX20 ++ wsX10 ++ wsX00 ++ (vx_atS RX3 45 "java/lang/IllegalStateException" ["java/lang/RuntimeException", "java/lang/Exception"]).filter goodWord ++ (vx_atS RX3 315 "java/lang/IndexOutOfBoundsException" ["java/lang/RuntimeException", "java/lang/Exception"]).filter goodWord)
def wsL_wash_r1 : List Cond := [Cond.classLink RL 13 "java/lang/IndexOutOfBoundsException", Cond.classLink RL 17 "java/lang/IllegalStateException", Cond.methodLink RL 55 yX3_wash, Cond.instanceMethod yX3_wash, Cond.selects RX3 yX3_wash yX3_wash, Cond.initialized RX3, Cond.code yX3_wash cX3_wash 4 (some .int), Cond.classLink RX3 41 "java/lang/IllegalStateException", Cond.initialized "java/lang/IllegalStateException", Cond.fieldLink RX3 21 "SaltRow" "families" "[LSaltRow$Family;", Cond.fieldLink RX3 197 "SaltRow$Family" "salt" "I", Cond.fieldLink RX3 200 "SaltRow$Family" "dirt" "I", Cond.fieldLink RX3 100 "SaltRow" "lostSalt" "I", Cond.methodLink RX3 134 yX3_needFamily, Cond.instanceMethod yX3_needFamily, Cond.selects RX3 yX3_needFamily yX3_needFamily, Cond.code yX3_needFamily cX3_needFamily 2 none, Cond.classLink RX3 311 "java/lang/IndexOutOfBoundsException", Cond.initialized "java/lang/IndexOutOfBoundsException", Cond.fieldLink RX3 129 "SaltRow" "familyCount" "I", Cond.methodLink RX3 122 yX3_roundedUp, Cond.static yX3_roundedUp, Cond.code yX3_roundedUp cX3_roundedUp 2 (some .int), Cond.methodLink RX3 203 yX3_purity]
def wsL_wash_r2 : List Cond := [Cond.static yX3_purity, Cond.code yX3_purity cX3_purity 2 (some .int), Cond.constantLong RX3 327 (100), Cond.methodLink RX3 214 yX3_portion, Cond.static yX3_portion, Cond.code yX3_portion cX3_portion 6 (some .int)]
def wsL_wash : List Cond := .codeWith yL_wash cL_wash 4 (some .int) [(0, 9, 12, 13), (0, 9, 15, 17)] :: ((wsL_wash_r1 ++ wsL_wash_r2) ++ wsX30 ++ wsX00 ++ (vx_atS RX3 45 "java/lang/IllegalStateException" ["java/lang/RuntimeException", "java/lang/Exception"]).filter goodWord ++ (vx_atS RX3 315 "java/lang/IndexOutOfBoundsException" ["java/lang/RuntimeException", "java/lang/Exception"]).filter goodWord)
def wsL_sell_r1 : List Cond := [Cond.classLink RL 13 "java/lang/IndexOutOfBoundsException", Cond.classLink RL 15 "java/lang/IllegalArgumentException", Cond.classLink RL 17 "java/lang/IllegalStateException", Cond.methodLink RL 58 yX3_sell, Cond.instanceMethod yX3_sell, Cond.selects RX3 yX3_sell yX3_sell, Cond.initialized RX3, Cond.code yX3_sell cX3_sell 8 (some .int), Cond.classLink RX3 30 "java/lang/IllegalArgumentException", Cond.initialized "java/lang/IllegalArgumentException", Cond.classLink RX3 41 "java/lang/IllegalStateException", Cond.initialized "java/lang/IllegalStateException", Cond.fieldLink RX3 21 "SaltRow" "families" "[LSaltRow$Family;", Cond.fieldLink RX3 197 "SaltRow$Family" "salt" "I", Cond.fieldLink RX3 200 "SaltRow$Family" "dirt" "I", Cond.constantLong RX3 212 (10), Cond.methodLink RX3 134 yX3_needFamily, Cond.instanceMethod yX3_needFamily, Cond.selects RX3 yX3_needFamily yX3_needFamily, Cond.code yX3_needFamily cX3_needFamily 2 none, Cond.classLink RX3 311 "java/lang/IndexOutOfBoundsException", Cond.initialized "java/lang/IndexOutOfBoundsException", Cond.fieldLink RX3 129 "SaltRow" "familyCount" "I", Cond.methodLink RX3 203 yX3_purity]
def wsL_sell_r2 : List Cond := [Cond.static yX3_purity, Cond.code yX3_purity cX3_purity 2 (some .int), Cond.constantLong RX3 327 (100), Cond.methodLink RX3 214 yX3_portion, Cond.static yX3_portion, Cond.code yX3_portion cX3_portion 6 (some .int), Cond.methodLink RX3 218 yX0_sellSalt, Cond.instanceMethod yX0_sellSalt, Cond.selects RX0 yX0_sellSalt yX0_sellSalt, Cond.initialized RX0, Cond.code yX0_sellSalt cX0_sellSalt 3 none, Cond.fieldLink RX0 19 "SaltRow$Family" "dirt" "I", Cond.fieldLink RX0 15 "SaltRow$Family" "salt" "I", Cond.fieldLink RX0 32 "SaltRow$Family" "saltSold" "I", Cond.fieldLink RX0 26 "SaltRow$Family" "coins" "I"]
def wsL_sell : List Cond := .codeWith yL_sell cL_sell 6 (some .int) [(0, 12, 15, 13), (0, 12, 19, 15), (0, 12, 23, 17)] :: ((wsL_sell_r1 ++ wsL_sell_r2) ++ wsX30 ++ wsX00 ++ (vx_atS RX3 34 "java/lang/IllegalArgumentException" ["java/lang/RuntimeException", "java/lang/Exception"]).filter goodWord ++ (vx_atS RX3 45 "java/lang/IllegalStateException" ["java/lang/RuntimeException", "java/lang/Exception"]).filter goodWord ++ (vx_atS RX3 315 "java/lang/IndexOutOfBoundsException" ["java/lang/RuntimeException", "java/lang/Exception"]).filter goodWord)
def wsL_ofPond_r1 : List Cond := [Cond.classLink RL 13 "java/lang/IndexOutOfBoundsException", Cond.classLink RL 15 "java/lang/IllegalArgumentException", Cond.methodLink RL 61 yX3_ofPond, Cond.instanceMethod yX3_ofPond, Cond.selects RX3 yX3_ofPond yX3_ofPond, Cond.initialized RX3, Cond.code yX3_ofPond cX3_ofPond 3 (some .int), Cond.classLink RX3 30 "java/lang/IllegalArgumentException", Cond.initialized "java/lang/IllegalArgumentException", Cond.fieldLink RX3 10 "SaltRow" "row" "LSaltRow$Row;", Cond.fieldLink RX3 46 "SaltRow$Row" "ponds" "[LSaltRow$Pond;", Cond.methodLink RX3 26 yX3_needPond, Cond.instanceMethod yX3_needPond, Cond.selects RX3 yX3_needPond yX3_needPond, Cond.code yX3_needPond cX3_needPond 2 none, Cond.classLink RX3 311 "java/lang/IndexOutOfBoundsException", Cond.initialized "java/lang/IndexOutOfBoundsException", Cond.methodLink RX3 223 yX1_read, Cond.instanceMethod yX1_read, Cond.selects RX1 yX1_read yX1_read, Cond.initialized RX1, Cond.code yX1_read cX1_read 2 (some .int), Cond.fieldLink RX1 9 "SaltRow$Pond" "area" "I", Cond.fieldLink RX1 15 "SaltRow$Pond" "brine" "I"]
def wsL_ofPond_r2 : List Cond := [Cond.fieldLink RX1 22 "SaltRow$Pond" "salt" "I", Cond.fieldLink RX1 36 "SaltRow$Pond" "gypsum" "I", Cond.fieldLink RX1 25 "SaltRow$Pond" "bitter" "I", Cond.fieldLink RX1 39 "SaltRow$Pond" "fresh" "I", Cond.fieldLink RX1 42 "SaltRow$Pond" "crustSalt" "I", Cond.fieldLink RX1 45 "SaltRow$Pond" "crustDirt" "I", Cond.fieldLink RX1 55 "SaltRow$Pond" "wasHarvested" "Z", Cond.methodLink RX1 48 yX1_level, Cond.instanceMethod yX1_level, Cond.selects RX1 yX1_level yX1_level, Cond.code yX1_level cX1_level 1 (some .int), Cond.static yX3_portion, Cond.code yX3_portion cX3_portion 6 (some .int), Cond.methodLink RX1 52 yX1_strength, Cond.instanceMethod yX1_strength, Cond.selects RX1 yX1_strength yX1_strength, Cond.code yX1_strength cX1_strength 1 (some .int), Cond.constantLong RX1 28 (5), Cond.methodLink RX1 30 Lib.Math.min.name, Cond.static Lib.Math.min.name, Cond.initialized "java/lang/Math", Cond.code Lib.Math.min.name Lib.Math.min.code 2 (some .int)]
def wsL_ofPond : List Cond := .codeWith yL_ofPond cL_ofPond 5 (some .int) [(0, 10, 13, 13), (0, 10, 17, 15)] :: ((wsL_ofPond_r1 ++ wsL_ofPond_r2) ++ wsX30 ++ wsX20 ++ wsX10 ++ (vx_atS RX3 34 "java/lang/IllegalArgumentException" ["java/lang/RuntimeException", "java/lang/Exception"]).filter goodWord ++ (vx_atS RX3 315 "java/lang/IndexOutOfBoundsException" ["java/lang/RuntimeException", "java/lang/Exception"]).filter goodWord)
def wsL_ofFamily_r1 : List Cond := [Cond.classLink RL 13 "java/lang/IndexOutOfBoundsException", Cond.classLink RL 15 "java/lang/IllegalArgumentException", Cond.methodLink RL 64 yX3_ofFamily, Cond.instanceMethod yX3_ofFamily, Cond.selects RX3 yX3_ofFamily yX3_ofFamily, Cond.initialized RX3, Cond.code yX3_ofFamily cX3_ofFamily 3 (some .int), Cond.classLink RX3 30 "java/lang/IllegalArgumentException", Cond.initialized "java/lang/IllegalArgumentException", Cond.fieldLink RX3 21 "SaltRow" "families" "[LSaltRow$Family;", Cond.methodLink RX3 134 yX3_needFamily, Cond.instanceMethod yX3_needFamily, Cond.selects RX3 yX3_needFamily yX3_needFamily, Cond.code yX3_needFamily cX3_needFamily 2 none, Cond.classLink RX3 311 "java/lang/IndexOutOfBoundsException", Cond.initialized "java/lang/IndexOutOfBoundsException", Cond.fieldLink RX3 129 "SaltRow" "familyCount" "I", Cond.methodLink RX3 228 yX0_read, Cond.instanceMethod yX0_read, Cond.selects RX0 yX0_read yX0_read, Cond.initialized RX0, Cond.code yX0_read cX0_read 2 (some .int), Cond.fieldLink RX0 15 "SaltRow$Family" "salt" "I", Cond.fieldLink RX0 19 "SaltRow$Family" "dirt" "I"]
def wsL_ofFamily_r2 : List Cond := [Cond.fieldLink RX0 26 "SaltRow$Family" "coins" "I", Cond.fieldLink RX0 29 "SaltRow$Family" "saltGot" "I", Cond.fieldLink RX0 32 "SaltRow$Family" "saltSold" "I", Cond.static yX3_purity, Cond.code yX3_purity cX3_purity 2 (some .int), Cond.constantLong RX3 327 (100), Cond.methodLink RX3 214 yX3_portion, Cond.static yX3_portion, Cond.code yX3_portion cX3_portion 6 (some .int)]
def wsL_ofFamily : List Cond := .codeWith yL_ofFamily cL_ofFamily 5 (some .int) [(0, 10, 13, 13), (0, 10, 17, 15)] :: ((wsL_ofFamily_r1 ++ wsL_ofFamily_r2) ++ wsX30 ++ wsX00 ++ (vx_atS RX3 34 "java/lang/IllegalArgumentException" ["java/lang/RuntimeException", "java/lang/Exception"]).filter goodWord ++ (vx_atS RX3 315 "java/lang/IndexOutOfBoundsException" ["java/lang/RuntimeException", "java/lang/Exception"]).filter goodWord)
def wsL_rightOf : List Cond := .codeWith yL_rightOf cL_rightOf 5 (some .int) [(0, 10, 13, 13)] :: ([.classLink RL 13 "java/lang/IndexOutOfBoundsException", .methodLink RL 67 yX3_rightOf, .instanceMethod yX3_rightOf, .selects RX3 yX3_rightOf yX3_rightOf, .initialized RX3, .code yX3_rightOf cX3_rightOf 3 (some .int), .fieldLink RX3 21 "SaltRow" "families" "[LSaltRow$Family;", .fieldLink RX3 139 "SaltRow$Family" "rights" "[I", .methodLink RX3 134 yX3_needFamily, .instanceMethod yX3_needFamily, .selects RX3 yX3_needFamily yX3_needFamily, .code yX3_needFamily cX3_needFamily 2 none, .classLink RX3 311 "java/lang/IndexOutOfBoundsException", .initialized "java/lang/IndexOutOfBoundsException", .fieldLink RX3 129 "SaltRow" "familyCount" "I", .methodLink RX3 59 yX3_needPan, .instanceMethod yX3_needPan, .selects RX3 yX3_needPan yX3_needPan, .code yX3_needPan cX3_needPan 2 none] ++ wsX30 ++ wsX00 ++ (vx_atS RX3 315 "java/lang/IndexOutOfBoundsException" ["java/lang/RuntimeException", "java/lang/Exception"]).filter goodWord)
def wsL_tide : List Cond := .codeWith yL_tide cL_tide 4 (some .int) [(0, 9, 12, 15)] :: ([.classLink RL 15 "java/lang/IllegalArgumentException", .methodLink RL 70 yX3_tide, .instanceMethod yX3_tide, .selects RX3 yX3_tide yX3_tide, .initialized RX3, .code yX3_tide cX3_tide 2 (some .int), .classLink RX3 30 "java/lang/IllegalArgumentException", .initialized "java/lang/IllegalArgumentException", .methodLink RX3 94 yX3_tideAt, .static yX3_tideAt, .code yX3_tideAt cX3_tideAt 1 (some .int), .methodLink RX3 324 Lib.Math.abs.name, .static Lib.Math.abs.name, .initialized "java/lang/Math", .code Lib.Math.abs.name Lib.Math.abs.code 1 (some .int)] ++ (vx_atS RX3 34 "java/lang/IllegalArgumentException" ["java/lang/RuntimeException", "java/lang/Exception"]).filter goodWord)
def wsL_many_r1 : List Cond := [Cond.classLink RL 15 "java/lang/IllegalArgumentException", Cond.methodLink RL 73 yX3_many, Cond.instanceMethod yX3_many, Cond.selects RX3 yX3_many yX3_many, Cond.initialized RX3, Cond.code yX3_many cX3_many 2 (some .int), Cond.classLink RX3 30 "java/lang/IllegalArgumentException", Cond.initialized "java/lang/IllegalArgumentException", Cond.fieldLink RX3 10 "SaltRow" "row" "LSaltRow$Row;", Cond.fieldLink RX3 37 "SaltRow$Row" "day" "I", Cond.fieldLink RX3 129 "SaltRow" "familyCount" "I", Cond.fieldLink RX3 237 "SaltRow$Row" "seaSalt" "I", Cond.fieldLink RX3 100 "SaltRow" "lostSalt" "I", Cond.fieldLink RX3 173 "SaltRow" "crownSalt" "I", Cond.fieldLink RX3 246 "SaltRow" "cloisterSalt" "I", Cond.fieldLink RX3 249 "SaltRow" "cloisterDirt" "I", Cond.fieldLink RX3 86 "SaltRow" "skimmed" "I", Cond.fieldLink RX3 119 "SaltRow" "worksCoins" "I", Cond.methodLink RX3 231 yX2_openGates, Cond.instanceMethod yX2_openGates, Cond.selects RX2 yX2_openGates yX2_openGates, Cond.initialized RX2, Cond.code yX2_openGates cX2_openGates 3 (some .int), Cond.fieldLink RX2 11 "SaltRow$Row" "ponds" "[LSaltRow$Pond;"]
def wsL_many_r2 : List Cond := [Cond.fieldLink RX2 66 "SaltRow$Pond" "isOpen" "Z", Cond.methodLink RX3 234 yX2_coveredPans, Cond.instanceMethod yX2_coveredPans, Cond.selects RX2 yX2_coveredPans yX2_coveredPans, Cond.code yX2_coveredPans cX2_coveredPans 3 (some .int), Cond.fieldLink RX2 92 "SaltRow$Pond" "isCovered" "Z", Cond.methodLink RX3 240 yX2_sumOfPonds, Cond.instanceMethod yX2_sumOfPonds, Cond.selects RX2 yX2_sumOfPonds yX2_sumOfPonds, Cond.code yX2_sumOfPonds cX2_sumOfPonds 4 (some .int), Cond.methodLink RX2 104 yX1_read, Cond.instanceMethod yX1_read, Cond.selects RX1 yX1_read yX1_read, Cond.initialized RX1, Cond.code yX1_read cX1_read 2 (some .int), Cond.fieldLink RX1 9 "SaltRow$Pond" "area" "I", Cond.fieldLink RX1 15 "SaltRow$Pond" "brine" "I", Cond.fieldLink RX1 22 "SaltRow$Pond" "salt" "I", Cond.fieldLink RX1 36 "SaltRow$Pond" "gypsum" "I", Cond.fieldLink RX1 25 "SaltRow$Pond" "bitter" "I", Cond.fieldLink RX1 39 "SaltRow$Pond" "fresh" "I", Cond.fieldLink RX1 42 "SaltRow$Pond" "crustSalt" "I", Cond.fieldLink RX1 45 "SaltRow$Pond" "crustDirt" "I", Cond.fieldLink RX1 55 "SaltRow$Pond" "wasHarvested" "Z"]
def wsL_many_r3 : List Cond := [Cond.methodLink RX1 48 yX1_level, Cond.instanceMethod yX1_level, Cond.selects RX1 yX1_level yX1_level, Cond.code yX1_level cX1_level 1 (some .int), Cond.static yX3_portion, Cond.code yX3_portion cX3_portion 6 (some .int), Cond.methodLink RX1 52 yX1_strength, Cond.instanceMethod yX1_strength, Cond.selects RX1 yX1_strength yX1_strength, Cond.code yX1_strength cX1_strength 1 (some .int), Cond.constantLong RX1 28 (5), Cond.methodLink RX1 30 Lib.Math.min.name, Cond.static Lib.Math.min.name, Cond.initialized "java/lang/Math", Cond.code Lib.Math.min.name Lib.Math.min.code 2 (some .int), Cond.methodLink RX3 243 yX3_sumOfFamilies, Cond.instanceMethod yX3_sumOfFamilies, Cond.selects RX3 yX3_sumOfFamilies yX3_sumOfFamilies, Cond.code yX3_sumOfFamilies cX3_sumOfFamilies 4 (some .int), Cond.fieldLink RX3 21 "SaltRow" "families" "[LSaltRow$Family;", Cond.methodLink RX3 228 yX0_read, Cond.instanceMethod yX0_read, Cond.selects RX0 yX0_read yX0_read, Cond.initialized RX0]
def wsL_many_r4 : List Cond := [Cond.code yX0_read cX0_read 2 (some .int), Cond.fieldLink RX0 15 "SaltRow$Family" "salt" "I", Cond.fieldLink RX0 19 "SaltRow$Family" "dirt" "I", Cond.fieldLink RX0 26 "SaltRow$Family" "coins" "I", Cond.fieldLink RX0 29 "SaltRow$Family" "saltGot" "I", Cond.fieldLink RX0 32 "SaltRow$Family" "saltSold" "I", Cond.static yX3_purity, Cond.code yX3_purity cX3_purity 2 (some .int), Cond.constantLong RX3 327 (100), Cond.methodLink RX3 214 yX3_portion]
def wsL_many : List Cond := .codeWith yL_many cL_many 4 (some .int) [(0, 9, 12, 15)] :: ((wsL_many_r1 ++ (wsL_many_r2 ++ (wsL_many_r3 ++ wsL_many_r4))) ++ wsX30 ++ wsX20 ++ wsX10 ++ wsX00 ++ (vx_atS RX3 34 "java/lang/IllegalArgumentException" ["java/lang/RuntimeException", "java/lang/Exception"]).filter goodWord)
def wsL_crustIn_r1 : List Cond := [Cond.classLink RL 13 "java/lang/IndexOutOfBoundsException", Cond.classLink RL 15 "java/lang/IllegalArgumentException", Cond.methodLink RL 76 yX3_crustIn, Cond.instanceMethod yX3_crustIn, Cond.selects RX3 yX3_crustIn yX3_crustIn, Cond.initialized RX3, Cond.code yX3_crustIn cX3_crustIn 5 (some .int), Cond.fieldLink RX3 16 "SaltRow" "trial" "LSaltRow$Row;", Cond.fieldLink RX3 10 "SaltRow" "row" "LSaltRow$Row;", Cond.fieldLink RX3 46 "SaltRow$Row" "ponds" "[LSaltRow$Pond;", Cond.fieldLink RX3 258 "SaltRow$Pond" "saltFallen" "I", Cond.methodLink RX3 59 yX3_needPan, Cond.instanceMethod yX3_needPan, Cond.selects RX3 yX3_needPan yX3_needPan, Cond.code yX3_needPan cX3_needPan 2 none, Cond.classLink RX3 311 "java/lang/IndexOutOfBoundsException", Cond.initialized "java/lang/IndexOutOfBoundsException", Cond.methodLink RX3 67 yX3_needWeather, Cond.instanceMethod yX3_needWeather, Cond.selects RX3 yX3_needWeather yX3_needWeather, Cond.code yX3_needWeather cX3_needWeather 3 none, Cond.classLink RX3 30 "java/lang/IllegalArgumentException", Cond.initialized "java/lang/IllegalArgumentException", Cond.methodLink RX3 254 yX2_copyFrom]
def wsL_crustIn_r2 : List Cond := [Cond.instanceMethod yX2_copyFrom, Cond.selects RX2 yX2_copyFrom yX2_copyFrom, Cond.initialized RX2, Cond.code yX2_copyFrom cX2_copyFrom 3 none, Cond.fieldLink RX2 18 "SaltRow$Row" "day" "I", Cond.fieldLink RX2 22 "SaltRow$Row" "sun" "I", Cond.fieldLink RX2 25 "SaltRow$Row" "wind" "I", Cond.fieldLink RX2 28 "SaltRow$Row" "seaSalt" "I", Cond.fieldLink RX2 11 "SaltRow$Row" "ponds" "[LSaltRow$Pond;", Cond.methodLink RX2 31 yX1_copyFrom, Cond.instanceMethod yX1_copyFrom, Cond.selects RX1 yX1_copyFrom yX1_copyFrom, Cond.initialized RX1, Cond.code yX1_copyFrom cX1_copyFrom 2 none, Cond.fieldLink RX1 9 "SaltRow$Pond" "area" "I", Cond.fieldLink RX1 15 "SaltRow$Pond" "brine" "I", Cond.fieldLink RX1 22 "SaltRow$Pond" "salt" "I", Cond.fieldLink RX1 36 "SaltRow$Pond" "gypsum" "I", Cond.fieldLink RX1 25 "SaltRow$Pond" "bitter" "I", Cond.fieldLink RX1 39 "SaltRow$Pond" "fresh" "I", Cond.fieldLink RX1 42 "SaltRow$Pond" "crustSalt" "I", Cond.fieldLink RX1 45 "SaltRow$Pond" "crustDirt" "I", Cond.fieldLink RX1 59 "SaltRow$Pond" "saltFallen" "I", Cond.fieldLink RX1 62 "SaltRow$Pond" "isOpen" "Z"]
def wsL_crustIn_r3 : List Cond := [Cond.fieldLink RX1 65 "SaltRow$Pond" "isCovered" "Z", Cond.fieldLink RX1 55 "SaltRow$Pond" "wasHarvested" "Z", Cond.methodLink RX3 75 yX2_letDayGoBy, Cond.instanceMethod yX2_letDayGoBy, Cond.selects RX2 yX2_letDayGoBy yX2_letDayGoBy, Cond.code yX2_letDayGoBy cX2_letDayGoBy 6 none, Cond.fieldLink RX2 41 "SaltRow$Pond" "wasHarvested" "Z", Cond.methodLink RX2 35 yX2_letSeaIn, Cond.instanceMethod yX2_letSeaIn, Cond.selects RX2 yX2_letSeaIn yX2_letSeaIn, Cond.code yX2_letSeaIn cX2_letSeaIn 4 none, Cond.fieldLink RX2 66 "SaltRow$Pond" "isOpen" "Z", Cond.fieldLink RX2 69 "SaltRow$Pond" "area" "I", Cond.static yX3_tideAt, Cond.code yX3_tideAt cX3_tideAt 1 (some .int), Cond.methodLink RX3 324 Lib.Math.abs.name, Cond.static Lib.Math.abs.name, Cond.initialized "java/lang/Math", Cond.code Lib.Math.abs.name Lib.Math.abs.code 1 (some .int), Cond.methodLink RX2 62 yX1_level, Cond.instanceMethod yX1_level, Cond.selects RX1 yX1_level yX1_level, Cond.code yX1_level cX1_level 1 (some .int), Cond.static yX3_portion]
def wsL_crustIn_r4 : List Cond := [Cond.code yX3_portion cX3_portion 6 (some .int), Cond.methodLink RX2 72 yX1_takeIn, Cond.instanceMethod yX1_takeIn, Cond.selects RX1 yX1_takeIn yX1_takeIn, Cond.code yX1_takeIn cX1_takeIn 5 none, Cond.methodLink RX2 38 yX2_letBrineFlowOn, Cond.instanceMethod yX2_letBrineFlowOn, Cond.selects RX2 yX2_letBrineFlowOn yX2_letBrineFlowOn, Cond.code yX2_letBrineFlowOn cX2_letBrineFlowOn 5 none, Cond.methodLink RX2 76 Lib.Math.min.name, Cond.static Lib.Math.min.name, Cond.code Lib.Math.min.name Lib.Math.min.code 2 (some .int), Cond.constantLong RX2 82 (2), Cond.methodLink RX2 88 yX1_giveBrine, Cond.instanceMethod yX1_giveBrine, Cond.selects RX1 yX1_giveBrine yX1_giveBrine, Cond.code yX1_giveBrine cX1_giveBrine 6 none, Cond.methodLink RX1 68 yX1_takeIn, Cond.methodLink RX2 45 yX1_rainFalls, Cond.instanceMethod yX1_rainFalls, Cond.selects RX1 yX1_rainFalls yX1_rainFalls, Cond.code yX1_rainFalls cX1_rainFalls 2 none, Cond.methodLink RX2 49 yX1_dryOut, Cond.instanceMethod yX1_dryOut]
def wsL_crustIn_r5 : List Cond := [Cond.selects RX1 yX1_dryOut yX1_dryOut, Cond.code yX1_dryOut cX1_dryOut 4 none, Cond.methodLink RX1 30 Lib.Math.min.name, Cond.methodLink RX1 52 yX1_strength, Cond.instanceMethod yX1_strength, Cond.selects RX1 yX1_strength yX1_strength, Cond.code yX1_strength cX1_strength 1 (some .int), Cond.constantLong RX1 28 (5), Cond.static yX3_roundedUp, Cond.code yX3_roundedUp cX3_roundedUp 2 (some .int), Cond.methodLink RX2 52 yX1_mixFresh, Cond.instanceMethod yX1_mixFresh, Cond.selects RX1 yX1_mixFresh yX1_mixFresh, Cond.code yX1_mixFresh cX1_mixFresh 3 none, Cond.methodLink RX2 55 yX1_dropMinerals, Cond.instanceMethod yX1_dropMinerals, Cond.selects RX1 yX1_dropMinerals yX1_dropMinerals, Cond.code yX1_dropMinerals cX1_dropMinerals 3 none, Cond.methodLink RX1 75 yX1_above, Cond.instanceMethod yX1_above, Cond.selects RX1 yX1_above yX1_above, Cond.code yX1_above cX1_above 3 (some .int), Cond.methodLink RX1 78 Lib.MathLoose.max_long.x, Cond.static Lib.MathLoose.max_long.x]
def wsL_crustIn_r6 : List Cond := [Cond.code Lib.MathLoose.max_long.x Lib.MathLoose.max_long.code 4 (some .long)]
def wsL_crustIn : List Cond := .codeWith yL_crustIn cL_crustIn 6 (some .int) [(0, 12, 15, 13), (0, 12, 19, 15)] :: ((wsL_crustIn_r1 ++ (wsL_crustIn_r2 ++ (wsL_crustIn_r3 ++ (wsL_crustIn_r4 ++ (wsL_crustIn_r5 ++ wsL_crustIn_r6))))) ++ wsX30 ++ wsX20 ++ wsX10 ++ (vx_atS RX3 315 "java/lang/IndexOutOfBoundsException" ["java/lang/RuntimeException", "java/lang/Exception"]).filter goodWord ++ (vx_atS RX3 34 "java/lang/IllegalArgumentException" ["java/lang/RuntimeException", "java/lang/Exception"]).filter goodWord)
def wsL_bestGates_r1 : List Cond := [Cond.classLink RL 15 "java/lang/IllegalArgumentException", Cond.methodLink RL 79 yX3_bestGates, Cond.instanceMethod yX3_bestGates, Cond.selects RX3 yX3_bestGates yX3_bestGates, Cond.initialized RX3, Cond.code yX3_bestGates cX3_bestGates 8 (some .int), Cond.classLink RX3 30 "java/lang/IllegalArgumentException", Cond.initialized "java/lang/IllegalArgumentException", Cond.methodLink RX3 67 yX3_needWeather, Cond.instanceMethod yX3_needWeather, Cond.selects RX3 yX3_needWeather yX3_needWeather, Cond.code yX3_needWeather cX3_needWeather 3 none, Cond.methodLink RX3 263 yX3_saltInPansWith, Cond.instanceMethod yX3_saltInPansWith, Cond.selects RX3 yX3_saltInPansWith yX3_saltInPansWith, Cond.code yX3_saltInPansWith cX3_saltInPansWith 6 (some .int), Cond.fieldLink RX3 16 "SaltRow" "trial" "LSaltRow$Row;", Cond.fieldLink RX3 10 "SaltRow" "row" "LSaltRow$Row;", Cond.methodLink RX3 254 yX2_copyFrom, Cond.instanceMethod yX2_copyFrom, Cond.selects RX2 yX2_copyFrom yX2_copyFrom, Cond.initialized RX2, Cond.code yX2_copyFrom cX2_copyFrom 3 none, Cond.fieldLink RX2 18 "SaltRow$Row" "day" "I"]
def wsL_bestGates_r2 : List Cond := [Cond.fieldLink RX2 22 "SaltRow$Row" "sun" "I", Cond.fieldLink RX2 25 "SaltRow$Row" "wind" "I", Cond.fieldLink RX2 28 "SaltRow$Row" "seaSalt" "I", Cond.fieldLink RX2 11 "SaltRow$Row" "ponds" "[LSaltRow$Pond;", Cond.methodLink RX2 31 yX1_copyFrom, Cond.instanceMethod yX1_copyFrom, Cond.selects RX1 yX1_copyFrom yX1_copyFrom, Cond.initialized RX1, Cond.code yX1_copyFrom cX1_copyFrom 2 none, Cond.fieldLink RX1 9 "SaltRow$Pond" "area" "I", Cond.fieldLink RX1 15 "SaltRow$Pond" "brine" "I", Cond.fieldLink RX1 22 "SaltRow$Pond" "salt" "I", Cond.fieldLink RX1 36 "SaltRow$Pond" "gypsum" "I", Cond.fieldLink RX1 25 "SaltRow$Pond" "bitter" "I", Cond.fieldLink RX1 39 "SaltRow$Pond" "fresh" "I", Cond.fieldLink RX1 42 "SaltRow$Pond" "crustSalt" "I", Cond.fieldLink RX1 45 "SaltRow$Pond" "crustDirt" "I", Cond.fieldLink RX1 59 "SaltRow$Pond" "saltFallen" "I", Cond.fieldLink RX1 62 "SaltRow$Pond" "isOpen" "Z", Cond.fieldLink RX1 65 "SaltRow$Pond" "isCovered" "Z", Cond.fieldLink RX1 55 "SaltRow$Pond" "wasHarvested" "Z", Cond.methodLink RX3 302 yX2_setGates, Cond.instanceMethod yX2_setGates, Cond.selects RX2 yX2_setGates yX2_setGates]
def wsL_bestGates_r3 : List Cond := [Cond.code yX2_setGates cX2_setGates 3 none, Cond.fieldLink RX2 66 "SaltRow$Pond" "isOpen" "Z", Cond.methodLink RX3 75 yX2_letDayGoBy, Cond.instanceMethod yX2_letDayGoBy, Cond.selects RX2 yX2_letDayGoBy yX2_letDayGoBy, Cond.code yX2_letDayGoBy cX2_letDayGoBy 6 none, Cond.fieldLink RX2 41 "SaltRow$Pond" "wasHarvested" "Z", Cond.methodLink RX2 35 yX2_letSeaIn, Cond.instanceMethod yX2_letSeaIn, Cond.selects RX2 yX2_letSeaIn yX2_letSeaIn, Cond.code yX2_letSeaIn cX2_letSeaIn 4 none, Cond.fieldLink RX2 69 "SaltRow$Pond" "area" "I", Cond.static yX3_tideAt, Cond.code yX3_tideAt cX3_tideAt 1 (some .int), Cond.methodLink RX3 324 Lib.Math.abs.name, Cond.static Lib.Math.abs.name, Cond.initialized "java/lang/Math", Cond.code Lib.Math.abs.name Lib.Math.abs.code 1 (some .int), Cond.methodLink RX2 62 yX1_level, Cond.instanceMethod yX1_level, Cond.selects RX1 yX1_level yX1_level, Cond.code yX1_level cX1_level 1 (some .int), Cond.static yX3_portion, Cond.code yX3_portion cX3_portion 6 (some .int)]
def wsL_bestGates_r4 : List Cond := [Cond.methodLink RX2 72 yX1_takeIn, Cond.instanceMethod yX1_takeIn, Cond.selects RX1 yX1_takeIn yX1_takeIn, Cond.code yX1_takeIn cX1_takeIn 5 none, Cond.methodLink RX2 38 yX2_letBrineFlowOn, Cond.instanceMethod yX2_letBrineFlowOn, Cond.selects RX2 yX2_letBrineFlowOn yX2_letBrineFlowOn, Cond.code yX2_letBrineFlowOn cX2_letBrineFlowOn 5 none, Cond.methodLink RX2 76 Lib.Math.min.name, Cond.static Lib.Math.min.name, Cond.code Lib.Math.min.name Lib.Math.min.code 2 (some .int), Cond.constantLong RX2 82 (2), Cond.methodLink RX2 88 yX1_giveBrine, Cond.instanceMethod yX1_giveBrine, Cond.selects RX1 yX1_giveBrine yX1_giveBrine, Cond.code yX1_giveBrine cX1_giveBrine 6 none, Cond.methodLink RX1 68 yX1_takeIn, Cond.methodLink RX2 45 yX1_rainFalls, Cond.instanceMethod yX1_rainFalls, Cond.selects RX1 yX1_rainFalls yX1_rainFalls, Cond.code yX1_rainFalls cX1_rainFalls 2 none, Cond.methodLink RX2 49 yX1_dryOut, Cond.instanceMethod yX1_dryOut, Cond.selects RX1 yX1_dryOut yX1_dryOut]
def wsL_bestGates_r5 : List Cond := [Cond.code yX1_dryOut cX1_dryOut 4 none, Cond.methodLink RX1 30 Lib.Math.min.name, Cond.methodLink RX1 52 yX1_strength, Cond.instanceMethod yX1_strength, Cond.selects RX1 yX1_strength yX1_strength, Cond.code yX1_strength cX1_strength 1 (some .int), Cond.constantLong RX1 28 (5), Cond.static yX3_roundedUp, Cond.code yX3_roundedUp cX3_roundedUp 2 (some .int), Cond.methodLink RX2 52 yX1_mixFresh, Cond.instanceMethod yX1_mixFresh, Cond.selects RX1 yX1_mixFresh yX1_mixFresh, Cond.code yX1_mixFresh cX1_mixFresh 3 none, Cond.methodLink RX2 55 yX1_dropMinerals, Cond.instanceMethod yX1_dropMinerals, Cond.selects RX1 yX1_dropMinerals yX1_dropMinerals, Cond.code yX1_dropMinerals cX1_dropMinerals 3 none, Cond.methodLink RX1 75 yX1_above, Cond.instanceMethod yX1_above, Cond.selects RX1 yX1_above yX1_above, Cond.code yX1_above cX1_above 3 (some .int), Cond.methodLink RX1 78 Lib.MathLoose.max_long.x, Cond.static Lib.MathLoose.max_long.x, Cond.code Lib.MathLoose.max_long.x Lib.MathLoose.max_long.code 4 (some .long)]
def wsL_bestGates_r6 : List Cond := [Cond.methodLink RX3 305 yX2_saltInPans, Cond.instanceMethod yX2_saltInPans, Cond.selects RX2 yX2_saltInPans yX2_saltInPans, Cond.code yX2_saltInPans cX2_saltInPans 3 (some .int), Cond.fieldLink RX2 98 "SaltRow$Pond" "salt" "I", Cond.fieldLink RX2 101 "SaltRow$Pond" "crustSalt" "I"]
def wsL_bestGates : List Cond := .codeWith yL_bestGates cL_bestGates 6 (some .int) [(0, 12, 15, 15)] :: ((wsL_bestGates_r1 ++ (wsL_bestGates_r2 ++ (wsL_bestGates_r3 ++ (wsL_bestGates_r4 ++ (wsL_bestGates_r5 ++ wsL_bestGates_r6))))) ++ wsX30 ++ wsX20 ++ wsX10 ++ (vx_atS RX3 34 "java/lang/IllegalArgumentException" ["java/lang/RuntimeException", "java/lang/Exception"]).filter goodWord)
def wsL_wouldBe_r1 : List Cond := [Cond.classLink RL 13 "java/lang/IndexOutOfBoundsException", Cond.methodLink RL 82 yX3_wouldBe, Cond.instanceMethod yX3_wouldBe, Cond.selects RX3 yX3_wouldBe yX3_wouldBe, Cond.initialized RX3, Cond.code yX3_wouldBe cX3_wouldBe 9 (some .int), Cond.fieldLink RX3 10 "SaltRow" "row" "LSaltRow$Row;", Cond.fieldLink RX3 46 "SaltRow$Row" "ponds" "[LSaltRow$Pond;", Cond.fieldLink RX3 21 "SaltRow" "families" "[LSaltRow$Family;", Cond.fieldLink RX3 139 "SaltRow$Family" "rights" "[I", Cond.fieldLink RX3 197 "SaltRow$Family" "salt" "I", Cond.constantLong RX3 267 (12), Cond.fieldLink RX3 200 "SaltRow$Family" "dirt" "I", Cond.methodLink RX3 59 yX3_needPan, Cond.instanceMethod yX3_needPan, Cond.selects RX3 yX3_needPan yX3_needPan, Cond.code yX3_needPan cX3_needPan 2 none, Cond.classLink RX3 311 "java/lang/IndexOutOfBoundsException", Cond.initialized "java/lang/IndexOutOfBoundsException", Cond.methodLink RX3 134 yX3_needFamily, Cond.instanceMethod yX3_needFamily, Cond.selects RX3 yX3_needFamily yX3_needFamily, Cond.code yX3_needFamily cX3_needFamily 2 none, Cond.fieldLink RX3 129 "SaltRow" "familyCount" "I"]
def wsL_wouldBe_r2 : List Cond := [Cond.methodLink RX3 148 yX1_canBeHarvested, Cond.instanceMethod yX1_canBeHarvested, Cond.selects RX1 yX1_canBeHarvested yX1_canBeHarvested, Cond.initialized RX1, Cond.code yX1_canBeHarvested cX1_canBeHarvested 1 (some .boolean), Cond.fieldLink RX1 42 "SaltRow$Pond" "crustSalt" "I", Cond.fieldLink RX1 55 "SaltRow$Pond" "wasHarvested" "Z", Cond.methodLink RX3 154 yX1_saltOfHarvest, Cond.instanceMethod yX1_saltOfHarvest, Cond.selects RX1 yX1_saltOfHarvest yX1_saltOfHarvest, Cond.code yX1_saltOfHarvest cX1_saltOfHarvest 2 (some .int), Cond.fieldLink RX1 9 "SaltRow$Pond" "area" "I", Cond.methodLink RX1 30 Lib.Math.min.name, Cond.static Lib.Math.min.name, Cond.initialized "java/lang/Math", Cond.code Lib.Math.min.name Lib.Math.min.code 2 (some .int), Cond.methodLink RX3 158 yX1_dirtOfCrustWith, Cond.instanceMethod yX1_dirtOfCrustWith, Cond.selects RX1 yX1_dirtOfCrustWith yX1_dirtOfCrustWith, Cond.code yX1_dirtOfCrustWith cX1_dirtOfCrustWith 2 (some .int), Cond.fieldLink RX1 45 "SaltRow$Pond" "crustDirt" "I", Cond.static yX3_portion, Cond.code yX3_portion cX3_portion 6 (some .int), Cond.methodLink RX3 161 yX1_dirtOfFloor]
def wsL_wouldBe_r3 : List Cond := [Cond.instanceMethod yX1_dirtOfFloor, Cond.selects RX1 yX1_dirtOfFloor yX1_dirtOfFloor, Cond.code yX1_dirtOfFloor cX1_dirtOfFloor 2 (some .int), Cond.methodLink RX3 176 yX3_crownsPart, Cond.static yX3_crownsPart, Cond.code yX3_crownsPart cX3_crownsPart 1 (some .int), Cond.methodLink RX3 214 yX3_portion, Cond.methodLink RX3 203 yX3_purity, Cond.static yX3_purity, Cond.code yX3_purity cX3_purity 2 (some .int), Cond.constantLong RX3 327 (100)]
def wsL_wouldBe : List Cond := .codeWith yL_wouldBe cL_wouldBe 6 (some .int) [(0, 12, 15, 13)] :: ((wsL_wouldBe_r1 ++ (wsL_wouldBe_r2 ++ wsL_wouldBe_r3)) ++ wsX30 ++ wsX20 ++ wsX00 ++ wsX10 ++ (vx_atS RX3 315 "java/lang/IndexOutOfBoundsException" ["java/lang/RuntimeException", "java/lang/Exception"]).filter goodWord)
def wsL_tideOn : List Cond := .codeWith yL_tideOn cL_tideOn 5 (some .int) [(0, 10, 13, 15)] :: ([.classLink RL 15 "java/lang/IllegalArgumentException", .methodLink RL 86 yX3_tideOn, .instanceMethod yX3_tideOn, .selects RX3 yX3_tideOn yX3_tideOn, .initialized RX3, .code yX3_tideOn cX3_tideOn 5 (some .int), .classLink RX3 30 "java/lang/IllegalArgumentException", .initialized "java/lang/IllegalArgumentException", .fieldLink RX3 10 "SaltRow" "row" "LSaltRow$Row;", .fieldLink RX3 37 "SaltRow$Row" "day" "I", .methodLink RX3 94 yX3_tideAt, .static yX3_tideAt, .code yX3_tideAt cX3_tideAt 1 (some .int), .methodLink RX3 324 Lib.Math.abs.name, .static Lib.Math.abs.name, .initialized "java/lang/Math", .code Lib.Math.abs.name Lib.Math.abs.code 1 (some .int)] ++ wsX30 ++ wsX20 ++ (vx_atS RX3 34 "java/lang/IllegalArgumentException" ["java/lang/RuntimeException", "java/lang/Exception"]).filter goodWord)
def wsL_law0_r1 : List Cond := [Cond.classLink RL 8 RX3, Cond.instantiable RX3 10, Cond.initialized RX3, Cond.classLink RL 90 RX6, Cond.instantiable RX6 11, Cond.initialized RX6, Cond.arrayClass .long, Cond.methodLink RL 89 yX3_init, Cond.instanceMethod yX3_init, Cond.code yX3_init cX3_init 2 none, Cond.methodLink RX3 1 objectInit, Cond.instanceMethod objectInit, Cond.code objectInit ⟨#[0xb1]⟩ 1 none, Cond.classLink RX3 7 RX2, Cond.instantiable RX2 5, Cond.initialized RX2, Cond.fieldLink RX3 10 "SaltRow" "row" "LSaltRow$Row;", Cond.fieldLink RX3 16 "SaltRow" "trial" "LSaltRow$Row;", Cond.classLink RX3 19 RX0, Cond.fieldLink RX3 21 "SaltRow" "families" "[LSaltRow$Family;", Cond.instantiable RX0 6, Cond.initialized RX0, Cond.methodLink RX3 9 yX2_init, Cond.instanceMethod yX2_init]
def wsL_law0_r2 : List Cond := [Cond.code yX2_init cX2_init 2 none, Cond.methodLink RX2 3 objectInit, Cond.classLink RX2 9 RX1, Cond.fieldLink RX2 11 "SaltRow$Row" "ponds" "[LSaltRow$Pond;", Cond.instantiable RX1 12, Cond.initialized RX1, Cond.instanceMethod yX1_init, Cond.code yX1_init cX1_init 1 none, Cond.methodLink RX1 3 objectInit, Cond.fieldLink RX1 9 "SaltRow$Pond" "area" "I", Cond.instanceMethod yX0_init, Cond.code yX0_init cX0_init 1 none, Cond.methodLink RX0 3 objectInit, Cond.arrayClass .int, Cond.fieldLink RX0 9 "SaltRow$Family" "rights" "[I", Cond.methodLink RL 92 yX6_init, Cond.instanceMethod yX6_init, Cond.code yX6_init cX6_init 1 none, Cond.methodLink RX6 9 objectInit, Cond.classLink RX6 15 RX5, Cond.instantiable RX5 3, Cond.initialized RX5, Cond.fieldLink RX6 18 "SaltRowModel" "row" "LSaltRowModel$Row;", Cond.classLink RX6 24 RJx4a65c]
def wsL_law0_r3 : List Cond := [Cond.instantiable RJx4a65c 3, Cond.initialized RJx4a65c, Cond.fieldLink RX6 27 "SaltRowModel" "families" "Ljava/util/ArrayList;", Cond.methodLink RX6 17 yX5_init, Cond.instanceMethod yX5_init, Cond.code yX5_init cX5_init 2 none, Cond.methodLink RX5 3 objectInit, Cond.classLink RX5 9 RX4, Cond.fieldLink RX5 11 "SaltRowModel$Row" "ponds" "[LSaltRowModel$Pond;", Cond.instantiable RX4 11, Cond.initialized RX4, Cond.instanceMethod yX4_init, Cond.code yX4_init cX4_init 1 none, Cond.methodLink RX4 3 objectInit, Cond.fieldLink RX4 9 "SaltRowModel$Pond" "area" "I", Cond.fieldLink RX4 15 "SaltRowModel$Pond" "harvested" "I", Cond.methodLink RX6 26 yJx4a65c_init_da8c8, Cond.instanceMethod yJx4a65c_init_da8c8, Cond.code yJx4a65c_init_da8c8 cJx4a65c_init_da8c8 1 none, Cond.fieldLink RJx4a65c 39 "java/util/ArrayList" "DEFAULTCAPACITY_EMPTY_ELEMENTDATA" "[Ljava/lang/Object;", Cond.fieldLink RJx4a65c 9 "java/util/ArrayList" "elementData" "[Ljava/lang/Object;", Cond.methodLink RJx4a65c 1 yJxc12de_init_da8c8, Cond.instanceMethod yJxc12de_init_da8c8, Cond.initialized RJxc12de]
def wsL_law0_r4 : List Cond := [Cond.code yJxc12de_init_da8c8 cJxc12de_init_da8c8 1 none, Cond.fieldLink RJxc12de 7 "java/util/AbstractList" "modCount" "I", Cond.methodLink RJxc12de 1 yJxa1e45_init_da8c8, Cond.instanceMethod yJxa1e45_init_da8c8, Cond.initialized RJxa1e45, Cond.code yJxa1e45_init_da8c8 cJxa1e45_init_da8c8 1 none, Cond.methodLink RJxa1e45 1 objectInit, Cond.methodLink RL 93 yL_area, Cond.static yL_area, Cond.initialized RL, Cond.codeWith yL_area cL_area 5 (some .int) [(0, 10, 13, 13), (0, 10, 17, 15), (0, 10, 21, 17)], Cond.classLink RL 13 "java/lang/IndexOutOfBoundsException", Cond.classLink RL 15 "java/lang/IllegalArgumentException", Cond.classLink RL 17 "java/lang/IllegalStateException", Cond.methodLink RL 7 yX3_area, Cond.instanceMethod yX3_area, Cond.selects RX3 yX3_area yX3_area, Cond.code yX3_area cX3_area 4 (some .int), Cond.classLink RX3 30 "java/lang/IllegalArgumentException", Cond.initialized "java/lang/IllegalArgumentException", Cond.classLink RX3 41 "java/lang/IllegalStateException", Cond.initialized "java/lang/IllegalStateException", Cond.fieldLink RX3 37 "SaltRow$Row" "day" "I", Cond.fieldLink RX3 46 "SaltRow$Row" "ponds" "[LSaltRow$Pond;"]
def wsL_law0_r5 : List Cond := [Cond.fieldLink RX3 50 "SaltRow$Pond" "area" "I", Cond.methodLink RX3 26 yX3_needPond, Cond.instanceMethod yX3_needPond, Cond.selects RX3 yX3_needPond yX3_needPond, Cond.code yX3_needPond cX3_needPond 2 none, Cond.classLink RX3 311 "java/lang/IndexOutOfBoundsException", Cond.initialized "java/lang/IndexOutOfBoundsException", Cond.methodLink RL 98 yX6_area, Cond.instanceMethod yX6_area, Cond.selects RX6 yX6_area yX6_area, Cond.code yX6_area cX6_area 4 (some .int), Cond.fieldLink RX6 54 "SaltRowModel$Row" "day" "I", Cond.fieldLink RX6 57 "SaltRowModel$Row" "ponds" "[LSaltRowModel$Pond;", Cond.fieldLink RX6 61 "SaltRowModel$Pond" "area" "I", Cond.methodLink RX6 47 yX6_isNoPond, Cond.static yX6_isNoPond, Cond.code yX6_isNoPond cX6_isNoPond 1 (some .boolean), Cond.methodLink RX6 39 yX6_isIn, Cond.static yX6_isIn, Cond.code yX6_isIn cX6_isIn 3 (some .boolean), Cond.methodLink RX6 51 yX6_start, Cond.instanceMethod yX6_start, Cond.selects RX6 yX6_start yX6_start, Cond.code yX6_start cX6_start 3 (some .boolean)]
def wsL_law0_r6 : List Cond := [Cond.fieldLink RX6 31 "SaltRowModel" "thrown" "I", Cond.methodLink RX6 35 yX6_refuse, Cond.instanceMethod yX6_refuse, Cond.selects RX6 yX6_refuse yX6_refuse, Cond.code yX6_refuse cX6_refuse 3 (some .boolean), Cond.methodLink RL 99 yX6_thrown, Cond.instanceMethod yX6_thrown, Cond.selects RX6 yX6_thrown yX6_thrown, Cond.code yX6_thrown cX6_thrown 1 (some .int), Cond.methodLink RL 102 yL_gate, Cond.static yL_gate, Cond.codeWith yL_gate cL_gate 5 (some .int) [(0, 17, 20, 13)], Cond.methodLink RL 19 yX3_gate, Cond.instanceMethod yX3_gate, Cond.selects RX3 yX3_gate yX3_gate, Cond.code yX3_gate cX3_gate 4 (some .boolean), Cond.fieldLink RX3 55 "SaltRow$Pond" "isOpen" "Z", Cond.methodLink RL 105 yX6_gate, Cond.instanceMethod yX6_gate, Cond.selects RX6 yX6_gate yX6_gate, Cond.code yX6_gate cX6_gate 4 (some .boolean), Cond.fieldLink RX6 66 "SaltRowModel$Pond" "isOpen" "Z", Cond.methodLink RL 106 yL_cover, Cond.static yL_cover]
def wsL_law0_r7 : List Cond := [Cond.codeWith yL_cover cL_cover 5 (some .int) [(0, 17, 20, 13)], Cond.methodLink RL 23 yX3_cover, Cond.instanceMethod yX3_cover, Cond.selects RX3 yX3_cover yX3_cover, Cond.code yX3_cover cX3_cover 4 (some .boolean), Cond.fieldLink RX3 62 "SaltRow$Pond" "isCovered" "Z", Cond.methodLink RX3 59 yX3_needPan, Cond.instanceMethod yX3_needPan, Cond.selects RX3 yX3_needPan yX3_needPan, Cond.code yX3_needPan cX3_needPan 2 none, Cond.methodLink RL 108 yX6_cover, Cond.instanceMethod yX6_cover, Cond.selects RX6 yX6_cover yX6_cover, Cond.code yX6_cover cX6_cover 4 (some .boolean), Cond.fieldLink RX6 73 "SaltRowModel$Pond" "isCovered" "Z", Cond.methodLink RX6 70 yX6_isNoPan, Cond.static yX6_isNoPan, Cond.code yX6_isNoPan cX6_isNoPan 1 (some .boolean), Cond.methodLink RL 109 yL_pass, Cond.static yL_pass, Cond.codeWith yL_pass cL_pass 7 (some .int) [(0, 14, 17, 15), (0, 14, 21, 17)], Cond.methodLink RL 26 yX3_pass, Cond.instanceMethod yX3_pass, Cond.selects RX3 yX3_pass yX3_pass]
def wsL_law0_r8 : List Cond := [Cond.code yX3_pass cX3_pass 7 (some .int), Cond.methodLink RX3 67 yX3_needWeather, Cond.instanceMethod yX3_needWeather, Cond.selects RX3 yX3_needWeather yX3_needWeather, Cond.code yX3_needWeather cX3_needWeather 3 none, Cond.methodLink RX3 75 yX2_letDayGoBy, Cond.instanceMethod yX2_letDayGoBy, Cond.selects RX2 yX2_letDayGoBy yX2_letDayGoBy, Cond.code yX2_letDayGoBy cX2_letDayGoBy 6 none, Cond.fieldLink RX2 18 "SaltRow$Row" "day" "I", Cond.fieldLink RX2 22 "SaltRow$Row" "sun" "I", Cond.fieldLink RX2 25 "SaltRow$Row" "wind" "I", Cond.fieldLink RX2 41 "SaltRow$Pond" "wasHarvested" "Z", Cond.methodLink RX2 35 yX2_letSeaIn, Cond.instanceMethod yX2_letSeaIn, Cond.selects RX2 yX2_letSeaIn yX2_letSeaIn, Cond.code yX2_letSeaIn cX2_letSeaIn 4 none, Cond.fieldLink RX2 66 "SaltRow$Pond" "isOpen" "Z", Cond.fieldLink RX2 69 "SaltRow$Pond" "area" "I", Cond.fieldLink RX2 28 "SaltRow$Row" "seaSalt" "I", Cond.static yX3_tideAt, Cond.code yX3_tideAt cX3_tideAt 1 (some .int), Cond.methodLink RX3 324 Lib.Math.abs.name, Cond.static Lib.Math.abs.name]
def wsL_law0_r9 : List Cond := [Cond.initialized "java/lang/Math", Cond.code Lib.Math.abs.name Lib.Math.abs.code 1 (some .int), Cond.methodLink RX2 62 yX1_level, Cond.instanceMethod yX1_level, Cond.selects RX1 yX1_level yX1_level, Cond.code yX1_level cX1_level 1 (some .int), Cond.fieldLink RX1 15 "SaltRow$Pond" "brine" "I", Cond.static yX3_portion, Cond.code yX3_portion cX3_portion 6 (some .int), Cond.methodLink RX2 72 yX1_takeIn, Cond.instanceMethod yX1_takeIn, Cond.selects RX1 yX1_takeIn yX1_takeIn, Cond.code yX1_takeIn cX1_takeIn 5 none, Cond.fieldLink RX1 22 "SaltRow$Pond" "salt" "I", Cond.fieldLink RX1 36 "SaltRow$Pond" "gypsum" "I", Cond.fieldLink RX1 25 "SaltRow$Pond" "bitter" "I", Cond.methodLink RX2 38 yX2_letBrineFlowOn, Cond.instanceMethod yX2_letBrineFlowOn, Cond.selects RX2 yX2_letBrineFlowOn yX2_letBrineFlowOn, Cond.code yX2_letBrineFlowOn cX2_letBrineFlowOn 5 none, Cond.methodLink RX2 76 Lib.Math.min.name, Cond.static Lib.Math.min.name, Cond.code Lib.Math.min.name Lib.Math.min.code 2 (some .int), Cond.constantLong RX2 82 (2)]
def wsL_law0_r10 : List Cond := [Cond.methodLink RX2 88 yX1_giveBrine, Cond.instanceMethod yX1_giveBrine, Cond.selects RX1 yX1_giveBrine yX1_giveBrine, Cond.code yX1_giveBrine cX1_giveBrine 6 none, Cond.methodLink RX1 68 yX1_takeIn, Cond.methodLink RX2 45 yX1_rainFalls, Cond.instanceMethod yX1_rainFalls, Cond.selects RX1 yX1_rainFalls yX1_rainFalls, Cond.code yX1_rainFalls cX1_rainFalls 2 none, Cond.fieldLink RX1 65 "SaltRow$Pond" "isCovered" "Z", Cond.fieldLink RX1 39 "SaltRow$Pond" "fresh" "I", Cond.methodLink RX2 49 yX1_dryOut, Cond.instanceMethod yX1_dryOut, Cond.selects RX1 yX1_dryOut yX1_dryOut, Cond.code yX1_dryOut cX1_dryOut 4 none, Cond.methodLink RX1 30 Lib.Math.min.name, Cond.methodLink RX1 52 yX1_strength, Cond.instanceMethod yX1_strength, Cond.selects RX1 yX1_strength yX1_strength, Cond.code yX1_strength cX1_strength 1 (some .int), Cond.constantLong RX1 28 (5), Cond.static yX3_roundedUp, Cond.code yX3_roundedUp cX3_roundedUp 2 (some .int), Cond.methodLink RX2 52 yX1_mixFresh]
def wsL_law0_r11 : List Cond := [Cond.instanceMethod yX1_mixFresh, Cond.selects RX1 yX1_mixFresh yX1_mixFresh, Cond.code yX1_mixFresh cX1_mixFresh 3 none, Cond.fieldLink RX1 42 "SaltRow$Pond" "crustSalt" "I", Cond.methodLink RX2 55 yX1_dropMinerals, Cond.instanceMethod yX1_dropMinerals, Cond.selects RX1 yX1_dropMinerals yX1_dropMinerals, Cond.code yX1_dropMinerals cX1_dropMinerals 3 none, Cond.fieldLink RX1 59 "SaltRow$Pond" "saltFallen" "I", Cond.fieldLink RX1 45 "SaltRow$Pond" "crustDirt" "I", Cond.methodLink RX1 75 yX1_above, Cond.instanceMethod yX1_above, Cond.selects RX1 yX1_above yX1_above, Cond.code yX1_above cX1_above 3 (some .int), Cond.methodLink RX1 78 Lib.MathLoose.max_long.x, Cond.static Lib.MathLoose.max_long.x, Cond.code Lib.MathLoose.max_long.x Lib.MathLoose.max_long.code 4 (some .long), Cond.methodLink RX3 79 yX2_saltFallenInPans, Cond.instanceMethod yX2_saltFallenInPans, Cond.selects RX2 yX2_saltFallenInPans yX2_saltFallenInPans, Cond.code yX2_saltFallenInPans cX2_saltFallenInPans 3 (some .int), Cond.fieldLink RX2 95 "SaltRow$Pond" "saltFallen" "I", Cond.methodLink RL 112 yX6_pass, Cond.instanceMethod yX6_pass]
def wsL_law0_r12 : List Cond := [Cond.selects RX6 yX6_pass yX6_pass, Cond.code yX6_pass cX6_pass 9 (some .int), Cond.fieldLink RX6 79 "SaltRowModel" "sun" "I", Cond.fieldLink RX6 82 "SaltRowModel" "wind" "I", Cond.methodLink RX6 76 yX5_day, Cond.instanceMethod yX5_day, Cond.selects RX5 yX5_day yX5_day, Cond.code yX5_day cX5_day 11 (some (.array .int)), Cond.fieldLink RX5 23 "SaltRowModel$Row" "day" "I", Cond.fieldLink RX5 35 "SaltRowModel$Pond" "isOpen" "Z", Cond.fieldLink RX5 39 "SaltRowModel$Pond" "area" "I", Cond.fieldLink RX5 42 "SaltRowModel$Pond" "brine" "I", Cond.fieldLink RX5 45 "SaltRowModel$Pond" "salt" "I", Cond.fieldLink RX5 48 "SaltRowModel$Pond" "gypsum" "I", Cond.fieldLink RX5 51 "SaltRowModel$Pond" "bitter" "I", Cond.fieldLink RX5 54 "SaltRowModel$Row" "fromSea" "I", Cond.methodLink RX5 57 Lib.Math.min.name, Cond.fieldLink RX5 67 "SaltRowModel$Pond" "isCovered" "Z", Cond.fieldLink RX5 70 "SaltRowModel$Pond" "fresh" "I", Cond.static yX6_tideOf, Cond.code yX6_tideOf cX6_tideOf 1 (some .int), Cond.methodLink RX6 3 Lib.Math.abs.name, Cond.methodLink RX5 31 yX4_level, Cond.instanceMethod yX4_level]
def wsL_law0_r13 : List Cond := [Cond.selects RX4 yX4_level yX4_level, Cond.code yX4_level cX4_level 1 (some .int), Cond.fieldLink RX4 19 "SaltRowModel$Pond" "brine" "I", Cond.methodLink RX5 63 yX4_give, Cond.instanceMethod yX4_give, Cond.selects RX4 yX4_give yX4_give, Cond.code yX4_give cX4_give 6 none, Cond.fieldLink RX4 22 "SaltRowModel$Pond" "salt" "I", Cond.fieldLink RX4 25 "SaltRowModel$Pond" "gypsum" "I", Cond.fieldLink RX4 28 "SaltRowModel$Pond" "bitter" "I", Cond.static yX6_share, Cond.code yX6_share cX6_share 3 (some .int), Cond.methodLink RX5 73 yX4_dry, Cond.instanceMethod yX4_dry, Cond.selects RX4 yX4_dry yX4_dry, Cond.code yX4_dry cX4_dry 5 none, Cond.fieldLink RX4 31 "SaltRowModel$Pond" "fresh" "I", Cond.methodLink RX4 61 Lib.Math.min.name, Cond.methodLink RX4 64 yX4_strength, Cond.instanceMethod yX4_strength, Cond.selects RX4 yX4_strength yX4_strength, Cond.code yX4_strength cX4_strength 1 (some .int), Cond.constantLong RX4 47 (90), Cond.constantLong RX4 49 (5)]
def wsL_law0_r14 : List Cond := [Cond.methodLink RX4 51 Lib.MathLoose.min_long.x, Cond.static Lib.MathLoose.min_long.x, Cond.code Lib.MathLoose.min_long.x Lib.MathLoose.min_long.code 4 (some .long), Cond.methodLink RX5 77 yX4_mix, Cond.instanceMethod yX4_mix, Cond.selects RX4 yX4_mix yX4_mix, Cond.code yX4_mix cX4_mix 3 none, Cond.fieldLink RX4 34 "SaltRowModel$Pond" "crust" "I", Cond.methodLink RX5 80 yX4_fall, Cond.instanceMethod yX4_fall, Cond.selects RX4 yX4_fall yX4_fall, Cond.code yX4_fall cX4_fall 4 (some .int), Cond.constantLong RX4 68 (8), Cond.methodLink RX4 70 Lib.MathLoose.max_long.x, Cond.constantLong RX4 73 (300), Cond.constantLong RX4 75 (200), Cond.fieldLink RX4 37 "SaltRowModel$Pond" "dirt" "I", Cond.methodLink RL 113 yL_skim, Cond.static yL_skim, Cond.codeWith yL_skim cL_skim 4 (some .int) [(0, 9, 12, 13)], Cond.methodLink RL 30 yX3_skim, Cond.instanceMethod yX3_skim, Cond.selects RX3 yX3_skim yX3_skim, Cond.code yX3_skim cX3_skim 3 (some .int)]
def wsL_law0_r15 : List Cond := [Cond.fieldLink RX3 83 "SaltRow$Pond" "fresh" "I", Cond.fieldLink RX3 86 "SaltRow" "skimmed" "I", Cond.methodLink RL 116 yX6_skim, Cond.instanceMethod yX6_skim, Cond.selects RX6 yX6_skim yX6_skim, Cond.code yX6_skim cX6_skim 3 (some .int), Cond.fieldLink RX6 85 "SaltRowModel$Pond" "fresh" "I", Cond.fieldLink RX6 88 "SaltRowModel" "skimmed" "I", Cond.methodLink RL 117 yL_drain, Cond.static yL_drain, Cond.codeWith yL_drain cL_drain 4 (some .int) [(0, 9, 12, 13), (0, 9, 15, 17)], Cond.methodLink RL 34 yX3_drain, Cond.instanceMethod yX3_drain, Cond.selects RX3 yX3_drain yX3_drain, Cond.code yX3_drain cX3_drain 3 (some .int), Cond.fieldLink RX3 89 "SaltRow$Pond" "brine" "I", Cond.fieldLink RX3 100 "SaltRow" "lostSalt" "I", Cond.fieldLink RX3 103 "SaltRow$Pond" "salt" "I", Cond.methodLink RX3 94 yX3_tideAt, Cond.methodLink RX3 106 yX1_loseAllBrine, Cond.instanceMethod yX1_loseAllBrine, Cond.selects RX1 yX1_loseAllBrine yX1_loseAllBrine, Cond.code yX1_loseAllBrine cX1_loseAllBrine 1 none, Cond.methodLink RL 119 yX6_drain]
def wsL_law0_r16 : List Cond := [Cond.instanceMethod yX6_drain, Cond.selects RX6 yX6_drain yX6_drain, Cond.code yX6_drain cX6_drain 4 (some .int), Cond.fieldLink RX6 91 "SaltRowModel$Pond" "brine" "I", Cond.fieldLink RX6 97 "SaltRowModel" "lost" "I", Cond.fieldLink RX6 100 "SaltRowModel$Pond" "salt" "I", Cond.fieldLink RX6 103 "SaltRowModel$Pond" "gypsum" "I", Cond.fieldLink RX6 106 "SaltRowModel$Pond" "bitter" "I", Cond.methodLink RX6 94 yX6_tideOf, Cond.methodLink RL 120 yL_pump, Cond.static yL_pump, Cond.codeWith yL_pump cL_pump 6 (some .int) [(0, 12, 15, 13), (0, 12, 19, 15), (0, 12, 23, 17)], Cond.methodLink RL 37 yX3_pump, Cond.instanceMethod yX3_pump, Cond.selects RX3 yX3_pump yX3_pump, Cond.code yX3_pump cX3_pump 4 (some .int), Cond.fieldLink RX3 119 "SaltRow" "worksCoins" "I", Cond.methodLink RX3 115 yX1_giveBrine, Cond.methodLink RX3 122 yX3_roundedUp, Cond.methodLink RX3 126 yX1_strength, Cond.methodLink RL 123 yX6_pump, Cond.instanceMethod yX6_pump, Cond.selects RX6 yX6_pump yX6_pump, Cond.code yX6_pump cX6_pump 4 (some .int)]
def wsL_law0_r17 : List Cond := [Cond.fieldLink RX6 113 "SaltRowModel" "coins" "I", Cond.methodLink RX6 109 yX4_give, Cond.methodLink RX6 116 yX4_strength, Cond.methodLink RL 124 yL_family, Cond.static yL_family, Cond.codeWith yL_family cL_family 3 (some .int) [(0, 8, 11, 17)], Cond.methodLink RL 41 yX3_family, Cond.instanceMethod yX3_family, Cond.selects RX3 yX3_family yX3_family, Cond.code yX3_family cX3_family 1 (some .int), Cond.fieldLink RX3 129 "SaltRow" "familyCount" "I", Cond.methodLink RL 127 yX6_family, Cond.instanceMethod yX6_family, Cond.selects RX6 yX6_family yX6_family, Cond.code yX6_family cX6_family 1 (some .int), Cond.methodLink RX6 43 yJx4a65c_size_8abf5, Cond.instanceMethod yJx4a65c_size_8abf5, Cond.selects RJx4a65c yJx4a65c_size_8abf5 yJx4a65c_size_8abf5, Cond.code yJx4a65c_size_8abf5 cJx4a65c_size_8abf5 1 (some .int), Cond.fieldLink RJx4a65c 48 "java/util/ArrayList" "size" "I", Cond.methodLink RX6 119 yJx4a65c_add_9ea2d, Cond.instanceMethod yJx4a65c_add_9ea2d, Cond.selects RJx4a65c yJx4a65c_add_9ea2d yJx4a65c_add_9ea2d, Cond.code yJx4a65c_add_9ea2d cJx4a65c_add_9ea2d 2 (some .boolean)]
def wsL_law0_r18 : List Cond := [Cond.fieldLink RJx4a65c 63 "java/util/ArrayList" "modCount" "I", Cond.sameField "java/util/ArrayList" "java/util/AbstractList" "modCount" "I", Cond.methodLink RJx4a65c 131 yJx4a65c_add_72be8, Cond.instanceMethod yJx4a65c_add_72be8, Cond.selects RJx4a65c yJx4a65c_add_72be8 yJx4a65c_add_72be8, Cond.code yJx4a65c_add_72be8 cJx4a65c_add_72be8 4 none, Cond.methodLink RJx4a65c 129 yJx4a65c_grow_d5877, Cond.instanceMethod yJx4a65c_grow_d5877, Cond.selects RJx4a65c yJx4a65c_grow_d5877 yJx4a65c_grow_d5877, Cond.code yJx4a65c_grow_d5877 cJx4a65c_grow_d5877 1 (some (.array (.object "java/lang/Object"))), Cond.methodLink RJx4a65c 69 yJx4a65c_grow_92f84, Cond.instanceMethod yJx4a65c_grow_92f84, Cond.selects RJx4a65c yJx4a65c_grow_92f84 yJx4a65c_grow_92f84, Cond.code yJx4a65c_grow_92f84 cJx4a65c_grow_92f84 4 (some (.array (.object "java/lang/Object"))), Cond.methodLink RJx4a65c 79 Lib.Math.max.name, Cond.static Lib.Math.max.name, Cond.code Lib.Math.max.name Lib.Math.max.code 2 (some .int), Cond.classLink RJx4a65c 7 "java/lang/Object", Cond.methodLink RJx4a65c 73 yJ8_newLength_cabcc, Cond.static yJ8_newLength_cabcc, Cond.initialized RJ8, Cond.code yJ8_newLength_cabcc cJ8_newLength_cabcc 4 (some .int), Cond.methodLink RJ8 194 Lib.Math.max.name, Cond.constant RJ8 200 (2147483639)]
def wsL_law0_r19 : List Cond := [Cond.methodLink RJ8 201 yJ8_hugeLength_7cf53, Cond.static yJ8_hugeLength_7cf53, Cond.code yJ8_hugeLength_7cf53 cJ8_hugeLength_7cf53 3 (some .int), Cond.methodLink RJx4a65c 66 yJ7_copyOf_1904c, Cond.static yJ7_copyOf_1904c, Cond.initialized RJ7, Cond.code yJ7_copyOf_1904c cJ7_copyOf_1904c 2 (some (.array (.object "java/lang/Object"))), Cond.methodLink RJ7 86 ⟨"java/lang/Object", "getClass", "()Ljava/lang/Class;"⟩, Cond.selects "[Ljava/lang/Object;" ⟨"java/lang/Object", "getClass", "()Ljava/lang/Class;"⟩ ⟨"java/lang/Object", "getClass", "()Ljava/lang/Class;"⟩, Cond.instanceMethod ⟨"java/lang/Object", "getClass", "()Ljava/lang/Class;"⟩, Cond.native ⟨"java/lang/Object", "getClass", "()Ljava/lang/Class;"⟩, Cond.methodLink RJ7 300 yJ7_copyOf_6403c, Cond.static yJ7_copyOf_6403c, Cond.code yJ7_copyOf_6403c cJ7_copyOf_6403c 4 (some (.array (.object "java/lang/Object"))), Cond.classLink RJ7 110 "[Ljava/lang/Object;", Cond.classLink RJ7 2 "java/lang/Object", Cond.methodLink RJ7 304 Lib.Math.min.name, Cond.methodLink RJ7 150 arraycopyName, Cond.native arraycopyName, Cond.static arraycopyName, Cond.initialized "java/lang/System", Cond.methodLink RL 128 yL_right, Cond.static yL_right, Cond.codeWith yL_right cL_right 6 (some .int) [(0, 12, 15, 13), (0, 12, 19, 15), (0, 12, 23, 17)]]
def wsL_law0_r20 : List Cond := [Cond.methodLink RL 45 yX3_right, Cond.instanceMethod yX3_right, Cond.selects RX3 yX3_right yX3_right, Cond.code yX3_right cX3_right 5 (some .int), Cond.fieldLink RX3 139 "SaltRow$Family" "rights" "[I", Cond.methodLink RX3 134 yX3_needFamily, Cond.instanceMethod yX3_needFamily, Cond.selects RX3 yX3_needFamily yX3_needFamily, Cond.code yX3_needFamily cX3_needFamily 2 none, Cond.methodLink RX3 143 yX3_rightsIn, Cond.instanceMethod yX3_rightsIn, Cond.selects RX3 yX3_rightsIn yX3_rightsIn, Cond.code yX3_rightsIn cX3_rightsIn 4 (some .int), Cond.methodLink RL 130 yX6_right, Cond.instanceMethod yX6_right, Cond.selects RX6 yX6_right yX6_right, Cond.code yX6_right cX6_right 8 (some .int), Cond.classLink RX6 130 "[I", Cond.methodLink RX6 123 yX6_isNoFamily, Cond.instanceMethod yX6_isNoFamily, Cond.selects RX6 yX6_isNoFamily yX6_isNoFamily, Cond.code yX6_isNoFamily cX6_isNoFamily 2 (some .boolean), Cond.methodLink RX6 126 yJx4a65c_get_915e3, Cond.instanceMethod yJx4a65c_get_915e3]
def wsL_law0_r21 : List Cond := [Cond.selects RJx4a65c yJx4a65c_get_915e3 yJx4a65c_get_915e3, Cond.code yJx4a65c_get_915e3 cJx4a65c_get_915e3 2 (some (.object "java/lang/Object")), Cond.methodLink RJx4a65c 118 yJ15_checkIndex_7cf53, Cond.static yJ15_checkIndex_7cf53, Cond.initialized RJ15, Cond.code yJ15_checkIndex_7cf53 cJ15_checkIndex_7cf53 2 (some .int), Cond.methodLink RJ15 105 yJ3_checkIndex_8e157, Cond.static yJ3_checkIndex_8e157, Cond.initialized RJ3, Cond.code yJ3_checkIndex_8e157 cJ3_checkIndex_8e157 3 (some .int), Cond.methodLink RJx4a65c 123 yJx4a65c_elementData_915e3, Cond.instanceMethod yJx4a65c_elementData_915e3, Cond.selects RJx4a65c yJx4a65c_elementData_915e3 yJx4a65c_elementData_915e3, Cond.code yJx4a65c_elementData_915e3 cJx4a65c_elementData_915e3 2 (some (.object "java/lang/Object")), Cond.methodLink RX6 132 yJx4a65c_iterator_32c93, Cond.instanceMethod yJx4a65c_iterator_32c93, Cond.selects RJx4a65c yJx4a65c_iterator_32c93 yJx4a65c_iterator_32c93, Cond.code yJx4a65c_iterator_32c93 cJx4a65c_iterator_32c93 1 (some (.object "java/util/Iterator")), Cond.classLink RJx4a65c 267 RJx35411, Cond.instantiable RJx35411 4, Cond.initialized RJx35411, Cond.methodLink RJx4a65c 269 yJx35411_init_45d68, Cond.instanceMethod yJx35411_init_45d68, Cond.code yJx35411_init_45d68 cJx35411_init_45d68 2 none]
def wsL_law0_r22 : List Cond := [Cond.fieldLink RJx35411 1 "java/util/ArrayList$Itr" "this$0" "Ljava/util/ArrayList;", Cond.methodLink RJx35411 7 objectInit, Cond.fieldLink RJx35411 13 "java/util/ArrayList$Itr" "lastRet" "I", Cond.fieldLink RJx35411 17 "java/util/ArrayList" "modCount" "I", Cond.fieldLink RJx35411 22 "java/util/ArrayList$Itr" "expectedModCount" "I", Cond.methodLink RX6 136 ⟨"java/util/Iterator", "hasNext", "()Z"⟩, Cond.selects RJx35411 ⟨"java/util/Iterator", "hasNext", "()Z"⟩ yJx35411_hasNext_aae02, Cond.instanceMethod yJx35411_hasNext_aae02, Cond.code yJx35411_hasNext_aae02 cJx35411_hasNext_aae02 1 (some .boolean), Cond.fieldLink RJx35411 25 "java/util/ArrayList$Itr" "cursor" "I", Cond.methodLink RX6 142 ⟨"java/util/Iterator", "next", "()Ljava/lang/Object;"⟩, Cond.selects RJx35411 ⟨"java/util/Iterator", "next", "()Ljava/lang/Object;"⟩ yJx35411_next_0502b, Cond.instanceMethod yJx35411_next_0502b, Cond.code yJx35411_next_0502b cJx35411_next_0502b 3 (some (.object "java/lang/Object")), Cond.fieldLink RJx35411 37 "java/util/ArrayList" "elementData" "[Ljava/lang/Object;", Cond.methodLink RJx35411 31 yJx35411_checkForComodification_da8c8, Cond.instanceMethod yJx35411_checkForComodification_da8c8, Cond.selects RJx35411 yJx35411_checkForComodification_da8c8 yJx35411_checkForComodification_da8c8, Cond.code yJx35411_checkForComodification_da8c8 cJx35411_checkForComodification_da8c8 1 none, Cond.methodLink RL 131 yL_harvest, Cond.static yL_harvest, Cond.codeWith yL_harvest cL_harvest 5 (some .int) [(0, 10, 13, 13), (0, 10, 17, 17)], Cond.methodLink RL 48 yX3_harvest, Cond.instanceMethod yX3_harvest]
def wsL_law0_r23 : List Cond := [Cond.selects RX3 yX3_harvest yX3_harvest, Cond.code yX3_harvest cX3_harvest 7 (some .int), Cond.fieldLink RX3 164 "SaltRow$Pond" "crustSalt" "I", Cond.fieldLink RX3 167 "SaltRow$Pond" "crustDirt" "I", Cond.fieldLink RX3 170 "SaltRow$Pond" "wasHarvested" "Z", Cond.fieldLink RX3 173 "SaltRow" "crownSalt" "I", Cond.methodLink RX3 148 yX1_canBeHarvested, Cond.instanceMethod yX1_canBeHarvested, Cond.selects RX1 yX1_canBeHarvested yX1_canBeHarvested, Cond.code yX1_canBeHarvested cX1_canBeHarvested 1 (some .boolean), Cond.fieldLink RX1 55 "SaltRow$Pond" "wasHarvested" "Z", Cond.methodLink RX3 154 yX1_saltOfHarvest, Cond.instanceMethod yX1_saltOfHarvest, Cond.selects RX1 yX1_saltOfHarvest yX1_saltOfHarvest, Cond.code yX1_saltOfHarvest cX1_saltOfHarvest 2 (some .int), Cond.methodLink RX3 158 yX1_dirtOfCrustWith, Cond.instanceMethod yX1_dirtOfCrustWith, Cond.selects RX1 yX1_dirtOfCrustWith yX1_dirtOfCrustWith, Cond.code yX1_dirtOfCrustWith cX1_dirtOfCrustWith 2 (some .int), Cond.methodLink RX3 161 yX1_dirtOfFloor, Cond.instanceMethod yX1_dirtOfFloor, Cond.selects RX1 yX1_dirtOfFloor yX1_dirtOfFloor, Cond.code yX1_dirtOfFloor cX1_dirtOfFloor 2 (some .int), Cond.methodLink RX3 176 yX3_crownsPart]
def wsL_law0_r24 : List Cond := [Cond.static yX3_crownsPart, Cond.code yX3_crownsPart cX3_crownsPart 1 (some .int), Cond.methodLink RX3 179 yX3_shareOut, Cond.instanceMethod yX3_shareOut, Cond.selects RX3 yX3_shareOut yX3_shareOut, Cond.code yX3_shareOut cX3_shareOut 10 none, Cond.constantLong RX3 267 (12), Cond.fieldLink RX3 246 "SaltRow" "cloisterSalt" "I", Cond.fieldLink RX3 249 "SaltRow" "cloisterDirt" "I", Cond.methodLink RX3 214 yX3_portion, Cond.methodLink RX3 308 yX0_getSalt, Cond.instanceMethod yX0_getSalt, Cond.selects RX0 yX0_getSalt yX0_getSalt, Cond.code yX0_getSalt cX0_getSalt 3 none, Cond.fieldLink RX0 15 "SaltRow$Family" "salt" "I", Cond.fieldLink RX0 19 "SaltRow$Family" "dirt" "I", Cond.fieldLink RX0 29 "SaltRow$Family" "saltGot" "I", Cond.methodLink RL 133 yX6_harvest, Cond.instanceMethod yX6_harvest, Cond.selects RX6 yX6_harvest yX6_harvest, Cond.code yX6_harvest cX6_harvest 5 (some .int), Cond.fieldLink RX6 156 "SaltRowModel$Pond" "crust" "I", Cond.fieldLink RX6 163 "SaltRowModel$Pond" "dirt" "I", Cond.fieldLink RX6 166 "SaltRowModel$Pond" "harvested" "I"]
def wsL_law0_r25 : List Cond := [Cond.fieldLink RX6 176 "SaltRowModel" "crown" "I", Cond.methodLink RX6 169 yX6_canHarvest, Cond.instanceMethod yX6_canHarvest, Cond.selects RX6 yX6_canHarvest yX6_canHarvest, Cond.code yX6_canHarvest cX6_canHarvest 2 (some .boolean), Cond.methodLink RX6 172 yX6_harvestOf, Cond.instanceMethod yX6_harvestOf, Cond.selects RX6 yX6_harvestOf yX6_harvestOf, Cond.code yX6_harvestOf cX6_harvestOf 5 (some (.array .int)), Cond.methodLink RX6 159 Lib.Math.min.name, Cond.methodLink RX6 146 yX6_share, Cond.methodLink RX6 179 yX6_deal, Cond.instanceMethod yX6_deal, Cond.selects RX6 yX6_deal yX6_deal, Cond.code yX6_deal cX6_deal 10 none, Cond.fieldLink RX6 150 "SaltRowModel" "cloister" "I", Cond.fieldLink RX6 153 "SaltRowModel" "cloisterDirt" "I", Cond.methodLink RL 134 yL_flower, Cond.static yL_flower, Cond.codeWith yL_flower cL_flower 4 (some .int) [(0, 9, 12, 13), (0, 9, 15, 17)], Cond.methodLink RL 52 yX3_flower, Cond.instanceMethod yX3_flower, Cond.selects RX3 yX3_flower yX3_flower, Cond.code yX3_flower cX3_flower 4 (some .int)]
def wsL_law0_r26 : List Cond := [Cond.fieldLink RX3 182 "SaltRow$Row" "sun" "I", Cond.fieldLink RX3 185 "SaltRow$Row" "wind" "I", Cond.methodLink RX3 192 Lib.Math.min.name, Cond.methodLink RL 136 yX6_flower, Cond.instanceMethod yX6_flower, Cond.selects RX6 yX6_flower yX6_flower, Cond.code yX6_flower cX6_flower 4 (some .int), Cond.methodLink RL 137 yL_wash, Cond.static yL_wash, Cond.codeWith yL_wash cL_wash 4 (some .int) [(0, 9, 12, 13), (0, 9, 15, 17)], Cond.methodLink RL 55 yX3_wash, Cond.instanceMethod yX3_wash, Cond.selects RX3 yX3_wash yX3_wash, Cond.code yX3_wash cX3_wash 4 (some .int), Cond.fieldLink RX3 197 "SaltRow$Family" "salt" "I", Cond.fieldLink RX3 200 "SaltRow$Family" "dirt" "I", Cond.methodLink RX3 203 yX3_purity, Cond.static yX3_purity, Cond.code yX3_purity cX3_purity 2 (some .int), Cond.constantLong RX3 327 (100), Cond.methodLink RL 139 yX6_wash, Cond.instanceMethod yX6_wash, Cond.selects RX6 yX6_wash yX6_wash, Cond.code yX6_wash cX6_wash 4 (some .int)]
def wsL_law0_r27 : List Cond := [Cond.methodLink RX6 183 yX6_purity, Cond.static yX6_purity, Cond.code yX6_purity cX6_purity 2 (some .int), Cond.constantLong RX6 1 (100), Cond.methodLink RL 140 yL_sell, Cond.static yL_sell, Cond.codeWith yL_sell cL_sell 6 (some .int) [(0, 12, 15, 13), (0, 12, 19, 15), (0, 12, 23, 17)], Cond.methodLink RL 58 yX3_sell, Cond.instanceMethod yX3_sell, Cond.selects RX3 yX3_sell yX3_sell, Cond.code yX3_sell cX3_sell 8 (some .int), Cond.constantLong RX3 212 (10), Cond.methodLink RX3 218 yX0_sellSalt, Cond.instanceMethod yX0_sellSalt, Cond.selects RX0 yX0_sellSalt yX0_sellSalt, Cond.code yX0_sellSalt cX0_sellSalt 3 none, Cond.fieldLink RX0 32 "SaltRow$Family" "saltSold" "I", Cond.fieldLink RX0 26 "SaltRow$Family" "coins" "I", Cond.methodLink RL 142 yX6_sell, Cond.instanceMethod yX6_sell, Cond.selects RX6 yX6_sell yX6_sell, Cond.code yX6_sell cX6_sell 7 (some .int), Cond.constantLong RX6 186 (10), Cond.methodLink RL 143 yL_ofPond]
def wsL_law0_r28 : List Cond := [Cond.static yL_ofPond, Cond.codeWith yL_ofPond cL_ofPond 5 (some .int) [(0, 10, 13, 13), (0, 10, 17, 15)], Cond.methodLink RL 61 yX3_ofPond, Cond.instanceMethod yX3_ofPond, Cond.selects RX3 yX3_ofPond yX3_ofPond, Cond.code yX3_ofPond cX3_ofPond 3 (some .int), Cond.methodLink RX3 223 yX1_read, Cond.instanceMethod yX1_read, Cond.selects RX1 yX1_read yX1_read, Cond.code yX1_read cX1_read 2 (some .int), Cond.methodLink RX1 48 yX1_level, Cond.methodLink RL 145 yX6_ofPond, Cond.instanceMethod yX6_ofPond, Cond.selects RX6 yX6_ofPond yX6_ofPond, Cond.code yX6_ofPond cX6_ofPond 3 (some .int), Cond.methodLink RX6 195 yX6_toldOfPond, Cond.instanceMethod yX6_toldOfPond, Cond.selects RX6 yX6_toldOfPond yX6_toldOfPond, Cond.code yX6_toldOfPond cX6_toldOfPond 5 (some .int), Cond.methodLink RX6 188 yX4_level, Cond.methodLink RX6 191 yX6_one, Cond.static yX6_one, Cond.code yX6_one cX6_one 1 (some .int), Cond.methodLink RL 146 yL_ofFamily]
def wsL_law0_r29 : List Cond := [Cond.static yL_ofFamily, Cond.codeWith yL_ofFamily cL_ofFamily 5 (some .int) [(0, 10, 13, 13), (0, 10, 17, 15)], Cond.methodLink RL 64 yX3_ofFamily, Cond.instanceMethod yX3_ofFamily, Cond.selects RX3 yX3_ofFamily yX3_ofFamily, Cond.code yX3_ofFamily cX3_ofFamily 3 (some .int), Cond.methodLink RX3 228 yX0_read, Cond.instanceMethod yX0_read, Cond.selects RX0 yX0_read yX0_read, Cond.code yX0_read cX0_read 2 (some .int), Cond.methodLink RL 148 yX6_ofFamily, Cond.instanceMethod yX6_ofFamily, Cond.selects RX6 yX6_ofFamily yX6_ofFamily, Cond.code yX6_ofFamily cX6_ofFamily 3 (some .int), Cond.methodLink RX6 198 yX6_toldOfFamily, Cond.static yX6_toldOfFamily, Cond.code yX6_toldOfFamily cX6_toldOfFamily 3 (some .int), Cond.methodLink RL 149 yL_rightOf, Cond.static yL_rightOf, Cond.codeWith yL_rightOf cL_rightOf 5 (some .int) [(0, 10, 13, 13)], Cond.methodLink RL 67 yX3_rightOf, Cond.instanceMethod yX3_rightOf, Cond.selects RX3 yX3_rightOf yX3_rightOf, Cond.code yX3_rightOf cX3_rightOf 3 (some .int)]
def wsL_law0_r30 : List Cond := [Cond.methodLink RL 151 yX6_rightOf, Cond.instanceMethod yX6_rightOf, Cond.selects RX6 yX6_rightOf yX6_rightOf, Cond.code yX6_rightOf cX6_rightOf 3 (some .int), Cond.methodLink RL 152 yL_tide, Cond.static yL_tide, Cond.codeWith yL_tide cL_tide 4 (some .int) [(0, 9, 12, 15)], Cond.methodLink RL 70 yX3_tide, Cond.instanceMethod yX3_tide, Cond.selects RX3 yX3_tide yX3_tide, Cond.code yX3_tide cX3_tide 2 (some .int), Cond.methodLink RL 154 yX6_tide, Cond.instanceMethod yX6_tide, Cond.selects RX6 yX6_tide yX6_tide, Cond.code yX6_tide cX6_tide 2 (some .int), Cond.methodLink RL 155 yL_many, Cond.static yL_many, Cond.codeWith yL_many cL_many 4 (some .int) [(0, 9, 12, 15)], Cond.methodLink RL 73 yX3_many, Cond.instanceMethod yX3_many, Cond.selects RX3 yX3_many yX3_many, Cond.code yX3_many cX3_many 2 (some .int), Cond.fieldLink RX3 237 "SaltRow$Row" "seaSalt" "I", Cond.methodLink RX3 231 yX2_openGates]
def wsL_law0_r31 : List Cond := [Cond.instanceMethod yX2_openGates, Cond.selects RX2 yX2_openGates yX2_openGates, Cond.code yX2_openGates cX2_openGates 3 (some .int), Cond.methodLink RX3 234 yX2_coveredPans, Cond.instanceMethod yX2_coveredPans, Cond.selects RX2 yX2_coveredPans yX2_coveredPans, Cond.code yX2_coveredPans cX2_coveredPans 3 (some .int), Cond.fieldLink RX2 92 "SaltRow$Pond" "isCovered" "Z", Cond.methodLink RX3 240 yX2_sumOfPonds, Cond.instanceMethod yX2_sumOfPonds, Cond.selects RX2 yX2_sumOfPonds yX2_sumOfPonds, Cond.code yX2_sumOfPonds cX2_sumOfPonds 4 (some .int), Cond.methodLink RX2 104 yX1_read, Cond.methodLink RX3 243 yX3_sumOfFamilies, Cond.instanceMethod yX3_sumOfFamilies, Cond.selects RX3 yX3_sumOfFamilies yX3_sumOfFamilies, Cond.code yX3_sumOfFamilies cX3_sumOfFamilies 4 (some .int), Cond.methodLink RL 157 yX6_many, Cond.instanceMethod yX6_many, Cond.selects RX6 yX6_many yX6_many, Cond.code yX6_many cX6_many 2 (some .int), Cond.methodLink RX6 205 yX6_count, Cond.instanceMethod yX6_count, Cond.selects RX6 yX6_count yX6_count]
def wsL_law0_r32 : List Cond := [Cond.code yX6_count cX6_count 9 (some .int), Cond.fieldLink RX6 202 "SaltRowModel$Row" "fromSea" "I", Cond.methodLink RL 158 yX3_meanStrength, Cond.instanceMethod yX3_meanStrength, Cond.selects RX3 yX3_meanStrength yX3_meanStrength, Cond.code yX3_meanStrength cX3_meanStrength 4 (some .double), Cond.methodLink RL 162 yX6_meanStrength, Cond.instanceMethod yX6_meanStrength, Cond.selects RX6 yX6_meanStrength yX6_meanStrength, Cond.code yX6_meanStrength cX6_meanStrength 7 (some .double), Cond.methodLink RL 163 yL_crustIn, Cond.static yL_crustIn, Cond.codeWith yL_crustIn cL_crustIn 6 (some .int) [(0, 12, 15, 13), (0, 12, 19, 15)], Cond.methodLink RL 76 yX3_crustIn, Cond.instanceMethod yX3_crustIn, Cond.selects RX3 yX3_crustIn yX3_crustIn, Cond.code yX3_crustIn cX3_crustIn 5 (some .int), Cond.fieldLink RX3 258 "SaltRow$Pond" "saltFallen" "I", Cond.methodLink RX3 254 yX2_copyFrom, Cond.instanceMethod yX2_copyFrom, Cond.selects RX2 yX2_copyFrom yX2_copyFrom, Cond.code yX2_copyFrom cX2_copyFrom 3 none, Cond.methodLink RX2 31 yX1_copyFrom, Cond.instanceMethod yX1_copyFrom]
def wsL_law0_r33 : List Cond := [Cond.selects RX1 yX1_copyFrom yX1_copyFrom, Cond.code yX1_copyFrom cX1_copyFrom 2 none, Cond.fieldLink RX1 62 "SaltRow$Pond" "isOpen" "Z", Cond.methodLink RL 165 yX6_crustIn, Cond.instanceMethod yX6_crustIn, Cond.selects RX6 yX6_crustIn yX6_crustIn, Cond.code yX6_crustIn cX6_crustIn 4 (some .int), Cond.methodLink RX6 212 yX6_crustBehind, Cond.instanceMethod yX6_crustBehind, Cond.selects RX6 yX6_crustBehind yX6_crustBehind, Cond.code yX6_crustBehind cX6_crustBehind 6 (some .int), Cond.methodLink RX6 208 yX5_copy, Cond.instanceMethod yX5_copy, Cond.selects RX5 yX5_copy yX5_copy, Cond.code yX5_copy cX5_copy 3 (some (.object "SaltRowModel$Row")), Cond.classLink RX5 12 RX5, Cond.methodLink RX5 18 yX5_init, Cond.methodLink RX5 19 yX4_copy, Cond.instanceMethod yX4_copy, Cond.selects RX4 yX4_copy yX4_copy, Cond.code yX4_copy cX4_copy 2 (some (.object "SaltRowModel$Pond")), Cond.classLink RX4 10 RX4, Cond.fieldLink RX4 40 "SaltRowModel$Pond" "isOpen" "Z", Cond.fieldLink RX4 44 "SaltRowModel$Pond" "isCovered" "Z"]
def wsL_law0_r34 : List Cond := [Cond.methodLink RX4 18 yX4_init, Cond.methodLink RL 166 yL_bestGates, Cond.static yL_bestGates, Cond.codeWith yL_bestGates cL_bestGates 6 (some .int) [(0, 12, 15, 15)], Cond.methodLink RL 79 yX3_bestGates, Cond.instanceMethod yX3_bestGates, Cond.selects RX3 yX3_bestGates yX3_bestGates, Cond.code yX3_bestGates cX3_bestGates 8 (some .int), Cond.methodLink RX3 263 yX3_saltInPansWith, Cond.instanceMethod yX3_saltInPansWith, Cond.selects RX3 yX3_saltInPansWith yX3_saltInPansWith, Cond.code yX3_saltInPansWith cX3_saltInPansWith 6 (some .int), Cond.methodLink RX3 302 yX2_setGates, Cond.instanceMethod yX2_setGates, Cond.selects RX2 yX2_setGates yX2_setGates, Cond.code yX2_setGates cX2_setGates 3 none, Cond.methodLink RX3 305 yX2_saltInPans, Cond.instanceMethod yX2_saltInPans, Cond.selects RX2 yX2_saltInPans yX2_saltInPans, Cond.code yX2_saltInPans cX2_saltInPans 3 (some .int), Cond.fieldLink RX2 98 "SaltRow$Pond" "salt" "I", Cond.fieldLink RX2 101 "SaltRow$Pond" "crustSalt" "I", Cond.methodLink RL 168 yX6_bestGates, Cond.instanceMethod yX6_bestGates]
def wsL_law0_r35 : List Cond := [Cond.selects RX6 yX6_bestGates yX6_bestGates, Cond.code yX6_bestGates cX6_bestGates 4 (some .int), Cond.methodLink RX6 219 yX6_best, Cond.instanceMethod yX6_best, Cond.selects RX6 yX6_best yX6_best, Cond.code yX6_best cX6_best 8 (some .int), Cond.methodLink RX6 215 yX6_saltWith, Cond.instanceMethod yX6_saltWith, Cond.selects RX6 yX6_saltWith yX6_saltWith, Cond.code yX6_saltWith cX6_saltWith 8 (some .int), Cond.methodLink RL 169 yL_wouldBe, Cond.static yL_wouldBe, Cond.codeWith yL_wouldBe cL_wouldBe 6 (some .int) [(0, 12, 15, 13)], Cond.methodLink RL 82 yX3_wouldBe, Cond.instanceMethod yX3_wouldBe, Cond.selects RX3 yX3_wouldBe yX3_wouldBe, Cond.code yX3_wouldBe cX3_wouldBe 9 (some .int), Cond.methodLink RL 172 yX6_wouldBe, Cond.instanceMethod yX6_wouldBe, Cond.selects RX6 yX6_wouldBe yX6_wouldBe, Cond.code yX6_wouldBe cX6_wouldBe 7 (some .int), Cond.methodLink RL 173 yL_tideOn, Cond.static yL_tideOn, Cond.codeWith yL_tideOn cL_tideOn 5 (some .int) [(0, 10, 13, 15)]]
def wsL_law0_r36 : List Cond := [Cond.methodLink RL 86 yX3_tideOn, Cond.instanceMethod yX3_tideOn, Cond.selects RX3 yX3_tideOn yX3_tideOn, Cond.code yX3_tideOn cX3_tideOn 5 (some .int), Cond.methodLink RL 175 yX6_tideOn, Cond.instanceMethod yX6_tideOn, Cond.selects RX6 yX6_tideOn yX6_tideOn, Cond.code yX6_tideOn cX6_tideOn 3 (some .int), Cond.methodLink RX6 222 yX6_tideFrom, Cond.instanceMethod yX6_tideFrom, Cond.selects RX6 yX6_tideFrom yX6_tideFrom, Cond.code yX6_tideFrom cX6_tideFrom 4 (some .int), Cond.methodLink RL 176 yX3_digest, Cond.instanceMethod yX3_digest, Cond.selects RX3 yX3_digest yX3_digest, Cond.code yX3_digest cX3_digest 5 (some .long), Cond.constantLong RX3 271 (7804), Cond.constantLong RX3 273 (31), Cond.methodLink RX3 275 yX3_many, Cond.methodLink RX3 278 yX3_ofPond, Cond.methodLink RX3 281 yX3_digestOfFamily, Cond.instanceMethod yX3_digestOfFamily, Cond.selects RX3 yX3_digestOfFamily yX3_digestOfFamily, Cond.code yX3_digestOfFamily cX3_digestOfFamily 7 (some .long)]
def wsL_law0_r37 : List Cond := [Cond.methodLink RX3 296 yX3_ofFamily, Cond.methodLink RX3 299 yX3_rightOf, Cond.methodLink RX3 285 yX3_crustIn, Cond.methodLink RX3 289 yX3_bestGates, Cond.methodLink RX3 292 yX3_tideOn, Cond.methodLink RL 180 yX6_digest, Cond.instanceMethod yX6_digest, Cond.selects RX6 yX6_digest yX6_digest, Cond.code yX6_digest cX6_digest 6 (some .long), Cond.constantLong RX6 228 (7804), Cond.methodLink RX6 230 yX6_add, Cond.static yX6_add, Cond.code yX6_add cX6_add 4 (some .long), Cond.constantLong RX6 226 (31)]
def wsL_law0 : List Cond := (wsL_law0_r1 ++ (wsL_law0_r2 ++ (wsL_law0_r3 ++ (wsL_law0_r4 ++ (wsL_law0_r5 ++ (wsL_law0_r6 ++ (wsL_law0_r7 ++ (wsL_law0_r8 ++ (wsL_law0_r9 ++ (wsL_law0_r10 ++ (wsL_law0_r11 ++ (wsL_law0_r12 ++ (wsL_law0_r13 ++ (wsL_law0_r14 ++ (wsL_law0_r15 ++ (wsL_law0_r16 ++ (wsL_law0_r17 ++ (wsL_law0_r18 ++ (wsL_law0_r19 ++ (wsL_law0_r20 ++ (wsL_law0_r21 ++ (wsL_law0_r22 ++ (wsL_law0_r23 ++ (wsL_law0_r24 ++ (wsL_law0_r25 ++ (wsL_law0_r26 ++ (wsL_law0_r27 ++ (wsL_law0_r28 ++ (wsL_law0_r29 ++ (wsL_law0_r30 ++ (wsL_law0_r31 ++ (wsL_law0_r32 ++ (wsL_law0_r33 ++ (wsL_law0_r34 ++ (wsL_law0_r35 ++ (wsL_law0_r36 ++ wsL_law0_r37)))))))))))))))))))))))))))))))))))) ++ wsX30 ++ wsX60 ++ wsX20 ++ wsX00 ++ wsX10 ++ wsX50 ++ wsJx4a65c0 ++ wsX40 ++ wsJx354110 ++ ([] : List Cond)
def wsL_law : List Cond := wsL_law0 ++ (vx_atS RX3 34 "java/lang/IllegalArgumentException" ["java/lang/RuntimeException", "java/lang/Exception"]).filter goodWord ++ (vx_atS RX3 45 "java/lang/IllegalStateException" ["java/lang/RuntimeException", "java/lang/Exception"]).filter goodWord ++ (vx_atS RX3 315 "java/lang/IndexOutOfBoundsException" ["java/lang/RuntimeException", "java/lang/Exception"]).filter goodWord
set_option maxRecDepth 20000 in
theorem wsL_law_in0 : ∀ w ∈ wsL_law0, w ∈ lw_tbl := fun w h => (goodIn_p wsL_law0 [53, 56, 61, 68, 150, 706, 712, 719, 791, 794, 797, 489, 340, 857, 860, 863, 867, 871, 853, 513, 875, 520, 380, 879, 882, 527, 389, 403, 407, 410, 413, 250, 217, 418, 422, 220, 429, 434, 438, 213, 441, 445, 449, 453, 456, 534, 886, 890, 893, 898, 903, 906, 910, 915, 920, 924, 928, 541, 936, 548, 554, 940, 561, 945, 573, 951, 955, 959, 963, 967, 971, 977, 974, 981, 984, 1003, 581, 370, 586, 1016, 1020, 1024, 1027, 1030, 1034, 1039, 1044, 1068, 1077, 1081, 594, 598, 603, 607, 611, 614, 618, 623, 1085, 1089, 1093, 1099, 630, 1103, 640, 262, 1107, 1110, 649, 657, 1115, 336, 246, 1120, 1124, 1128, 366, 259, 1132, 1135, 376, 1139, 677, 1143, 230, 234, 238, 242, 255, 1147, 1151, 209, 1155, 385, 395, 399, 1159, 1163, 1167, 1173, 460, 465, 469, 473, 1179, 1183, 1187, 697, 1191, 477, 1195, 1199, 224, 362, 1203, 1207] (by decide +kernel) (by decide +kernel) w h).1
theorem wsL_law_x0 : ∀ w ∈ (vx_atS RX3 34 "java/lang/IllegalArgumentException" ["java/lang/RuntimeException", "java/lang/Exception"]).filter goodWord, w ∈ lw_tbl := by decide +kernel
theorem wsL_law_x1 : ∀ w ∈ (vx_atS RX3 45 "java/lang/IllegalStateException" ["java/lang/RuntimeException", "java/lang/Exception"]).filter goodWord, w ∈ lw_tbl := by decide +kernel
theorem wsL_law_x2 : ∀ w ∈ (vx_atS RX3 315 "java/lang/IndexOutOfBoundsException" ["java/lang/RuntimeException", "java/lang/Exception"]).filter goodWord, w ∈ lw_tbl := by decide +kernel
theorem wsL_law_in : ∀ w ∈ wsL_law, w ∈ lw_tbl := fun w h => (List.mem_append.mp h).elim (fun h => (List.mem_append.mp h).elim (fun h => (List.mem_append.mp h).elim (fun h => wsL_law_in0 w h) (fun h => wsL_law_x0 w h)) (fun h => wsL_law_x1 w h)) (fun h => wsL_law_x2 w h)
theorem inlX0 : ∀ w ∈ wsX00, w ∈ wsL_law := fun _ h => List.mem_append_left _ (List.mem_append_left _ (List.mem_append_left _ (List.mem_append_left _ (List.mem_append_left _ (List.mem_append_left _ (List.mem_append_left _ (List.mem_append_left _ (List.mem_append_left _ (List.mem_append_right _ h)))))))))
theorem inX0 : ∀ w ∈ wsX00, w ∈ lw_tbl := fun w h => wsL_law_in w (inlX0 w h)
theorem inlX1 : ∀ w ∈ wsX10, w ∈ wsL_law := fun _ h => List.mem_append_left _ (List.mem_append_left _ (List.mem_append_left _ (List.mem_append_left _ (List.mem_append_left _ (List.mem_append_left _ (List.mem_append_left _ (List.mem_append_left _ (List.mem_append_right _ h))))))))
theorem inX1 : ∀ w ∈ wsX10, w ∈ lw_tbl := fun w h => wsL_law_in w (inlX1 w h)
theorem inlX2 : ∀ w ∈ wsX20, w ∈ wsL_law := fun _ h => List.mem_append_left _ (List.mem_append_left _ (List.mem_append_left _ (List.mem_append_left _ (List.mem_append_left _ (List.mem_append_left _ (List.mem_append_left _ (List.mem_append_left _ (List.mem_append_left _ (List.mem_append_left _ (List.mem_append_right _ h))))))))))
theorem inX2 : ∀ w ∈ wsX20, w ∈ lw_tbl := fun w h => wsL_law_in w (inlX2 w h)
theorem inlX3 : ∀ w ∈ wsX30, w ∈ wsL_law := fun _ h => List.mem_append_left _ (List.mem_append_left _ (List.mem_append_left _ (List.mem_append_left _ (List.mem_append_left _ (List.mem_append_left _ (List.mem_append_left _ (List.mem_append_left _ (List.mem_append_left _ (List.mem_append_left _ (List.mem_append_left _ (List.mem_append_left _ (List.mem_append_right _ h))))))))))))
theorem inX3 : ∀ w ∈ wsX30, w ∈ lw_tbl := fun w h => wsL_law_in w (inlX3 w h)
theorem inlX4 : ∀ w ∈ wsX40, w ∈ wsL_law := fun _ h => List.mem_append_left _ (List.mem_append_left _ (List.mem_append_left _ (List.mem_append_left _ (List.mem_append_left _ (List.mem_append_right _ h)))))
theorem inX4 : ∀ w ∈ wsX40, w ∈ lw_tbl := fun w h => wsL_law_in w (inlX4 w h)
theorem inlX5 : ∀ w ∈ wsX50, w ∈ wsL_law := fun _ h => List.mem_append_left _ (List.mem_append_left _ (List.mem_append_left _ (List.mem_append_left _ (List.mem_append_left _ (List.mem_append_left _ (List.mem_append_left _ (List.mem_append_right _ h)))))))
theorem inX5 : ∀ w ∈ wsX50, w ∈ lw_tbl := fun w h => wsL_law_in w (inlX5 w h)
theorem inlX6 : ∀ w ∈ wsX60, w ∈ wsL_law := fun _ h => List.mem_append_left _ (List.mem_append_left _ (List.mem_append_left _ (List.mem_append_left _ (List.mem_append_left _ (List.mem_append_left _ (List.mem_append_left _ (List.mem_append_left _ (List.mem_append_left _ (List.mem_append_left _ (List.mem_append_left _ (List.mem_append_right _ h)))))))))))
theorem inX6 : ∀ w ∈ wsX60, w ∈ lw_tbl := fun w h => wsL_law_in w (inlX6 w h)
theorem inJx145de : ∀ w ∈ wsJx145de0, w ∈ lw_tbl := by decide +kernel
theorem inJx8e188 : ∀ w ∈ wsJx8e1880, w ∈ lw_tbl := by decide +kernel
theorem inJxab1ab : ∀ w ∈ wsJxab1ab0, w ∈ lw_tbl := by decide +kernel
theorem inJ9 : ∀ w ∈ wsJ90, w ∈ lw_tbl := by decide +kernel
theorem inJ0 : ∀ w ∈ wsJ00, w ∈ lw_tbl := by decide +kernel
theorem inJ10 : ∀ w ∈ wsJ100, w ∈ lw_tbl := by decide +kernel
theorem inJxa1e45 : ∀ w ∈ wsJxa1e450, w ∈ lw_tbl := by decide +kernel
theorem inJxc12de : ∀ w ∈ wsJxc12de0, w ∈ lw_tbl := by decide +kernel
theorem inlJx35411 : ∀ w ∈ wsJx354110, w ∈ wsL_law := fun _ h => List.mem_append_left _ (List.mem_append_left _ (List.mem_append_left _ (List.mem_append_left _ (List.mem_append_right _ h))))
theorem inJx35411 : ∀ w ∈ wsJx354110, w ∈ lw_tbl := fun w h => wsL_law_in w (inlJx35411 w h)
theorem inlJx4a65c : ∀ w ∈ wsJx4a65c0, w ∈ wsL_law := fun _ h => List.mem_append_left _ (List.mem_append_left _ (List.mem_append_left _ (List.mem_append_left _ (List.mem_append_left _ (List.mem_append_left _ (List.mem_append_right _ h))))))
theorem inJx4a65c : ∀ w ∈ wsJx4a65c0, w ∈ lw_tbl := fun w h => wsL_law_in w (inlJx4a65c w h)
theorem inJ7 : ∀ w ∈ wsJ70, w ∈ lw_tbl := by decide +kernel
theorem inJx5ef63 : ∀ w ∈ wsJx5ef630, w ∈ lw_tbl := by decide +kernel
theorem inJx4d0d8 : ∀ w ∈ wsJx4d0d80, w ∈ lw_tbl := by decide +kernel
theorem inJxbd725 : ∀ w ∈ wsJxbd7250, w ∈ lw_tbl := by decide +kernel
theorem inJ15 : ∀ w ∈ wsJ150, w ∈ lw_tbl := by decide +kernel
theorem inJxf0a74 : ∀ w ∈ wsJxf0a740, w ∈ lw_tbl := by decide +kernel
theorem inJxa66e6 : ∀ w ∈ wsJxa66e60, w ∈ lw_tbl := by decide +kernel
theorem inJ8 : ∀ w ∈ wsJ80, w ∈ lw_tbl := by decide +kernel
theorem inJ3 : ∀ w ∈ wsJ30, w ∈ lw_tbl := by decide +kernel
set_option maxRecDepth 20000 in
theorem ggL_area_X3_area : GoodIn wsL_area wsX3_area := goodIn_ca (goodIn_ca (goodIn_ca (goodIn_r _ [8, 9, 10, 11, 12, 13, 14, 15, 16, 17, 18, 19, 7, 20, 21, 22, 23, 24, 25, 26, 27, 28, 29, 30, 31, 32, 33, 34, 35, 36, 37, 38, 39, 40, 41, 42, 43, 44, 45, 46, 47, 48, 49] (by decide +kernel) (by decide +kernel)) (goodIn_sub (fun _ h => List.mem_cons_of_mem _ (List.mem_append_left _ (List.mem_append_left _ (List.mem_append_right _ h)))) (by decide +kernel))) (goodIn_sub (fun _ h => List.mem_cons_of_mem _ (List.mem_append_left _ (List.mem_append_right _ h))) (by decide +kernel))) (goodIn_sub (fun _ h => List.mem_cons_of_mem _ (List.mem_append_right _ h)) (by decide +kernel))
set_option maxRecDepth 20000 in
theorem gL_area_X3_area : GoodIn wsL_area (wsV RL 7 RX3 yX3_area wsX3_area) := goodIn_app (goodIn_of _ (by decide +kernel)) ggL_area_X3_area
theorem dL_area_0 : decode cL_area 0 = .ok (.aload_n 3, 1) := by decide +kernel
theorem dL_area_1 : decode cL_area 1 = .ok (.iconst 0, 1) := by decide +kernel
theorem dL_area_2 : decode cL_area 2 = .ok (.aload_n 0, 1) := by decide +kernel
theorem dL_area_3 : decode cL_area 3 = .ok (.iload_n 1, 1) := by decide +kernel
theorem dL_area_4 : decode cL_area 4 = .ok (.iload_n 2, 1) := by decide +kernel
theorem dL_area_5 : decode cL_area 5 = .ok (.invokevirtual 7, 3) := by decide +kernel
theorem dL_area_8 : decode cL_area 8 = .ok (.i2l, 1) := by decide +kernel
theorem dL_area_9 : decode cL_area 9 = .ok (.lastore, 1) := by decide +kernel
theorem dL_area_10 : decode cL_area 10 = .ok (.goto 15, 3) := by decide +kernel
theorem dL_area_13 : decode cL_area 13 = .ok (.astore 4, 2) := by decide +kernel
theorem dL_area_15 : decode cL_area 15 = .ok (.iconst 1, 1) := by decide +kernel
theorem dL_area_16 : decode cL_area 16 = .ok (.ireturn, 1) := by decide +kernel
theorem dL_area_17 : decode cL_area 17 = .ok (.astore 4, 2) := by decide +kernel
theorem dL_area_19 : decode cL_area 19 = .ok (.iconst 2, 1) := by decide +kernel
theorem dL_area_20 : decode cL_area 20 = .ok (.ireturn, 1) := by decide +kernel
theorem dL_area_21 : decode cL_area 21 = .ok (.astore 4, 2) := by decide +kernel
theorem dL_area_23 : decode cL_area 23 = .ok (.iconst 3, 1) := by decide +kernel
theorem dL_area_24 : decode cL_area 24 = .ok (.ireturn, 1) := by decide +kernel
theorem dL_area_25 : decode cL_area 25 = .ok (.iconst 0, 1) := by decide +kernel
theorem dL_area_26 : decode cL_area 26 = .ok (.ireturn, 1) := by decide +kernel
set_option maxRecDepth 20000 in
theorem ggL_gate_X3_gate : GoodIn wsL_gate wsX3_gate := goodIn_ca (goodIn_r _ [6, 7, 8, 9, 10, 11, 12, 5, 13, 14, 15, 16, 17, 18, 19, 20, 21, 22, 23, 24, 25, 26, 27, 28, 29, 30, 31, 32, 33, 34, 35, 36, 37, 38, 39, 40, 41, 42] (by decide +kernel) (by decide +kernel)) (goodIn_sub (fun _ h => List.mem_cons_of_mem _ (List.mem_append_right _ h)) (by decide +kernel))
set_option maxRecDepth 20000 in
theorem gL_gate_X3_gate : GoodIn wsL_gate (wsV RL 19 RX3 yX3_gate wsX3_gate) := goodIn_app (goodIn_of _ (by decide +kernel)) ggL_gate_X3_gate
theorem dL_gate_0 : decode cL_gate 0 = .ok (.aload_n 3, 1) := by decide +kernel
theorem dL_gate_1 : decode cL_gate 1 = .ok (.iconst 0, 1) := by decide +kernel
theorem dL_gate_2 : decode cL_gate 2 = .ok (.aload_n 0, 1) := by decide +kernel
theorem dL_gate_3 : decode cL_gate 3 = .ok (.iload_n 1, 1) := by decide +kernel
theorem dL_gate_4 : decode cL_gate 4 = .ok (.iload_n 2, 1) := by decide +kernel
theorem dL_gate_5 : decode cL_gate 5 = .ok (.invokevirtual 19, 3) := by decide +kernel
theorem dL_gate_8 : decode cL_gate 8 = .ok (.ifCond .eq 7, 3) := by decide +kernel
theorem dL_gate_11 : decode cL_gate 11 = .ok (.lconst 1, 1) := by decide +kernel
theorem dL_gate_12 : decode cL_gate 12 = .ok (.goto 4, 3) := by decide +kernel
theorem dL_gate_15 : decode cL_gate 15 = .ok (.lconst 0, 1) := by decide +kernel
theorem dL_gate_16 : decode cL_gate 16 = .ok (.lastore, 1) := by decide +kernel
theorem dL_gate_17 : decode cL_gate 17 = .ok (.goto 7, 3) := by decide +kernel
theorem dL_gate_20 : decode cL_gate 20 = .ok (.astore 4, 2) := by decide +kernel
theorem dL_gate_22 : decode cL_gate 22 = .ok (.iconst 1, 1) := by decide +kernel
theorem dL_gate_23 : decode cL_gate 23 = .ok (.ireturn, 1) := by decide +kernel
theorem dL_gate_24 : decode cL_gate 24 = .ok (.iconst 0, 1) := by decide +kernel
theorem dL_gate_25 : decode cL_gate 25 = .ok (.ireturn, 1) := by decide +kernel
set_option maxRecDepth 20000 in
theorem ggL_cover_X3_cover : GoodIn wsL_cover wsX3_cover := goodIn_ca (goodIn_r _ [6, 7, 8, 9, 10, 11, 12, 5, 13, 14, 15, 16, 17, 18, 19, 20, 21, 22, 23, 24, 25, 26, 27, 28, 29, 30, 31, 32, 33, 34, 35, 36, 37, 38, 39, 40, 41, 42] (by decide +kernel) (by decide +kernel)) (goodIn_sub (fun _ h => List.mem_cons_of_mem _ (List.mem_append_right _ h)) (by decide +kernel))
set_option maxRecDepth 20000 in
theorem gL_cover_X3_cover : GoodIn wsL_cover (wsV RL 23 RX3 yX3_cover wsX3_cover) := goodIn_app (goodIn_of _ (by decide +kernel)) ggL_cover_X3_cover
theorem dL_cover_0 : decode cL_cover 0 = .ok (.aload_n 3, 1) := by decide +kernel
theorem dL_cover_1 : decode cL_cover 1 = .ok (.iconst 0, 1) := by decide +kernel
theorem dL_cover_2 : decode cL_cover 2 = .ok (.aload_n 0, 1) := by decide +kernel
theorem dL_cover_3 : decode cL_cover 3 = .ok (.iload_n 1, 1) := by decide +kernel
theorem dL_cover_4 : decode cL_cover 4 = .ok (.iload_n 2, 1) := by decide +kernel
theorem dL_cover_5 : decode cL_cover 5 = .ok (.invokevirtual 23, 3) := by decide +kernel
theorem dL_cover_8 : decode cL_cover 8 = .ok (.ifCond .eq 7, 3) := by decide +kernel
theorem dL_cover_11 : decode cL_cover 11 = .ok (.lconst 1, 1) := by decide +kernel
theorem dL_cover_12 : decode cL_cover 12 = .ok (.goto 4, 3) := by decide +kernel
theorem dL_cover_15 : decode cL_cover 15 = .ok (.lconst 0, 1) := by decide +kernel
theorem dL_cover_16 : decode cL_cover 16 = .ok (.lastore, 1) := by decide +kernel
theorem dL_cover_17 : decode cL_cover 17 = .ok (.goto 7, 3) := by decide +kernel
theorem dL_cover_20 : decode cL_cover 20 = .ok (.astore 4, 2) := by decide +kernel
theorem dL_cover_22 : decode cL_cover 22 = .ok (.iconst 1, 1) := by decide +kernel
theorem dL_cover_23 : decode cL_cover 23 = .ok (.ireturn, 1) := by decide +kernel
theorem dL_cover_24 : decode cL_cover 24 = .ok (.iconst 0, 1) := by decide +kernel
theorem dL_cover_25 : decode cL_cover 25 = .ok (.ireturn, 1) := by decide +kernel
set_option maxRecDepth 20000 in
theorem ggL_pass_X3_pass : GoodIn wsL_pass wsX3_pass := goodIn_ca (goodIn_ca (goodIn_r _ [7, 8, 9, 10, 11, 12, 13, 14, 15, 16, 6, 17, 18, 19, 20, 21, 22, 23, 24, 25, 26, 27, 28, 29, 30, 31, 32, 33, 34, 35, 36, 37, 38, 39, 40, 41, 42, 43, 44, 45, 46, 47, 48, 49, 50, 51, 52, 53, 54, 55, 56, 57, 58, 59, 60, 61, 62, 63, 64, 65, 66, 67, 68, 69, 70, 71, 72, 73, 74, 75, 76, 77, 78, 79, 80, 81, 82, 83, 84, 85, 86, 87, 88, 89, 90, 91, 92, 93, 94, 95, 96, 97, 98, 99, 100, 101, 102, 103, 104, 105, 106, 107, 108, 109, 110, 111, 112, 113, 114, 115, 116, 117, 118, 119, 120, 121, 122, 123, 124, 125, 126, 127, 128, 129, 130, 131, 132, 133, 134, 135, 136, 137] (by decide +kernel) (by decide +kernel)) (goodIn_sub (fun _ h => List.mem_cons_of_mem _ (List.mem_append_left _ (List.mem_append_right _ h))) (by decide +kernel))) (goodIn_sub (fun _ h => List.mem_cons_of_mem _ (List.mem_append_right _ h)) (by decide +kernel))
set_option maxRecDepth 20000 in
theorem gL_pass_X3_pass : GoodIn wsL_pass (wsV RL 26 RX3 yX3_pass wsX3_pass) := goodIn_app (goodIn_of _ (by decide +kernel)) ggL_pass_X3_pass
theorem dL_pass_0 : decode cL_pass 0 = .ok (.aload 5, 2) := by decide +kernel
theorem dL_pass_2 : decode cL_pass 2 = .ok (.iconst 0, 1) := by decide +kernel
theorem dL_pass_3 : decode cL_pass 3 = .ok (.aload_n 0, 1) := by decide +kernel
theorem dL_pass_4 : decode cL_pass 4 = .ok (.iload_n 1, 1) := by decide +kernel
theorem dL_pass_5 : decode cL_pass 5 = .ok (.iload_n 2, 1) := by decide +kernel
theorem dL_pass_6 : decode cL_pass 6 = .ok (.iload_n 3, 1) := by decide +kernel
theorem dL_pass_7 : decode cL_pass 7 = .ok (.iload 4, 2) := by decide +kernel
theorem dL_pass_9 : decode cL_pass 9 = .ok (.invokevirtual 26, 3) := by decide +kernel
theorem dL_pass_12 : decode cL_pass 12 = .ok (.i2l, 1) := by decide +kernel
theorem dL_pass_13 : decode cL_pass 13 = .ok (.lastore, 1) := by decide +kernel
theorem dL_pass_14 : decode cL_pass 14 = .ok (.goto 11, 3) := by decide +kernel
theorem dL_pass_17 : decode cL_pass 17 = .ok (.astore 6, 2) := by decide +kernel
theorem dL_pass_19 : decode cL_pass 19 = .ok (.iconst 1, 1) := by decide +kernel
theorem dL_pass_20 : decode cL_pass 20 = .ok (.ireturn, 1) := by decide +kernel
theorem dL_pass_21 : decode cL_pass 21 = .ok (.astore 6, 2) := by decide +kernel
theorem dL_pass_23 : decode cL_pass 23 = .ok (.iconst 2, 1) := by decide +kernel
theorem dL_pass_24 : decode cL_pass 24 = .ok (.ireturn, 1) := by decide +kernel
theorem dL_pass_25 : decode cL_pass 25 = .ok (.iconst 0, 1) := by decide +kernel
theorem dL_pass_26 : decode cL_pass 26 = .ok (.ireturn, 1) := by decide +kernel
set_option maxRecDepth 20000 in
theorem ggL_skim_X3_skim : GoodIn wsL_skim wsX3_skim := goodIn_ca (goodIn_r _ [6, 7, 8, 9, 10, 11, 12, 13, 5, 14, 15, 16, 17, 18, 19, 20, 21, 22, 23, 24, 25, 26, 27, 28, 29, 30, 31, 32, 33, 34, 35, 36, 37, 38, 39, 40, 41, 42, 43] (by decide +kernel) (by decide +kernel)) (goodIn_sub (fun _ h => List.mem_cons_of_mem _ (List.mem_append_right _ h)) (by decide +kernel))
set_option maxRecDepth 20000 in
theorem gL_skim_X3_skim : GoodIn wsL_skim (wsV RL 30 RX3 yX3_skim wsX3_skim) := goodIn_app (goodIn_of _ (by decide +kernel)) ggL_skim_X3_skim
theorem dL_skim_0 : decode cL_skim 0 = .ok (.aload_n 2, 1) := by decide +kernel
theorem dL_skim_1 : decode cL_skim 1 = .ok (.iconst 0, 1) := by decide +kernel
theorem dL_skim_2 : decode cL_skim 2 = .ok (.aload_n 0, 1) := by decide +kernel
theorem dL_skim_3 : decode cL_skim 3 = .ok (.iload_n 1, 1) := by decide +kernel
theorem dL_skim_4 : decode cL_skim 4 = .ok (.invokevirtual 30, 3) := by decide +kernel
theorem dL_skim_7 : decode cL_skim 7 = .ok (.i2l, 1) := by decide +kernel
theorem dL_skim_8 : decode cL_skim 8 = .ok (.lastore, 1) := by decide +kernel
theorem dL_skim_9 : decode cL_skim 9 = .ok (.goto 6, 3) := by decide +kernel
theorem dL_skim_12 : decode cL_skim 12 = .ok (.astore_n 3, 1) := by decide +kernel
theorem dL_skim_13 : decode cL_skim 13 = .ok (.iconst 1, 1) := by decide +kernel
theorem dL_skim_14 : decode cL_skim 14 = .ok (.ireturn, 1) := by decide +kernel
theorem dL_skim_15 : decode cL_skim 15 = .ok (.iconst 0, 1) := by decide +kernel
theorem dL_skim_16 : decode cL_skim 16 = .ok (.ireturn, 1) := by decide +kernel
set_option maxRecDepth 20000 in
theorem ggL_drain_X3_drain : GoodIn wsL_drain wsX3_drain := goodIn_ca (goodIn_ca (goodIn_r _ [7, 8, 9, 10, 11, 12, 13, 14, 15, 16, 17, 18, 6, 19, 20, 21, 22, 23, 24, 25, 26, 27, 28, 29, 30, 31, 32, 33, 34, 35, 36, 37, 38, 39, 40, 41, 42, 43, 44, 45, 46, 47, 48, 49, 50, 51, 52, 53, 54, 55, 56, 57, 58, 59, 60, 61, 62, 63, 64] (by decide +kernel) (by decide +kernel)) (goodIn_sub (fun _ h => List.mem_cons_of_mem _ (List.mem_append_left _ (List.mem_append_right _ h))) (by decide +kernel))) (goodIn_sub (fun _ h => List.mem_cons_of_mem _ (List.mem_append_right _ h)) (by decide +kernel))
set_option maxRecDepth 20000 in
theorem gL_drain_X3_drain : GoodIn wsL_drain (wsV RL 34 RX3 yX3_drain wsX3_drain) := goodIn_app (goodIn_of _ (by decide +kernel)) ggL_drain_X3_drain
theorem dL_drain_0 : decode cL_drain 0 = .ok (.aload_n 2, 1) := by decide +kernel
theorem dL_drain_1 : decode cL_drain 1 = .ok (.iconst 0, 1) := by decide +kernel
theorem dL_drain_2 : decode cL_drain 2 = .ok (.aload_n 0, 1) := by decide +kernel
theorem dL_drain_3 : decode cL_drain 3 = .ok (.iload_n 1, 1) := by decide +kernel
theorem dL_drain_4 : decode cL_drain 4 = .ok (.invokevirtual 34, 3) := by decide +kernel
theorem dL_drain_7 : decode cL_drain 7 = .ok (.i2l, 1) := by decide +kernel
theorem dL_drain_8 : decode cL_drain 8 = .ok (.lastore, 1) := by decide +kernel
theorem dL_drain_9 : decode cL_drain 9 = .ok (.goto 9, 3) := by decide +kernel
theorem dL_drain_12 : decode cL_drain 12 = .ok (.astore_n 3, 1) := by decide +kernel
theorem dL_drain_13 : decode cL_drain 13 = .ok (.iconst 1, 1) := by decide +kernel
theorem dL_drain_14 : decode cL_drain 14 = .ok (.ireturn, 1) := by decide +kernel
theorem dL_drain_15 : decode cL_drain 15 = .ok (.astore_n 3, 1) := by decide +kernel
theorem dL_drain_16 : decode cL_drain 16 = .ok (.iconst 2, 1) := by decide +kernel
theorem dL_drain_17 : decode cL_drain 17 = .ok (.ireturn, 1) := by decide +kernel
theorem dL_drain_18 : decode cL_drain 18 = .ok (.iconst 0, 1) := by decide +kernel
theorem dL_drain_19 : decode cL_drain 19 = .ok (.ireturn, 1) := by decide +kernel
set_option maxRecDepth 20000 in
theorem ggL_pump_X3_pump : GoodIn wsL_pump wsX3_pump := goodIn_ca (goodIn_ca (goodIn_ca (goodIn_r _ [8, 9, 10, 11, 12, 13, 14, 15, 16, 17, 18, 19, 7, 20, 21, 22, 23, 24, 25, 26, 27, 28, 29, 30, 31, 32, 33, 34, 35, 36, 37, 38, 39, 40, 41, 42, 43, 44, 45, 46, 47, 48, 49, 50, 51, 52, 53, 54, 55, 56, 57, 58, 59, 60, 61, 62, 63, 64, 65, 66, 67, 68, 69, 70, 71, 72, 73, 74, 75, 76] (by decide +kernel) (by decide +kernel)) (goodIn_sub (fun _ h => List.mem_cons_of_mem _ (List.mem_append_left _ (List.mem_append_left _ (List.mem_append_right _ h)))) (by decide +kernel))) (goodIn_sub (fun _ h => List.mem_cons_of_mem _ (List.mem_append_left _ (List.mem_append_right _ h))) (by decide +kernel))) (goodIn_sub (fun _ h => List.mem_cons_of_mem _ (List.mem_append_right _ h)) (by decide +kernel))
set_option maxRecDepth 20000 in
theorem gL_pump_X3_pump : GoodIn wsL_pump (wsV RL 37 RX3 yX3_pump wsX3_pump) := goodIn_app (goodIn_of _ (by decide +kernel)) ggL_pump_X3_pump
theorem dL_pump_0 : decode cL_pump 0 = .ok (.aload 4, 2) := by decide +kernel
theorem dL_pump_2 : decode cL_pump 2 = .ok (.iconst 0, 1) := by decide +kernel
theorem dL_pump_3 : decode cL_pump 3 = .ok (.aload_n 0, 1) := by decide +kernel
theorem dL_pump_4 : decode cL_pump 4 = .ok (.iload_n 1, 1) := by decide +kernel
theorem dL_pump_5 : decode cL_pump 5 = .ok (.iload_n 2, 1) := by decide +kernel
theorem dL_pump_6 : decode cL_pump 6 = .ok (.iload_n 3, 1) := by decide +kernel
theorem dL_pump_7 : decode cL_pump 7 = .ok (.invokevirtual 37, 3) := by decide +kernel
theorem dL_pump_10 : decode cL_pump 10 = .ok (.i2l, 1) := by decide +kernel
theorem dL_pump_11 : decode cL_pump 11 = .ok (.lastore, 1) := by decide +kernel
theorem dL_pump_12 : decode cL_pump 12 = .ok (.goto 15, 3) := by decide +kernel
theorem dL_pump_15 : decode cL_pump 15 = .ok (.astore 5, 2) := by decide +kernel
theorem dL_pump_17 : decode cL_pump 17 = .ok (.iconst 1, 1) := by decide +kernel
theorem dL_pump_18 : decode cL_pump 18 = .ok (.ireturn, 1) := by decide +kernel
theorem dL_pump_19 : decode cL_pump 19 = .ok (.astore 5, 2) := by decide +kernel
theorem dL_pump_21 : decode cL_pump 21 = .ok (.iconst 2, 1) := by decide +kernel
theorem dL_pump_22 : decode cL_pump 22 = .ok (.ireturn, 1) := by decide +kernel
theorem dL_pump_23 : decode cL_pump 23 = .ok (.astore 5, 2) := by decide +kernel
theorem dL_pump_25 : decode cL_pump 25 = .ok (.iconst 3, 1) := by decide +kernel
theorem dL_pump_26 : decode cL_pump 26 = .ok (.ireturn, 1) := by decide +kernel
theorem dL_pump_27 : decode cL_pump 27 = .ok (.iconst 0, 1) := by decide +kernel
theorem dL_pump_28 : decode cL_pump 28 = .ok (.ireturn, 1) := by decide +kernel
set_option maxRecDepth 20000 in
theorem ggL_family_X3_family : GoodIn wsL_family wsX3_family := goodIn_ca (goodIn_r _ [6, 7, 8, 9, 10, 11, 12, 13, 14, 15, 16, 17, 18, 19] (by decide +kernel) (by decide +kernel)) (goodIn_sub (fun _ h => List.mem_cons_of_mem _ (List.mem_append_right _ h)) (by decide +kernel))
set_option maxRecDepth 20000 in
theorem gL_family_X3_family : GoodIn wsL_family (wsV RL 41 RX3 yX3_family wsX3_family) := goodIn_app (goodIn_of _ (by decide +kernel)) ggL_family_X3_family
theorem dL_family_0 : decode cL_family 0 = .ok (.aload_n 1, 1) := by decide +kernel
theorem dL_family_1 : decode cL_family 1 = .ok (.iconst 0, 1) := by decide +kernel
theorem dL_family_2 : decode cL_family 2 = .ok (.aload_n 0, 1) := by decide +kernel
theorem dL_family_3 : decode cL_family 3 = .ok (.invokevirtual 41, 3) := by decide +kernel
theorem dL_family_6 : decode cL_family 6 = .ok (.i2l, 1) := by decide +kernel
theorem dL_family_7 : decode cL_family 7 = .ok (.lastore, 1) := by decide +kernel
theorem dL_family_8 : decode cL_family 8 = .ok (.goto 6, 3) := by decide +kernel
theorem dL_family_11 : decode cL_family 11 = .ok (.astore_n 2, 1) := by decide +kernel
theorem dL_family_12 : decode cL_family 12 = .ok (.iconst 1, 1) := by decide +kernel
theorem dL_family_13 : decode cL_family 13 = .ok (.ireturn, 1) := by decide +kernel
theorem dL_family_14 : decode cL_family 14 = .ok (.iconst 0, 1) := by decide +kernel
theorem dL_family_15 : decode cL_family 15 = .ok (.ireturn, 1) := by decide +kernel
set_option maxRecDepth 20000 in
theorem ggL_right_X3_right : GoodIn wsL_right wsX3_right := goodIn_ca (goodIn_ca (goodIn_ca (goodIn_r _ [8, 9, 10, 11, 12, 13, 14, 15, 16, 17, 7, 18, 19, 20, 21, 22, 23, 24, 25, 26, 27, 28, 29, 30, 31, 32, 33, 34, 35, 36, 37, 38, 39, 40, 41, 42, 43, 44, 45] (by decide +kernel) (by decide +kernel)) (goodIn_sub (fun _ h => List.mem_cons_of_mem _ (List.mem_append_left _ (List.mem_append_left _ (List.mem_append_right _ h)))) (by decide +kernel))) (goodIn_sub (fun _ h => List.mem_cons_of_mem _ (List.mem_append_left _ (List.mem_append_right _ h))) (by decide +kernel))) (goodIn_sub (fun _ h => List.mem_cons_of_mem _ (List.mem_append_right _ h)) (by decide +kernel))
set_option maxRecDepth 20000 in
theorem gL_right_X3_right : GoodIn wsL_right (wsV RL 45 RX3 yX3_right wsX3_right) := goodIn_app (goodIn_of _ (by decide +kernel)) ggL_right_X3_right
theorem dL_right_0 : decode cL_right 0 = .ok (.aload 4, 2) := by decide +kernel
theorem dL_right_2 : decode cL_right 2 = .ok (.iconst 0, 1) := by decide +kernel
theorem dL_right_3 : decode cL_right 3 = .ok (.aload_n 0, 1) := by decide +kernel
theorem dL_right_4 : decode cL_right 4 = .ok (.iload_n 1, 1) := by decide +kernel
theorem dL_right_5 : decode cL_right 5 = .ok (.iload_n 2, 1) := by decide +kernel
theorem dL_right_6 : decode cL_right 6 = .ok (.iload_n 3, 1) := by decide +kernel
theorem dL_right_7 : decode cL_right 7 = .ok (.invokevirtual 45, 3) := by decide +kernel
theorem dL_right_10 : decode cL_right 10 = .ok (.i2l, 1) := by decide +kernel
theorem dL_right_11 : decode cL_right 11 = .ok (.lastore, 1) := by decide +kernel
theorem dL_right_12 : decode cL_right 12 = .ok (.goto 15, 3) := by decide +kernel
theorem dL_right_15 : decode cL_right 15 = .ok (.astore 5, 2) := by decide +kernel
theorem dL_right_17 : decode cL_right 17 = .ok (.iconst 1, 1) := by decide +kernel
theorem dL_right_18 : decode cL_right 18 = .ok (.ireturn, 1) := by decide +kernel
theorem dL_right_19 : decode cL_right 19 = .ok (.astore 5, 2) := by decide +kernel
theorem dL_right_21 : decode cL_right 21 = .ok (.iconst 2, 1) := by decide +kernel
theorem dL_right_22 : decode cL_right 22 = .ok (.ireturn, 1) := by decide +kernel
theorem dL_right_23 : decode cL_right 23 = .ok (.astore 5, 2) := by decide +kernel
theorem dL_right_25 : decode cL_right 25 = .ok (.iconst 3, 1) := by decide +kernel
theorem dL_right_26 : decode cL_right 26 = .ok (.ireturn, 1) := by decide +kernel
theorem dL_right_27 : decode cL_right 27 = .ok (.iconst 0, 1) := by decide +kernel
theorem dL_right_28 : decode cL_right 28 = .ok (.ireturn, 1) := by decide +kernel
set_option maxRecDepth 20000 in
theorem ggL_harvest_X3_harvest : GoodIn wsL_harvest wsX3_harvest := goodIn_ca (goodIn_ca (goodIn_r _ [7, 8, 9, 10, 11, 12, 13, 14, 15, 16, 17, 18, 6, 19, 20, 21, 22, 23, 24, 25, 26, 27, 28, 29, 30, 31, 32, 33, 34, 35, 36, 37, 38, 39, 40, 41, 42, 43, 44, 45, 46, 47, 48, 49, 50, 51, 52, 53, 54, 55, 56, 57, 58, 59, 60, 61, 62, 63, 64, 65, 66, 67, 68, 69, 70, 71, 72, 73, 74, 75, 76, 77, 78, 79, 80, 81, 82, 83, 84, 85, 86, 87, 88, 89, 90, 91, 92, 93, 94, 95, 96, 97, 98, 99, 100, 101, 102, 103] (by decide +kernel) (by decide +kernel)) (goodIn_sub (fun _ h => List.mem_cons_of_mem _ (List.mem_append_left _ (List.mem_append_right _ h))) (by decide +kernel))) (goodIn_sub (fun _ h => List.mem_cons_of_mem _ (List.mem_append_right _ h)) (by decide +kernel))
set_option maxRecDepth 20000 in
theorem gL_harvest_X3_harvest : GoodIn wsL_harvest (wsV RL 48 RX3 yX3_harvest wsX3_harvest) := goodIn_app (goodIn_of _ (by decide +kernel)) ggL_harvest_X3_harvest
theorem dL_harvest_0 : decode cL_harvest 0 = .ok (.aload_n 3, 1) := by decide +kernel
theorem dL_harvest_1 : decode cL_harvest 1 = .ok (.iconst 0, 1) := by decide +kernel
theorem dL_harvest_2 : decode cL_harvest 2 = .ok (.aload_n 0, 1) := by decide +kernel
theorem dL_harvest_3 : decode cL_harvest 3 = .ok (.iload_n 1, 1) := by decide +kernel
theorem dL_harvest_4 : decode cL_harvest 4 = .ok (.iload_n 2, 1) := by decide +kernel
theorem dL_harvest_5 : decode cL_harvest 5 = .ok (.invokevirtual 48, 3) := by decide +kernel
theorem dL_harvest_8 : decode cL_harvest 8 = .ok (.i2l, 1) := by decide +kernel
theorem dL_harvest_9 : decode cL_harvest 9 = .ok (.lastore, 1) := by decide +kernel
theorem dL_harvest_10 : decode cL_harvest 10 = .ok (.goto 11, 3) := by decide +kernel
theorem dL_harvest_13 : decode cL_harvest 13 = .ok (.astore 4, 2) := by decide +kernel
theorem dL_harvest_15 : decode cL_harvest 15 = .ok (.iconst 1, 1) := by decide +kernel
theorem dL_harvest_16 : decode cL_harvest 16 = .ok (.ireturn, 1) := by decide +kernel
theorem dL_harvest_17 : decode cL_harvest 17 = .ok (.astore 4, 2) := by decide +kernel
theorem dL_harvest_19 : decode cL_harvest 19 = .ok (.iconst 2, 1) := by decide +kernel
theorem dL_harvest_20 : decode cL_harvest 20 = .ok (.ireturn, 1) := by decide +kernel
theorem dL_harvest_21 : decode cL_harvest 21 = .ok (.iconst 0, 1) := by decide +kernel
theorem dL_harvest_22 : decode cL_harvest 22 = .ok (.ireturn, 1) := by decide +kernel
set_option maxRecDepth 20000 in
theorem ggL_flower_X3_flower : GoodIn wsL_flower wsX3_flower := goodIn_ca (goodIn_ca (goodIn_r _ [7, 8, 9, 10, 11, 12, 13, 14, 15, 16, 17, 18, 19, 20, 21, 22, 23, 6, 24, 25, 26, 27, 28, 29, 30, 31, 32, 33, 34, 35, 36, 37, 38, 39, 40, 41, 42, 43, 44, 45, 46, 47, 48, 49, 50, 51, 52, 53, 54, 55, 56, 57, 58, 59, 60, 61, 62, 63, 64, 65, 66, 67, 68, 69, 70, 71, 72, 73, 74, 75, 76, 77, 78, 79, 80, 81, 82, 83, 84, 85, 86, 87, 88, 89, 90] (by decide +kernel) (by decide +kernel)) (goodIn_sub (fun _ h => List.mem_cons_of_mem _ (List.mem_append_left _ (List.mem_append_right _ h))) (by decide +kernel))) (goodIn_sub (fun _ h => List.mem_cons_of_mem _ (List.mem_append_right _ h)) (by decide +kernel))
set_option maxRecDepth 20000 in
theorem gL_flower_X3_flower : GoodIn wsL_flower (wsV RL 52 RX3 yX3_flower wsX3_flower) := goodIn_app (goodIn_of _ (by decide +kernel)) ggL_flower_X3_flower
theorem dL_flower_0 : decode cL_flower 0 = .ok (.aload_n 2, 1) := by decide +kernel
theorem dL_flower_1 : decode cL_flower 1 = .ok (.iconst 0, 1) := by decide +kernel
theorem dL_flower_2 : decode cL_flower 2 = .ok (.aload_n 0, 1) := by decide +kernel
theorem dL_flower_3 : decode cL_flower 3 = .ok (.iload_n 1, 1) := by decide +kernel
theorem dL_flower_4 : decode cL_flower 4 = .ok (.invokevirtual 52, 3) := by decide +kernel
theorem dL_flower_7 : decode cL_flower 7 = .ok (.i2l, 1) := by decide +kernel
theorem dL_flower_8 : decode cL_flower 8 = .ok (.lastore, 1) := by decide +kernel
theorem dL_flower_9 : decode cL_flower 9 = .ok (.goto 9, 3) := by decide +kernel
theorem dL_flower_12 : decode cL_flower 12 = .ok (.astore_n 3, 1) := by decide +kernel
theorem dL_flower_13 : decode cL_flower 13 = .ok (.iconst 1, 1) := by decide +kernel
theorem dL_flower_14 : decode cL_flower 14 = .ok (.ireturn, 1) := by decide +kernel
theorem dL_flower_15 : decode cL_flower 15 = .ok (.astore_n 3, 1) := by decide +kernel
theorem dL_flower_16 : decode cL_flower 16 = .ok (.iconst 2, 1) := by decide +kernel
theorem dL_flower_17 : decode cL_flower 17 = .ok (.ireturn, 1) := by decide +kernel
theorem dL_flower_18 : decode cL_flower 18 = .ok (.iconst 0, 1) := by decide +kernel
theorem dL_flower_19 : decode cL_flower 19 = .ok (.ireturn, 1) := by decide +kernel
set_option maxRecDepth 20000 in
theorem ggL_wash_X3_wash : GoodIn wsL_wash wsX3_wash := goodIn_ca (goodIn_ca (goodIn_r _ [7, 8, 9, 10, 11, 12, 13, 14, 15, 16, 6, 17, 18, 19, 20, 21, 22, 23, 24, 25, 26, 27, 28, 29, 30, 31, 32, 33, 34, 35, 36, 37, 38, 39, 40, 41, 42, 43, 44, 45, 46] (by decide +kernel) (by decide +kernel)) (goodIn_sub (fun _ h => List.mem_cons_of_mem _ (List.mem_append_left _ (List.mem_append_right _ h))) (by decide +kernel))) (goodIn_sub (fun _ h => List.mem_cons_of_mem _ (List.mem_append_right _ h)) (by decide +kernel))
set_option maxRecDepth 20000 in
theorem gL_wash_X3_wash : GoodIn wsL_wash (wsV RL 55 RX3 yX3_wash wsX3_wash) := goodIn_app (goodIn_of _ (by decide +kernel)) ggL_wash_X3_wash
theorem dL_wash_0 : decode cL_wash 0 = .ok (.aload_n 2, 1) := by decide +kernel
theorem dL_wash_1 : decode cL_wash 1 = .ok (.iconst 0, 1) := by decide +kernel
theorem dL_wash_2 : decode cL_wash 2 = .ok (.aload_n 0, 1) := by decide +kernel
theorem dL_wash_3 : decode cL_wash 3 = .ok (.iload_n 1, 1) := by decide +kernel
theorem dL_wash_4 : decode cL_wash 4 = .ok (.invokevirtual 55, 3) := by decide +kernel
theorem dL_wash_7 : decode cL_wash 7 = .ok (.i2l, 1) := by decide +kernel
theorem dL_wash_8 : decode cL_wash 8 = .ok (.lastore, 1) := by decide +kernel
theorem dL_wash_9 : decode cL_wash 9 = .ok (.goto 9, 3) := by decide +kernel
theorem dL_wash_12 : decode cL_wash 12 = .ok (.astore_n 3, 1) := by decide +kernel
theorem dL_wash_13 : decode cL_wash 13 = .ok (.iconst 1, 1) := by decide +kernel
theorem dL_wash_14 : decode cL_wash 14 = .ok (.ireturn, 1) := by decide +kernel
theorem dL_wash_15 : decode cL_wash 15 = .ok (.astore_n 3, 1) := by decide +kernel
theorem dL_wash_16 : decode cL_wash 16 = .ok (.iconst 2, 1) := by decide +kernel
theorem dL_wash_17 : decode cL_wash 17 = .ok (.ireturn, 1) := by decide +kernel
theorem dL_wash_18 : decode cL_wash 18 = .ok (.iconst 0, 1) := by decide +kernel
theorem dL_wash_19 : decode cL_wash 19 = .ok (.ireturn, 1) := by decide +kernel
set_option maxRecDepth 20000 in
theorem ggL_sell_X3_sell : GoodIn wsL_sell wsX3_sell := goodIn_ca (goodIn_ca (goodIn_ca (goodIn_r _ [8, 9, 10, 11, 12, 13, 14, 15, 16, 17, 18, 19, 7, 20, 21, 22, 23, 24, 25, 26, 27, 28, 29, 30, 31, 32, 33, 34, 35, 36, 37, 38, 39, 40, 41, 42, 43, 44, 45, 46, 47, 48, 49, 50, 51, 52, 53, 54, 55] (by decide +kernel) (by decide +kernel)) (goodIn_sub (fun _ h => List.mem_cons_of_mem _ (List.mem_append_left _ (List.mem_append_left _ (List.mem_append_right _ h)))) (by decide +kernel))) (goodIn_sub (fun _ h => List.mem_cons_of_mem _ (List.mem_append_left _ (List.mem_append_right _ h))) (by decide +kernel))) (goodIn_sub (fun _ h => List.mem_cons_of_mem _ (List.mem_append_right _ h)) (by decide +kernel))
set_option maxRecDepth 20000 in
theorem gL_sell_X3_sell : GoodIn wsL_sell (wsV RL 58 RX3 yX3_sell wsX3_sell) := goodIn_app (goodIn_of _ (by decide +kernel)) ggL_sell_X3_sell
theorem dL_sell_0 : decode cL_sell 0 = .ok (.aload 4, 2) := by decide +kernel
theorem dL_sell_2 : decode cL_sell 2 = .ok (.iconst 0, 1) := by decide +kernel
theorem dL_sell_3 : decode cL_sell 3 = .ok (.aload_n 0, 1) := by decide +kernel
theorem dL_sell_4 : decode cL_sell 4 = .ok (.iload_n 1, 1) := by decide +kernel
theorem dL_sell_5 : decode cL_sell 5 = .ok (.iload_n 2, 1) := by decide +kernel
theorem dL_sell_6 : decode cL_sell 6 = .ok (.iload_n 3, 1) := by decide +kernel
theorem dL_sell_7 : decode cL_sell 7 = .ok (.invokevirtual 58, 3) := by decide +kernel
theorem dL_sell_10 : decode cL_sell 10 = .ok (.i2l, 1) := by decide +kernel
theorem dL_sell_11 : decode cL_sell 11 = .ok (.lastore, 1) := by decide +kernel
theorem dL_sell_12 : decode cL_sell 12 = .ok (.goto 15, 3) := by decide +kernel
theorem dL_sell_15 : decode cL_sell 15 = .ok (.astore 5, 2) := by decide +kernel
theorem dL_sell_17 : decode cL_sell 17 = .ok (.iconst 1, 1) := by decide +kernel
theorem dL_sell_18 : decode cL_sell 18 = .ok (.ireturn, 1) := by decide +kernel
theorem dL_sell_19 : decode cL_sell 19 = .ok (.astore 5, 2) := by decide +kernel
theorem dL_sell_21 : decode cL_sell 21 = .ok (.iconst 2, 1) := by decide +kernel
theorem dL_sell_22 : decode cL_sell 22 = .ok (.ireturn, 1) := by decide +kernel
theorem dL_sell_23 : decode cL_sell 23 = .ok (.astore 5, 2) := by decide +kernel
theorem dL_sell_25 : decode cL_sell 25 = .ok (.iconst 3, 1) := by decide +kernel
theorem dL_sell_26 : decode cL_sell 26 = .ok (.ireturn, 1) := by decide +kernel
theorem dL_sell_27 : decode cL_sell 27 = .ok (.iconst 0, 1) := by decide +kernel
theorem dL_sell_28 : decode cL_sell 28 = .ok (.ireturn, 1) := by decide +kernel
set_option maxRecDepth 20000 in
theorem ggL_ofPond_X3_ofPond : GoodIn wsL_ofPond wsX3_ofPond := goodIn_ca (goodIn_ca (goodIn_r _ [7, 8, 9, 10, 11, 12, 13, 14, 6, 15, 16, 17, 18, 19, 20, 21, 22, 23, 24, 25, 26, 27, 28, 29, 30, 31, 32, 33, 34, 35, 36, 37, 38, 39, 40, 41, 42, 43, 44, 45, 46, 47, 48, 49, 50, 51, 52, 53, 54, 55, 56, 57, 58, 59, 60, 61, 62, 63, 64, 65, 66, 67, 68, 69, 70, 71, 72, 73] (by decide +kernel) (by decide +kernel)) (goodIn_sub (fun _ h => List.mem_cons_of_mem _ (List.mem_append_left _ (List.mem_append_right _ h))) (by decide +kernel))) (goodIn_sub (fun _ h => List.mem_cons_of_mem _ (List.mem_append_right _ h)) (by decide +kernel))
set_option maxRecDepth 20000 in
theorem gL_ofPond_X3_ofPond : GoodIn wsL_ofPond (wsV RL 61 RX3 yX3_ofPond wsX3_ofPond) := goodIn_app (goodIn_of _ (by decide +kernel)) ggL_ofPond_X3_ofPond
theorem dL_ofPond_0 : decode cL_ofPond 0 = .ok (.aload_n 3, 1) := by decide +kernel
theorem dL_ofPond_1 : decode cL_ofPond 1 = .ok (.iconst 0, 1) := by decide +kernel
theorem dL_ofPond_2 : decode cL_ofPond 2 = .ok (.aload_n 0, 1) := by decide +kernel
theorem dL_ofPond_3 : decode cL_ofPond 3 = .ok (.iload_n 1, 1) := by decide +kernel
theorem dL_ofPond_4 : decode cL_ofPond 4 = .ok (.iload_n 2, 1) := by decide +kernel
theorem dL_ofPond_5 : decode cL_ofPond 5 = .ok (.invokevirtual 61, 3) := by decide +kernel
theorem dL_ofPond_8 : decode cL_ofPond 8 = .ok (.i2l, 1) := by decide +kernel
theorem dL_ofPond_9 : decode cL_ofPond 9 = .ok (.lastore, 1) := by decide +kernel
theorem dL_ofPond_10 : decode cL_ofPond 10 = .ok (.goto 11, 3) := by decide +kernel
theorem dL_ofPond_13 : decode cL_ofPond 13 = .ok (.astore 4, 2) := by decide +kernel
theorem dL_ofPond_15 : decode cL_ofPond 15 = .ok (.iconst 1, 1) := by decide +kernel
theorem dL_ofPond_16 : decode cL_ofPond 16 = .ok (.ireturn, 1) := by decide +kernel
theorem dL_ofPond_17 : decode cL_ofPond 17 = .ok (.astore 4, 2) := by decide +kernel
theorem dL_ofPond_19 : decode cL_ofPond 19 = .ok (.iconst 2, 1) := by decide +kernel
theorem dL_ofPond_20 : decode cL_ofPond 20 = .ok (.ireturn, 1) := by decide +kernel
theorem dL_ofPond_21 : decode cL_ofPond 21 = .ok (.iconst 0, 1) := by decide +kernel
theorem dL_ofPond_22 : decode cL_ofPond 22 = .ok (.ireturn, 1) := by decide +kernel
set_option maxRecDepth 20000 in
theorem ggL_ofFamily_X3_ofFamily : GoodIn wsL_ofFamily wsX3_ofFamily := goodIn_ca (goodIn_ca (goodIn_r _ [7, 8, 9, 10, 11, 12, 13, 6, 14, 15, 16, 17, 18, 19, 20, 21, 22, 23, 24, 25, 26, 27, 28, 29, 30, 31, 32, 33, 34, 35, 36, 37, 38, 39, 40, 41, 42, 43, 44, 45, 46, 47, 48, 49] (by decide +kernel) (by decide +kernel)) (goodIn_sub (fun _ h => List.mem_cons_of_mem _ (List.mem_append_left _ (List.mem_append_right _ h))) (by decide +kernel))) (goodIn_sub (fun _ h => List.mem_cons_of_mem _ (List.mem_append_right _ h)) (by decide +kernel))
set_option maxRecDepth 20000 in
theorem gL_ofFamily_X3_ofFamily : GoodIn wsL_ofFamily (wsV RL 64 RX3 yX3_ofFamily wsX3_ofFamily) := goodIn_app (goodIn_of _ (by decide +kernel)) ggL_ofFamily_X3_ofFamily
theorem dL_ofFamily_0 : decode cL_ofFamily 0 = .ok (.aload_n 3, 1) := by decide +kernel
theorem dL_ofFamily_1 : decode cL_ofFamily 1 = .ok (.iconst 0, 1) := by decide +kernel
theorem dL_ofFamily_2 : decode cL_ofFamily 2 = .ok (.aload_n 0, 1) := by decide +kernel
theorem dL_ofFamily_3 : decode cL_ofFamily 3 = .ok (.iload_n 1, 1) := by decide +kernel
theorem dL_ofFamily_4 : decode cL_ofFamily 4 = .ok (.iload_n 2, 1) := by decide +kernel
theorem dL_ofFamily_5 : decode cL_ofFamily 5 = .ok (.invokevirtual 64, 3) := by decide +kernel
theorem dL_ofFamily_8 : decode cL_ofFamily 8 = .ok (.i2l, 1) := by decide +kernel
theorem dL_ofFamily_9 : decode cL_ofFamily 9 = .ok (.lastore, 1) := by decide +kernel
theorem dL_ofFamily_10 : decode cL_ofFamily 10 = .ok (.goto 11, 3) := by decide +kernel
theorem dL_ofFamily_13 : decode cL_ofFamily 13 = .ok (.astore 4, 2) := by decide +kernel
theorem dL_ofFamily_15 : decode cL_ofFamily 15 = .ok (.iconst 1, 1) := by decide +kernel
theorem dL_ofFamily_16 : decode cL_ofFamily 16 = .ok (.ireturn, 1) := by decide +kernel
theorem dL_ofFamily_17 : decode cL_ofFamily 17 = .ok (.astore 4, 2) := by decide +kernel
theorem dL_ofFamily_19 : decode cL_ofFamily 19 = .ok (.iconst 2, 1) := by decide +kernel
theorem dL_ofFamily_20 : decode cL_ofFamily 20 = .ok (.ireturn, 1) := by decide +kernel
theorem dL_ofFamily_21 : decode cL_ofFamily 21 = .ok (.iconst 0, 1) := by decide +kernel
theorem dL_ofFamily_22 : decode cL_ofFamily 22 = .ok (.ireturn, 1) := by decide +kernel
set_option maxRecDepth 20000 in
theorem ggL_rightOf_X3_rightOf : GoodIn wsL_rightOf wsX3_rightOf := goodIn_ca (goodIn_r _ [6, 7, 8, 9, 10, 11, 5, 12, 13, 14, 15, 16, 17, 18, 19, 20, 21, 22, 23, 24, 25, 26, 27, 28, 29, 30, 31, 32, 33, 34, 35] (by decide +kernel) (by decide +kernel)) (goodIn_sub (fun _ h => List.mem_cons_of_mem _ (List.mem_append_right _ h)) (by decide +kernel))
set_option maxRecDepth 20000 in
theorem gL_rightOf_X3_rightOf : GoodIn wsL_rightOf (wsV RL 67 RX3 yX3_rightOf wsX3_rightOf) := goodIn_app (goodIn_of _ (by decide +kernel)) ggL_rightOf_X3_rightOf
theorem dL_rightOf_0 : decode cL_rightOf 0 = .ok (.aload_n 3, 1) := by decide +kernel
theorem dL_rightOf_1 : decode cL_rightOf 1 = .ok (.iconst 0, 1) := by decide +kernel
theorem dL_rightOf_2 : decode cL_rightOf 2 = .ok (.aload_n 0, 1) := by decide +kernel
theorem dL_rightOf_3 : decode cL_rightOf 3 = .ok (.iload_n 1, 1) := by decide +kernel
theorem dL_rightOf_4 : decode cL_rightOf 4 = .ok (.iload_n 2, 1) := by decide +kernel
theorem dL_rightOf_5 : decode cL_rightOf 5 = .ok (.invokevirtual 67, 3) := by decide +kernel
theorem dL_rightOf_8 : decode cL_rightOf 8 = .ok (.i2l, 1) := by decide +kernel
theorem dL_rightOf_9 : decode cL_rightOf 9 = .ok (.lastore, 1) := by decide +kernel
theorem dL_rightOf_10 : decode cL_rightOf 10 = .ok (.goto 7, 3) := by decide +kernel
theorem dL_rightOf_13 : decode cL_rightOf 13 = .ok (.astore 4, 2) := by decide +kernel
theorem dL_rightOf_15 : decode cL_rightOf 15 = .ok (.iconst 1, 1) := by decide +kernel
theorem dL_rightOf_16 : decode cL_rightOf 16 = .ok (.ireturn, 1) := by decide +kernel
theorem dL_rightOf_17 : decode cL_rightOf 17 = .ok (.iconst 0, 1) := by decide +kernel
theorem dL_rightOf_18 : decode cL_rightOf 18 = .ok (.ireturn, 1) := by decide +kernel
set_option maxRecDepth 20000 in
theorem ggL_tide_X3_tide : GoodIn wsL_tide wsX3_tide := goodIn_ca (goodIn_r _ [6, 7, 8, 9, 10, 5, 11, 12, 13, 14, 15] (by decide +kernel) (by decide +kernel)) (goodIn_sub (fun _ h => List.mem_cons_of_mem _ (List.mem_append_right _ h)) (by decide +kernel))
set_option maxRecDepth 20000 in
theorem gL_tide_X3_tide : GoodIn wsL_tide (wsV RL 70 RX3 yX3_tide wsX3_tide) := goodIn_app (goodIn_of _ (by decide +kernel)) ggL_tide_X3_tide
theorem dL_tide_0 : decode cL_tide 0 = .ok (.aload_n 2, 1) := by decide +kernel
theorem dL_tide_1 : decode cL_tide 1 = .ok (.iconst 0, 1) := by decide +kernel
theorem dL_tide_2 : decode cL_tide 2 = .ok (.aload_n 0, 1) := by decide +kernel
theorem dL_tide_3 : decode cL_tide 3 = .ok (.iload_n 1, 1) := by decide +kernel
theorem dL_tide_4 : decode cL_tide 4 = .ok (.invokevirtual 70, 3) := by decide +kernel
theorem dL_tide_7 : decode cL_tide 7 = .ok (.i2l, 1) := by decide +kernel
theorem dL_tide_8 : decode cL_tide 8 = .ok (.lastore, 1) := by decide +kernel
theorem dL_tide_9 : decode cL_tide 9 = .ok (.goto 6, 3) := by decide +kernel
theorem dL_tide_12 : decode cL_tide 12 = .ok (.astore_n 3, 1) := by decide +kernel
theorem dL_tide_13 : decode cL_tide 13 = .ok (.iconst 1, 1) := by decide +kernel
theorem dL_tide_14 : decode cL_tide 14 = .ok (.ireturn, 1) := by decide +kernel
theorem dL_tide_15 : decode cL_tide 15 = .ok (.iconst 0, 1) := by decide +kernel
theorem dL_tide_16 : decode cL_tide 16 = .ok (.ireturn, 1) := by decide +kernel
set_option maxRecDepth 20000 in
theorem ggL_many_X3_many : GoodIn wsL_many wsX3_many := goodIn_ca (goodIn_r _ [6, 7, 8, 9, 10, 11, 12, 13, 14, 15, 16, 17, 18, 19, 20, 21, 22, 23, 24, 25, 26, 27, 28, 29, 30, 31, 32, 33, 34, 35, 36, 37, 38, 39, 40, 41, 42, 43, 44, 45, 46, 47, 48, 49, 50, 51, 52, 53, 5, 54, 55, 56, 57, 58, 59, 60, 61, 62, 63, 64, 65, 66, 67, 68, 69, 70, 71, 72, 73, 74, 75, 76, 77, 78, 79, 80, 81, 82, 83, 84, 85, 86, 87, 88, 89, 90, 91, 92, 93, 94, 95, 96, 97, 98, 99, 100, 101, 102, 103, 104, 105, 106, 107, 108, 109, 110, 111, 112, 113, 114, 115] (by decide +kernel) (by decide +kernel)) (goodIn_sub (fun _ h => List.mem_cons_of_mem _ (List.mem_append_right _ h)) (by decide +kernel))
set_option maxRecDepth 20000 in
theorem gL_many_X3_many : GoodIn wsL_many (wsV RL 73 RX3 yX3_many wsX3_many) := goodIn_app (goodIn_of _ (by decide +kernel)) ggL_many_X3_many
theorem dL_many_0 : decode cL_many 0 = .ok (.aload_n 2, 1) := by decide +kernel
theorem dL_many_1 : decode cL_many 1 = .ok (.iconst 0, 1) := by decide +kernel
theorem dL_many_2 : decode cL_many 2 = .ok (.aload_n 0, 1) := by decide +kernel
theorem dL_many_3 : decode cL_many 3 = .ok (.iload_n 1, 1) := by decide +kernel
theorem dL_many_4 : decode cL_many 4 = .ok (.invokevirtual 73, 3) := by decide +kernel
theorem dL_many_7 : decode cL_many 7 = .ok (.i2l, 1) := by decide +kernel
theorem dL_many_8 : decode cL_many 8 = .ok (.lastore, 1) := by decide +kernel
theorem dL_many_9 : decode cL_many 9 = .ok (.goto 6, 3) := by decide +kernel
theorem dL_many_12 : decode cL_many 12 = .ok (.astore_n 3, 1) := by decide +kernel
theorem dL_many_13 : decode cL_many 13 = .ok (.iconst 1, 1) := by decide +kernel
theorem dL_many_14 : decode cL_many 14 = .ok (.ireturn, 1) := by decide +kernel
theorem dL_many_15 : decode cL_many 15 = .ok (.iconst 0, 1) := by decide +kernel
theorem dL_many_16 : decode cL_many 16 = .ok (.ireturn, 1) := by decide +kernel
set_option maxRecDepth 20000 in
theorem ggL_crustIn_X3_crustIn : GoodIn wsL_crustIn wsX3_crustIn := goodIn_ca (goodIn_ca (goodIn_r _ [7, 8, 9, 10, 11, 12, 13, 14, 6, 15, 16, 17, 18, 19, 20, 21, 22, 23, 24, 25, 26, 27, 28, 29, 30, 31, 32, 33, 34, 35, 36, 37, 38, 39, 40, 41, 42, 43, 44, 45, 46, 47, 48, 49, 50, 51, 52, 53, 54, 55, 56, 57, 58, 59, 60, 61, 62, 63, 64, 65, 66, 67, 68, 69, 70, 71, 72, 73, 74, 75, 76, 77, 78, 79, 80, 81, 82, 83, 84, 85, 86, 87, 88, 89, 90, 91, 92, 93, 94, 95, 96, 97, 98, 99, 100, 101, 102, 103, 104, 105, 106, 107, 108, 109, 110, 111, 112, 113, 114, 115, 116, 117, 118, 119, 120, 121, 122, 123, 124, 125, 126, 127, 128, 129, 130, 131, 132, 133, 134, 135, 136, 137, 138, 139, 140, 141, 142, 143, 144, 145, 146, 147, 148] (by decide +kernel) (by decide +kernel)) (goodIn_sub (fun _ h => List.mem_cons_of_mem _ (List.mem_append_left _ (List.mem_append_right _ h))) (by decide +kernel))) (goodIn_sub (fun _ h => List.mem_cons_of_mem _ (List.mem_append_right _ h)) (by decide +kernel))
set_option maxRecDepth 20000 in
theorem gL_crustIn_X3_crustIn : GoodIn wsL_crustIn (wsV RL 76 RX3 yX3_crustIn wsX3_crustIn) := goodIn_app (goodIn_of _ (by decide +kernel)) ggL_crustIn_X3_crustIn
theorem dL_crustIn_0 : decode cL_crustIn 0 = .ok (.aload 4, 2) := by decide +kernel
theorem dL_crustIn_2 : decode cL_crustIn 2 = .ok (.iconst 0, 1) := by decide +kernel
theorem dL_crustIn_3 : decode cL_crustIn 3 = .ok (.aload_n 0, 1) := by decide +kernel
theorem dL_crustIn_4 : decode cL_crustIn 4 = .ok (.iload_n 1, 1) := by decide +kernel
theorem dL_crustIn_5 : decode cL_crustIn 5 = .ok (.iload_n 2, 1) := by decide +kernel
theorem dL_crustIn_6 : decode cL_crustIn 6 = .ok (.iload_n 3, 1) := by decide +kernel
theorem dL_crustIn_7 : decode cL_crustIn 7 = .ok (.invokevirtual 76, 3) := by decide +kernel
theorem dL_crustIn_10 : decode cL_crustIn 10 = .ok (.i2l, 1) := by decide +kernel
theorem dL_crustIn_11 : decode cL_crustIn 11 = .ok (.lastore, 1) := by decide +kernel
theorem dL_crustIn_12 : decode cL_crustIn 12 = .ok (.goto 11, 3) := by decide +kernel
theorem dL_crustIn_15 : decode cL_crustIn 15 = .ok (.astore 5, 2) := by decide +kernel
theorem dL_crustIn_17 : decode cL_crustIn 17 = .ok (.iconst 1, 1) := by decide +kernel
theorem dL_crustIn_18 : decode cL_crustIn 18 = .ok (.ireturn, 1) := by decide +kernel
theorem dL_crustIn_19 : decode cL_crustIn 19 = .ok (.astore 5, 2) := by decide +kernel
theorem dL_crustIn_21 : decode cL_crustIn 21 = .ok (.iconst 2, 1) := by decide +kernel
theorem dL_crustIn_22 : decode cL_crustIn 22 = .ok (.ireturn, 1) := by decide +kernel
theorem dL_crustIn_23 : decode cL_crustIn 23 = .ok (.iconst 0, 1) := by decide +kernel
theorem dL_crustIn_24 : decode cL_crustIn 24 = .ok (.ireturn, 1) := by decide +kernel
set_option maxRecDepth 20000 in
theorem ggL_bestGates_X3_bestGates : GoodIn wsL_bestGates wsX3_bestGates := goodIn_ca (goodIn_r _ [6, 7, 8, 9, 10, 11, 5, 12, 13, 14, 15, 16, 17, 18, 19, 20, 21, 22, 23, 24, 25, 26, 27, 28, 29, 30, 31, 32, 33, 34, 35, 36, 37, 38, 39, 40, 41, 42, 43, 44, 45, 46, 47, 48, 49, 50, 51, 52, 53, 54, 55, 56, 57, 58, 59, 60, 61, 62, 63, 64, 65, 66, 67, 68, 69, 70, 71, 72, 73, 74, 75, 76, 77, 78, 79, 80, 81, 82, 83, 84, 85, 86, 87, 88, 89, 90, 91, 92, 93, 94, 95, 96, 97, 98, 99, 100, 101, 102, 103, 104, 105, 106, 107, 108, 109, 110, 111, 112, 113, 114, 115, 116, 117, 118, 119, 120, 121, 122, 123, 124, 125, 126, 127, 128, 129, 130, 131, 132, 133, 134, 135, 136, 137, 138, 139, 140, 141, 142, 143, 144, 145, 146, 147, 148, 149, 150, 151, 152, 153] (by decide +kernel) (by decide +kernel)) (goodIn_sub (fun _ h => List.mem_cons_of_mem _ (List.mem_append_right _ h)) (by decide +kernel))
set_option maxRecDepth 20000 in
theorem gL_bestGates_X3_bestGates : GoodIn wsL_bestGates (wsV RL 79 RX3 yX3_bestGates wsX3_bestGates) := goodIn_app (goodIn_of _ (by decide +kernel)) ggL_bestGates_X3_bestGates
theorem dL_bestGates_0 : decode cL_bestGates 0 = .ok (.aload 4, 2) := by decide +kernel
theorem dL_bestGates_2 : decode cL_bestGates 2 = .ok (.iconst 0, 1) := by decide +kernel
theorem dL_bestGates_3 : decode cL_bestGates 3 = .ok (.aload_n 0, 1) := by decide +kernel
theorem dL_bestGates_4 : decode cL_bestGates 4 = .ok (.iload_n 1, 1) := by decide +kernel
theorem dL_bestGates_5 : decode cL_bestGates 5 = .ok (.iload_n 2, 1) := by decide +kernel
theorem dL_bestGates_6 : decode cL_bestGates 6 = .ok (.iload_n 3, 1) := by decide +kernel
theorem dL_bestGates_7 : decode cL_bestGates 7 = .ok (.invokevirtual 79, 3) := by decide +kernel
theorem dL_bestGates_10 : decode cL_bestGates 10 = .ok (.i2l, 1) := by decide +kernel
theorem dL_bestGates_11 : decode cL_bestGates 11 = .ok (.lastore, 1) := by decide +kernel
theorem dL_bestGates_12 : decode cL_bestGates 12 = .ok (.goto 7, 3) := by decide +kernel
theorem dL_bestGates_15 : decode cL_bestGates 15 = .ok (.astore 5, 2) := by decide +kernel
theorem dL_bestGates_17 : decode cL_bestGates 17 = .ok (.iconst 1, 1) := by decide +kernel
theorem dL_bestGates_18 : decode cL_bestGates 18 = .ok (.ireturn, 1) := by decide +kernel
theorem dL_bestGates_19 : decode cL_bestGates 19 = .ok (.iconst 0, 1) := by decide +kernel
theorem dL_bestGates_20 : decode cL_bestGates 20 = .ok (.ireturn, 1) := by decide +kernel
set_option maxRecDepth 20000 in
theorem ggL_wouldBe_X3_wouldBe : GoodIn wsL_wouldBe wsX3_wouldBe := goodIn_ca (goodIn_r _ [6, 7, 8, 9, 10, 11, 12, 13, 14, 15, 16, 5, 17, 18, 19, 20, 21, 22, 23, 24, 25, 26, 27, 28, 29, 30, 31, 32, 33, 34, 35, 36, 37, 38, 39, 40, 41, 42, 43, 44, 45, 46, 47, 48, 49, 50, 51, 52, 53, 54, 55, 56, 57, 58, 59, 60, 61, 62, 63, 64, 65, 66, 67, 68, 69, 70, 71, 72, 73, 74, 75, 76, 77, 78, 79, 80, 81, 82, 83, 84, 85, 86, 87, 88, 89, 90, 91, 92] (by decide +kernel) (by decide +kernel)) (goodIn_sub (fun _ h => List.mem_cons_of_mem _ (List.mem_append_right _ h)) (by decide +kernel))
set_option maxRecDepth 20000 in
theorem gL_wouldBe_X3_wouldBe : GoodIn wsL_wouldBe (wsV RL 82 RX3 yX3_wouldBe wsX3_wouldBe) := goodIn_app (goodIn_of _ (by decide +kernel)) ggL_wouldBe_X3_wouldBe
theorem dL_wouldBe_0 : decode cL_wouldBe 0 = .ok (.aload 4, 2) := by decide +kernel
theorem dL_wouldBe_2 : decode cL_wouldBe 2 = .ok (.iconst 0, 1) := by decide +kernel
theorem dL_wouldBe_3 : decode cL_wouldBe 3 = .ok (.aload_n 0, 1) := by decide +kernel
theorem dL_wouldBe_4 : decode cL_wouldBe 4 = .ok (.iload_n 1, 1) := by decide +kernel
theorem dL_wouldBe_5 : decode cL_wouldBe 5 = .ok (.iload_n 2, 1) := by decide +kernel
theorem dL_wouldBe_6 : decode cL_wouldBe 6 = .ok (.iload_n 3, 1) := by decide +kernel
theorem dL_wouldBe_7 : decode cL_wouldBe 7 = .ok (.invokevirtual 82, 3) := by decide +kernel
theorem dL_wouldBe_10 : decode cL_wouldBe 10 = .ok (.i2l, 1) := by decide +kernel
theorem dL_wouldBe_11 : decode cL_wouldBe 11 = .ok (.lastore, 1) := by decide +kernel
theorem dL_wouldBe_12 : decode cL_wouldBe 12 = .ok (.goto 7, 3) := by decide +kernel
theorem dL_wouldBe_15 : decode cL_wouldBe 15 = .ok (.astore 5, 2) := by decide +kernel
theorem dL_wouldBe_17 : decode cL_wouldBe 17 = .ok (.iconst 1, 1) := by decide +kernel
theorem dL_wouldBe_18 : decode cL_wouldBe 18 = .ok (.ireturn, 1) := by decide +kernel
theorem dL_wouldBe_19 : decode cL_wouldBe 19 = .ok (.iconst 0, 1) := by decide +kernel
theorem dL_wouldBe_20 : decode cL_wouldBe 20 = .ok (.ireturn, 1) := by decide +kernel
set_option maxRecDepth 20000 in
theorem ggL_tideOn_X3_tideOn : GoodIn wsL_tideOn wsX3_tideOn := goodIn_ca (goodIn_r _ [6, 7, 8, 9, 10, 11, 12, 5, 13, 14, 15, 16, 17, 18, 19, 20, 21, 22, 23, 24, 25, 26, 27, 28, 29, 30, 31, 32] (by decide +kernel) (by decide +kernel)) (goodIn_sub (fun _ h => List.mem_cons_of_mem _ (List.mem_append_right _ h)) (by decide +kernel))
set_option maxRecDepth 20000 in
theorem gL_tideOn_X3_tideOn : GoodIn wsL_tideOn (wsV RL 86 RX3 yX3_tideOn wsX3_tideOn) := goodIn_app (goodIn_of _ (by decide +kernel)) ggL_tideOn_X3_tideOn
theorem dL_tideOn_0 : decode cL_tideOn 0 = .ok (.aload_n 3, 1) := by decide +kernel
theorem dL_tideOn_1 : decode cL_tideOn 1 = .ok (.iconst 0, 1) := by decide +kernel
theorem dL_tideOn_2 : decode cL_tideOn 2 = .ok (.aload_n 0, 1) := by decide +kernel
theorem dL_tideOn_3 : decode cL_tideOn 3 = .ok (.iload_n 1, 1) := by decide +kernel
theorem dL_tideOn_4 : decode cL_tideOn 4 = .ok (.iload_n 2, 1) := by decide +kernel
theorem dL_tideOn_5 : decode cL_tideOn 5 = .ok (.invokevirtual 86, 3) := by decide +kernel
theorem dL_tideOn_8 : decode cL_tideOn 8 = .ok (.i2l, 1) := by decide +kernel
theorem dL_tideOn_9 : decode cL_tideOn 9 = .ok (.lastore, 1) := by decide +kernel
theorem dL_tideOn_10 : decode cL_tideOn 10 = .ok (.goto 7, 3) := by decide +kernel
theorem dL_tideOn_13 : decode cL_tideOn 13 = .ok (.astore 4, 2) := by decide +kernel
theorem dL_tideOn_15 : decode cL_tideOn 15 = .ok (.iconst 1, 1) := by decide +kernel
theorem dL_tideOn_16 : decode cL_tideOn 16 = .ok (.ireturn, 1) := by decide +kernel
theorem dL_tideOn_17 : decode cL_tideOn 17 = .ok (.iconst 0, 1) := by decide +kernel
theorem dL_tideOn_18 : decode cL_tideOn 18 = .ok (.ireturn, 1) := by decide +kernel
set_option maxRecDepth 20000 in
theorem ggL_law_X3_init : GoodIn wsL_law wsX3_init := goodIn_r _ [9, 10, 11, 12, 13, 14, 15, 16, 17, 18, 19, 20, 21, 22, 23, 24, 25, 26, 27, 28, 29, 30, 31, 32, 33, 34, 35, 36, 37, 38, 899, 900, 901, 902, 903, 878, 879, 880, 881, 882, 883, 884, 885, 886, 887, 904, 905, 906, 907, 908, 909, 910, 911, 912, 913, 914, 915, 916, 917, 918, 919, 920, 921] (by decide +kernel) (by decide +kernel)
set_option maxRecDepth 20000 in
theorem gL_law_X3_init : GoodIn wsL_law (wsX3_init) := ggL_law_X3_init
set_option maxRecDepth 20000 in
theorem ggL_law_X6_init : GoodIn wsL_law wsX6_init := goodIn_r _ [41, 42, 11, 12, 43, 44, 45, 46, 47, 48, 49, 50, 51, 52, 53, 54, 55, 56, 57, 58, 59, 60, 61, 62, 63, 64, 65, 66, 67, 68, 69, 70, 71, 72, 73, 74, 75, 76, 77, 78, 922, 923, 924, 888, 889, 890, 891, 892, 893, 894, 895, 896, 897, 898, 925, 926, 927, 928, 929, 930, 931, 932, 933, 934, 935, 936, 937, 938] (by decide +kernel) (by decide +kernel)
set_option maxRecDepth 20000 in
theorem gL_law_X6_init : GoodIn wsL_law (wsX6_init) := ggL_law_X6_init
set_option maxRecDepth 20000 in
theorem ggL_law_L_area : GoodIn wsL_law wsL_area := goodIn_ca (goodIn_ca (goodIn_ca (goodIn_r _ [82, 83, 84, 85, 86, 87, 88, 2, 89, 90, 91, 92, 93, 16, 94, 95, 96, 97, 98, 99, 100, 101, 102, 878, 879, 880, 881, 882, 883, 884, 885, 886, 887, 899, 900, 901, 902, 903, 910, 911, 912, 913, 914, 915, 916, 917, 918, 919, 920, 921] (by decide +kernel) (by decide +kernel)) (goodIn_sub (fun _ h => List.mem_append_left _ (List.mem_append_left _ (List.mem_append_right _ h))) (by decide +kernel))) (goodIn_sub (fun _ h => List.mem_append_left _ (List.mem_append_right _ h)) (by decide +kernel))) (goodIn_sub (fun _ h => List.mem_append_right _ h) (by decide +kernel))
set_option maxRecDepth 20000 in
theorem gL_law_L_area : GoodIn wsL_law (va_wsS RL 93 yL_area wsL_area) := goodIn_app (goodIn_of _ (by decide +kernel)) ggL_law_L_area
set_option maxRecDepth 20000 in
theorem ggL_law_X6_area : GoodIn wsL_law wsX6_area := goodIn_r _ [106, 46, 107, 108, 109, 110, 111, 5, 112, 113, 114, 115, 116, 117, 118, 119, 120, 121, 122, 123, 124, 888, 889, 890, 891, 892, 893, 894, 895, 896, 897, 898, 922, 923, 924, 928, 929, 930, 931, 932, 933, 934, 935, 936, 937, 938] (by decide +kernel) (by decide +kernel)
set_option maxRecDepth 20000 in
theorem gL_law_X6_area : GoodIn wsL_law (wsV RL 98 RX6 yX6_area wsX6_area) := goodIn_app (goodIn_of _ (by decide +kernel)) ggL_law_X6_area
set_option maxRecDepth 20000 in
theorem ggL_law_X6_thrown : GoodIn wsL_law wsX6_thrown := goodIn_r _ [128, 120, 888, 889, 890, 891, 892, 893, 894, 895, 896, 897, 898] (by decide +kernel) (by decide +kernel)
set_option maxRecDepth 20000 in
theorem gL_law_X6_thrown : GoodIn wsL_law (wsV RL 99 RX6 yX6_thrown wsX6_thrown) := goodIn_app (goodIn_of _ (by decide +kernel)) ggL_law_X6_thrown
set_option maxRecDepth 20000 in
theorem ggL_law_L_gate : GoodIn wsL_law wsL_gate := goodIn_ca (goodIn_r _ [131, 83, 132, 133, 134, 2, 135, 16, 95, 136, 97, 98, 99, 100, 101, 102, 878, 879, 880, 881, 882, 883, 884, 885, 886, 887, 899, 900, 901, 902, 903, 910, 911, 912, 913, 914, 915, 916, 917, 918, 919, 920, 921] (by decide +kernel) (by decide +kernel)) (goodIn_sub (fun _ h => List.mem_append_right _ h) (by decide +kernel))
set_option maxRecDepth 20000 in
theorem gL_law_L_gate : GoodIn wsL_law (va_wsS RL 102 yL_gate wsL_gate) := goodIn_app (goodIn_of _ (by decide +kernel)) ggL_law_L_gate
set_option maxRecDepth 20000 in
theorem ggL_law_X6_gate : GoodIn wsL_law wsX6_gate := goodIn_r _ [140, 46, 108, 141, 110, 111, 5, 112, 113, 114, 115, 116, 117, 118, 119, 120, 121, 122, 123, 124, 888, 889, 890, 891, 892, 893, 894, 895, 896, 897, 898, 922, 923, 924, 928, 929, 930, 931, 932, 933, 934, 935, 936, 937, 938] (by decide +kernel) (by decide +kernel)
set_option maxRecDepth 20000 in
theorem gL_law_X6_gate : GoodIn wsL_law (wsV RL 105 RX6 yX6_gate wsX6_gate) := goodIn_app (goodIn_of _ (by decide +kernel)) ggL_law_X6_gate
set_option maxRecDepth 20000 in
theorem ggL_law_L_cover : GoodIn wsL_law wsL_cover := goodIn_ca (goodIn_r _ [144, 83, 145, 146, 147, 2, 148, 16, 95, 149, 150, 151, 152, 153, 101, 102, 878, 879, 880, 881, 882, 883, 884, 885, 886, 887, 899, 900, 901, 902, 903, 910, 911, 912, 913, 914, 915, 916, 917, 918, 919, 920, 921] (by decide +kernel) (by decide +kernel)) (goodIn_sub (fun _ h => List.mem_append_right _ h) (by decide +kernel))
set_option maxRecDepth 20000 in
theorem gL_law_L_cover : GoodIn wsL_law (va_wsS RL 106 yL_cover wsL_cover) := goodIn_app (goodIn_of _ (by decide +kernel)) ggL_law_L_cover
set_option maxRecDepth 20000 in
theorem ggL_law_X6_cover : GoodIn wsL_law wsX6_cover := goodIn_r _ [157, 46, 108, 158, 159, 160, 5, 161, 113, 114, 115, 116, 117, 118, 119, 120, 121, 122, 123, 124, 888, 889, 890, 891, 892, 893, 894, 895, 896, 897, 898, 922, 923, 924, 928, 929, 930, 931, 932, 933, 934, 935, 936, 937, 938] (by decide +kernel) (by decide +kernel)
set_option maxRecDepth 20000 in
theorem gL_law_X6_cover : GoodIn wsL_law (wsV RL 108 RX6 yX6_cover wsX6_cover) := goodIn_app (goodIn_of _ (by decide +kernel)) ggL_law_X6_cover
set_option maxRecDepth 20000 in
theorem ggL_law_L_pass : GoodIn wsL_law wsL_pass := goodIn_ca (goodIn_ca (goodIn_r _ [164, 84, 85, 165, 166, 167, 2, 168, 90, 91, 92, 93, 16, 94, 169, 170, 171, 172, 173, 174, 175, 15, 176, 177, 178, 179, 27, 180, 181, 182, 183, 184, 185, 186, 187, 188, 189, 190, 191, 192, 193, 194, 195, 196, 29, 197, 198, 33, 199, 200, 201, 202, 203, 204, 205, 206, 207, 208, 209, 210, 211, 212, 213, 214, 215, 216, 217, 218, 219, 220, 221, 222, 223, 224, 225, 226, 227, 228, 229, 230, 231, 232, 233, 234, 235, 236, 237, 238, 239, 240, 241, 242, 243, 244, 245, 246, 247, 248, 249, 250, 251, 252, 253, 254, 255, 256, 257, 258, 259, 260, 261, 878, 879, 880, 881, 882, 883, 884, 885, 886, 887, 899, 900, 901, 902, 903, 910, 911, 912, 913, 914, 915, 916, 917, 918, 919, 920, 921] (by decide +kernel) (by decide +kernel)) (goodIn_sub (fun _ h => List.mem_append_left _ (List.mem_append_left _ (List.mem_append_right _ h))) (by decide +kernel))) (goodIn_sub (fun _ h => List.mem_append_left _ (List.mem_append_right _ h)) (by decide +kernel))
set_option maxRecDepth 20000 in
theorem gL_law_L_pass : GoodIn wsL_law (va_wsS RL 109 yL_pass wsL_pass) := goodIn_app (goodIn_of _ (by decide +kernel)) ggL_law_L_pass
set_option maxRecDepth 20000 in
theorem ggL_law_X6_pass : GoodIn wsL_law wsX6_pass := goodIn_r _ [265, 46, 107, 266, 267, 113, 114, 5, 115, 116, 117, 118, 119, 120, 121, 122, 123, 124, 268, 269, 270, 45, 271, 272, 56, 273, 274, 275, 276, 277, 278, 279, 280, 213, 192, 214, 37, 281, 282, 283, 284, 285, 191, 193, 286, 287, 288, 58, 289, 290, 62, 291, 292, 293, 294, 295, 296, 297, 298, 299, 300, 301, 302, 303, 304, 305, 306, 307, 308, 309, 310, 311, 312, 313, 314, 315, 316, 317, 318, 319, 320, 321, 322, 323, 324, 325, 255, 256, 326, 327, 328, 888, 889, 890, 891, 892, 893, 894, 895, 896, 897, 898, 922, 923, 924, 928, 929, 930, 931, 932, 933, 934, 935, 936, 937, 938] (by decide +kernel) (by decide +kernel)
set_option maxRecDepth 20000 in
theorem gL_law_X6_pass : GoodIn wsL_law (wsV RL 112 RX6 yX6_pass wsX6_pass) := goodIn_app (goodIn_of _ (by decide +kernel)) ggL_law_X6_pass
set_option maxRecDepth 20000 in
theorem ggL_law_L_skim : GoodIn wsL_law wsL_skim := goodIn_ca (goodIn_r _ [331, 83, 332, 333, 334, 2, 335, 16, 95, 336, 337, 97, 98, 99, 100, 101, 102, 878, 879, 880, 881, 882, 883, 884, 885, 886, 887, 899, 900, 901, 902, 903, 910, 911, 912, 913, 914, 915, 916, 917, 918, 919, 920, 921] (by decide +kernel) (by decide +kernel)) (goodIn_sub (fun _ h => List.mem_append_right _ h) (by decide +kernel))
set_option maxRecDepth 20000 in
theorem gL_law_L_skim : GoodIn wsL_law (va_wsS RL 113 yL_skim wsL_skim) := goodIn_app (goodIn_of _ (by decide +kernel)) ggL_law_L_skim
set_option maxRecDepth 20000 in
theorem ggL_law_X6_skim : GoodIn wsL_law wsX6_skim := goodIn_r _ [341, 46, 108, 342, 343, 110, 111, 5, 112, 113, 114, 115, 116, 117, 118, 119, 120, 121, 122, 123, 124, 888, 889, 890, 891, 892, 893, 894, 895, 896, 897, 898, 922, 923, 924, 928, 929, 930, 931, 932, 933, 934, 935, 936, 937, 938] (by decide +kernel) (by decide +kernel)
set_option maxRecDepth 20000 in
theorem gL_law_X6_skim : GoodIn wsL_law (wsV RL 116 RX6 yX6_skim wsX6_skim) := goodIn_app (goodIn_of _ (by decide +kernel)) ggL_law_X6_skim
set_option maxRecDepth 20000 in
theorem ggL_law_L_drain : GoodIn wsL_law wsL_drain := goodIn_ca (goodIn_ca (goodIn_r _ [346, 83, 85, 347, 348, 349, 2, 350, 92, 93, 16, 95, 351, 94, 352, 353, 97, 98, 99, 100, 101, 102, 354, 188, 189, 190, 191, 192, 193, 355, 356, 357, 29, 358, 198, 205, 206, 207, 878, 879, 880, 881, 882, 883, 884, 885, 886, 887, 899, 900, 901, 902, 903, 910, 911, 912, 913, 914, 915, 916, 917, 918, 919, 920, 921] (by decide +kernel) (by decide +kernel)) (goodIn_sub (fun _ h => List.mem_append_left _ (List.mem_append_right _ h)) (by decide +kernel))) (goodIn_sub (fun _ h => List.mem_append_right _ h) (by decide +kernel))
set_option maxRecDepth 20000 in
theorem gL_law_L_drain : GoodIn wsL_law (va_wsS RL 117 yL_drain wsL_drain) := goodIn_app (goodIn_of _ (by decide +kernel)) ggL_law_L_drain
set_option maxRecDepth 20000 in
theorem ggL_law_X6_drain : GoodIn wsL_law wsX6_drain := goodIn_r _ [362, 46, 108, 363, 107, 364, 365, 366, 367, 110, 111, 5, 112, 113, 114, 115, 116, 117, 118, 119, 120, 121, 122, 123, 124, 368, 283, 284, 285, 191, 192, 193, 888, 889, 890, 891, 892, 893, 894, 895, 896, 897, 898, 922, 923, 924, 928, 929, 930, 931, 932, 933, 934, 935, 936, 937, 938] (by decide +kernel) (by decide +kernel)
set_option maxRecDepth 20000 in
theorem gL_law_X6_drain : GoodIn wsL_law (wsV RL 119 RX6 yX6_drain wsX6_drain) := goodIn_app (goodIn_of _ (by decide +kernel)) ggL_law_X6_drain
set_option maxRecDepth 20000 in
theorem ggL_law_L_pump : GoodIn wsL_law wsL_pump := goodIn_ca (goodIn_ca (goodIn_ca (goodIn_r _ [371, 83, 84, 85, 372, 373, 374, 2, 375, 90, 91, 92, 93, 16, 95, 351, 376, 97, 98, 99, 100, 101, 102, 377, 217, 218, 29, 219, 205, 198, 206, 207, 199, 200, 220, 202, 203, 204, 378, 237, 238, 379, 233, 234, 235, 236, 231, 213, 192, 214, 878, 879, 880, 881, 882, 883, 884, 885, 886, 887, 899, 900, 901, 902, 903, 910, 911, 912, 913, 914, 915, 916, 917, 918, 919, 920, 921] (by decide +kernel) (by decide +kernel)) (goodIn_sub (fun _ h => List.mem_append_left _ (List.mem_append_left _ (List.mem_append_right _ h))) (by decide +kernel))) (goodIn_sub (fun _ h => List.mem_append_left _ (List.mem_append_right _ h)) (by decide +kernel))) (goodIn_sub (fun _ h => List.mem_append_right _ h) (by decide +kernel))
set_option maxRecDepth 20000 in
theorem gL_law_L_pump : GoodIn wsL_law (va_wsS RL 120 yL_pump wsL_pump) := goodIn_app (goodIn_of _ (by decide +kernel)) ggL_law_L_pump
set_option maxRecDepth 20000 in
theorem ggL_law_X6_pump : GoodIn wsL_law wsX6_pump := goodIn_r _ [383, 46, 108, 363, 384, 110, 111, 5, 112, 113, 114, 115, 116, 117, 118, 119, 120, 121, 122, 123, 124, 385, 292, 293, 58, 294, 295, 290, 296, 297, 298, 299, 386, 307, 308, 309, 310, 311, 312, 313, 192, 314, 888, 889, 890, 891, 892, 893, 894, 895, 896, 897, 898, 922, 923, 924, 928, 929, 930, 931, 932, 933, 934, 935, 936, 937, 938] (by decide +kernel) (by decide +kernel)
set_option maxRecDepth 20000 in
theorem gL_law_X6_pump : GoodIn wsL_law (wsV RL 123 RX6 yX6_pump wsX6_pump) := goodIn_app (goodIn_of _ (by decide +kernel)) ggL_law_X6_pump
set_option maxRecDepth 20000 in
theorem ggL_law_L_family : GoodIn wsL_law wsL_family := goodIn_ca (goodIn_r _ [389, 85, 390, 391, 392, 2, 393, 92, 93, 394, 878, 879, 880, 881, 882, 883, 884, 885, 886, 887] (by decide +kernel) (by decide +kernel)) (goodIn_sub (fun _ h => List.mem_append_left _ (List.mem_append_right _ h)) (by decide +kernel))
set_option maxRecDepth 20000 in
theorem gL_law_L_family : GoodIn wsL_law (va_wsS RL 124 yL_family wsL_family) := goodIn_app (goodIn_of _ (by decide +kernel)) ggL_law_L_family
set_option maxRecDepth 20000 in
theorem ggL_law_X6_family : GoodIn wsL_law wsX6_family := goodIn_r _ [398, 50, 37, 399, 400, 401, 49, 402, 403, 116, 117, 118, 5, 119, 120, 121, 122, 123, 124, 404, 405, 406, 407, 408, 409, 68, 410, 411, 412, 413, 414, 415, 416, 417, 418, 419, 420, 421, 67, 422, 423, 192, 424, 425, 426, 427, 428, 429, 430, 431, 432, 433, 434, 435, 436, 437, 438, 439, 440, 441, 442, 443, 444, 445, 446, 447, 448, 213, 214, 449, 450, 451, 452, 888, 889, 890, 891, 892, 893, 894, 895, 896, 897, 898, 925, 926, 927] (by decide +kernel) (by decide +kernel)
set_option maxRecDepth 20000 in
theorem gL_law_X6_family : GoodIn wsL_law (wsV RL 127 RX6 yX6_family wsX6_family) := goodIn_app (goodIn_of _ (by decide +kernel)) ggL_law_X6_family
set_option maxRecDepth 20000 in
theorem ggL_law_L_right : GoodIn wsL_law wsL_right := goodIn_ca (goodIn_ca (goodIn_ca (goodIn_r _ [455, 83, 84, 85, 456, 457, 458, 2, 459, 90, 91, 92, 93, 19, 460, 461, 462, 463, 464, 101, 102, 394, 150, 151, 152, 153, 465, 466, 467, 468, 878, 879, 880, 881, 882, 883, 884, 885, 886, 887, 904, 905, 906, 907, 908, 909] (by decide +kernel) (by decide +kernel)) (goodIn_sub (fun _ h => List.mem_append_left _ (List.mem_append_left _ (List.mem_append_right _ h))) (by decide +kernel))) (goodIn_sub (fun _ h => List.mem_append_left _ (List.mem_append_right _ h)) (by decide +kernel))) (goodIn_sub (fun _ h => List.mem_append_right _ h) (by decide +kernel))
set_option maxRecDepth 20000 in
theorem gL_law_L_right : GoodIn wsL_law (va_wsS RL 128 yL_right wsL_right) := goodIn_app (goodIn_of _ (by decide +kernel)) ggL_law_L_right
set_option maxRecDepth 20000 in
theorem ggL_law_X6_right : GoodIn wsL_law wsX6_right := goodIn_r _ [472, 50, 473, 474, 475, 476, 5, 477, 399, 400, 401, 49, 402, 403, 113, 114, 115, 159, 160, 161, 116, 117, 118, 119, 120, 121, 122, 123, 124, 478, 479, 480, 481, 482, 483, 484, 485, 486, 487, 488, 489, 490, 491, 492, 493, 68, 494, 495, 496, 497, 498, 499, 500, 501, 502, 503, 504, 505, 11, 12, 506, 507, 409, 508, 509, 510, 511, 512, 513, 514, 515, 516, 517, 518, 519, 520, 521, 522, 888, 889, 890, 891, 892, 893, 894, 895, 896, 897, 898, 925, 926, 927, 939, 940, 941, 942] (by decide +kernel) (by decide +kernel)
set_option maxRecDepth 20000 in
theorem gL_law_X6_right : GoodIn wsL_law (wsV RL 130 RX6 yX6_right wsX6_right) := goodIn_app (goodIn_of _ (by decide +kernel)) ggL_law_X6_right
set_option maxRecDepth 20000 in
theorem ggL_law_L_harvest : GoodIn wsL_law wsL_harvest := goodIn_ca (goodIn_ca (goodIn_r _ [525, 83, 85, 526, 527, 528, 2, 529, 92, 93, 16, 95, 530, 531, 532, 533, 150, 151, 152, 153, 101, 102, 534, 535, 536, 29, 537, 243, 538, 539, 540, 541, 542, 33, 231, 213, 192, 214, 543, 544, 545, 546, 249, 199, 200, 547, 548, 549, 550, 551, 552, 553, 554, 555, 556, 557, 394, 19, 460, 558, 559, 560, 561, 562, 563, 564, 21, 565, 566, 567, 568, 878, 879, 880, 881, 882, 883, 884, 885, 886, 887, 899, 900, 901, 902, 903, 910, 911, 912, 913, 914, 915, 916, 917, 918, 919, 920, 921, 904, 905, 906, 907, 908, 909] (by decide +kernel) (by decide +kernel)) (goodIn_sub (fun _ h => List.mem_append_left _ (List.mem_append_right _ h)) (by decide +kernel))) (goodIn_sub (fun _ h => List.mem_append_right _ h) (by decide +kernel))
set_option maxRecDepth 20000 in
theorem gL_law_L_harvest : GoodIn wsL_law (va_wsS RL 131 yL_harvest wsL_harvest) := goodIn_app (goodIn_of _ (by decide +kernel)) ggL_law_L_harvest
set_option maxRecDepth 20000 in
theorem ggL_law_X6_harvest : GoodIn wsL_law wsX6_harvest := goodIn_r _ [572, 46, 108, 573, 574, 107, 575, 576, 109, 159, 160, 5, 161, 113, 114, 115, 116, 117, 118, 119, 120, 121, 122, 123, 124, 577, 578, 579, 580, 581, 582, 583, 584, 585, 213, 192, 214, 37, 586, 298, 299, 587, 588, 589, 590, 50, 473, 591, 592, 494, 495, 496, 49, 497, 498, 499, 500, 501, 502, 503, 504, 505, 11, 12, 506, 507, 409, 508, 509, 510, 511, 512, 513, 514, 515, 516, 517, 518, 519, 520, 521, 522, 888, 889, 890, 891, 892, 893, 894, 895, 896, 897, 898, 922, 923, 924, 928, 929, 930, 931, 932, 933, 934, 935, 936, 937, 938, 939, 940, 941, 942, 925, 926, 927] (by decide +kernel) (by decide +kernel)
set_option maxRecDepth 20000 in
theorem gL_law_X6_harvest : GoodIn wsL_law (wsV RL 133 RX6 yX6_harvest wsX6_harvest) := goodIn_app (goodIn_of _ (by decide +kernel)) ggL_law_X6_harvest
set_option maxRecDepth 20000 in
theorem ggL_law_L_flower : GoodIn wsL_law wsL_flower := goodIn_ca (goodIn_ca (goodIn_r _ [595, 83, 85, 596, 597, 598, 2, 599, 92, 93, 16, 95, 600, 601, 532, 96, 353, 602, 213, 192, 214, 150, 151, 152, 153, 101, 102, 379, 233, 234, 29, 235, 205, 207, 236, 198, 231, 199, 200, 554, 555, 556, 557, 394, 19, 460, 558, 559, 560, 561, 562, 563, 564, 21, 565, 566, 567, 568, 878, 879, 880, 881, 882, 883, 884, 885, 886, 887, 899, 900, 901, 902, 903, 910, 911, 912, 913, 914, 915, 916, 917, 918, 919, 920, 921, 904, 905, 906, 907, 908, 909] (by decide +kernel) (by decide +kernel)) (goodIn_sub (fun _ h => List.mem_append_left _ (List.mem_append_right _ h)) (by decide +kernel))) (goodIn_sub (fun _ h => List.mem_append_right _ h) (by decide +kernel))
set_option maxRecDepth 20000 in
theorem gL_law_L_flower : GoodIn wsL_law (va_wsS RL 134 yL_flower wsL_flower) := goodIn_app (goodIn_of _ (by decide +kernel)) ggL_law_L_flower
set_option maxRecDepth 20000 in
theorem ggL_law_X6_flower : GoodIn wsL_law wsX6_flower := goodIn_r _ [606, 46, 108, 266, 267, 575, 107, 365, 109, 585, 213, 192, 214, 159, 160, 5, 161, 113, 114, 115, 116, 117, 118, 119, 120, 121, 122, 123, 124, 386, 307, 308, 58, 309, 290, 310, 295, 297, 311, 312, 313, 314, 587, 588, 589, 590, 50, 473, 591, 592, 494, 495, 496, 49, 497, 498, 499, 500, 501, 502, 503, 504, 505, 11, 12, 506, 507, 409, 508, 509, 510, 511, 512, 513, 514, 515, 516, 517, 518, 519, 520, 521, 522, 586, 298, 299, 888, 889, 890, 891, 892, 893, 894, 895, 896, 897, 898, 922, 923, 924, 928, 929, 930, 931, 932, 933, 934, 935, 936, 937, 938, 939, 940, 941, 942, 925, 926, 927] (by decide +kernel) (by decide +kernel)
set_option maxRecDepth 20000 in
theorem gL_law_X6_flower : GoodIn wsL_law (wsV RL 136 RX6 yX6_flower wsX6_flower) := goodIn_app (goodIn_of _ (by decide +kernel)) ggL_law_X6_flower
set_option maxRecDepth 20000 in
theorem ggL_law_L_wash : GoodIn wsL_law wsL_wash := goodIn_ca (goodIn_ca (goodIn_r _ [609, 83, 85, 610, 611, 612, 2, 613, 92, 93, 19, 614, 615, 352, 461, 462, 463, 464, 101, 102, 394, 378, 237, 238, 616, 617, 618, 619, 561, 199, 200, 878, 879, 880, 881, 882, 883, 884, 885, 886, 887, 904, 905, 906, 907, 908, 909] (by decide +kernel) (by decide +kernel)) (goodIn_sub (fun _ h => List.mem_append_left _ (List.mem_append_right _ h)) (by decide +kernel))) (goodIn_sub (fun _ h => List.mem_append_right _ h) (by decide +kernel))
set_option maxRecDepth 20000 in
theorem gL_law_L_wash : GoodIn wsL_law (va_wsS RL 137 yL_wash wsL_wash) := goodIn_app (goodIn_of _ (by decide +kernel)) ggL_law_L_wash
set_option maxRecDepth 20000 in
theorem ggL_law_X6_wash : GoodIn wsL_law wsX6_wash := goodIn_r _ [623, 50, 473, 364, 474, 475, 476, 5, 477, 399, 400, 401, 49, 402, 403, 113, 114, 115, 116, 117, 118, 119, 120, 121, 122, 123, 124, 478, 479, 480, 481, 482, 483, 484, 485, 486, 487, 488, 489, 490, 491, 492, 493, 68, 624, 625, 626, 627, 888, 889, 890, 891, 892, 893, 894, 895, 896, 897, 898, 925, 926, 927] (by decide +kernel) (by decide +kernel)
set_option maxRecDepth 20000 in
theorem gL_law_X6_wash : GoodIn wsL_law (wsV RL 139 RX6 yX6_wash wsX6_wash) := goodIn_app (goodIn_of _ (by decide +kernel)) ggL_law_X6_wash
set_option maxRecDepth 20000 in
theorem ggL_law_L_sell : GoodIn wsL_law wsL_sell := goodIn_ca (goodIn_ca (goodIn_ca (goodIn_r _ [630, 83, 84, 85, 631, 632, 633, 2, 634, 90, 91, 92, 93, 19, 614, 615, 635, 461, 462, 463, 464, 101, 102, 394, 616, 617, 618, 619, 561, 199, 200, 636, 637, 638, 21, 639, 567, 566, 640, 641, 878, 879, 880, 881, 882, 883, 884, 885, 886, 887, 904, 905, 906, 907, 908, 909] (by decide +kernel) (by decide +kernel)) (goodIn_sub (fun _ h => List.mem_append_left _ (List.mem_append_left _ (List.mem_append_right _ h))) (by decide +kernel))) (goodIn_sub (fun _ h => List.mem_append_left _ (List.mem_append_right _ h)) (by decide +kernel))) (goodIn_sub (fun _ h => List.mem_append_right _ h) (by decide +kernel))
set_option maxRecDepth 20000 in
theorem gL_law_L_sell : GoodIn wsL_law (va_wsS RL 140 yL_sell wsL_sell) := goodIn_app (goodIn_of _ (by decide +kernel)) ggL_law_L_sell
set_option maxRecDepth 20000 in
theorem ggL_law_X6_sell : GoodIn wsL_law wsX6_sell := goodIn_r _ [645, 50, 473, 646, 474, 475, 476, 5, 477, 399, 400, 401, 49, 402, 403, 113, 114, 115, 116, 117, 118, 119, 120, 121, 122, 123, 124, 478, 479, 480, 481, 482, 483, 484, 485, 486, 487, 488, 489, 490, 491, 492, 493, 68, 624, 625, 626, 627, 586, 298, 299, 888, 889, 890, 891, 892, 893, 894, 895, 896, 897, 898, 925, 926, 927] (by decide +kernel) (by decide +kernel)
set_option maxRecDepth 20000 in
theorem gL_law_X6_sell : GoodIn wsL_law (wsV RL 142 RX6 yX6_sell wsX6_sell) := goodIn_app (goodIn_of _ (by decide +kernel)) ggL_law_X6_sell
set_option maxRecDepth 20000 in
theorem ggL_law_L_ofPond : GoodIn wsL_law wsL_ofPond := goodIn_ca (goodIn_ca (goodIn_r _ [649, 83, 84, 650, 651, 652, 2, 653, 90, 91, 16, 95, 97, 98, 99, 100, 101, 102, 654, 655, 656, 29, 657, 33, 198, 205, 206, 207, 226, 243, 249, 538, 658, 195, 196, 197, 199, 200, 232, 233, 234, 235, 236, 231, 213, 192, 214, 878, 879, 880, 881, 882, 883, 884, 885, 886, 887, 899, 900, 901, 902, 903, 910, 911, 912, 913, 914, 915, 916, 917, 918, 919, 920, 921] (by decide +kernel) (by decide +kernel)) (goodIn_sub (fun _ h => List.mem_append_left _ (List.mem_append_left _ (List.mem_append_right _ h))) (by decide +kernel))) (goodIn_sub (fun _ h => List.mem_append_right _ h) (by decide +kernel))
set_option maxRecDepth 20000 in
theorem gL_law_L_ofPond : GoodIn wsL_law (va_wsS RL 143 yL_ofPond wsL_ofPond) := goodIn_app (goodIn_of _ (by decide +kernel)) ggL_law_L_ofPond
set_option maxRecDepth 20000 in
theorem ggL_law_X6_ofPond : GoodIn wsL_law wsX6_ofPond := goodIn_r _ [662, 110, 111, 5, 112, 113, 114, 115, 116, 117, 118, 119, 120, 121, 122, 123, 124, 663, 664, 665, 666, 46, 108, 37, 109, 363, 365, 366, 367, 342, 573, 574, 575, 107, 667, 287, 288, 58, 289, 290, 62, 386, 307, 308, 309, 310, 295, 297, 311, 312, 313, 192, 314, 668, 669, 670, 888, 889, 890, 891, 892, 893, 894, 895, 896, 897, 898, 922, 923, 924, 928, 929, 930, 931, 932, 933, 934, 935, 936, 937, 938] (by decide +kernel) (by decide +kernel)
set_option maxRecDepth 20000 in
theorem gL_law_X6_ofPond : GoodIn wsL_law (wsV RL 145 RX6 yX6_ofPond wsX6_ofPond) := goodIn_app (goodIn_of _ (by decide +kernel)) ggL_law_X6_ofPond
set_option maxRecDepth 20000 in
theorem ggL_law_L_ofFamily : GoodIn wsL_law wsL_ofFamily := goodIn_ca (goodIn_ca (goodIn_r _ [673, 83, 84, 674, 675, 676, 2, 677, 90, 91, 19, 461, 462, 463, 464, 101, 102, 394, 678, 679, 680, 21, 681, 566, 567, 641, 568, 640, 617, 618, 619, 561, 199, 200, 878, 879, 880, 881, 882, 883, 884, 885, 886, 887, 904, 905, 906, 907, 908, 909] (by decide +kernel) (by decide +kernel)) (goodIn_sub (fun _ h => List.mem_append_left _ (List.mem_append_left _ (List.mem_append_right _ h))) (by decide +kernel))) (goodIn_sub (fun _ h => List.mem_append_right _ h) (by decide +kernel))
set_option maxRecDepth 20000 in
theorem gL_law_L_ofFamily : GoodIn wsL_law (va_wsS RL 146 yL_ofFamily wsL_ofFamily) := goodIn_app (goodIn_of _ (by decide +kernel)) ggL_law_L_ofFamily
set_option maxRecDepth 20000 in
theorem ggL_law_X6_ofFamily : GoodIn wsL_law wsX6_ofFamily := goodIn_r _ [685, 50, 473, 474, 475, 476, 5, 477, 399, 400, 401, 49, 402, 403, 113, 114, 115, 116, 117, 118, 119, 120, 121, 122, 123, 124, 478, 479, 480, 481, 482, 483, 484, 485, 486, 487, 488, 489, 490, 491, 492, 493, 68, 686, 687, 688, 37, 624, 625, 626, 627, 888, 889, 890, 891, 892, 893, 894, 895, 896, 897, 898, 925, 926, 927] (by decide +kernel) (by decide +kernel)
set_option maxRecDepth 20000 in
theorem gL_law_X6_ofFamily : GoodIn wsL_law (wsV RL 148 RX6 yX6_ofFamily wsX6_ofFamily) := goodIn_app (goodIn_of _ (by decide +kernel)) ggL_law_X6_ofFamily
set_option maxRecDepth 20000 in
theorem ggL_law_L_rightOf : GoodIn wsL_law wsL_rightOf := goodIn_ca (goodIn_r _ [691, 83, 692, 693, 694, 2, 695, 19, 460, 461, 462, 463, 464, 101, 102, 394, 150, 151, 152, 153, 878, 879, 880, 881, 882, 883, 884, 885, 886, 887, 904, 905, 906, 907, 908, 909] (by decide +kernel) (by decide +kernel)) (goodIn_sub (fun _ h => List.mem_append_right _ h) (by decide +kernel))
set_option maxRecDepth 20000 in
theorem gL_law_L_rightOf : GoodIn wsL_law (va_wsS RL 149 yL_rightOf wsL_rightOf) := goodIn_app (goodIn_of _ (by decide +kernel)) ggL_law_L_rightOf
set_option maxRecDepth 20000 in
theorem ggL_law_X6_rightOf : GoodIn wsL_law wsX6_rightOf := goodIn_r _ [699, 50, 473, 474, 475, 476, 5, 477, 399, 400, 401, 49, 402, 403, 113, 114, 115, 159, 160, 161, 116, 117, 118, 119, 120, 121, 122, 123, 124, 478, 479, 480, 481, 482, 483, 484, 485, 486, 487, 488, 489, 490, 491, 492, 493, 68, 888, 889, 890, 891, 892, 893, 894, 895, 896, 897, 898, 925, 926, 927] (by decide +kernel) (by decide +kernel)
set_option maxRecDepth 20000 in
theorem gL_law_X6_rightOf : GoodIn wsL_law (wsV RL 151 RX6 yX6_rightOf wsX6_rightOf) := goodIn_app (goodIn_of _ (by decide +kernel)) ggL_law_X6_rightOf
set_option maxRecDepth 20000 in
theorem ggL_law_L_tide : GoodIn wsL_law wsL_tide := goodIn_ca (goodIn_r _ [702, 84, 703, 704, 705, 2, 706, 90, 91, 354, 188, 189, 190, 191, 192, 193] (by decide +kernel) (by decide +kernel)) (goodIn_sub (fun _ h => List.mem_append_left _ (List.mem_append_left _ (List.mem_append_right _ h))) (by decide +kernel))
set_option maxRecDepth 20000 in
theorem gL_law_L_tide : GoodIn wsL_law (va_wsS RL 152 yL_tide wsL_tide) := goodIn_app (goodIn_of _ (by decide +kernel)) ggL_law_L_tide
set_option maxRecDepth 20000 in
theorem ggL_law_X6_tide : GoodIn wsL_law wsX6_tide := goodIn_r _ [710, 113, 114, 5, 115, 116, 117, 118, 119, 120, 121, 122, 123, 124, 368, 283, 284, 285, 191, 192, 193, 888, 889, 890, 891, 892, 893, 894, 895, 896, 897, 898] (by decide +kernel) (by decide +kernel)
set_option maxRecDepth 20000 in
theorem gL_law_X6_tide : GoodIn wsL_law (wsV RL 154 RX6 yX6_tide wsX6_tide) := goodIn_app (goodIn_of _ (by decide +kernel)) ggL_law_X6_tide
set_option maxRecDepth 20000 in
theorem ggL_law_L_many : GoodIn wsL_law wsL_many := goodIn_ca (goodIn_r _ [713, 84, 714, 715, 716, 2, 717, 90, 91, 16, 94, 394, 718, 352, 533, 559, 560, 337, 376, 719, 720, 721, 15, 722, 27, 185, 723, 724, 725, 726, 727, 728, 729, 730, 731, 732, 655, 656, 29, 657, 33, 198, 205, 206, 207, 226, 243, 249, 538, 658, 195, 196, 197, 199, 200, 232, 233, 234, 235, 236, 231, 213, 192, 214, 733, 734, 735, 736, 19, 678, 679, 680, 21, 681, 566, 567, 641, 568, 640, 617, 618, 619, 561, 878, 879, 880, 881, 882, 883, 884, 885, 886, 887, 899, 900, 901, 902, 903, 910, 911, 912, 913, 914, 915, 916, 917, 918, 919, 920, 921, 904, 905, 906, 907, 908, 909] (by decide +kernel) (by decide +kernel)) (goodIn_sub (fun _ h => List.mem_append_left _ (List.mem_append_left _ (List.mem_append_right _ h))) (by decide +kernel))
set_option maxRecDepth 20000 in
theorem gL_law_L_many : GoodIn wsL_law (va_wsS RL 155 yL_many wsL_many) := goodIn_app (goodIn_of _ (by decide +kernel)) ggL_law_L_many
set_option maxRecDepth 20000 in
theorem ggL_law_X6_many : GoodIn wsL_law wsX6_many := goodIn_r _ [740, 113, 114, 5, 115, 116, 117, 118, 119, 120, 121, 122, 123, 124, 741, 742, 743, 744, 37, 46, 108, 141, 158, 365, 573, 574, 363, 342, 50, 473, 107, 745, 364, 576, 591, 592, 343, 384, 668, 669, 670, 494, 495, 496, 49, 497, 498, 499, 500, 501, 502, 503, 504, 505, 11, 12, 506, 507, 409, 508, 509, 510, 511, 512, 513, 514, 515, 516, 517, 518, 519, 520, 521, 522, 399, 400, 401, 402, 403, 888, 889, 890, 891, 892, 893, 894, 895, 896, 897, 898, 922, 923, 924, 928, 929, 930, 931, 932, 933, 934, 935, 936, 937, 938, 939, 940, 941, 942, 925, 926, 927] (by decide +kernel) (by decide +kernel)
set_option maxRecDepth 20000 in
theorem gL_law_X6_many : GoodIn wsL_law (wsV RL 157 RX6 yX6_many wsX6_many) := goodIn_app (goodIn_of _ (by decide +kernel)) ggL_law_X6_many
set_option maxRecDepth 20000 in
theorem ggL_law_X3_meanStrength : GoodIn wsL_law wsX3_meanStrength := goodIn_r _ [749, 16, 95, 351, 379, 233, 234, 29, 235, 205, 207, 236, 198, 231, 213, 192, 214, 199, 2, 200, 878, 879, 880, 881, 882, 883, 884, 885, 886, 887, 899, 900, 901, 902, 903, 910, 911, 912, 913, 914, 915, 916, 917, 918, 919, 920, 921] (by decide +kernel) (by decide +kernel)
set_option maxRecDepth 20000 in
theorem gL_law_X3_meanStrength : GoodIn wsL_law (wsV RL 158 RX3 yX3_meanStrength wsX3_meanStrength) := goodIn_app (goodIn_of _ (by decide +kernel)) ggL_law_X3_meanStrength
set_option maxRecDepth 20000 in
theorem ggL_law_X6_meanStrength : GoodIn wsL_law wsX6_meanStrength := goodIn_r _ [753, 120, 46, 108, 363, 386, 307, 308, 58, 309, 290, 310, 295, 297, 311, 312, 313, 192, 314, 888, 889, 890, 891, 892, 893, 894, 895, 896, 897, 898, 922, 923, 924, 928, 929, 930, 931, 932, 933, 934, 935, 936, 937, 938] (by decide +kernel) (by decide +kernel)
set_option maxRecDepth 20000 in
theorem gL_law_X6_meanStrength : GoodIn wsL_law (wsV RL 162 RX6 yX6_meanStrength wsX6_meanStrength) := goodIn_app (goodIn_of _ (by decide +kernel)) ggL_law_X6_meanStrength
set_option maxRecDepth 20000 in
theorem ggL_law_L_crustIn : GoodIn wsL_law wsL_crustIn := goodIn_ca (goodIn_ca (goodIn_r _ [756, 83, 84, 757, 758, 759, 2, 760, 17, 16, 95, 761, 150, 151, 152, 153, 101, 102, 169, 170, 171, 172, 90, 91, 762, 763, 764, 15, 765, 177, 178, 179, 187, 27, 766, 767, 768, 29, 769, 33, 198, 205, 206, 207, 226, 243, 249, 248, 770, 225, 538, 173, 174, 175, 176, 180, 181, 182, 183, 184, 185, 186, 188, 189, 190, 191, 192, 193, 194, 195, 196, 197, 199, 200, 201, 202, 203, 204, 208, 209, 210, 211, 212, 213, 214, 215, 216, 217, 218, 219, 220, 221, 222, 223, 224, 227, 228, 229, 230, 231, 232, 233, 234, 235, 236, 237, 238, 239, 240, 241, 242, 244, 245, 246, 247, 250, 251, 252, 253, 254, 255, 256, 878, 879, 880, 881, 882, 883, 884, 885, 886, 887, 899, 900, 901, 902, 903, 910, 911, 912, 913, 914, 915, 916, 917, 918, 919, 920, 921] (by decide +kernel) (by decide +kernel)) (goodIn_sub (fun _ h => List.mem_append_right _ h) (by decide +kernel))) (goodIn_sub (fun _ h => List.mem_append_left _ (List.mem_append_left _ (List.mem_append_right _ h))) (by decide +kernel))
set_option maxRecDepth 20000 in
theorem gL_law_L_crustIn : GoodIn wsL_law (va_wsS RL 163 yL_crustIn wsL_crustIn) := goodIn_app (goodIn_of _ (by decide +kernel)) ggL_law_L_crustIn
set_option maxRecDepth 20000 in
theorem ggL_law_X6_crustIn : GoodIn wsL_law wsX6_crustIn := goodIn_r _ [774, 159, 160, 5, 161, 113, 114, 115, 116, 117, 118, 119, 120, 121, 122, 123, 124, 775, 776, 777, 778, 46, 779, 780, 781, 45, 782, 783, 44, 56, 272, 784, 52, 53, 54, 11, 12, 55, 57, 58, 59, 60, 61, 62, 63, 785, 786, 787, 788, 789, 290, 295, 296, 297, 304, 319, 328, 790, 791, 792, 268, 269, 270, 271, 273, 274, 275, 276, 277, 278, 279, 280, 213, 192, 214, 37, 281, 282, 283, 284, 285, 191, 193, 286, 287, 288, 289, 291, 292, 293, 294, 298, 299, 300, 301, 302, 303, 305, 306, 307, 308, 309, 310, 311, 312, 313, 314, 315, 316, 317, 318, 320, 321, 322, 323, 324, 325, 255, 256, 326, 327, 888, 889, 890, 891, 892, 893, 894, 895, 896, 897, 898, 922, 923, 924, 928, 929, 930, 931, 932, 933, 934, 935, 936, 937, 938] (by decide +kernel) (by decide +kernel)
set_option maxRecDepth 20000 in
theorem gL_law_X6_crustIn : GoodIn wsL_law (wsV RL 165 RX6 yX6_crustIn wsX6_crustIn) := goodIn_app (goodIn_of _ (by decide +kernel)) ggL_law_X6_crustIn
set_option maxRecDepth 20000 in
theorem ggL_law_L_bestGates : GoodIn wsL_law wsL_bestGates := goodIn_ca (goodIn_r _ [795, 84, 796, 797, 798, 2, 799, 90, 91, 169, 170, 171, 172, 800, 801, 802, 803, 17, 16, 762, 763, 764, 15, 765, 177, 178, 179, 187, 27, 766, 767, 768, 29, 769, 33, 198, 205, 206, 207, 226, 243, 249, 248, 770, 225, 538, 804, 805, 806, 807, 185, 173, 174, 175, 176, 180, 181, 182, 183, 184, 186, 188, 189, 190, 191, 192, 193, 194, 195, 196, 197, 199, 200, 201, 202, 203, 204, 208, 209, 210, 211, 212, 213, 214, 215, 216, 217, 218, 219, 220, 221, 222, 223, 224, 227, 228, 229, 230, 231, 232, 233, 234, 235, 236, 237, 238, 239, 240, 241, 242, 244, 245, 246, 247, 250, 251, 252, 253, 254, 255, 256, 808, 809, 810, 811, 812, 813, 878, 879, 880, 881, 882, 883, 884, 885, 886, 887, 899, 900, 901, 902, 903, 910, 911, 912, 913, 914, 915, 916, 917, 918, 919, 920, 921] (by decide +kernel) (by decide +kernel)) (goodIn_sub (fun _ h => List.mem_append_left _ (List.mem_append_left _ (List.mem_append_right _ h))) (by decide +kernel))
set_option maxRecDepth 20000 in
theorem gL_law_L_bestGates : GoodIn wsL_law (va_wsS RL 166 yL_bestGates wsL_bestGates) := goodIn_app (goodIn_of _ (by decide +kernel)) ggL_law_L_bestGates
set_option maxRecDepth 20000 in
theorem ggL_law_X6_bestGates : GoodIn wsL_law wsX6_bestGates := goodIn_r _ [817, 113, 114, 5, 115, 116, 117, 118, 119, 120, 121, 122, 123, 124, 818, 819, 820, 821, 822, 823, 824, 825, 46, 108, 141, 365, 573, 779, 780, 781, 45, 782, 783, 44, 56, 272, 784, 52, 53, 54, 11, 12, 55, 57, 58, 59, 60, 61, 62, 63, 785, 786, 787, 788, 789, 290, 295, 296, 297, 304, 319, 328, 790, 791, 792, 268, 269, 270, 271, 273, 274, 275, 276, 277, 278, 279, 280, 213, 192, 214, 37, 281, 282, 283, 284, 285, 191, 193, 286, 287, 288, 289, 291, 292, 293, 294, 298, 299, 300, 301, 302, 303, 305, 306, 307, 308, 309, 310, 311, 312, 313, 314, 315, 316, 317, 318, 320, 321, 322, 323, 324, 325, 255, 256, 326, 327, 888, 889, 890, 891, 892, 893, 894, 895, 896, 897, 898, 922, 923, 924, 928, 929, 930, 931, 932, 933, 934, 935, 936, 937, 938] (by decide +kernel) (by decide +kernel)
set_option maxRecDepth 20000 in
theorem gL_law_X6_bestGates : GoodIn wsL_law (wsV RL 168 RX6 yX6_bestGates wsX6_bestGates) := goodIn_app (goodIn_of _ (by decide +kernel)) ggL_law_X6_bestGates
set_option maxRecDepth 20000 in
theorem ggL_law_L_wouldBe : GoodIn wsL_law wsL_wouldBe := goodIn_ca (goodIn_r _ [828, 83, 829, 830, 831, 2, 832, 16, 95, 19, 460, 614, 558, 615, 150, 151, 152, 153, 101, 102, 461, 462, 463, 464, 394, 534, 535, 536, 29, 537, 243, 538, 539, 540, 541, 542, 33, 231, 213, 192, 214, 543, 544, 545, 546, 249, 199, 200, 547, 548, 549, 550, 551, 552, 553, 561, 616, 617, 618, 619, 878, 879, 880, 881, 882, 883, 884, 885, 886, 887, 899, 900, 901, 902, 903, 904, 905, 906, 907, 908, 909, 910, 911, 912, 913, 914, 915, 916, 917, 918, 919, 920, 921] (by decide +kernel) (by decide +kernel)) (goodIn_sub (fun _ h => List.mem_append_right _ h) (by decide +kernel))
set_option maxRecDepth 20000 in
theorem gL_law_L_wouldBe : GoodIn wsL_law (va_wsS RL 169 yL_wouldBe wsL_wouldBe) := goodIn_app (goodIn_of _ (by decide +kernel)) ggL_law_L_wouldBe
set_option maxRecDepth 20000 in
theorem ggL_law_X6_wouldBe : GoodIn wsL_law wsX6_wouldBe := goodIn_r _ [836, 50, 473, 46, 108, 109, 159, 160, 5, 161, 113, 114, 115, 474, 475, 476, 477, 399, 400, 401, 49, 402, 403, 116, 117, 118, 119, 120, 121, 122, 123, 124, 577, 578, 579, 580, 573, 575, 107, 581, 582, 583, 584, 585, 213, 192, 214, 37, 574, 586, 298, 299, 478, 479, 480, 481, 482, 483, 484, 485, 486, 487, 488, 489, 490, 491, 492, 493, 68, 624, 625, 626, 627, 888, 889, 890, 891, 892, 893, 894, 895, 896, 897, 898, 922, 923, 924, 928, 929, 930, 931, 932, 933, 934, 935, 936, 937, 938, 925, 926, 927] (by decide +kernel) (by decide +kernel)
set_option maxRecDepth 20000 in
theorem gL_law_X6_wouldBe : GoodIn wsL_law (wsV RL 172 RX6 yX6_wouldBe wsX6_wouldBe) := goodIn_app (goodIn_of _ (by decide +kernel)) ggL_law_X6_wouldBe
set_option maxRecDepth 20000 in
theorem ggL_law_L_tideOn : GoodIn wsL_law wsL_tideOn := goodIn_ca (goodIn_r _ [839, 84, 840, 841, 842, 2, 843, 90, 91, 16, 94, 354, 188, 189, 190, 191, 192, 193, 878, 879, 880, 881, 882, 883, 884, 885, 886, 887, 899, 900, 901, 902, 903] (by decide +kernel) (by decide +kernel)) (goodIn_sub (fun _ h => List.mem_append_left _ (List.mem_append_left _ (List.mem_append_right _ h))) (by decide +kernel))
set_option maxRecDepth 20000 in
theorem gL_law_L_tideOn : GoodIn wsL_law (va_wsS RL 173 yL_tideOn wsL_tideOn) := goodIn_app (goodIn_of _ (by decide +kernel)) ggL_law_L_tideOn
set_option maxRecDepth 20000 in
theorem ggL_law_X6_tideOn : GoodIn wsL_law wsX6_tideOn := goodIn_r _ [847, 113, 114, 5, 115, 116, 117, 118, 119, 120, 121, 122, 123, 124, 848, 849, 850, 851, 46, 107, 368, 283, 284, 285, 191, 192, 193, 888, 889, 890, 891, 892, 893, 894, 895, 896, 897, 898, 922, 923, 924] (by decide +kernel) (by decide +kernel)
set_option maxRecDepth 20000 in
theorem gL_law_X6_tideOn : GoodIn wsL_law (wsV RL 175 RX6 yX6_tideOn wsX6_tideOn) := goodIn_app (goodIn_of _ (by decide +kernel)) ggL_law_X6_tideOn
set_option maxRecDepth 20000 in
theorem ggL_law_X3_digest : GoodIn wsL_law wsX3_digest := goodIn_ca (goodIn_ca (goodIn_r _ [855, 856, 857, 394, 858, 715, 716, 2, 717, 90, 91, 16, 94, 718, 352, 533, 559, 560, 337, 376, 719, 720, 721, 15, 722, 27, 185, 723, 724, 725, 726, 727, 728, 729, 730, 731, 732, 655, 656, 29, 657, 33, 198, 205, 206, 207, 226, 243, 249, 538, 658, 195, 196, 197, 199, 200, 232, 233, 234, 235, 236, 231, 213, 192, 214, 733, 734, 735, 736, 19, 678, 679, 680, 21, 681, 566, 567, 641, 568, 640, 617, 618, 619, 561, 859, 651, 652, 653, 95, 97, 98, 99, 100, 101, 102, 654, 860, 861, 862, 863, 864, 675, 676, 677, 461, 462, 463, 464, 865, 693, 694, 695, 460, 150, 151, 152, 153, 866, 758, 759, 760, 17, 761, 169, 170, 171, 172, 762, 763, 764, 765, 177, 178, 179, 187, 766, 767, 768, 769, 248, 770, 225, 173, 174, 175, 176, 180, 181, 182, 183, 184, 186, 188, 189, 190, 191, 193, 194, 201, 202, 203, 204, 208, 209, 210, 211, 212, 215, 216, 217, 218, 219, 220, 221, 222, 223, 224, 227, 228, 229, 230, 237, 238, 239, 240, 241, 242, 244, 245, 246, 247, 250, 251, 252, 253, 254, 255, 256, 867, 797, 798, 799, 800, 801, 802, 803, 804, 805, 806, 807, 808, 809, 810, 811, 812, 813, 868, 841, 842, 843, 354, 878, 879, 880, 881, 882, 883, 884, 885, 886, 887, 899, 900, 901, 902, 903, 910, 911, 912, 913, 914, 915, 916, 917, 918, 919, 920, 921, 904, 905, 906, 907, 908, 909] (by decide +kernel) (by decide +kernel)) (goodIn_sub (fun _ h => List.mem_append_left _ (List.mem_append_left _ (List.mem_append_right _ h))) (by decide +kernel))) (goodIn_sub (fun _ h => List.mem_append_right _ h) (by decide +kernel))
set_option maxRecDepth 20000 in
theorem gL_law_X3_digest : GoodIn wsL_law (wsV RL 176 RX3 yX3_digest wsX3_digest) := goodIn_app (goodIn_of _ (by decide +kernel)) ggL_law_X3_digest
set_option maxRecDepth 20000 in
theorem ggL_law_X6_digest : GoodIn wsL_law wsX6_digest := goodIn_r _ [872, 120, 873, 50, 473, 741, 742, 743, 5, 744, 37, 46, 108, 141, 158, 365, 573, 574, 363, 342, 107, 745, 364, 576, 591, 592, 343, 384, 668, 669, 670, 494, 495, 496, 49, 497, 498, 499, 500, 501, 502, 503, 504, 505, 11, 12, 506, 507, 409, 508, 509, 510, 511, 512, 513, 514, 515, 516, 517, 518, 519, 520, 521, 522, 399, 400, 401, 402, 403, 874, 875, 876, 877, 663, 664, 665, 666, 109, 366, 367, 575, 667, 287, 288, 58, 289, 290, 62, 386, 307, 308, 309, 310, 295, 297, 311, 312, 313, 192, 314, 686, 687, 688, 624, 625, 626, 627, 775, 776, 777, 778, 779, 780, 781, 45, 782, 783, 44, 56, 272, 784, 52, 53, 54, 55, 57, 59, 60, 61, 63, 785, 786, 787, 788, 789, 296, 304, 319, 328, 790, 791, 792, 268, 269, 270, 271, 273, 274, 275, 276, 277, 278, 279, 280, 213, 214, 281, 282, 283, 284, 285, 191, 193, 286, 291, 292, 293, 294, 298, 299, 300, 301, 302, 303, 305, 306, 315, 316, 317, 318, 320, 321, 322, 323, 324, 325, 255, 256, 326, 327, 818, 819, 820, 821, 822, 823, 824, 825, 848, 849, 850, 851, 368, 888, 889, 890, 891, 892, 893, 894, 895, 896, 897, 898, 922, 923, 924, 928, 929, 930, 931, 932, 933, 934, 935, 936, 937, 938, 939, 940, 941, 942, 925, 926, 927] (by decide +kernel) (by decide +kernel)
set_option maxRecDepth 20000 in
theorem gL_law_X6_digest : GoodIn wsL_law (wsV RL 180 RX6 yX6_digest wsX6_digest) := goodIn_app (goodIn_of _ (by decide +kernel)) ggL_law_X6_digest
theorem dL_law_0 : decode cL_law 0 = .ok (.new 8, 3) := by decide +kernel
theorem dL_law_3 : decode cL_law 3 = .ok (.dup, 1) := by decide +kernel
theorem dL_law_4 : decode cL_law 4 = .ok (.invokespecial 89, 3) := by decide +kernel
theorem dL_law_7 : decode cL_law 7 = .ok (.astore_n 1, 1) := by decide +kernel
theorem dL_law_8 : decode cL_law 8 = .ok (.new 90, 3) := by decide +kernel
theorem dL_law_11 : decode cL_law 11 = .ok (.dup, 1) := by decide +kernel
theorem dL_law_12 : decode cL_law 12 = .ok (.invokespecial 92, 3) := by decide +kernel
theorem dL_law_15 : decode cL_law 15 = .ok (.astore_n 2, 1) := by decide +kernel
theorem dL_law_16 : decode cL_law 16 = .ok (.iconst 1, 1) := by decide +kernel
theorem dL_law_17 : decode cL_law 17 = .ok (.newarray .long, 2) := by decide +kernel
theorem dL_law_19 : decode cL_law 19 = .ok (.astore_n 3, 1) := by decide +kernel
theorem dL_law_20 : decode cL_law 20 = .ok (.iconst 0, 1) := by decide +kernel
theorem dL_law_21 : decode cL_law 21 = .ok (.istore 4, 2) := by decide +kernel
theorem dL_law_23 : decode cL_law 23 = .ok (.iload 4, 2) := by decide +kernel
theorem dL_law_25 : decode cL_law 25 = .ok (.aload_n 0, 1) := by decide +kernel
theorem dL_law_26 : decode cL_law 26 = .ok (.arraylength, 1) := by decide +kernel
theorem dL_law_27 : decode cL_law 27 = .ok (.iconst 5, 1) := by decide +kernel
theorem dL_law_28 : decode cL_law 28 = .ok (.isub, 1) := by decide +kernel
theorem dL_law_29 : decode cL_law 29 = .ok (.if_icmp .gt 1770, 3) := by decide +kernel
theorem dL_law_32 : decode cL_law 32 = .ok (.aload_n 0, 1) := by decide +kernel
theorem dL_law_33 : decode cL_law 33 = .ok (.iload 4, 2) := by decide +kernel
theorem dL_law_35 : decode cL_law 35 = .ok (.iaload, 1) := by decide +kernel
theorem dL_law_36 : decode cL_law 36 = .ok (.bipush 31, 2) := by decide +kernel
theorem dL_law_38 : decode cL_law 38 = .ok (.iand, 1) := by decide +kernel
theorem dL_law_39 : decode cL_law 39 = .ok (.tableswitch 1754 0 23 #[109, 177, 268, 359, 451, 507, 563, 643, 687, 767, 851, 907, 963, 1043, 1111, 1179, 1247, 1303, 1359, 1400, 1480, 1560, 1656, 1740], 109) := by decide +kernel
theorem dL_law_148 : decode cL_law 148 = .ok (.aload_n 1, 1) := by decide +kernel
theorem dL_law_149 : decode cL_law 149 = .ok (.aload_n 0, 1) := by decide +kernel
theorem dL_law_150 : decode cL_law 150 = .ok (.iload 4, 2) := by decide +kernel
theorem dL_law_152 : decode cL_law 152 = .ok (.iconst 1, 1) := by decide +kernel
theorem dL_law_153 : decode cL_law 153 = .ok (.iadd, 1) := by decide +kernel
theorem dL_law_154 : decode cL_law 154 = .ok (.iaload, 1) := by decide +kernel
theorem dL_law_155 : decode cL_law 155 = .ok (.aload_n 0, 1) := by decide +kernel
theorem dL_law_156 : decode cL_law 156 = .ok (.iload 4, 2) := by decide +kernel
theorem dL_law_158 : decode cL_law 158 = .ok (.iconst 2, 1) := by decide +kernel
theorem dL_law_159 : decode cL_law 159 = .ok (.iadd, 1) := by decide +kernel
theorem dL_law_160 : decode cL_law 160 = .ok (.iaload, 1) := by decide +kernel
theorem dL_law_161 : decode cL_law 161 = .ok (.aload_n 3, 1) := by decide +kernel
theorem dL_law_162 : decode cL_law 162 = .ok (.invokestatic 93, 3) := by decide +kernel
theorem dL_law_165 : decode cL_law 165 = .ok (.istore 5, 2) := by decide +kernel
theorem dL_law_167 : decode cL_law 167 = .ok (.aload_n 2, 1) := by decide +kernel
theorem dL_law_168 : decode cL_law 168 = .ok (.aload_n 0, 1) := by decide +kernel
theorem dL_law_169 : decode cL_law 169 = .ok (.iload 4, 2) := by decide +kernel
theorem dL_law_171 : decode cL_law 171 = .ok (.iconst 1, 1) := by decide +kernel
theorem dL_law_172 : decode cL_law 172 = .ok (.iadd, 1) := by decide +kernel
theorem dL_law_173 : decode cL_law 173 = .ok (.iaload, 1) := by decide +kernel
theorem dL_law_174 : decode cL_law 174 = .ok (.aload_n 0, 1) := by decide +kernel
theorem dL_law_175 : decode cL_law 175 = .ok (.iload 4, 2) := by decide +kernel
theorem dL_law_177 : decode cL_law 177 = .ok (.iconst 2, 1) := by decide +kernel
theorem dL_law_178 : decode cL_law 178 = .ok (.iadd, 1) := by decide +kernel
theorem dL_law_179 : decode cL_law 179 = .ok (.iaload, 1) := by decide +kernel
theorem dL_law_180 : decode cL_law 180 = .ok (.invokevirtual 98, 3) := by decide +kernel
theorem dL_law_183 : decode cL_law 183 = .ok (.istore 6, 2) := by decide +kernel
theorem dL_law_185 : decode cL_law 185 = .ok (.aload_n 2, 1) := by decide +kernel
theorem dL_law_186 : decode cL_law 186 = .ok (.invokevirtual 99, 3) := by decide +kernel
theorem dL_law_189 : decode cL_law 189 = .ok (.iload 5, 2) := by decide +kernel
theorem dL_law_191 : decode cL_law 191 = .ok (.if_icmp .eq 5, 3) := by decide +kernel
theorem dL_law_194 : decode cL_law 194 = .ok (.iconst 0, 1) := by decide +kernel
theorem dL_law_195 : decode cL_law 195 = .ok (.ireturn, 1) := by decide +kernel
theorem dL_law_196 : decode cL_law 196 = .ok (.iload 5, 2) := by decide +kernel
theorem dL_law_198 : decode cL_law 198 = .ok (.ifCond .ne 15, 3) := by decide +kernel
theorem dL_law_201 : decode cL_law 201 = .ok (.aload_n 3, 1) := by decide +kernel
theorem dL_law_202 : decode cL_law 202 = .ok (.iconst 0, 1) := by decide +kernel
theorem dL_law_203 : decode cL_law 203 = .ok (.laload, 1) := by decide +kernel
theorem dL_law_204 : decode cL_law 204 = .ok (.iload 6, 2) := by decide +kernel
theorem dL_law_206 : decode cL_law 206 = .ok (.i2l, 1) := by decide +kernel
theorem dL_law_207 : decode cL_law 207 = .ok (.lcmp, 1) := by decide +kernel
theorem dL_law_208 : decode cL_law 208 = .ok (.ifCond .eq 5, 3) := by decide +kernel
theorem dL_law_211 : decode cL_law 211 = .ok (.iconst 0, 1) := by decide +kernel
theorem dL_law_212 : decode cL_law 212 = .ok (.ireturn, 1) := by decide +kernel
theorem dL_law_213 : decode cL_law 213 = .ok (.goto 1580, 3) := by decide +kernel
theorem dL_law_216 : decode cL_law 216 = .ok (.aload_n 1, 1) := by decide +kernel
theorem dL_law_217 : decode cL_law 217 = .ok (.aload_n 0, 1) := by decide +kernel
theorem dL_law_218 : decode cL_law 218 = .ok (.iload 4, 2) := by decide +kernel
theorem dL_law_220 : decode cL_law 220 = .ok (.iconst 1, 1) := by decide +kernel
theorem dL_law_221 : decode cL_law 221 = .ok (.iadd, 1) := by decide +kernel
theorem dL_law_222 : decode cL_law 222 = .ok (.iaload, 1) := by decide +kernel
theorem dL_law_223 : decode cL_law 223 = .ok (.aload_n 0, 1) := by decide +kernel
theorem dL_law_224 : decode cL_law 224 = .ok (.iload 4, 2) := by decide +kernel
theorem dL_law_226 : decode cL_law 226 = .ok (.iconst 2, 1) := by decide +kernel
theorem dL_law_227 : decode cL_law 227 = .ok (.iadd, 1) := by decide +kernel
theorem dL_law_228 : decode cL_law 228 = .ok (.iaload, 1) := by decide +kernel
theorem dL_law_229 : decode cL_law 229 = .ok (.ifCond .eq 7, 3) := by decide +kernel
theorem dL_law_232 : decode cL_law 232 = .ok (.iconst 1, 1) := by decide +kernel
theorem dL_law_233 : decode cL_law 233 = .ok (.goto 4, 3) := by decide +kernel
theorem dL_law_236 : decode cL_law 236 = .ok (.iconst 0, 1) := by decide +kernel
theorem dL_law_237 : decode cL_law 237 = .ok (.aload_n 3, 1) := by decide +kernel
theorem dL_law_238 : decode cL_law 238 = .ok (.invokestatic 102, 3) := by decide +kernel
theorem dL_law_241 : decode cL_law 241 = .ok (.istore 5, 2) := by decide +kernel
theorem dL_law_243 : decode cL_law 243 = .ok (.aload_n 2, 1) := by decide +kernel
theorem dL_law_244 : decode cL_law 244 = .ok (.aload_n 0, 1) := by decide +kernel
theorem dL_law_245 : decode cL_law 245 = .ok (.iload 4, 2) := by decide +kernel
theorem dL_law_247 : decode cL_law 247 = .ok (.iconst 1, 1) := by decide +kernel
theorem dL_law_248 : decode cL_law 248 = .ok (.iadd, 1) := by decide +kernel
theorem dL_law_249 : decode cL_law 249 = .ok (.iaload, 1) := by decide +kernel
theorem dL_law_250 : decode cL_law 250 = .ok (.aload_n 0, 1) := by decide +kernel
theorem dL_law_251 : decode cL_law 251 = .ok (.iload 4, 2) := by decide +kernel
theorem dL_law_253 : decode cL_law 253 = .ok (.iconst 2, 1) := by decide +kernel
theorem dL_law_254 : decode cL_law 254 = .ok (.iadd, 1) := by decide +kernel
theorem dL_law_255 : decode cL_law 255 = .ok (.iaload, 1) := by decide +kernel
theorem dL_law_256 : decode cL_law 256 = .ok (.ifCond .eq 7, 3) := by decide +kernel
theorem dL_law_259 : decode cL_law 259 = .ok (.iconst 1, 1) := by decide +kernel
theorem dL_law_260 : decode cL_law 260 = .ok (.goto 4, 3) := by decide +kernel
theorem dL_law_263 : decode cL_law 263 = .ok (.iconst 0, 1) := by decide +kernel
theorem dL_law_264 : decode cL_law 264 = .ok (.invokevirtual 105, 3) := by decide +kernel
theorem dL_law_267 : decode cL_law 267 = .ok (.istore 6, 2) := by decide +kernel
theorem dL_law_269 : decode cL_law 269 = .ok (.aload_n 2, 1) := by decide +kernel
theorem dL_law_270 : decode cL_law 270 = .ok (.invokevirtual 99, 3) := by decide +kernel
theorem dL_law_273 : decode cL_law 273 = .ok (.iload 5, 2) := by decide +kernel
theorem dL_law_275 : decode cL_law 275 = .ok (.if_icmp .eq 5, 3) := by decide +kernel
theorem dL_law_278 : decode cL_law 278 = .ok (.iconst 0, 1) := by decide +kernel
theorem dL_law_279 : decode cL_law 279 = .ok (.ireturn, 1) := by decide +kernel
theorem dL_law_280 : decode cL_law 280 = .ok (.iload 5, 2) := by decide +kernel
theorem dL_law_282 : decode cL_law 282 = .ok (.ifCond .ne 22, 3) := by decide +kernel
theorem dL_law_285 : decode cL_law 285 = .ok (.aload_n 3, 1) := by decide +kernel
theorem dL_law_286 : decode cL_law 286 = .ok (.iconst 0, 1) := by decide +kernel
theorem dL_law_287 : decode cL_law 287 = .ok (.laload, 1) := by decide +kernel
theorem dL_law_288 : decode cL_law 288 = .ok (.iload 6, 2) := by decide +kernel
theorem dL_law_290 : decode cL_law 290 = .ok (.ifCond .eq 7, 3) := by decide +kernel
theorem dL_law_293 : decode cL_law 293 = .ok (.lconst 1, 1) := by decide +kernel
theorem dL_law_294 : decode cL_law 294 = .ok (.goto 4, 3) := by decide +kernel
theorem dL_law_297 : decode cL_law 297 = .ok (.lconst 0, 1) := by decide +kernel
theorem dL_law_298 : decode cL_law 298 = .ok (.lcmp, 1) := by decide +kernel
theorem dL_law_299 : decode cL_law 299 = .ok (.ifCond .eq 5, 3) := by decide +kernel
theorem dL_law_302 : decode cL_law 302 = .ok (.iconst 0, 1) := by decide +kernel
theorem dL_law_303 : decode cL_law 303 = .ok (.ireturn, 1) := by decide +kernel
theorem dL_law_304 : decode cL_law 304 = .ok (.goto 1489, 3) := by decide +kernel
theorem dL_law_307 : decode cL_law 307 = .ok (.aload_n 1, 1) := by decide +kernel
theorem dL_law_308 : decode cL_law 308 = .ok (.aload_n 0, 1) := by decide +kernel
theorem dL_law_309 : decode cL_law 309 = .ok (.iload 4, 2) := by decide +kernel
theorem dL_law_311 : decode cL_law 311 = .ok (.iconst 1, 1) := by decide +kernel
theorem dL_law_312 : decode cL_law 312 = .ok (.iadd, 1) := by decide +kernel
theorem dL_law_313 : decode cL_law 313 = .ok (.iaload, 1) := by decide +kernel
theorem dL_law_314 : decode cL_law 314 = .ok (.aload_n 0, 1) := by decide +kernel
theorem dL_law_315 : decode cL_law 315 = .ok (.iload 4, 2) := by decide +kernel
theorem dL_law_317 : decode cL_law 317 = .ok (.iconst 2, 1) := by decide +kernel
theorem dL_law_318 : decode cL_law 318 = .ok (.iadd, 1) := by decide +kernel
theorem dL_law_319 : decode cL_law 319 = .ok (.iaload, 1) := by decide +kernel
theorem dL_law_320 : decode cL_law 320 = .ok (.ifCond .eq 7, 3) := by decide +kernel
theorem dL_law_323 : decode cL_law 323 = .ok (.iconst 1, 1) := by decide +kernel
theorem dL_law_324 : decode cL_law 324 = .ok (.goto 4, 3) := by decide +kernel
theorem dL_law_327 : decode cL_law 327 = .ok (.iconst 0, 1) := by decide +kernel
theorem dL_law_328 : decode cL_law 328 = .ok (.aload_n 3, 1) := by decide +kernel
theorem dL_law_329 : decode cL_law 329 = .ok (.invokestatic 106, 3) := by decide +kernel
theorem dL_law_332 : decode cL_law 332 = .ok (.istore 5, 2) := by decide +kernel
theorem dL_law_334 : decode cL_law 334 = .ok (.aload_n 2, 1) := by decide +kernel
theorem dL_law_335 : decode cL_law 335 = .ok (.aload_n 0, 1) := by decide +kernel
theorem dL_law_336 : decode cL_law 336 = .ok (.iload 4, 2) := by decide +kernel
theorem dL_law_338 : decode cL_law 338 = .ok (.iconst 1, 1) := by decide +kernel
theorem dL_law_339 : decode cL_law 339 = .ok (.iadd, 1) := by decide +kernel
theorem dL_law_340 : decode cL_law 340 = .ok (.iaload, 1) := by decide +kernel
theorem dL_law_341 : decode cL_law 341 = .ok (.aload_n 0, 1) := by decide +kernel
theorem dL_law_342 : decode cL_law 342 = .ok (.iload 4, 2) := by decide +kernel
theorem dL_law_344 : decode cL_law 344 = .ok (.iconst 2, 1) := by decide +kernel
theorem dL_law_345 : decode cL_law 345 = .ok (.iadd, 1) := by decide +kernel
theorem dL_law_346 : decode cL_law 346 = .ok (.iaload, 1) := by decide +kernel
theorem dL_law_347 : decode cL_law 347 = .ok (.ifCond .eq 7, 3) := by decide +kernel
theorem dL_law_350 : decode cL_law 350 = .ok (.iconst 1, 1) := by decide +kernel
theorem dL_law_351 : decode cL_law 351 = .ok (.goto 4, 3) := by decide +kernel
theorem dL_law_354 : decode cL_law 354 = .ok (.iconst 0, 1) := by decide +kernel
theorem dL_law_355 : decode cL_law 355 = .ok (.invokevirtual 108, 3) := by decide +kernel
theorem dL_law_358 : decode cL_law 358 = .ok (.istore 6, 2) := by decide +kernel
theorem dL_law_360 : decode cL_law 360 = .ok (.aload_n 2, 1) := by decide +kernel
theorem dL_law_361 : decode cL_law 361 = .ok (.invokevirtual 99, 3) := by decide +kernel
theorem dL_law_364 : decode cL_law 364 = .ok (.iload 5, 2) := by decide +kernel
theorem dL_law_366 : decode cL_law 366 = .ok (.if_icmp .eq 5, 3) := by decide +kernel
theorem dL_law_369 : decode cL_law 369 = .ok (.iconst 0, 1) := by decide +kernel
theorem dL_law_370 : decode cL_law 370 = .ok (.ireturn, 1) := by decide +kernel
theorem dL_law_371 : decode cL_law 371 = .ok (.iload 5, 2) := by decide +kernel
theorem dL_law_373 : decode cL_law 373 = .ok (.ifCond .ne 22, 3) := by decide +kernel
theorem dL_law_376 : decode cL_law 376 = .ok (.aload_n 3, 1) := by decide +kernel
theorem dL_law_377 : decode cL_law 377 = .ok (.iconst 0, 1) := by decide +kernel
theorem dL_law_378 : decode cL_law 378 = .ok (.laload, 1) := by decide +kernel
theorem dL_law_379 : decode cL_law 379 = .ok (.iload 6, 2) := by decide +kernel
theorem dL_law_381 : decode cL_law 381 = .ok (.ifCond .eq 7, 3) := by decide +kernel
theorem dL_law_384 : decode cL_law 384 = .ok (.lconst 1, 1) := by decide +kernel
theorem dL_law_385 : decode cL_law 385 = .ok (.goto 4, 3) := by decide +kernel
theorem dL_law_388 : decode cL_law 388 = .ok (.lconst 0, 1) := by decide +kernel
theorem dL_law_389 : decode cL_law 389 = .ok (.lcmp, 1) := by decide +kernel
theorem dL_law_390 : decode cL_law 390 = .ok (.ifCond .eq 5, 3) := by decide +kernel
theorem dL_law_393 : decode cL_law 393 = .ok (.iconst 0, 1) := by decide +kernel
theorem dL_law_394 : decode cL_law 394 = .ok (.ireturn, 1) := by decide +kernel
theorem dL_law_395 : decode cL_law 395 = .ok (.goto 1398, 3) := by decide +kernel
theorem dL_law_398 : decode cL_law 398 = .ok (.aload_n 1, 1) := by decide +kernel
theorem dL_law_399 : decode cL_law 399 = .ok (.aload_n 0, 1) := by decide +kernel
theorem dL_law_400 : decode cL_law 400 = .ok (.iload 4, 2) := by decide +kernel
theorem dL_law_402 : decode cL_law 402 = .ok (.iconst 1, 1) := by decide +kernel
theorem dL_law_403 : decode cL_law 403 = .ok (.iadd, 1) := by decide +kernel
theorem dL_law_404 : decode cL_law 404 = .ok (.iaload, 1) := by decide +kernel
theorem dL_law_405 : decode cL_law 405 = .ok (.aload_n 0, 1) := by decide +kernel
theorem dL_law_406 : decode cL_law 406 = .ok (.iload 4, 2) := by decide +kernel
theorem dL_law_408 : decode cL_law 408 = .ok (.iconst 2, 1) := by decide +kernel
theorem dL_law_409 : decode cL_law 409 = .ok (.iadd, 1) := by decide +kernel
theorem dL_law_410 : decode cL_law 410 = .ok (.iaload, 1) := by decide +kernel
theorem dL_law_411 : decode cL_law 411 = .ok (.aload_n 0, 1) := by decide +kernel
theorem dL_law_412 : decode cL_law 412 = .ok (.iload 4, 2) := by decide +kernel
theorem dL_law_414 : decode cL_law 414 = .ok (.iconst 3, 1) := by decide +kernel
theorem dL_law_415 : decode cL_law 415 = .ok (.iadd, 1) := by decide +kernel
theorem dL_law_416 : decode cL_law 416 = .ok (.iaload, 1) := by decide +kernel
theorem dL_law_417 : decode cL_law 417 = .ok (.aload_n 0, 1) := by decide +kernel
theorem dL_law_418 : decode cL_law 418 = .ok (.iload 4, 2) := by decide +kernel
theorem dL_law_420 : decode cL_law 420 = .ok (.iconst 4, 1) := by decide +kernel
theorem dL_law_421 : decode cL_law 421 = .ok (.iadd, 1) := by decide +kernel
theorem dL_law_422 : decode cL_law 422 = .ok (.iaload, 1) := by decide +kernel
theorem dL_law_423 : decode cL_law 423 = .ok (.aload_n 3, 1) := by decide +kernel
theorem dL_law_424 : decode cL_law 424 = .ok (.invokestatic 109, 3) := by decide +kernel
theorem dL_law_427 : decode cL_law 427 = .ok (.istore 5, 2) := by decide +kernel
theorem dL_law_429 : decode cL_law 429 = .ok (.aload_n 2, 1) := by decide +kernel
theorem dL_law_430 : decode cL_law 430 = .ok (.aload_n 0, 1) := by decide +kernel
theorem dL_law_431 : decode cL_law 431 = .ok (.iload 4, 2) := by decide +kernel
theorem dL_law_433 : decode cL_law 433 = .ok (.iconst 1, 1) := by decide +kernel
theorem dL_law_434 : decode cL_law 434 = .ok (.iadd, 1) := by decide +kernel
theorem dL_law_435 : decode cL_law 435 = .ok (.iaload, 1) := by decide +kernel
theorem dL_law_436 : decode cL_law 436 = .ok (.aload_n 0, 1) := by decide +kernel
theorem dL_law_437 : decode cL_law 437 = .ok (.iload 4, 2) := by decide +kernel
theorem dL_law_439 : decode cL_law 439 = .ok (.iconst 2, 1) := by decide +kernel
theorem dL_law_440 : decode cL_law 440 = .ok (.iadd, 1) := by decide +kernel
theorem dL_law_441 : decode cL_law 441 = .ok (.iaload, 1) := by decide +kernel
theorem dL_law_442 : decode cL_law 442 = .ok (.aload_n 0, 1) := by decide +kernel
theorem dL_law_443 : decode cL_law 443 = .ok (.iload 4, 2) := by decide +kernel
theorem dL_law_445 : decode cL_law 445 = .ok (.iconst 3, 1) := by decide +kernel
theorem dL_law_446 : decode cL_law 446 = .ok (.iadd, 1) := by decide +kernel
theorem dL_law_447 : decode cL_law 447 = .ok (.iaload, 1) := by decide +kernel
theorem dL_law_448 : decode cL_law 448 = .ok (.aload_n 0, 1) := by decide +kernel
theorem dL_law_449 : decode cL_law 449 = .ok (.iload 4, 2) := by decide +kernel
theorem dL_law_451 : decode cL_law 451 = .ok (.iconst 4, 1) := by decide +kernel
theorem dL_law_452 : decode cL_law 452 = .ok (.iadd, 1) := by decide +kernel
theorem dL_law_453 : decode cL_law 453 = .ok (.iaload, 1) := by decide +kernel
theorem dL_law_454 : decode cL_law 454 = .ok (.invokevirtual 112, 3) := by decide +kernel
theorem dL_law_457 : decode cL_law 457 = .ok (.istore 6, 2) := by decide +kernel
theorem dL_law_459 : decode cL_law 459 = .ok (.aload_n 2, 1) := by decide +kernel
theorem dL_law_460 : decode cL_law 460 = .ok (.invokevirtual 99, 3) := by decide +kernel
theorem dL_law_463 : decode cL_law 463 = .ok (.iload 5, 2) := by decide +kernel
theorem dL_law_465 : decode cL_law 465 = .ok (.if_icmp .eq 5, 3) := by decide +kernel
theorem dL_law_468 : decode cL_law 468 = .ok (.iconst 0, 1) := by decide +kernel
theorem dL_law_469 : decode cL_law 469 = .ok (.ireturn, 1) := by decide +kernel
theorem dL_law_470 : decode cL_law 470 = .ok (.iload 5, 2) := by decide +kernel
theorem dL_law_472 : decode cL_law 472 = .ok (.ifCond .ne 15, 3) := by decide +kernel
theorem dL_law_475 : decode cL_law 475 = .ok (.aload_n 3, 1) := by decide +kernel
theorem dL_law_476 : decode cL_law 476 = .ok (.iconst 0, 1) := by decide +kernel
theorem dL_law_477 : decode cL_law 477 = .ok (.laload, 1) := by decide +kernel
theorem dL_law_478 : decode cL_law 478 = .ok (.iload 6, 2) := by decide +kernel
theorem dL_law_480 : decode cL_law 480 = .ok (.i2l, 1) := by decide +kernel
theorem dL_law_481 : decode cL_law 481 = .ok (.lcmp, 1) := by decide +kernel
theorem dL_law_482 : decode cL_law 482 = .ok (.ifCond .eq 5, 3) := by decide +kernel
theorem dL_law_485 : decode cL_law 485 = .ok (.iconst 0, 1) := by decide +kernel
theorem dL_law_486 : decode cL_law 486 = .ok (.ireturn, 1) := by decide +kernel
theorem dL_law_487 : decode cL_law 487 = .ok (.goto 1306, 3) := by decide +kernel
theorem dL_law_490 : decode cL_law 490 = .ok (.aload_n 1, 1) := by decide +kernel
theorem dL_law_491 : decode cL_law 491 = .ok (.aload_n 0, 1) := by decide +kernel
theorem dL_law_492 : decode cL_law 492 = .ok (.iload 4, 2) := by decide +kernel
theorem dL_law_494 : decode cL_law 494 = .ok (.iconst 1, 1) := by decide +kernel
theorem dL_law_495 : decode cL_law 495 = .ok (.iadd, 1) := by decide +kernel
theorem dL_law_496 : decode cL_law 496 = .ok (.iaload, 1) := by decide +kernel
theorem dL_law_497 : decode cL_law 497 = .ok (.aload_n 3, 1) := by decide +kernel
theorem dL_law_498 : decode cL_law 498 = .ok (.invokestatic 113, 3) := by decide +kernel
theorem dL_law_501 : decode cL_law 501 = .ok (.istore 5, 2) := by decide +kernel
theorem dL_law_503 : decode cL_law 503 = .ok (.aload_n 2, 1) := by decide +kernel
theorem dL_law_504 : decode cL_law 504 = .ok (.aload_n 0, 1) := by decide +kernel
theorem dL_law_505 : decode cL_law 505 = .ok (.iload 4, 2) := by decide +kernel
theorem dL_law_507 : decode cL_law 507 = .ok (.iconst 1, 1) := by decide +kernel
theorem dL_law_508 : decode cL_law 508 = .ok (.iadd, 1) := by decide +kernel
theorem dL_law_509 : decode cL_law 509 = .ok (.iaload, 1) := by decide +kernel
theorem dL_law_510 : decode cL_law 510 = .ok (.invokevirtual 116, 3) := by decide +kernel
theorem dL_law_513 : decode cL_law 513 = .ok (.istore 6, 2) := by decide +kernel
theorem dL_law_515 : decode cL_law 515 = .ok (.aload_n 2, 1) := by decide +kernel
theorem dL_law_516 : decode cL_law 516 = .ok (.invokevirtual 99, 3) := by decide +kernel
theorem dL_law_519 : decode cL_law 519 = .ok (.iload 5, 2) := by decide +kernel
theorem dL_law_521 : decode cL_law 521 = .ok (.if_icmp .eq 5, 3) := by decide +kernel
theorem dL_law_524 : decode cL_law 524 = .ok (.iconst 0, 1) := by decide +kernel
theorem dL_law_525 : decode cL_law 525 = .ok (.ireturn, 1) := by decide +kernel
theorem dL_law_526 : decode cL_law 526 = .ok (.iload 5, 2) := by decide +kernel
theorem dL_law_528 : decode cL_law 528 = .ok (.ifCond .ne 15, 3) := by decide +kernel
theorem dL_law_531 : decode cL_law 531 = .ok (.aload_n 3, 1) := by decide +kernel
theorem dL_law_532 : decode cL_law 532 = .ok (.iconst 0, 1) := by decide +kernel
theorem dL_law_533 : decode cL_law 533 = .ok (.laload, 1) := by decide +kernel
theorem dL_law_534 : decode cL_law 534 = .ok (.iload 6, 2) := by decide +kernel
theorem dL_law_536 : decode cL_law 536 = .ok (.i2l, 1) := by decide +kernel
theorem dL_law_537 : decode cL_law 537 = .ok (.lcmp, 1) := by decide +kernel
theorem dL_law_538 : decode cL_law 538 = .ok (.ifCond .eq 5, 3) := by decide +kernel
theorem dL_law_541 : decode cL_law 541 = .ok (.iconst 0, 1) := by decide +kernel
theorem dL_law_542 : decode cL_law 542 = .ok (.ireturn, 1) := by decide +kernel
theorem dL_law_543 : decode cL_law 543 = .ok (.goto 1250, 3) := by decide +kernel
theorem dL_law_546 : decode cL_law 546 = .ok (.aload_n 1, 1) := by decide +kernel
theorem dL_law_547 : decode cL_law 547 = .ok (.aload_n 0, 1) := by decide +kernel
theorem dL_law_548 : decode cL_law 548 = .ok (.iload 4, 2) := by decide +kernel
theorem dL_law_550 : decode cL_law 550 = .ok (.iconst 1, 1) := by decide +kernel
theorem dL_law_551 : decode cL_law 551 = .ok (.iadd, 1) := by decide +kernel
theorem dL_law_552 : decode cL_law 552 = .ok (.iaload, 1) := by decide +kernel
theorem dL_law_553 : decode cL_law 553 = .ok (.aload_n 3, 1) := by decide +kernel
theorem dL_law_554 : decode cL_law 554 = .ok (.invokestatic 117, 3) := by decide +kernel
theorem dL_law_557 : decode cL_law 557 = .ok (.istore 5, 2) := by decide +kernel
theorem dL_law_559 : decode cL_law 559 = .ok (.aload_n 2, 1) := by decide +kernel
theorem dL_law_560 : decode cL_law 560 = .ok (.aload_n 0, 1) := by decide +kernel
theorem dL_law_561 : decode cL_law 561 = .ok (.iload 4, 2) := by decide +kernel
theorem dL_law_563 : decode cL_law 563 = .ok (.iconst 1, 1) := by decide +kernel
theorem dL_law_564 : decode cL_law 564 = .ok (.iadd, 1) := by decide +kernel
theorem dL_law_565 : decode cL_law 565 = .ok (.iaload, 1) := by decide +kernel
theorem dL_law_566 : decode cL_law 566 = .ok (.invokevirtual 119, 3) := by decide +kernel
theorem dL_law_569 : decode cL_law 569 = .ok (.istore 6, 2) := by decide +kernel
theorem dL_law_571 : decode cL_law 571 = .ok (.aload_n 2, 1) := by decide +kernel
theorem dL_law_572 : decode cL_law 572 = .ok (.invokevirtual 99, 3) := by decide +kernel
theorem dL_law_575 : decode cL_law 575 = .ok (.iload 5, 2) := by decide +kernel
theorem dL_law_577 : decode cL_law 577 = .ok (.if_icmp .eq 5, 3) := by decide +kernel
theorem dL_law_580 : decode cL_law 580 = .ok (.iconst 0, 1) := by decide +kernel
theorem dL_law_581 : decode cL_law 581 = .ok (.ireturn, 1) := by decide +kernel
theorem dL_law_582 : decode cL_law 582 = .ok (.iload 5, 2) := by decide +kernel
theorem dL_law_584 : decode cL_law 584 = .ok (.ifCond .ne 15, 3) := by decide +kernel
theorem dL_law_587 : decode cL_law 587 = .ok (.aload_n 3, 1) := by decide +kernel
theorem dL_law_588 : decode cL_law 588 = .ok (.iconst 0, 1) := by decide +kernel
theorem dL_law_589 : decode cL_law 589 = .ok (.laload, 1) := by decide +kernel
theorem dL_law_590 : decode cL_law 590 = .ok (.iload 6, 2) := by decide +kernel
theorem dL_law_592 : decode cL_law 592 = .ok (.i2l, 1) := by decide +kernel
theorem dL_law_593 : decode cL_law 593 = .ok (.lcmp, 1) := by decide +kernel
theorem dL_law_594 : decode cL_law 594 = .ok (.ifCond .eq 5, 3) := by decide +kernel
theorem dL_law_597 : decode cL_law 597 = .ok (.iconst 0, 1) := by decide +kernel
theorem dL_law_598 : decode cL_law 598 = .ok (.ireturn, 1) := by decide +kernel
theorem dL_law_599 : decode cL_law 599 = .ok (.goto 1194, 3) := by decide +kernel
theorem dL_law_602 : decode cL_law 602 = .ok (.aload_n 1, 1) := by decide +kernel
theorem dL_law_603 : decode cL_law 603 = .ok (.aload_n 0, 1) := by decide +kernel
theorem dL_law_604 : decode cL_law 604 = .ok (.iload 4, 2) := by decide +kernel
theorem dL_law_606 : decode cL_law 606 = .ok (.iconst 1, 1) := by decide +kernel
theorem dL_law_607 : decode cL_law 607 = .ok (.iadd, 1) := by decide +kernel
theorem dL_law_608 : decode cL_law 608 = .ok (.iaload, 1) := by decide +kernel
theorem dL_law_609 : decode cL_law 609 = .ok (.aload_n 0, 1) := by decide +kernel
theorem dL_law_610 : decode cL_law 610 = .ok (.iload 4, 2) := by decide +kernel
theorem dL_law_612 : decode cL_law 612 = .ok (.iconst 2, 1) := by decide +kernel
theorem dL_law_613 : decode cL_law 613 = .ok (.iadd, 1) := by decide +kernel
theorem dL_law_614 : decode cL_law 614 = .ok (.iaload, 1) := by decide +kernel
theorem dL_law_615 : decode cL_law 615 = .ok (.aload_n 0, 1) := by decide +kernel
theorem dL_law_616 : decode cL_law 616 = .ok (.iload 4, 2) := by decide +kernel
theorem dL_law_618 : decode cL_law 618 = .ok (.iconst 3, 1) := by decide +kernel
theorem dL_law_619 : decode cL_law 619 = .ok (.iadd, 1) := by decide +kernel
theorem dL_law_620 : decode cL_law 620 = .ok (.iaload, 1) := by decide +kernel
theorem dL_law_621 : decode cL_law 621 = .ok (.aload_n 3, 1) := by decide +kernel
theorem dL_law_622 : decode cL_law 622 = .ok (.invokestatic 120, 3) := by decide +kernel
theorem dL_law_625 : decode cL_law 625 = .ok (.istore 5, 2) := by decide +kernel
theorem dL_law_627 : decode cL_law 627 = .ok (.aload_n 2, 1) := by decide +kernel
theorem dL_law_628 : decode cL_law 628 = .ok (.aload_n 0, 1) := by decide +kernel
theorem dL_law_629 : decode cL_law 629 = .ok (.iload 4, 2) := by decide +kernel
theorem dL_law_631 : decode cL_law 631 = .ok (.iconst 1, 1) := by decide +kernel
theorem dL_law_632 : decode cL_law 632 = .ok (.iadd, 1) := by decide +kernel
theorem dL_law_633 : decode cL_law 633 = .ok (.iaload, 1) := by decide +kernel
theorem dL_law_634 : decode cL_law 634 = .ok (.aload_n 0, 1) := by decide +kernel
theorem dL_law_635 : decode cL_law 635 = .ok (.iload 4, 2) := by decide +kernel
theorem dL_law_637 : decode cL_law 637 = .ok (.iconst 2, 1) := by decide +kernel
theorem dL_law_638 : decode cL_law 638 = .ok (.iadd, 1) := by decide +kernel
theorem dL_law_639 : decode cL_law 639 = .ok (.iaload, 1) := by decide +kernel
theorem dL_law_640 : decode cL_law 640 = .ok (.aload_n 0, 1) := by decide +kernel
theorem dL_law_641 : decode cL_law 641 = .ok (.iload 4, 2) := by decide +kernel
theorem dL_law_643 : decode cL_law 643 = .ok (.iconst 3, 1) := by decide +kernel
theorem dL_law_644 : decode cL_law 644 = .ok (.iadd, 1) := by decide +kernel
theorem dL_law_645 : decode cL_law 645 = .ok (.iaload, 1) := by decide +kernel
theorem dL_law_646 : decode cL_law 646 = .ok (.invokevirtual 123, 3) := by decide +kernel
theorem dL_law_649 : decode cL_law 649 = .ok (.istore 6, 2) := by decide +kernel
theorem dL_law_651 : decode cL_law 651 = .ok (.aload_n 2, 1) := by decide +kernel
theorem dL_law_652 : decode cL_law 652 = .ok (.invokevirtual 99, 3) := by decide +kernel
theorem dL_law_655 : decode cL_law 655 = .ok (.iload 5, 2) := by decide +kernel
theorem dL_law_657 : decode cL_law 657 = .ok (.if_icmp .eq 5, 3) := by decide +kernel
theorem dL_law_660 : decode cL_law 660 = .ok (.iconst 0, 1) := by decide +kernel
theorem dL_law_661 : decode cL_law 661 = .ok (.ireturn, 1) := by decide +kernel
theorem dL_law_662 : decode cL_law 662 = .ok (.iload 5, 2) := by decide +kernel
theorem dL_law_664 : decode cL_law 664 = .ok (.ifCond .ne 15, 3) := by decide +kernel
theorem dL_law_667 : decode cL_law 667 = .ok (.aload_n 3, 1) := by decide +kernel
theorem dL_law_668 : decode cL_law 668 = .ok (.iconst 0, 1) := by decide +kernel
theorem dL_law_669 : decode cL_law 669 = .ok (.laload, 1) := by decide +kernel
theorem dL_law_670 : decode cL_law 670 = .ok (.iload 6, 2) := by decide +kernel
theorem dL_law_672 : decode cL_law 672 = .ok (.i2l, 1) := by decide +kernel
theorem dL_law_673 : decode cL_law 673 = .ok (.lcmp, 1) := by decide +kernel
theorem dL_law_674 : decode cL_law 674 = .ok (.ifCond .eq 5, 3) := by decide +kernel
theorem dL_law_677 : decode cL_law 677 = .ok (.iconst 0, 1) := by decide +kernel
theorem dL_law_678 : decode cL_law 678 = .ok (.ireturn, 1) := by decide +kernel
theorem dL_law_679 : decode cL_law 679 = .ok (.goto 1114, 3) := by decide +kernel
theorem dL_law_682 : decode cL_law 682 = .ok (.aload_n 1, 1) := by decide +kernel
theorem dL_law_683 : decode cL_law 683 = .ok (.aload_n 3, 1) := by decide +kernel
theorem dL_law_684 : decode cL_law 684 = .ok (.invokestatic 124, 3) := by decide +kernel
theorem dL_law_687 : decode cL_law 687 = .ok (.istore 5, 2) := by decide +kernel
theorem dL_law_689 : decode cL_law 689 = .ok (.aload_n 2, 1) := by decide +kernel
theorem dL_law_690 : decode cL_law 690 = .ok (.invokevirtual 127, 3) := by decide +kernel
theorem dL_law_693 : decode cL_law 693 = .ok (.istore 6, 2) := by decide +kernel
theorem dL_law_695 : decode cL_law 695 = .ok (.aload_n 2, 1) := by decide +kernel
theorem dL_law_696 : decode cL_law 696 = .ok (.invokevirtual 99, 3) := by decide +kernel
theorem dL_law_699 : decode cL_law 699 = .ok (.iload 5, 2) := by decide +kernel
theorem dL_law_701 : decode cL_law 701 = .ok (.if_icmp .eq 5, 3) := by decide +kernel
theorem dL_law_704 : decode cL_law 704 = .ok (.iconst 0, 1) := by decide +kernel
theorem dL_law_705 : decode cL_law 705 = .ok (.ireturn, 1) := by decide +kernel
theorem dL_law_706 : decode cL_law 706 = .ok (.iload 5, 2) := by decide +kernel
theorem dL_law_708 : decode cL_law 708 = .ok (.ifCond .ne 15, 3) := by decide +kernel
theorem dL_law_711 : decode cL_law 711 = .ok (.aload_n 3, 1) := by decide +kernel
theorem dL_law_712 : decode cL_law 712 = .ok (.iconst 0, 1) := by decide +kernel
theorem dL_law_713 : decode cL_law 713 = .ok (.laload, 1) := by decide +kernel
theorem dL_law_714 : decode cL_law 714 = .ok (.iload 6, 2) := by decide +kernel
theorem dL_law_716 : decode cL_law 716 = .ok (.i2l, 1) := by decide +kernel
theorem dL_law_717 : decode cL_law 717 = .ok (.lcmp, 1) := by decide +kernel
theorem dL_law_718 : decode cL_law 718 = .ok (.ifCond .eq 5, 3) := by decide +kernel
theorem dL_law_721 : decode cL_law 721 = .ok (.iconst 0, 1) := by decide +kernel
theorem dL_law_722 : decode cL_law 722 = .ok (.ireturn, 1) := by decide +kernel
theorem dL_law_723 : decode cL_law 723 = .ok (.goto 1070, 3) := by decide +kernel
theorem dL_law_726 : decode cL_law 726 = .ok (.aload_n 1, 1) := by decide +kernel
theorem dL_law_727 : decode cL_law 727 = .ok (.aload_n 0, 1) := by decide +kernel
theorem dL_law_728 : decode cL_law 728 = .ok (.iload 4, 2) := by decide +kernel
theorem dL_law_730 : decode cL_law 730 = .ok (.iconst 1, 1) := by decide +kernel
theorem dL_law_731 : decode cL_law 731 = .ok (.iadd, 1) := by decide +kernel
theorem dL_law_732 : decode cL_law 732 = .ok (.iaload, 1) := by decide +kernel
theorem dL_law_733 : decode cL_law 733 = .ok (.aload_n 0, 1) := by decide +kernel
theorem dL_law_734 : decode cL_law 734 = .ok (.iload 4, 2) := by decide +kernel
theorem dL_law_736 : decode cL_law 736 = .ok (.iconst 2, 1) := by decide +kernel
theorem dL_law_737 : decode cL_law 737 = .ok (.iadd, 1) := by decide +kernel
theorem dL_law_738 : decode cL_law 738 = .ok (.iaload, 1) := by decide +kernel
theorem dL_law_739 : decode cL_law 739 = .ok (.aload_n 0, 1) := by decide +kernel
theorem dL_law_740 : decode cL_law 740 = .ok (.iload 4, 2) := by decide +kernel
theorem dL_law_742 : decode cL_law 742 = .ok (.iconst 3, 1) := by decide +kernel
theorem dL_law_743 : decode cL_law 743 = .ok (.iadd, 1) := by decide +kernel
theorem dL_law_744 : decode cL_law 744 = .ok (.iaload, 1) := by decide +kernel
theorem dL_law_745 : decode cL_law 745 = .ok (.aload_n 3, 1) := by decide +kernel
theorem dL_law_746 : decode cL_law 746 = .ok (.invokestatic 128, 3) := by decide +kernel
theorem dL_law_749 : decode cL_law 749 = .ok (.istore 5, 2) := by decide +kernel
theorem dL_law_751 : decode cL_law 751 = .ok (.aload_n 2, 1) := by decide +kernel
theorem dL_law_752 : decode cL_law 752 = .ok (.aload_n 0, 1) := by decide +kernel
theorem dL_law_753 : decode cL_law 753 = .ok (.iload 4, 2) := by decide +kernel
theorem dL_law_755 : decode cL_law 755 = .ok (.iconst 1, 1) := by decide +kernel
theorem dL_law_756 : decode cL_law 756 = .ok (.iadd, 1) := by decide +kernel
theorem dL_law_757 : decode cL_law 757 = .ok (.iaload, 1) := by decide +kernel
theorem dL_law_758 : decode cL_law 758 = .ok (.aload_n 0, 1) := by decide +kernel
theorem dL_law_759 : decode cL_law 759 = .ok (.iload 4, 2) := by decide +kernel
theorem dL_law_761 : decode cL_law 761 = .ok (.iconst 2, 1) := by decide +kernel
theorem dL_law_762 : decode cL_law 762 = .ok (.iadd, 1) := by decide +kernel
theorem dL_law_763 : decode cL_law 763 = .ok (.iaload, 1) := by decide +kernel
theorem dL_law_764 : decode cL_law 764 = .ok (.aload_n 0, 1) := by decide +kernel
theorem dL_law_765 : decode cL_law 765 = .ok (.iload 4, 2) := by decide +kernel
theorem dL_law_767 : decode cL_law 767 = .ok (.iconst 3, 1) := by decide +kernel
theorem dL_law_768 : decode cL_law 768 = .ok (.iadd, 1) := by decide +kernel
theorem dL_law_769 : decode cL_law 769 = .ok (.iaload, 1) := by decide +kernel
theorem dL_law_770 : decode cL_law 770 = .ok (.invokevirtual 130, 3) := by decide +kernel
theorem dL_law_773 : decode cL_law 773 = .ok (.istore 6, 2) := by decide +kernel
theorem dL_law_775 : decode cL_law 775 = .ok (.aload_n 2, 1) := by decide +kernel
theorem dL_law_776 : decode cL_law 776 = .ok (.invokevirtual 99, 3) := by decide +kernel
theorem dL_law_779 : decode cL_law 779 = .ok (.iload 5, 2) := by decide +kernel
theorem dL_law_781 : decode cL_law 781 = .ok (.if_icmp .eq 5, 3) := by decide +kernel
theorem dL_law_784 : decode cL_law 784 = .ok (.iconst 0, 1) := by decide +kernel
theorem dL_law_785 : decode cL_law 785 = .ok (.ireturn, 1) := by decide +kernel
theorem dL_law_786 : decode cL_law 786 = .ok (.iload 5, 2) := by decide +kernel
theorem dL_law_788 : decode cL_law 788 = .ok (.ifCond .ne 15, 3) := by decide +kernel
theorem dL_law_791 : decode cL_law 791 = .ok (.aload_n 3, 1) := by decide +kernel
theorem dL_law_792 : decode cL_law 792 = .ok (.iconst 0, 1) := by decide +kernel
theorem dL_law_793 : decode cL_law 793 = .ok (.laload, 1) := by decide +kernel
theorem dL_law_794 : decode cL_law 794 = .ok (.iload 6, 2) := by decide +kernel
theorem dL_law_796 : decode cL_law 796 = .ok (.i2l, 1) := by decide +kernel
theorem dL_law_797 : decode cL_law 797 = .ok (.lcmp, 1) := by decide +kernel
theorem dL_law_798 : decode cL_law 798 = .ok (.ifCond .eq 5, 3) := by decide +kernel
theorem dL_law_801 : decode cL_law 801 = .ok (.iconst 0, 1) := by decide +kernel
theorem dL_law_802 : decode cL_law 802 = .ok (.ireturn, 1) := by decide +kernel
theorem dL_law_803 : decode cL_law 803 = .ok (.goto 990, 3) := by decide +kernel
theorem dL_law_806 : decode cL_law 806 = .ok (.aload_n 1, 1) := by decide +kernel
theorem dL_law_807 : decode cL_law 807 = .ok (.aload_n 0, 1) := by decide +kernel
theorem dL_law_808 : decode cL_law 808 = .ok (.iload 4, 2) := by decide +kernel
theorem dL_law_810 : decode cL_law 810 = .ok (.iconst 1, 1) := by decide +kernel
theorem dL_law_811 : decode cL_law 811 = .ok (.iadd, 1) := by decide +kernel
theorem dL_law_812 : decode cL_law 812 = .ok (.iaload, 1) := by decide +kernel
theorem dL_law_813 : decode cL_law 813 = .ok (.aload_n 0, 1) := by decide +kernel
theorem dL_law_814 : decode cL_law 814 = .ok (.iload 4, 2) := by decide +kernel
theorem dL_law_816 : decode cL_law 816 = .ok (.iconst 2, 1) := by decide +kernel
theorem dL_law_817 : decode cL_law 817 = .ok (.iadd, 1) := by decide +kernel
theorem dL_law_818 : decode cL_law 818 = .ok (.iaload, 1) := by decide +kernel
theorem dL_law_819 : decode cL_law 819 = .ok (.ifCond .eq 7, 3) := by decide +kernel
theorem dL_law_822 : decode cL_law 822 = .ok (.iconst 1, 1) := by decide +kernel
theorem dL_law_823 : decode cL_law 823 = .ok (.goto 4, 3) := by decide +kernel
theorem dL_law_826 : decode cL_law 826 = .ok (.iconst 0, 1) := by decide +kernel
theorem dL_law_827 : decode cL_law 827 = .ok (.aload_n 3, 1) := by decide +kernel
theorem dL_law_828 : decode cL_law 828 = .ok (.invokestatic 131, 3) := by decide +kernel
theorem dL_law_831 : decode cL_law 831 = .ok (.istore 5, 2) := by decide +kernel
theorem dL_law_833 : decode cL_law 833 = .ok (.aload_n 2, 1) := by decide +kernel
theorem dL_law_834 : decode cL_law 834 = .ok (.aload_n 0, 1) := by decide +kernel
theorem dL_law_835 : decode cL_law 835 = .ok (.iload 4, 2) := by decide +kernel
theorem dL_law_837 : decode cL_law 837 = .ok (.iconst 1, 1) := by decide +kernel
theorem dL_law_838 : decode cL_law 838 = .ok (.iadd, 1) := by decide +kernel
theorem dL_law_839 : decode cL_law 839 = .ok (.iaload, 1) := by decide +kernel
theorem dL_law_840 : decode cL_law 840 = .ok (.aload_n 0, 1) := by decide +kernel
theorem dL_law_841 : decode cL_law 841 = .ok (.iload 4, 2) := by decide +kernel
theorem dL_law_843 : decode cL_law 843 = .ok (.iconst 2, 1) := by decide +kernel
theorem dL_law_844 : decode cL_law 844 = .ok (.iadd, 1) := by decide +kernel
theorem dL_law_845 : decode cL_law 845 = .ok (.iaload, 1) := by decide +kernel
theorem dL_law_846 : decode cL_law 846 = .ok (.ifCond .eq 7, 3) := by decide +kernel
theorem dL_law_849 : decode cL_law 849 = .ok (.iconst 1, 1) := by decide +kernel
theorem dL_law_850 : decode cL_law 850 = .ok (.goto 4, 3) := by decide +kernel
theorem dL_law_853 : decode cL_law 853 = .ok (.iconst 0, 1) := by decide +kernel
theorem dL_law_854 : decode cL_law 854 = .ok (.invokevirtual 133, 3) := by decide +kernel
theorem dL_law_857 : decode cL_law 857 = .ok (.istore 6, 2) := by decide +kernel
theorem dL_law_859 : decode cL_law 859 = .ok (.aload_n 2, 1) := by decide +kernel
theorem dL_law_860 : decode cL_law 860 = .ok (.invokevirtual 99, 3) := by decide +kernel
theorem dL_law_863 : decode cL_law 863 = .ok (.iload 5, 2) := by decide +kernel
theorem dL_law_865 : decode cL_law 865 = .ok (.if_icmp .eq 5, 3) := by decide +kernel
theorem dL_law_868 : decode cL_law 868 = .ok (.iconst 0, 1) := by decide +kernel
theorem dL_law_869 : decode cL_law 869 = .ok (.ireturn, 1) := by decide +kernel
theorem dL_law_870 : decode cL_law 870 = .ok (.iload 5, 2) := by decide +kernel
theorem dL_law_872 : decode cL_law 872 = .ok (.ifCond .ne 15, 3) := by decide +kernel
theorem dL_law_875 : decode cL_law 875 = .ok (.aload_n 3, 1) := by decide +kernel
theorem dL_law_876 : decode cL_law 876 = .ok (.iconst 0, 1) := by decide +kernel
theorem dL_law_877 : decode cL_law 877 = .ok (.laload, 1) := by decide +kernel
theorem dL_law_878 : decode cL_law 878 = .ok (.iload 6, 2) := by decide +kernel
theorem dL_law_880 : decode cL_law 880 = .ok (.i2l, 1) := by decide +kernel
theorem dL_law_881 : decode cL_law 881 = .ok (.lcmp, 1) := by decide +kernel
theorem dL_law_882 : decode cL_law 882 = .ok (.ifCond .eq 5, 3) := by decide +kernel
theorem dL_law_885 : decode cL_law 885 = .ok (.iconst 0, 1) := by decide +kernel
theorem dL_law_886 : decode cL_law 886 = .ok (.ireturn, 1) := by decide +kernel
theorem dL_law_887 : decode cL_law 887 = .ok (.goto 906, 3) := by decide +kernel
theorem dL_law_890 : decode cL_law 890 = .ok (.aload_n 1, 1) := by decide +kernel
theorem dL_law_891 : decode cL_law 891 = .ok (.aload_n 0, 1) := by decide +kernel
theorem dL_law_892 : decode cL_law 892 = .ok (.iload 4, 2) := by decide +kernel
theorem dL_law_894 : decode cL_law 894 = .ok (.iconst 1, 1) := by decide +kernel
theorem dL_law_895 : decode cL_law 895 = .ok (.iadd, 1) := by decide +kernel
theorem dL_law_896 : decode cL_law 896 = .ok (.iaload, 1) := by decide +kernel
theorem dL_law_897 : decode cL_law 897 = .ok (.aload_n 3, 1) := by decide +kernel
theorem dL_law_898 : decode cL_law 898 = .ok (.invokestatic 134, 3) := by decide +kernel
theorem dL_law_901 : decode cL_law 901 = .ok (.istore 5, 2) := by decide +kernel
theorem dL_law_903 : decode cL_law 903 = .ok (.aload_n 2, 1) := by decide +kernel
theorem dL_law_904 : decode cL_law 904 = .ok (.aload_n 0, 1) := by decide +kernel
theorem dL_law_905 : decode cL_law 905 = .ok (.iload 4, 2) := by decide +kernel
theorem dL_law_907 : decode cL_law 907 = .ok (.iconst 1, 1) := by decide +kernel
theorem dL_law_908 : decode cL_law 908 = .ok (.iadd, 1) := by decide +kernel
theorem dL_law_909 : decode cL_law 909 = .ok (.iaload, 1) := by decide +kernel
theorem dL_law_910 : decode cL_law 910 = .ok (.invokevirtual 136, 3) := by decide +kernel
theorem dL_law_913 : decode cL_law 913 = .ok (.istore 6, 2) := by decide +kernel
theorem dL_law_915 : decode cL_law 915 = .ok (.aload_n 2, 1) := by decide +kernel
theorem dL_law_916 : decode cL_law 916 = .ok (.invokevirtual 99, 3) := by decide +kernel
theorem dL_law_919 : decode cL_law 919 = .ok (.iload 5, 2) := by decide +kernel
theorem dL_law_921 : decode cL_law 921 = .ok (.if_icmp .eq 5, 3) := by decide +kernel
theorem dL_law_924 : decode cL_law 924 = .ok (.iconst 0, 1) := by decide +kernel
theorem dL_law_925 : decode cL_law 925 = .ok (.ireturn, 1) := by decide +kernel
theorem dL_law_926 : decode cL_law 926 = .ok (.iload 5, 2) := by decide +kernel
theorem dL_law_928 : decode cL_law 928 = .ok (.ifCond .ne 15, 3) := by decide +kernel
theorem dL_law_931 : decode cL_law 931 = .ok (.aload_n 3, 1) := by decide +kernel
theorem dL_law_932 : decode cL_law 932 = .ok (.iconst 0, 1) := by decide +kernel
theorem dL_law_933 : decode cL_law 933 = .ok (.laload, 1) := by decide +kernel
theorem dL_law_934 : decode cL_law 934 = .ok (.iload 6, 2) := by decide +kernel
theorem dL_law_936 : decode cL_law 936 = .ok (.i2l, 1) := by decide +kernel
theorem dL_law_937 : decode cL_law 937 = .ok (.lcmp, 1) := by decide +kernel
theorem dL_law_938 : decode cL_law 938 = .ok (.ifCond .eq 5, 3) := by decide +kernel
theorem dL_law_941 : decode cL_law 941 = .ok (.iconst 0, 1) := by decide +kernel
theorem dL_law_942 : decode cL_law 942 = .ok (.ireturn, 1) := by decide +kernel
theorem dL_law_943 : decode cL_law 943 = .ok (.goto 850, 3) := by decide +kernel
theorem dL_law_946 : decode cL_law 946 = .ok (.aload_n 1, 1) := by decide +kernel
theorem dL_law_947 : decode cL_law 947 = .ok (.aload_n 0, 1) := by decide +kernel
theorem dL_law_948 : decode cL_law 948 = .ok (.iload 4, 2) := by decide +kernel
theorem dL_law_950 : decode cL_law 950 = .ok (.iconst 1, 1) := by decide +kernel
theorem dL_law_951 : decode cL_law 951 = .ok (.iadd, 1) := by decide +kernel
theorem dL_law_952 : decode cL_law 952 = .ok (.iaload, 1) := by decide +kernel
theorem dL_law_953 : decode cL_law 953 = .ok (.aload_n 3, 1) := by decide +kernel
theorem dL_law_954 : decode cL_law 954 = .ok (.invokestatic 137, 3) := by decide +kernel
theorem dL_law_957 : decode cL_law 957 = .ok (.istore 5, 2) := by decide +kernel
theorem dL_law_959 : decode cL_law 959 = .ok (.aload_n 2, 1) := by decide +kernel
theorem dL_law_960 : decode cL_law 960 = .ok (.aload_n 0, 1) := by decide +kernel
theorem dL_law_961 : decode cL_law 961 = .ok (.iload 4, 2) := by decide +kernel
theorem dL_law_963 : decode cL_law 963 = .ok (.iconst 1, 1) := by decide +kernel
theorem dL_law_964 : decode cL_law 964 = .ok (.iadd, 1) := by decide +kernel
theorem dL_law_965 : decode cL_law 965 = .ok (.iaload, 1) := by decide +kernel
theorem dL_law_966 : decode cL_law 966 = .ok (.invokevirtual 139, 3) := by decide +kernel
theorem dL_law_969 : decode cL_law 969 = .ok (.istore 6, 2) := by decide +kernel
theorem dL_law_971 : decode cL_law 971 = .ok (.aload_n 2, 1) := by decide +kernel
theorem dL_law_972 : decode cL_law 972 = .ok (.invokevirtual 99, 3) := by decide +kernel
theorem dL_law_975 : decode cL_law 975 = .ok (.iload 5, 2) := by decide +kernel
theorem dL_law_977 : decode cL_law 977 = .ok (.if_icmp .eq 5, 3) := by decide +kernel
theorem dL_law_980 : decode cL_law 980 = .ok (.iconst 0, 1) := by decide +kernel
theorem dL_law_981 : decode cL_law 981 = .ok (.ireturn, 1) := by decide +kernel
theorem dL_law_982 : decode cL_law 982 = .ok (.iload 5, 2) := by decide +kernel
theorem dL_law_984 : decode cL_law 984 = .ok (.ifCond .ne 15, 3) := by decide +kernel
theorem dL_law_987 : decode cL_law 987 = .ok (.aload_n 3, 1) := by decide +kernel
theorem dL_law_988 : decode cL_law 988 = .ok (.iconst 0, 1) := by decide +kernel
theorem dL_law_989 : decode cL_law 989 = .ok (.laload, 1) := by decide +kernel
theorem dL_law_990 : decode cL_law 990 = .ok (.iload 6, 2) := by decide +kernel
theorem dL_law_992 : decode cL_law 992 = .ok (.i2l, 1) := by decide +kernel
theorem dL_law_993 : decode cL_law 993 = .ok (.lcmp, 1) := by decide +kernel
theorem dL_law_994 : decode cL_law 994 = .ok (.ifCond .eq 5, 3) := by decide +kernel
theorem dL_law_997 : decode cL_law 997 = .ok (.iconst 0, 1) := by decide +kernel
theorem dL_law_998 : decode cL_law 998 = .ok (.ireturn, 1) := by decide +kernel
theorem dL_law_999 : decode cL_law 999 = .ok (.goto 794, 3) := by decide +kernel
theorem dL_law_1002 : decode cL_law 1002 = .ok (.aload_n 1, 1) := by decide +kernel
theorem dL_law_1003 : decode cL_law 1003 = .ok (.aload_n 0, 1) := by decide +kernel
theorem dL_law_1004 : decode cL_law 1004 = .ok (.iload 4, 2) := by decide +kernel
theorem dL_law_1006 : decode cL_law 1006 = .ok (.iconst 1, 1) := by decide +kernel
theorem dL_law_1007 : decode cL_law 1007 = .ok (.iadd, 1) := by decide +kernel
theorem dL_law_1008 : decode cL_law 1008 = .ok (.iaload, 1) := by decide +kernel
theorem dL_law_1009 : decode cL_law 1009 = .ok (.aload_n 0, 1) := by decide +kernel
theorem dL_law_1010 : decode cL_law 1010 = .ok (.iload 4, 2) := by decide +kernel
theorem dL_law_1012 : decode cL_law 1012 = .ok (.iconst 2, 1) := by decide +kernel
theorem dL_law_1013 : decode cL_law 1013 = .ok (.iadd, 1) := by decide +kernel
theorem dL_law_1014 : decode cL_law 1014 = .ok (.iaload, 1) := by decide +kernel
theorem dL_law_1015 : decode cL_law 1015 = .ok (.aload_n 0, 1) := by decide +kernel
theorem dL_law_1016 : decode cL_law 1016 = .ok (.iload 4, 2) := by decide +kernel
theorem dL_law_1018 : decode cL_law 1018 = .ok (.iconst 3, 1) := by decide +kernel
theorem dL_law_1019 : decode cL_law 1019 = .ok (.iadd, 1) := by decide +kernel
theorem dL_law_1020 : decode cL_law 1020 = .ok (.iaload, 1) := by decide +kernel
theorem dL_law_1021 : decode cL_law 1021 = .ok (.aload_n 3, 1) := by decide +kernel
theorem dL_law_1022 : decode cL_law 1022 = .ok (.invokestatic 140, 3) := by decide +kernel
theorem dL_law_1025 : decode cL_law 1025 = .ok (.istore 5, 2) := by decide +kernel
theorem dL_law_1027 : decode cL_law 1027 = .ok (.aload_n 2, 1) := by decide +kernel
theorem dL_law_1028 : decode cL_law 1028 = .ok (.aload_n 0, 1) := by decide +kernel
theorem dL_law_1029 : decode cL_law 1029 = .ok (.iload 4, 2) := by decide +kernel
theorem dL_law_1031 : decode cL_law 1031 = .ok (.iconst 1, 1) := by decide +kernel
theorem dL_law_1032 : decode cL_law 1032 = .ok (.iadd, 1) := by decide +kernel
theorem dL_law_1033 : decode cL_law 1033 = .ok (.iaload, 1) := by decide +kernel
theorem dL_law_1034 : decode cL_law 1034 = .ok (.aload_n 0, 1) := by decide +kernel
theorem dL_law_1035 : decode cL_law 1035 = .ok (.iload 4, 2) := by decide +kernel
theorem dL_law_1037 : decode cL_law 1037 = .ok (.iconst 2, 1) := by decide +kernel
theorem dL_law_1038 : decode cL_law 1038 = .ok (.iadd, 1) := by decide +kernel
theorem dL_law_1039 : decode cL_law 1039 = .ok (.iaload, 1) := by decide +kernel
theorem dL_law_1040 : decode cL_law 1040 = .ok (.aload_n 0, 1) := by decide +kernel
theorem dL_law_1041 : decode cL_law 1041 = .ok (.iload 4, 2) := by decide +kernel
theorem dL_law_1043 : decode cL_law 1043 = .ok (.iconst 3, 1) := by decide +kernel
theorem dL_law_1044 : decode cL_law 1044 = .ok (.iadd, 1) := by decide +kernel
theorem dL_law_1045 : decode cL_law 1045 = .ok (.iaload, 1) := by decide +kernel
theorem dL_law_1046 : decode cL_law 1046 = .ok (.invokevirtual 142, 3) := by decide +kernel
theorem dL_law_1049 : decode cL_law 1049 = .ok (.istore 6, 2) := by decide +kernel
theorem dL_law_1051 : decode cL_law 1051 = .ok (.aload_n 2, 1) := by decide +kernel
theorem dL_law_1052 : decode cL_law 1052 = .ok (.invokevirtual 99, 3) := by decide +kernel
theorem dL_law_1055 : decode cL_law 1055 = .ok (.iload 5, 2) := by decide +kernel
theorem dL_law_1057 : decode cL_law 1057 = .ok (.if_icmp .eq 5, 3) := by decide +kernel
theorem dL_law_1060 : decode cL_law 1060 = .ok (.iconst 0, 1) := by decide +kernel
theorem dL_law_1061 : decode cL_law 1061 = .ok (.ireturn, 1) := by decide +kernel
theorem dL_law_1062 : decode cL_law 1062 = .ok (.iload 5, 2) := by decide +kernel
theorem dL_law_1064 : decode cL_law 1064 = .ok (.ifCond .ne 15, 3) := by decide +kernel
theorem dL_law_1067 : decode cL_law 1067 = .ok (.aload_n 3, 1) := by decide +kernel
theorem dL_law_1068 : decode cL_law 1068 = .ok (.iconst 0, 1) := by decide +kernel
theorem dL_law_1069 : decode cL_law 1069 = .ok (.laload, 1) := by decide +kernel
theorem dL_law_1070 : decode cL_law 1070 = .ok (.iload 6, 2) := by decide +kernel
theorem dL_law_1072 : decode cL_law 1072 = .ok (.i2l, 1) := by decide +kernel
theorem dL_law_1073 : decode cL_law 1073 = .ok (.lcmp, 1) := by decide +kernel
theorem dL_law_1074 : decode cL_law 1074 = .ok (.ifCond .eq 5, 3) := by decide +kernel
theorem dL_law_1077 : decode cL_law 1077 = .ok (.iconst 0, 1) := by decide +kernel
theorem dL_law_1078 : decode cL_law 1078 = .ok (.ireturn, 1) := by decide +kernel
theorem dL_law_1079 : decode cL_law 1079 = .ok (.goto 714, 3) := by decide +kernel
theorem dL_law_1082 : decode cL_law 1082 = .ok (.aload_n 1, 1) := by decide +kernel
theorem dL_law_1083 : decode cL_law 1083 = .ok (.aload_n 0, 1) := by decide +kernel
theorem dL_law_1084 : decode cL_law 1084 = .ok (.iload 4, 2) := by decide +kernel
theorem dL_law_1086 : decode cL_law 1086 = .ok (.iconst 1, 1) := by decide +kernel
theorem dL_law_1087 : decode cL_law 1087 = .ok (.iadd, 1) := by decide +kernel
theorem dL_law_1088 : decode cL_law 1088 = .ok (.iaload, 1) := by decide +kernel
theorem dL_law_1089 : decode cL_law 1089 = .ok (.aload_n 0, 1) := by decide +kernel
theorem dL_law_1090 : decode cL_law 1090 = .ok (.iload 4, 2) := by decide +kernel
theorem dL_law_1092 : decode cL_law 1092 = .ok (.iconst 2, 1) := by decide +kernel
theorem dL_law_1093 : decode cL_law 1093 = .ok (.iadd, 1) := by decide +kernel
theorem dL_law_1094 : decode cL_law 1094 = .ok (.iaload, 1) := by decide +kernel
theorem dL_law_1095 : decode cL_law 1095 = .ok (.aload_n 3, 1) := by decide +kernel
theorem dL_law_1096 : decode cL_law 1096 = .ok (.invokestatic 143, 3) := by decide +kernel
theorem dL_law_1099 : decode cL_law 1099 = .ok (.istore 5, 2) := by decide +kernel
theorem dL_law_1101 : decode cL_law 1101 = .ok (.aload_n 2, 1) := by decide +kernel
theorem dL_law_1102 : decode cL_law 1102 = .ok (.aload_n 0, 1) := by decide +kernel
theorem dL_law_1103 : decode cL_law 1103 = .ok (.iload 4, 2) := by decide +kernel
theorem dL_law_1105 : decode cL_law 1105 = .ok (.iconst 1, 1) := by decide +kernel
theorem dL_law_1106 : decode cL_law 1106 = .ok (.iadd, 1) := by decide +kernel
theorem dL_law_1107 : decode cL_law 1107 = .ok (.iaload, 1) := by decide +kernel
theorem dL_law_1108 : decode cL_law 1108 = .ok (.aload_n 0, 1) := by decide +kernel
theorem dL_law_1109 : decode cL_law 1109 = .ok (.iload 4, 2) := by decide +kernel
theorem dL_law_1111 : decode cL_law 1111 = .ok (.iconst 2, 1) := by decide +kernel
theorem dL_law_1112 : decode cL_law 1112 = .ok (.iadd, 1) := by decide +kernel
theorem dL_law_1113 : decode cL_law 1113 = .ok (.iaload, 1) := by decide +kernel
theorem dL_law_1114 : decode cL_law 1114 = .ok (.invokevirtual 145, 3) := by decide +kernel
theorem dL_law_1117 : decode cL_law 1117 = .ok (.istore 6, 2) := by decide +kernel
theorem dL_law_1119 : decode cL_law 1119 = .ok (.aload_n 2, 1) := by decide +kernel
theorem dL_law_1120 : decode cL_law 1120 = .ok (.invokevirtual 99, 3) := by decide +kernel
theorem dL_law_1123 : decode cL_law 1123 = .ok (.iload 5, 2) := by decide +kernel
theorem dL_law_1125 : decode cL_law 1125 = .ok (.if_icmp .eq 5, 3) := by decide +kernel
theorem dL_law_1128 : decode cL_law 1128 = .ok (.iconst 0, 1) := by decide +kernel
theorem dL_law_1129 : decode cL_law 1129 = .ok (.ireturn, 1) := by decide +kernel
theorem dL_law_1130 : decode cL_law 1130 = .ok (.iload 5, 2) := by decide +kernel
theorem dL_law_1132 : decode cL_law 1132 = .ok (.ifCond .ne 15, 3) := by decide +kernel
theorem dL_law_1135 : decode cL_law 1135 = .ok (.aload_n 3, 1) := by decide +kernel
theorem dL_law_1136 : decode cL_law 1136 = .ok (.iconst 0, 1) := by decide +kernel
theorem dL_law_1137 : decode cL_law 1137 = .ok (.laload, 1) := by decide +kernel
theorem dL_law_1138 : decode cL_law 1138 = .ok (.iload 6, 2) := by decide +kernel
theorem dL_law_1140 : decode cL_law 1140 = .ok (.i2l, 1) := by decide +kernel
theorem dL_law_1141 : decode cL_law 1141 = .ok (.lcmp, 1) := by decide +kernel
theorem dL_law_1142 : decode cL_law 1142 = .ok (.ifCond .eq 5, 3) := by decide +kernel
theorem dL_law_1145 : decode cL_law 1145 = .ok (.iconst 0, 1) := by decide +kernel
theorem dL_law_1146 : decode cL_law 1146 = .ok (.ireturn, 1) := by decide +kernel
theorem dL_law_1147 : decode cL_law 1147 = .ok (.goto 646, 3) := by decide +kernel
theorem dL_law_1150 : decode cL_law 1150 = .ok (.aload_n 1, 1) := by decide +kernel
theorem dL_law_1151 : decode cL_law 1151 = .ok (.aload_n 0, 1) := by decide +kernel
theorem dL_law_1152 : decode cL_law 1152 = .ok (.iload 4, 2) := by decide +kernel
theorem dL_law_1154 : decode cL_law 1154 = .ok (.iconst 1, 1) := by decide +kernel
theorem dL_law_1155 : decode cL_law 1155 = .ok (.iadd, 1) := by decide +kernel
theorem dL_law_1156 : decode cL_law 1156 = .ok (.iaload, 1) := by decide +kernel
theorem dL_law_1157 : decode cL_law 1157 = .ok (.aload_n 0, 1) := by decide +kernel
theorem dL_law_1158 : decode cL_law 1158 = .ok (.iload 4, 2) := by decide +kernel
theorem dL_law_1160 : decode cL_law 1160 = .ok (.iconst 2, 1) := by decide +kernel
theorem dL_law_1161 : decode cL_law 1161 = .ok (.iadd, 1) := by decide +kernel
theorem dL_law_1162 : decode cL_law 1162 = .ok (.iaload, 1) := by decide +kernel
theorem dL_law_1163 : decode cL_law 1163 = .ok (.aload_n 3, 1) := by decide +kernel
theorem dL_law_1164 : decode cL_law 1164 = .ok (.invokestatic 146, 3) := by decide +kernel
theorem dL_law_1167 : decode cL_law 1167 = .ok (.istore 5, 2) := by decide +kernel
theorem dL_law_1169 : decode cL_law 1169 = .ok (.aload_n 2, 1) := by decide +kernel
theorem dL_law_1170 : decode cL_law 1170 = .ok (.aload_n 0, 1) := by decide +kernel
theorem dL_law_1171 : decode cL_law 1171 = .ok (.iload 4, 2) := by decide +kernel
theorem dL_law_1173 : decode cL_law 1173 = .ok (.iconst 1, 1) := by decide +kernel
theorem dL_law_1174 : decode cL_law 1174 = .ok (.iadd, 1) := by decide +kernel
theorem dL_law_1175 : decode cL_law 1175 = .ok (.iaload, 1) := by decide +kernel
theorem dL_law_1176 : decode cL_law 1176 = .ok (.aload_n 0, 1) := by decide +kernel
theorem dL_law_1177 : decode cL_law 1177 = .ok (.iload 4, 2) := by decide +kernel
theorem dL_law_1179 : decode cL_law 1179 = .ok (.iconst 2, 1) := by decide +kernel
theorem dL_law_1180 : decode cL_law 1180 = .ok (.iadd, 1) := by decide +kernel
theorem dL_law_1181 : decode cL_law 1181 = .ok (.iaload, 1) := by decide +kernel
theorem dL_law_1182 : decode cL_law 1182 = .ok (.invokevirtual 148, 3) := by decide +kernel
theorem dL_law_1185 : decode cL_law 1185 = .ok (.istore 6, 2) := by decide +kernel
theorem dL_law_1187 : decode cL_law 1187 = .ok (.aload_n 2, 1) := by decide +kernel
theorem dL_law_1188 : decode cL_law 1188 = .ok (.invokevirtual 99, 3) := by decide +kernel
theorem dL_law_1191 : decode cL_law 1191 = .ok (.iload 5, 2) := by decide +kernel
theorem dL_law_1193 : decode cL_law 1193 = .ok (.if_icmp .eq 5, 3) := by decide +kernel
theorem dL_law_1196 : decode cL_law 1196 = .ok (.iconst 0, 1) := by decide +kernel
theorem dL_law_1197 : decode cL_law 1197 = .ok (.ireturn, 1) := by decide +kernel
theorem dL_law_1198 : decode cL_law 1198 = .ok (.iload 5, 2) := by decide +kernel
theorem dL_law_1200 : decode cL_law 1200 = .ok (.ifCond .ne 15, 3) := by decide +kernel
theorem dL_law_1203 : decode cL_law 1203 = .ok (.aload_n 3, 1) := by decide +kernel
theorem dL_law_1204 : decode cL_law 1204 = .ok (.iconst 0, 1) := by decide +kernel
theorem dL_law_1205 : decode cL_law 1205 = .ok (.laload, 1) := by decide +kernel
theorem dL_law_1206 : decode cL_law 1206 = .ok (.iload 6, 2) := by decide +kernel
theorem dL_law_1208 : decode cL_law 1208 = .ok (.i2l, 1) := by decide +kernel
theorem dL_law_1209 : decode cL_law 1209 = .ok (.lcmp, 1) := by decide +kernel
theorem dL_law_1210 : decode cL_law 1210 = .ok (.ifCond .eq 5, 3) := by decide +kernel
theorem dL_law_1213 : decode cL_law 1213 = .ok (.iconst 0, 1) := by decide +kernel
theorem dL_law_1214 : decode cL_law 1214 = .ok (.ireturn, 1) := by decide +kernel
theorem dL_law_1215 : decode cL_law 1215 = .ok (.goto 578, 3) := by decide +kernel
theorem dL_law_1218 : decode cL_law 1218 = .ok (.aload_n 1, 1) := by decide +kernel
theorem dL_law_1219 : decode cL_law 1219 = .ok (.aload_n 0, 1) := by decide +kernel
theorem dL_law_1220 : decode cL_law 1220 = .ok (.iload 4, 2) := by decide +kernel
theorem dL_law_1222 : decode cL_law 1222 = .ok (.iconst 1, 1) := by decide +kernel
theorem dL_law_1223 : decode cL_law 1223 = .ok (.iadd, 1) := by decide +kernel
theorem dL_law_1224 : decode cL_law 1224 = .ok (.iaload, 1) := by decide +kernel
theorem dL_law_1225 : decode cL_law 1225 = .ok (.aload_n 0, 1) := by decide +kernel
theorem dL_law_1226 : decode cL_law 1226 = .ok (.iload 4, 2) := by decide +kernel
theorem dL_law_1228 : decode cL_law 1228 = .ok (.iconst 2, 1) := by decide +kernel
theorem dL_law_1229 : decode cL_law 1229 = .ok (.iadd, 1) := by decide +kernel
theorem dL_law_1230 : decode cL_law 1230 = .ok (.iaload, 1) := by decide +kernel
theorem dL_law_1231 : decode cL_law 1231 = .ok (.aload_n 3, 1) := by decide +kernel
theorem dL_law_1232 : decode cL_law 1232 = .ok (.invokestatic 149, 3) := by decide +kernel
theorem dL_law_1235 : decode cL_law 1235 = .ok (.istore 5, 2) := by decide +kernel
theorem dL_law_1237 : decode cL_law 1237 = .ok (.aload_n 2, 1) := by decide +kernel
theorem dL_law_1238 : decode cL_law 1238 = .ok (.aload_n 0, 1) := by decide +kernel
theorem dL_law_1239 : decode cL_law 1239 = .ok (.iload 4, 2) := by decide +kernel
theorem dL_law_1241 : decode cL_law 1241 = .ok (.iconst 1, 1) := by decide +kernel
theorem dL_law_1242 : decode cL_law 1242 = .ok (.iadd, 1) := by decide +kernel
theorem dL_law_1243 : decode cL_law 1243 = .ok (.iaload, 1) := by decide +kernel
theorem dL_law_1244 : decode cL_law 1244 = .ok (.aload_n 0, 1) := by decide +kernel
theorem dL_law_1245 : decode cL_law 1245 = .ok (.iload 4, 2) := by decide +kernel
theorem dL_law_1247 : decode cL_law 1247 = .ok (.iconst 2, 1) := by decide +kernel
theorem dL_law_1248 : decode cL_law 1248 = .ok (.iadd, 1) := by decide +kernel
theorem dL_law_1249 : decode cL_law 1249 = .ok (.iaload, 1) := by decide +kernel
theorem dL_law_1250 : decode cL_law 1250 = .ok (.invokevirtual 151, 3) := by decide +kernel
theorem dL_law_1253 : decode cL_law 1253 = .ok (.istore 6, 2) := by decide +kernel
theorem dL_law_1255 : decode cL_law 1255 = .ok (.aload_n 2, 1) := by decide +kernel
theorem dL_law_1256 : decode cL_law 1256 = .ok (.invokevirtual 99, 3) := by decide +kernel
theorem dL_law_1259 : decode cL_law 1259 = .ok (.iload 5, 2) := by decide +kernel
theorem dL_law_1261 : decode cL_law 1261 = .ok (.if_icmp .eq 5, 3) := by decide +kernel
theorem dL_law_1264 : decode cL_law 1264 = .ok (.iconst 0, 1) := by decide +kernel
theorem dL_law_1265 : decode cL_law 1265 = .ok (.ireturn, 1) := by decide +kernel
theorem dL_law_1266 : decode cL_law 1266 = .ok (.iload 5, 2) := by decide +kernel
theorem dL_law_1268 : decode cL_law 1268 = .ok (.ifCond .ne 15, 3) := by decide +kernel
theorem dL_law_1271 : decode cL_law 1271 = .ok (.aload_n 3, 1) := by decide +kernel
theorem dL_law_1272 : decode cL_law 1272 = .ok (.iconst 0, 1) := by decide +kernel
theorem dL_law_1273 : decode cL_law 1273 = .ok (.laload, 1) := by decide +kernel
theorem dL_law_1274 : decode cL_law 1274 = .ok (.iload 6, 2) := by decide +kernel
theorem dL_law_1276 : decode cL_law 1276 = .ok (.i2l, 1) := by decide +kernel
theorem dL_law_1277 : decode cL_law 1277 = .ok (.lcmp, 1) := by decide +kernel
theorem dL_law_1278 : decode cL_law 1278 = .ok (.ifCond .eq 5, 3) := by decide +kernel
theorem dL_law_1281 : decode cL_law 1281 = .ok (.iconst 0, 1) := by decide +kernel
theorem dL_law_1282 : decode cL_law 1282 = .ok (.ireturn, 1) := by decide +kernel
theorem dL_law_1283 : decode cL_law 1283 = .ok (.goto 510, 3) := by decide +kernel
theorem dL_law_1286 : decode cL_law 1286 = .ok (.aload_n 1, 1) := by decide +kernel
theorem dL_law_1287 : decode cL_law 1287 = .ok (.aload_n 0, 1) := by decide +kernel
theorem dL_law_1288 : decode cL_law 1288 = .ok (.iload 4, 2) := by decide +kernel
theorem dL_law_1290 : decode cL_law 1290 = .ok (.iconst 1, 1) := by decide +kernel
theorem dL_law_1291 : decode cL_law 1291 = .ok (.iadd, 1) := by decide +kernel
theorem dL_law_1292 : decode cL_law 1292 = .ok (.iaload, 1) := by decide +kernel
theorem dL_law_1293 : decode cL_law 1293 = .ok (.aload_n 3, 1) := by decide +kernel
theorem dL_law_1294 : decode cL_law 1294 = .ok (.invokestatic 152, 3) := by decide +kernel
theorem dL_law_1297 : decode cL_law 1297 = .ok (.istore 5, 2) := by decide +kernel
theorem dL_law_1299 : decode cL_law 1299 = .ok (.aload_n 2, 1) := by decide +kernel
theorem dL_law_1300 : decode cL_law 1300 = .ok (.aload_n 0, 1) := by decide +kernel
theorem dL_law_1301 : decode cL_law 1301 = .ok (.iload 4, 2) := by decide +kernel
theorem dL_law_1303 : decode cL_law 1303 = .ok (.iconst 1, 1) := by decide +kernel
theorem dL_law_1304 : decode cL_law 1304 = .ok (.iadd, 1) := by decide +kernel
theorem dL_law_1305 : decode cL_law 1305 = .ok (.iaload, 1) := by decide +kernel
theorem dL_law_1306 : decode cL_law 1306 = .ok (.invokevirtual 154, 3) := by decide +kernel
theorem dL_law_1309 : decode cL_law 1309 = .ok (.istore 6, 2) := by decide +kernel
theorem dL_law_1311 : decode cL_law 1311 = .ok (.aload_n 2, 1) := by decide +kernel
theorem dL_law_1312 : decode cL_law 1312 = .ok (.invokevirtual 99, 3) := by decide +kernel
theorem dL_law_1315 : decode cL_law 1315 = .ok (.iload 5, 2) := by decide +kernel
theorem dL_law_1317 : decode cL_law 1317 = .ok (.if_icmp .eq 5, 3) := by decide +kernel
theorem dL_law_1320 : decode cL_law 1320 = .ok (.iconst 0, 1) := by decide +kernel
theorem dL_law_1321 : decode cL_law 1321 = .ok (.ireturn, 1) := by decide +kernel
theorem dL_law_1322 : decode cL_law 1322 = .ok (.iload 5, 2) := by decide +kernel
theorem dL_law_1324 : decode cL_law 1324 = .ok (.ifCond .ne 15, 3) := by decide +kernel
theorem dL_law_1327 : decode cL_law 1327 = .ok (.aload_n 3, 1) := by decide +kernel
theorem dL_law_1328 : decode cL_law 1328 = .ok (.iconst 0, 1) := by decide +kernel
theorem dL_law_1329 : decode cL_law 1329 = .ok (.laload, 1) := by decide +kernel
theorem dL_law_1330 : decode cL_law 1330 = .ok (.iload 6, 2) := by decide +kernel
theorem dL_law_1332 : decode cL_law 1332 = .ok (.i2l, 1) := by decide +kernel
theorem dL_law_1333 : decode cL_law 1333 = .ok (.lcmp, 1) := by decide +kernel
theorem dL_law_1334 : decode cL_law 1334 = .ok (.ifCond .eq 5, 3) := by decide +kernel
theorem dL_law_1337 : decode cL_law 1337 = .ok (.iconst 0, 1) := by decide +kernel
theorem dL_law_1338 : decode cL_law 1338 = .ok (.ireturn, 1) := by decide +kernel
theorem dL_law_1339 : decode cL_law 1339 = .ok (.goto 454, 3) := by decide +kernel
theorem dL_law_1342 : decode cL_law 1342 = .ok (.aload_n 1, 1) := by decide +kernel
theorem dL_law_1343 : decode cL_law 1343 = .ok (.aload_n 0, 1) := by decide +kernel
theorem dL_law_1344 : decode cL_law 1344 = .ok (.iload 4, 2) := by decide +kernel
theorem dL_law_1346 : decode cL_law 1346 = .ok (.iconst 1, 1) := by decide +kernel
theorem dL_law_1347 : decode cL_law 1347 = .ok (.iadd, 1) := by decide +kernel
theorem dL_law_1348 : decode cL_law 1348 = .ok (.iaload, 1) := by decide +kernel
theorem dL_law_1349 : decode cL_law 1349 = .ok (.aload_n 3, 1) := by decide +kernel
theorem dL_law_1350 : decode cL_law 1350 = .ok (.invokestatic 155, 3) := by decide +kernel
theorem dL_law_1353 : decode cL_law 1353 = .ok (.istore 5, 2) := by decide +kernel
theorem dL_law_1355 : decode cL_law 1355 = .ok (.aload_n 2, 1) := by decide +kernel
theorem dL_law_1356 : decode cL_law 1356 = .ok (.aload_n 0, 1) := by decide +kernel
theorem dL_law_1357 : decode cL_law 1357 = .ok (.iload 4, 2) := by decide +kernel
theorem dL_law_1359 : decode cL_law 1359 = .ok (.iconst 1, 1) := by decide +kernel
theorem dL_law_1360 : decode cL_law 1360 = .ok (.iadd, 1) := by decide +kernel
theorem dL_law_1361 : decode cL_law 1361 = .ok (.iaload, 1) := by decide +kernel
theorem dL_law_1362 : decode cL_law 1362 = .ok (.invokevirtual 157, 3) := by decide +kernel
theorem dL_law_1365 : decode cL_law 1365 = .ok (.istore 6, 2) := by decide +kernel
theorem dL_law_1367 : decode cL_law 1367 = .ok (.aload_n 2, 1) := by decide +kernel
theorem dL_law_1368 : decode cL_law 1368 = .ok (.invokevirtual 99, 3) := by decide +kernel
theorem dL_law_1371 : decode cL_law 1371 = .ok (.iload 5, 2) := by decide +kernel
theorem dL_law_1373 : decode cL_law 1373 = .ok (.if_icmp .eq 5, 3) := by decide +kernel
theorem dL_law_1376 : decode cL_law 1376 = .ok (.iconst 0, 1) := by decide +kernel
theorem dL_law_1377 : decode cL_law 1377 = .ok (.ireturn, 1) := by decide +kernel
theorem dL_law_1378 : decode cL_law 1378 = .ok (.iload 5, 2) := by decide +kernel
theorem dL_law_1380 : decode cL_law 1380 = .ok (.ifCond .ne 15, 3) := by decide +kernel
theorem dL_law_1383 : decode cL_law 1383 = .ok (.aload_n 3, 1) := by decide +kernel
theorem dL_law_1384 : decode cL_law 1384 = .ok (.iconst 0, 1) := by decide +kernel
theorem dL_law_1385 : decode cL_law 1385 = .ok (.laload, 1) := by decide +kernel
theorem dL_law_1386 : decode cL_law 1386 = .ok (.iload 6, 2) := by decide +kernel
theorem dL_law_1388 : decode cL_law 1388 = .ok (.i2l, 1) := by decide +kernel
theorem dL_law_1389 : decode cL_law 1389 = .ok (.lcmp, 1) := by decide +kernel
theorem dL_law_1390 : decode cL_law 1390 = .ok (.ifCond .eq 5, 3) := by decide +kernel
theorem dL_law_1393 : decode cL_law 1393 = .ok (.iconst 0, 1) := by decide +kernel
theorem dL_law_1394 : decode cL_law 1394 = .ok (.ireturn, 1) := by decide +kernel
theorem dL_law_1395 : decode cL_law 1395 = .ok (.goto 398, 3) := by decide +kernel
theorem dL_law_1398 : decode cL_law 1398 = .ok (.aload_n 1, 1) := by decide +kernel
theorem dL_law_1399 : decode cL_law 1399 = .ok (.invokevirtual 158, 3) := by decide +kernel
theorem dL_law_1402 : decode cL_law 1402 = .ok (.dstore 5, 2) := by decide +kernel
theorem dL_law_1404 : decode cL_law 1404 = .ok (.aload_n 2, 1) := by decide +kernel
theorem dL_law_1405 : decode cL_law 1405 = .ok (.invokevirtual 162, 3) := by decide +kernel
theorem dL_law_1408 : decode cL_law 1408 = .ok (.dstore 7, 2) := by decide +kernel
theorem dL_law_1410 : decode cL_law 1410 = .ok (.dload 5, 2) := by decide +kernel
theorem dL_law_1412 : decode cL_law 1412 = .ok (.dload 7, 2) := by decide +kernel
theorem dL_law_1414 : decode cL_law 1414 = .ok (.dcmp .l, 1) := by decide +kernel
theorem dL_law_1415 : decode cL_law 1415 = .ok (.ifCond .eq 21, 3) := by decide +kernel
theorem dL_law_1418 : decode cL_law 1418 = .ok (.dload 5, 2) := by decide +kernel
theorem dL_law_1420 : decode cL_law 1420 = .ok (.dload 5, 2) := by decide +kernel
theorem dL_law_1422 : decode cL_law 1422 = .ok (.dcmp .l, 1) := by decide +kernel
theorem dL_law_1423 : decode cL_law 1423 = .ok (.ifCond .eq 11, 3) := by decide +kernel
theorem dL_law_1426 : decode cL_law 1426 = .ok (.dload 7, 2) := by decide +kernel
theorem dL_law_1428 : decode cL_law 1428 = .ok (.dload 7, 2) := by decide +kernel
theorem dL_law_1430 : decode cL_law 1430 = .ok (.dcmp .l, 1) := by decide +kernel
theorem dL_law_1431 : decode cL_law 1431 = .ok (.ifCond .ne 5, 3) := by decide +kernel
theorem dL_law_1434 : decode cL_law 1434 = .ok (.iconst 0, 1) := by decide +kernel
theorem dL_law_1435 : decode cL_law 1435 = .ok (.ireturn, 1) := by decide +kernel
theorem dL_law_1436 : decode cL_law 1436 = .ok (.goto 357, 3) := by decide +kernel
theorem dL_law_1439 : decode cL_law 1439 = .ok (.aload_n 1, 1) := by decide +kernel
theorem dL_law_1440 : decode cL_law 1440 = .ok (.aload_n 0, 1) := by decide +kernel
theorem dL_law_1441 : decode cL_law 1441 = .ok (.iload 4, 2) := by decide +kernel
theorem dL_law_1443 : decode cL_law 1443 = .ok (.iconst 1, 1) := by decide +kernel
theorem dL_law_1444 : decode cL_law 1444 = .ok (.iadd, 1) := by decide +kernel
theorem dL_law_1445 : decode cL_law 1445 = .ok (.iaload, 1) := by decide +kernel
theorem dL_law_1446 : decode cL_law 1446 = .ok (.aload_n 0, 1) := by decide +kernel
theorem dL_law_1447 : decode cL_law 1447 = .ok (.iload 4, 2) := by decide +kernel
theorem dL_law_1449 : decode cL_law 1449 = .ok (.iconst 2, 1) := by decide +kernel
theorem dL_law_1450 : decode cL_law 1450 = .ok (.iadd, 1) := by decide +kernel
theorem dL_law_1451 : decode cL_law 1451 = .ok (.iaload, 1) := by decide +kernel
theorem dL_law_1452 : decode cL_law 1452 = .ok (.aload_n 0, 1) := by decide +kernel
theorem dL_law_1453 : decode cL_law 1453 = .ok (.iload 4, 2) := by decide +kernel
theorem dL_law_1455 : decode cL_law 1455 = .ok (.iconst 3, 1) := by decide +kernel
theorem dL_law_1456 : decode cL_law 1456 = .ok (.iadd, 1) := by decide +kernel
theorem dL_law_1457 : decode cL_law 1457 = .ok (.iaload, 1) := by decide +kernel
theorem dL_law_1458 : decode cL_law 1458 = .ok (.aload_n 3, 1) := by decide +kernel
theorem dL_law_1459 : decode cL_law 1459 = .ok (.invokestatic 163, 3) := by decide +kernel
theorem dL_law_1462 : decode cL_law 1462 = .ok (.istore 5, 2) := by decide +kernel
theorem dL_law_1464 : decode cL_law 1464 = .ok (.aload_n 2, 1) := by decide +kernel
theorem dL_law_1465 : decode cL_law 1465 = .ok (.aload_n 0, 1) := by decide +kernel
theorem dL_law_1466 : decode cL_law 1466 = .ok (.iload 4, 2) := by decide +kernel
theorem dL_law_1468 : decode cL_law 1468 = .ok (.iconst 1, 1) := by decide +kernel
theorem dL_law_1469 : decode cL_law 1469 = .ok (.iadd, 1) := by decide +kernel
theorem dL_law_1470 : decode cL_law 1470 = .ok (.iaload, 1) := by decide +kernel
theorem dL_law_1471 : decode cL_law 1471 = .ok (.aload_n 0, 1) := by decide +kernel
theorem dL_law_1472 : decode cL_law 1472 = .ok (.iload 4, 2) := by decide +kernel
theorem dL_law_1474 : decode cL_law 1474 = .ok (.iconst 2, 1) := by decide +kernel
theorem dL_law_1475 : decode cL_law 1475 = .ok (.iadd, 1) := by decide +kernel
theorem dL_law_1476 : decode cL_law 1476 = .ok (.iaload, 1) := by decide +kernel
theorem dL_law_1477 : decode cL_law 1477 = .ok (.aload_n 0, 1) := by decide +kernel
theorem dL_law_1478 : decode cL_law 1478 = .ok (.iload 4, 2) := by decide +kernel
theorem dL_law_1480 : decode cL_law 1480 = .ok (.iconst 3, 1) := by decide +kernel
theorem dL_law_1481 : decode cL_law 1481 = .ok (.iadd, 1) := by decide +kernel
theorem dL_law_1482 : decode cL_law 1482 = .ok (.iaload, 1) := by decide +kernel
theorem dL_law_1483 : decode cL_law 1483 = .ok (.invokevirtual 165, 3) := by decide +kernel
theorem dL_law_1486 : decode cL_law 1486 = .ok (.istore 6, 2) := by decide +kernel
theorem dL_law_1488 : decode cL_law 1488 = .ok (.aload_n 2, 1) := by decide +kernel
theorem dL_law_1489 : decode cL_law 1489 = .ok (.invokevirtual 99, 3) := by decide +kernel
theorem dL_law_1492 : decode cL_law 1492 = .ok (.iload 5, 2) := by decide +kernel
theorem dL_law_1494 : decode cL_law 1494 = .ok (.if_icmp .eq 5, 3) := by decide +kernel
theorem dL_law_1497 : decode cL_law 1497 = .ok (.iconst 0, 1) := by decide +kernel
theorem dL_law_1498 : decode cL_law 1498 = .ok (.ireturn, 1) := by decide +kernel
theorem dL_law_1499 : decode cL_law 1499 = .ok (.iload 5, 2) := by decide +kernel
theorem dL_law_1501 : decode cL_law 1501 = .ok (.ifCond .ne 15, 3) := by decide +kernel
theorem dL_law_1504 : decode cL_law 1504 = .ok (.aload_n 3, 1) := by decide +kernel
theorem dL_law_1505 : decode cL_law 1505 = .ok (.iconst 0, 1) := by decide +kernel
theorem dL_law_1506 : decode cL_law 1506 = .ok (.laload, 1) := by decide +kernel
theorem dL_law_1507 : decode cL_law 1507 = .ok (.iload 6, 2) := by decide +kernel
theorem dL_law_1509 : decode cL_law 1509 = .ok (.i2l, 1) := by decide +kernel
theorem dL_law_1510 : decode cL_law 1510 = .ok (.lcmp, 1) := by decide +kernel
theorem dL_law_1511 : decode cL_law 1511 = .ok (.ifCond .eq 5, 3) := by decide +kernel
theorem dL_law_1514 : decode cL_law 1514 = .ok (.iconst 0, 1) := by decide +kernel
theorem dL_law_1515 : decode cL_law 1515 = .ok (.ireturn, 1) := by decide +kernel
theorem dL_law_1516 : decode cL_law 1516 = .ok (.goto 277, 3) := by decide +kernel
theorem dL_law_1519 : decode cL_law 1519 = .ok (.aload_n 1, 1) := by decide +kernel
theorem dL_law_1520 : decode cL_law 1520 = .ok (.aload_n 0, 1) := by decide +kernel
theorem dL_law_1521 : decode cL_law 1521 = .ok (.iload 4, 2) := by decide +kernel
theorem dL_law_1523 : decode cL_law 1523 = .ok (.iconst 1, 1) := by decide +kernel
theorem dL_law_1524 : decode cL_law 1524 = .ok (.iadd, 1) := by decide +kernel
theorem dL_law_1525 : decode cL_law 1525 = .ok (.iaload, 1) := by decide +kernel
theorem dL_law_1526 : decode cL_law 1526 = .ok (.aload_n 0, 1) := by decide +kernel
theorem dL_law_1527 : decode cL_law 1527 = .ok (.iload 4, 2) := by decide +kernel
theorem dL_law_1529 : decode cL_law 1529 = .ok (.iconst 2, 1) := by decide +kernel
theorem dL_law_1530 : decode cL_law 1530 = .ok (.iadd, 1) := by decide +kernel
theorem dL_law_1531 : decode cL_law 1531 = .ok (.iaload, 1) := by decide +kernel
theorem dL_law_1532 : decode cL_law 1532 = .ok (.aload_n 0, 1) := by decide +kernel
theorem dL_law_1533 : decode cL_law 1533 = .ok (.iload 4, 2) := by decide +kernel
theorem dL_law_1535 : decode cL_law 1535 = .ok (.iconst 3, 1) := by decide +kernel
theorem dL_law_1536 : decode cL_law 1536 = .ok (.iadd, 1) := by decide +kernel
theorem dL_law_1537 : decode cL_law 1537 = .ok (.iaload, 1) := by decide +kernel
theorem dL_law_1538 : decode cL_law 1538 = .ok (.aload_n 3, 1) := by decide +kernel
theorem dL_law_1539 : decode cL_law 1539 = .ok (.invokestatic 166, 3) := by decide +kernel
theorem dL_law_1542 : decode cL_law 1542 = .ok (.istore 5, 2) := by decide +kernel
theorem dL_law_1544 : decode cL_law 1544 = .ok (.aload_n 2, 1) := by decide +kernel
theorem dL_law_1545 : decode cL_law 1545 = .ok (.aload_n 0, 1) := by decide +kernel
theorem dL_law_1546 : decode cL_law 1546 = .ok (.iload 4, 2) := by decide +kernel
theorem dL_law_1548 : decode cL_law 1548 = .ok (.iconst 1, 1) := by decide +kernel
theorem dL_law_1549 : decode cL_law 1549 = .ok (.iadd, 1) := by decide +kernel
theorem dL_law_1550 : decode cL_law 1550 = .ok (.iaload, 1) := by decide +kernel
theorem dL_law_1551 : decode cL_law 1551 = .ok (.aload_n 0, 1) := by decide +kernel
theorem dL_law_1552 : decode cL_law 1552 = .ok (.iload 4, 2) := by decide +kernel
theorem dL_law_1554 : decode cL_law 1554 = .ok (.iconst 2, 1) := by decide +kernel
theorem dL_law_1555 : decode cL_law 1555 = .ok (.iadd, 1) := by decide +kernel
theorem dL_law_1556 : decode cL_law 1556 = .ok (.iaload, 1) := by decide +kernel
theorem dL_law_1557 : decode cL_law 1557 = .ok (.aload_n 0, 1) := by decide +kernel
theorem dL_law_1558 : decode cL_law 1558 = .ok (.iload 4, 2) := by decide +kernel
theorem dL_law_1560 : decode cL_law 1560 = .ok (.iconst 3, 1) := by decide +kernel
theorem dL_law_1561 : decode cL_law 1561 = .ok (.iadd, 1) := by decide +kernel
theorem dL_law_1562 : decode cL_law 1562 = .ok (.iaload, 1) := by decide +kernel
theorem dL_law_1563 : decode cL_law 1563 = .ok (.invokevirtual 168, 3) := by decide +kernel
theorem dL_law_1566 : decode cL_law 1566 = .ok (.istore 6, 2) := by decide +kernel
theorem dL_law_1568 : decode cL_law 1568 = .ok (.aload_n 2, 1) := by decide +kernel
theorem dL_law_1569 : decode cL_law 1569 = .ok (.invokevirtual 99, 3) := by decide +kernel
theorem dL_law_1572 : decode cL_law 1572 = .ok (.iload 5, 2) := by decide +kernel
theorem dL_law_1574 : decode cL_law 1574 = .ok (.if_icmp .eq 5, 3) := by decide +kernel
theorem dL_law_1577 : decode cL_law 1577 = .ok (.iconst 0, 1) := by decide +kernel
theorem dL_law_1578 : decode cL_law 1578 = .ok (.ireturn, 1) := by decide +kernel
theorem dL_law_1579 : decode cL_law 1579 = .ok (.iload 5, 2) := by decide +kernel
theorem dL_law_1581 : decode cL_law 1581 = .ok (.ifCond .ne 15, 3) := by decide +kernel
theorem dL_law_1584 : decode cL_law 1584 = .ok (.aload_n 3, 1) := by decide +kernel
theorem dL_law_1585 : decode cL_law 1585 = .ok (.iconst 0, 1) := by decide +kernel
theorem dL_law_1586 : decode cL_law 1586 = .ok (.laload, 1) := by decide +kernel
theorem dL_law_1587 : decode cL_law 1587 = .ok (.iload 6, 2) := by decide +kernel
theorem dL_law_1589 : decode cL_law 1589 = .ok (.i2l, 1) := by decide +kernel
theorem dL_law_1590 : decode cL_law 1590 = .ok (.lcmp, 1) := by decide +kernel
theorem dL_law_1591 : decode cL_law 1591 = .ok (.ifCond .eq 5, 3) := by decide +kernel
theorem dL_law_1594 : decode cL_law 1594 = .ok (.iconst 0, 1) := by decide +kernel
theorem dL_law_1595 : decode cL_law 1595 = .ok (.ireturn, 1) := by decide +kernel
theorem dL_law_1596 : decode cL_law 1596 = .ok (.goto 197, 3) := by decide +kernel
theorem dL_law_1599 : decode cL_law 1599 = .ok (.aload_n 1, 1) := by decide +kernel
theorem dL_law_1600 : decode cL_law 1600 = .ok (.aload_n 0, 1) := by decide +kernel
theorem dL_law_1601 : decode cL_law 1601 = .ok (.iload 4, 2) := by decide +kernel
theorem dL_law_1603 : decode cL_law 1603 = .ok (.iconst 1, 1) := by decide +kernel
theorem dL_law_1604 : decode cL_law 1604 = .ok (.iadd, 1) := by decide +kernel
theorem dL_law_1605 : decode cL_law 1605 = .ok (.iaload, 1) := by decide +kernel
theorem dL_law_1606 : decode cL_law 1606 = .ok (.aload_n 0, 1) := by decide +kernel
theorem dL_law_1607 : decode cL_law 1607 = .ok (.iload 4, 2) := by decide +kernel
theorem dL_law_1609 : decode cL_law 1609 = .ok (.iconst 2, 1) := by decide +kernel
theorem dL_law_1610 : decode cL_law 1610 = .ok (.iadd, 1) := by decide +kernel
theorem dL_law_1611 : decode cL_law 1611 = .ok (.iaload, 1) := by decide +kernel
theorem dL_law_1612 : decode cL_law 1612 = .ok (.ifCond .eq 7, 3) := by decide +kernel
theorem dL_law_1615 : decode cL_law 1615 = .ok (.iconst 1, 1) := by decide +kernel
theorem dL_law_1616 : decode cL_law 1616 = .ok (.goto 4, 3) := by decide +kernel
theorem dL_law_1619 : decode cL_law 1619 = .ok (.iconst 0, 1) := by decide +kernel
theorem dL_law_1620 : decode cL_law 1620 = .ok (.aload_n 0, 1) := by decide +kernel
theorem dL_law_1621 : decode cL_law 1621 = .ok (.iload 4, 2) := by decide +kernel
theorem dL_law_1623 : decode cL_law 1623 = .ok (.iconst 3, 1) := by decide +kernel
theorem dL_law_1624 : decode cL_law 1624 = .ok (.iadd, 1) := by decide +kernel
theorem dL_law_1625 : decode cL_law 1625 = .ok (.iaload, 1) := by decide +kernel
theorem dL_law_1626 : decode cL_law 1626 = .ok (.aload_n 3, 1) := by decide +kernel
theorem dL_law_1627 : decode cL_law 1627 = .ok (.invokestatic 169, 3) := by decide +kernel
theorem dL_law_1630 : decode cL_law 1630 = .ok (.istore 5, 2) := by decide +kernel
theorem dL_law_1632 : decode cL_law 1632 = .ok (.aload_n 2, 1) := by decide +kernel
theorem dL_law_1633 : decode cL_law 1633 = .ok (.aload_n 0, 1) := by decide +kernel
theorem dL_law_1634 : decode cL_law 1634 = .ok (.iload 4, 2) := by decide +kernel
theorem dL_law_1636 : decode cL_law 1636 = .ok (.iconst 1, 1) := by decide +kernel
theorem dL_law_1637 : decode cL_law 1637 = .ok (.iadd, 1) := by decide +kernel
theorem dL_law_1638 : decode cL_law 1638 = .ok (.iaload, 1) := by decide +kernel
theorem dL_law_1639 : decode cL_law 1639 = .ok (.aload_n 0, 1) := by decide +kernel
theorem dL_law_1640 : decode cL_law 1640 = .ok (.iload 4, 2) := by decide +kernel
theorem dL_law_1642 : decode cL_law 1642 = .ok (.iconst 2, 1) := by decide +kernel
theorem dL_law_1643 : decode cL_law 1643 = .ok (.iadd, 1) := by decide +kernel
theorem dL_law_1644 : decode cL_law 1644 = .ok (.iaload, 1) := by decide +kernel
theorem dL_law_1645 : decode cL_law 1645 = .ok (.ifCond .eq 7, 3) := by decide +kernel
theorem dL_law_1648 : decode cL_law 1648 = .ok (.iconst 1, 1) := by decide +kernel
theorem dL_law_1649 : decode cL_law 1649 = .ok (.goto 4, 3) := by decide +kernel
theorem dL_law_1652 : decode cL_law 1652 = .ok (.iconst 0, 1) := by decide +kernel
theorem dL_law_1653 : decode cL_law 1653 = .ok (.aload_n 0, 1) := by decide +kernel
theorem dL_law_1654 : decode cL_law 1654 = .ok (.iload 4, 2) := by decide +kernel
theorem dL_law_1656 : decode cL_law 1656 = .ok (.iconst 3, 1) := by decide +kernel
theorem dL_law_1657 : decode cL_law 1657 = .ok (.iadd, 1) := by decide +kernel
theorem dL_law_1658 : decode cL_law 1658 = .ok (.iaload, 1) := by decide +kernel
theorem dL_law_1659 : decode cL_law 1659 = .ok (.invokevirtual 172, 3) := by decide +kernel
theorem dL_law_1662 : decode cL_law 1662 = .ok (.istore 6, 2) := by decide +kernel
theorem dL_law_1664 : decode cL_law 1664 = .ok (.aload_n 2, 1) := by decide +kernel
theorem dL_law_1665 : decode cL_law 1665 = .ok (.invokevirtual 99, 3) := by decide +kernel
theorem dL_law_1668 : decode cL_law 1668 = .ok (.iload 5, 2) := by decide +kernel
theorem dL_law_1670 : decode cL_law 1670 = .ok (.if_icmp .eq 5, 3) := by decide +kernel
theorem dL_law_1673 : decode cL_law 1673 = .ok (.iconst 0, 1) := by decide +kernel
theorem dL_law_1674 : decode cL_law 1674 = .ok (.ireturn, 1) := by decide +kernel
theorem dL_law_1675 : decode cL_law 1675 = .ok (.iload 5, 2) := by decide +kernel
theorem dL_law_1677 : decode cL_law 1677 = .ok (.ifCond .ne 15, 3) := by decide +kernel
theorem dL_law_1680 : decode cL_law 1680 = .ok (.aload_n 3, 1) := by decide +kernel
theorem dL_law_1681 : decode cL_law 1681 = .ok (.iconst 0, 1) := by decide +kernel
theorem dL_law_1682 : decode cL_law 1682 = .ok (.laload, 1) := by decide +kernel
theorem dL_law_1683 : decode cL_law 1683 = .ok (.iload 6, 2) := by decide +kernel
theorem dL_law_1685 : decode cL_law 1685 = .ok (.i2l, 1) := by decide +kernel
theorem dL_law_1686 : decode cL_law 1686 = .ok (.lcmp, 1) := by decide +kernel
theorem dL_law_1687 : decode cL_law 1687 = .ok (.ifCond .eq 5, 3) := by decide +kernel
theorem dL_law_1690 : decode cL_law 1690 = .ok (.iconst 0, 1) := by decide +kernel
theorem dL_law_1691 : decode cL_law 1691 = .ok (.ireturn, 1) := by decide +kernel
theorem dL_law_1692 : decode cL_law 1692 = .ok (.goto 101, 3) := by decide +kernel
theorem dL_law_1695 : decode cL_law 1695 = .ok (.aload_n 1, 1) := by decide +kernel
theorem dL_law_1696 : decode cL_law 1696 = .ok (.aload_n 0, 1) := by decide +kernel
theorem dL_law_1697 : decode cL_law 1697 = .ok (.iload 4, 2) := by decide +kernel
theorem dL_law_1699 : decode cL_law 1699 = .ok (.iconst 1, 1) := by decide +kernel
theorem dL_law_1700 : decode cL_law 1700 = .ok (.iadd, 1) := by decide +kernel
theorem dL_law_1701 : decode cL_law 1701 = .ok (.iaload, 1) := by decide +kernel
theorem dL_law_1702 : decode cL_law 1702 = .ok (.aload_n 0, 1) := by decide +kernel
theorem dL_law_1703 : decode cL_law 1703 = .ok (.iload 4, 2) := by decide +kernel
theorem dL_law_1705 : decode cL_law 1705 = .ok (.iconst 2, 1) := by decide +kernel
theorem dL_law_1706 : decode cL_law 1706 = .ok (.iadd, 1) := by decide +kernel
theorem dL_law_1707 : decode cL_law 1707 = .ok (.iaload, 1) := by decide +kernel
theorem dL_law_1708 : decode cL_law 1708 = .ok (.ifCond .eq 7, 3) := by decide +kernel
theorem dL_law_1711 : decode cL_law 1711 = .ok (.iconst 1, 1) := by decide +kernel
theorem dL_law_1712 : decode cL_law 1712 = .ok (.goto 4, 3) := by decide +kernel
theorem dL_law_1715 : decode cL_law 1715 = .ok (.iconst 0, 1) := by decide +kernel
theorem dL_law_1716 : decode cL_law 1716 = .ok (.aload_n 3, 1) := by decide +kernel
theorem dL_law_1717 : decode cL_law 1717 = .ok (.invokestatic 173, 3) := by decide +kernel
theorem dL_law_1720 : decode cL_law 1720 = .ok (.istore 5, 2) := by decide +kernel
theorem dL_law_1722 : decode cL_law 1722 = .ok (.aload_n 2, 1) := by decide +kernel
theorem dL_law_1723 : decode cL_law 1723 = .ok (.aload_n 0, 1) := by decide +kernel
theorem dL_law_1724 : decode cL_law 1724 = .ok (.iload 4, 2) := by decide +kernel
theorem dL_law_1726 : decode cL_law 1726 = .ok (.iconst 1, 1) := by decide +kernel
theorem dL_law_1727 : decode cL_law 1727 = .ok (.iadd, 1) := by decide +kernel
theorem dL_law_1728 : decode cL_law 1728 = .ok (.iaload, 1) := by decide +kernel
theorem dL_law_1729 : decode cL_law 1729 = .ok (.aload_n 0, 1) := by decide +kernel
theorem dL_law_1730 : decode cL_law 1730 = .ok (.iload 4, 2) := by decide +kernel
theorem dL_law_1732 : decode cL_law 1732 = .ok (.iconst 2, 1) := by decide +kernel
theorem dL_law_1733 : decode cL_law 1733 = .ok (.iadd, 1) := by decide +kernel
theorem dL_law_1734 : decode cL_law 1734 = .ok (.iaload, 1) := by decide +kernel
theorem dL_law_1735 : decode cL_law 1735 = .ok (.ifCond .eq 7, 3) := by decide +kernel
theorem dL_law_1738 : decode cL_law 1738 = .ok (.iconst 1, 1) := by decide +kernel
theorem dL_law_1739 : decode cL_law 1739 = .ok (.goto 4, 3) := by decide +kernel
theorem dL_law_1742 : decode cL_law 1742 = .ok (.iconst 0, 1) := by decide +kernel
theorem dL_law_1743 : decode cL_law 1743 = .ok (.invokevirtual 175, 3) := by decide +kernel
theorem dL_law_1746 : decode cL_law 1746 = .ok (.istore 6, 2) := by decide +kernel
theorem dL_law_1748 : decode cL_law 1748 = .ok (.aload_n 2, 1) := by decide +kernel
theorem dL_law_1749 : decode cL_law 1749 = .ok (.invokevirtual 99, 3) := by decide +kernel
theorem dL_law_1752 : decode cL_law 1752 = .ok (.iload 5, 2) := by decide +kernel
theorem dL_law_1754 : decode cL_law 1754 = .ok (.if_icmp .eq 5, 3) := by decide +kernel
theorem dL_law_1757 : decode cL_law 1757 = .ok (.iconst 0, 1) := by decide +kernel
theorem dL_law_1758 : decode cL_law 1758 = .ok (.ireturn, 1) := by decide +kernel
theorem dL_law_1759 : decode cL_law 1759 = .ok (.iload 5, 2) := by decide +kernel
theorem dL_law_1761 : decode cL_law 1761 = .ok (.ifCond .ne 15, 3) := by decide +kernel
theorem dL_law_1764 : decode cL_law 1764 = .ok (.aload_n 3, 1) := by decide +kernel
theorem dL_law_1765 : decode cL_law 1765 = .ok (.iconst 0, 1) := by decide +kernel
theorem dL_law_1766 : decode cL_law 1766 = .ok (.laload, 1) := by decide +kernel
theorem dL_law_1767 : decode cL_law 1767 = .ok (.iload 6, 2) := by decide +kernel
theorem dL_law_1769 : decode cL_law 1769 = .ok (.i2l, 1) := by decide +kernel
theorem dL_law_1770 : decode cL_law 1770 = .ok (.lcmp, 1) := by decide +kernel
theorem dL_law_1771 : decode cL_law 1771 = .ok (.ifCond .eq 5, 3) := by decide +kernel
theorem dL_law_1774 : decode cL_law 1774 = .ok (.iconst 0, 1) := by decide +kernel
theorem dL_law_1775 : decode cL_law 1775 = .ok (.ireturn, 1) := by decide +kernel
theorem dL_law_1776 : decode cL_law 1776 = .ok (.goto 17, 3) := by decide +kernel
theorem dL_law_1779 : decode cL_law 1779 = .ok (.aload_n 1, 1) := by decide +kernel
theorem dL_law_1780 : decode cL_law 1780 = .ok (.invokevirtual 176, 3) := by decide +kernel
theorem dL_law_1783 : decode cL_law 1783 = .ok (.aload_n 2, 1) := by decide +kernel
theorem dL_law_1784 : decode cL_law 1784 = .ok (.invokevirtual 180, 3) := by decide +kernel
theorem dL_law_1787 : decode cL_law 1787 = .ok (.lcmp, 1) := by decide +kernel
theorem dL_law_1788 : decode cL_law 1788 = .ok (.ifCond .eq 5, 3) := by decide +kernel
theorem dL_law_1791 : decode cL_law 1791 = .ok (.iconst 0, 1) := by decide +kernel
theorem dL_law_1792 : decode cL_law 1792 = .ok (.ireturn, 1) := by decide +kernel
theorem dL_law_1793 : decode cL_law 1793 = .ok (.iinc 4 5, 3) := by decide +kernel
theorem dL_law_1796 : decode cL_law 1796 = .ok (.goto (-1773), 3) := by decide +kernel
theorem dL_law_1799 : decode cL_law 1799 = .ok (.iconst 1, 1) := by decide +kernel
theorem dL_law_1800 : decode cL_law 1800 = .ok (.ireturn, 1) := by decide +kernel
