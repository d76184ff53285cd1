theorem qini_L : Cond.initialized RL ∈ lwT := List.mem_filter.mpr ⟨List.mem_of_getElem? (i := 6) (by decide +kernel), by decide +kernel⟩
theorem qini_X8 : Cond.initialized RX8 ∈ lwT := List.mem_filter.mpr ⟨List.mem_of_getElem? (i := 7) (by decide +kernel), by decide +kernel⟩
theorem qini_X6 : Cond.initialized RX6 ∈ lwT := List.mem_filter.mpr ⟨List.mem_of_getElem? (i := 8) (by decide +kernel), by decide +kernel⟩
theorem qini_X7 : Cond.initialized RX7 ∈ lwT := List.mem_filter.mpr ⟨List.mem_of_getElem? (i := 9) (by decide +kernel), by decide +kernel⟩
theorem qini_X0 : Cond.initialized RX0 ∈ lwT := List.mem_filter.mpr ⟨List.mem_of_getElem? (i := 10) (by decide +kernel), by decide +kernel⟩
theorem qini_X3 : Cond.initialized RX3 ∈ lwT := List.mem_filter.mpr ⟨List.mem_of_getElem? (i := 11) (by decide +kernel), by decide +kernel⟩
theorem qini_X5 : Cond.initialized RX5 ∈ lwT := List.mem_filter.mpr ⟨List.mem_of_getElem? (i := 12) (by decide +kernel), by decide +kernel⟩
theorem qini_X1 : Cond.initialized RX1 ∈ lwT := List.mem_filter.mpr ⟨List.mem_of_getElem? (i := 13) (by decide +kernel), by decide +kernel⟩
theorem qini_X2 : Cond.initialized RX2 ∈ lwT := List.mem_filter.mpr ⟨List.mem_of_getElem? (i := 14) (by decide +kernel), by decide +kernel⟩
theorem qini_X4 : Cond.initialized RX4 ∈ lwT := List.mem_filter.mpr ⟨List.mem_of_getElem? (i := 15) (by decide +kernel), by decide +kernel⟩
theorem qini_J9 : Cond.initialized RJ9 ∈ lwT := List.mem_filter.mpr ⟨List.mem_of_getElem? (i := 16) (by decide +kernel), by decide +kernel⟩
theorem qL_20 : Cond.classLink RL 20 RX8 ∈ lwT := List.mem_filter.mpr ⟨List.mem_of_getElem? (i := 17) (by decide +kernel), by decide +kernel⟩
theorem qins_X8 : Cond.instantiable RX8 4 ∈ lwT := List.mem_filter.mpr ⟨List.mem_of_getElem? (i := 18) (by decide +kernel), by decide +kernel⟩
theorem qL_80 : Cond.methodLink RL 80 yX8_init ∈ lwT := List.mem_filter.mpr ⟨List.mem_of_getElem? (i := 19) (by decide +kernel), by decide +kernel⟩
theorem qX8_1 : Cond.methodLink RX8 1 objectInit ∈ lwT := List.mem_filter.mpr ⟨List.mem_of_getElem? (i := 22) (by decide +kernel), by decide +kernel⟩
theorem qX8_7 : Cond.classLink RX8 7 RX6 ∈ lwT := List.mem_filter.mpr ⟨List.mem_of_getElem? (i := 25) (by decide +kernel), by decide +kernel⟩
theorem qins_X6 : Cond.instantiable RX6 9 ∈ lwT := List.mem_filter.mpr ⟨List.mem_of_getElem? (i := 26) (by decide +kernel), by decide +kernel⟩
theorem qX8_9 : Cond.methodLink RX8 9 yX6_init ∈ lwT := List.mem_filter.mpr ⟨List.mem_of_getElem? (i := 27) (by decide +kernel), by decide +kernel⟩
theorem qX6_3 : Cond.methodLink RX6 3 objectInit ∈ lwT := List.mem_filter.mpr ⟨List.mem_of_getElem? (i := 30) (by decide +kernel), by decide +kernel⟩
theorem qX6_27 : Cond.classLink RX6 27 RX7 ∈ lwT := List.mem_filter.mpr ⟨List.mem_of_getElem? (i := 31) (by decide +kernel), by decide +kernel⟩
theorem qins_X7 : Cond.instantiable RX7 1 ∈ lwT := List.mem_filter.mpr ⟨List.mem_of_getElem? (i := 32) (by decide +kernel), by decide +kernel⟩
theorem qX6_29 : Cond.methodLink RX6 29 yX7_init ∈ lwT := List.mem_filter.mpr ⟨List.mem_of_getElem? (i := 33) (by decide +kernel), by decide +kernel⟩
theorem qX7_3 : Cond.methodLink RX7 3 objectInit ∈ lwT := List.mem_filter.mpr ⟨List.mem_of_getElem? (i := 36) (by decide +kernel), by decide +kernel⟩
theorem qX7_15 : Cond.methodLink RX7 15 yX7_clear ∈ lwT := List.mem_filter.mpr ⟨List.mem_of_getElem? (i := 37) (by decide +kernel), by decide +kernel⟩
theorem qX7_9 : Cond.fieldLink RX7 9 "ChangeFeed$Values" "values" "[I" ∈ lwT := List.mem_filter.mpr ⟨List.mem_of_getElem? (i := 44) (by decide +kernel), by decide +kernel⟩
theorem qac_int : Cond.arrayClass .int ∈ lwT := List.mem_filter.mpr ⟨List.mem_of_getElem? (i := 48) (by decide +kernel), by decide +kernel⟩
theorem qX6_34 : Cond.classLink RX6 34 RX0 ∈ lwT := List.mem_filter.mpr ⟨List.mem_of_getElem? (i := 49) (by decide +kernel), by decide +kernel⟩
theorem qins_X0 : Cond.instantiable RX0 8 ∈ lwT := List.mem_filter.mpr ⟨List.mem_of_getElem? (i := 50) (by decide +kernel), by decide +kernel⟩
theorem qX0_3 : Cond.methodLink RX0 3 objectInit ∈ lwT := List.mem_filter.mpr ⟨List.mem_of_getElem? (i := 54) (by decide +kernel), by decide +kernel⟩
theorem qX0_9 : Cond.fieldLink RX0 9 "ChangeFeed$Feed" "numbers" "[I" ∈ lwT := List.mem_filter.mpr ⟨List.mem_of_getElem? (i := 55) (by decide +kernel), by decide +kernel⟩
theorem qX0_15 : Cond.fieldLink RX0 15 "ChangeFeed$Feed" "keys" "[I" ∈ lwT := List.mem_filter.mpr ⟨List.mem_of_getElem? (i := 56) (by decide +kernel), by decide +kernel⟩
theorem qX0_18 : Cond.fieldLink RX0 18 "ChangeFeed$Feed" "values" "[I" ∈ lwT := List.mem_filter.mpr ⟨List.mem_of_getElem? (i := 57) (by decide +kernel), by decide +kernel⟩
theorem qX0_21 : Cond.fieldLink RX0 21 "ChangeFeed$Feed" "minutes" "[I" ∈ lwT := List.mem_filter.mpr ⟨List.mem_of_getElem? (i := 58) (by decide +kernel), by decide +kernel⟩
theorem qX0_24 : Cond.fieldLink RX0 24 "ChangeFeed$Feed" "held" "I" ∈ lwT := List.mem_filter.mpr ⟨List.mem_of_getElem? (i := 59) (by decide +kernel), by decide +kernel⟩
theorem qX3_53 : Cond.fieldLink RX3 53 "ChangeFeed$Feed" "held" "I" ∈ lwT := List.mem_filter.mpr ⟨List.mem_of_getElem? (i := 60) (by decide +kernel), by decide +kernel⟩
theorem qX8_109 : Cond.fieldLink RX8 109 "ChangeFeed$Feed" "held" "I" ∈ lwT := List.mem_filter.mpr ⟨List.mem_of_getElem? (i := 61) (by decide +kernel), by decide +kernel⟩
theorem qX6_149 : Cond.fieldLink RX6 149 "ChangeFeed$Feed" "held" "I" ∈ lwT := List.mem_filter.mpr ⟨List.mem_of_getElem? (i := 62) (by decide +kernel), by decide +kernel⟩
theorem qX0_28 : Cond.fieldLink RX0 28 "ChangeFeed$Feed" "next" "I" ∈ lwT := List.mem_filter.mpr ⟨List.mem_of_getElem? (i := 63) (by decide +kernel), by decide +kernel⟩
theorem qX6_113 : Cond.fieldLink RX6 113 "ChangeFeed$Feed" "next" "I" ∈ lwT := List.mem_filter.mpr ⟨List.mem_of_getElem? (i := 64) (by decide +kernel), by decide +kernel⟩
theorem qX8_179 : Cond.fieldLink RX8 179 "ChangeFeed$Feed" "next" "I" ∈ lwT := List.mem_filter.mpr ⟨List.mem_of_getElem? (i := 65) (by decide +kernel), by decide +kernel⟩
theorem qX0_31 : Cond.fieldLink RX0 31 "ChangeFeed$Feed" "floor" "I" ∈ lwT := List.mem_filter.mpr ⟨List.mem_of_getElem? (i := 66) (by decide +kernel), by decide +kernel⟩
theorem qX6_107 : Cond.fieldLink RX6 107 "ChangeFeed$Feed" "floor" "I" ∈ lwT := List.mem_filter.mpr ⟨List.mem_of_getElem? (i := 67) (by decide +kernel), by decide +kernel⟩
theorem qX8_150 : Cond.fieldLink RX8 150 "ChangeFeed$Feed" "floor" "I" ∈ lwT := List.mem_filter.mpr ⟨List.mem_of_getElem? (i := 68) (by decide +kernel), by decide +kernel⟩
theorem qX0_34 : Cond.fieldLink RX0 34 "ChangeFeed$Feed" "gone" "I" ∈ lwT := List.mem_filter.mpr ⟨List.mem_of_getElem? (i := 69) (by decide +kernel), by decide +kernel⟩
theorem qX8_185 : Cond.fieldLink RX8 185 "ChangeFeed$Feed" "gone" "I" ∈ lwT := List.mem_filter.mpr ⟨List.mem_of_getElem? (i := 70) (by decide +kernel), by decide +kernel⟩
theorem qX6_41 : Cond.classLink RX6 41 RX3 ∈ lwT := List.mem_filter.mpr ⟨List.mem_of_getElem? (i := 88) (by decide +kernel), by decide +kernel⟩
theorem qX6_47 : Cond.classLink RX6 47 RX5 ∈ lwT := List.mem_filter.mpr ⟨List.mem_of_getElem? (i := 90) (by decide +kernel), by decide +kernel⟩
theorem qins_X3 : Cond.instantiable RX3 5 ∈ lwT := List.mem_filter.mpr ⟨List.mem_of_getElem? (i := 92) (by decide +kernel), by decide +kernel⟩
theorem qX3_1 : Cond.methodLink RX3 1 objectInit ∈ lwT := List.mem_filter.mpr ⟨List.mem_of_getElem? (i := 96) (by decide +kernel), by decide +kernel⟩
theorem qX3_19 : Cond.classLink RX3 19 RX7 ∈ lwT := List.mem_filter.mpr ⟨List.mem_of_getElem? (i := 97) (by decide +kernel), by decide +kernel⟩
theorem qX3_21 : Cond.methodLink RX3 21 yX7_init ∈ lwT := List.mem_filter.mpr ⟨List.mem_of_getElem? (i := 98) (by decide +kernel), by decide +kernel⟩
theorem qX3_7 : Cond.fieldLink RX3 7 "ChangeFeed$Reader" "place" "I" ∈ lwT := List.mem_filter.mpr ⟨List.mem_of_getElem? (i := 99) (by decide +kernel), by decide +kernel⟩
theorem qX6_126 : Cond.fieldLink RX6 126 "ChangeFeed$Reader" "place" "I" ∈ lwT := List.mem_filter.mpr ⟨List.mem_of_getElem? (i := 100) (by decide +kernel), by decide +kernel⟩
theorem qX8_141 : Cond.fieldLink RX8 141 "ChangeFeed$Reader" "place" "I" ∈ lwT := List.mem_filter.mpr ⟨List.mem_of_getElem? (i := 101) (by decide +kernel), by decide +kernel⟩
theorem qX3_13 : Cond.fieldLink RX3 13 "ChangeFeed$Reader" "confirmedPlace" "I" ∈ lwT := List.mem_filter.mpr ⟨List.mem_of_getElem? (i := 102) (by decide +kernel), by decide +kernel⟩
theorem qX8_144 : Cond.fieldLink RX8 144 "ChangeFeed$Reader" "confirmedPlace" "I" ∈ lwT := List.mem_filter.mpr ⟨List.mem_of_getElem? (i := 103) (by decide +kernel), by decide +kernel⟩
theorem qX3_16 : Cond.fieldLink RX3 16 "ChangeFeed$Reader" "readSoFar" "I" ∈ lwT := List.mem_filter.mpr ⟨List.mem_of_getElem? (i := 104) (by decide +kernel), by decide +kernel⟩
theorem qX6_123 : Cond.fieldLink RX6 123 "ChangeFeed$Reader" "readSoFar" "I" ∈ lwT := List.mem_filter.mpr ⟨List.mem_of_getElem? (i := 105) (by decide +kernel), by decide +kernel⟩
theorem qX8_156 : Cond.fieldLink RX8 156 "ChangeFeed$Reader" "readSoFar" "I" ∈ lwT := List.mem_filter.mpr ⟨List.mem_of_getElem? (i := 106) (by decide +kernel), by decide +kernel⟩
theorem qX3_22 : Cond.fieldLink RX3 22 "ChangeFeed$Reader" "view" "LChangeFeed$Values;" ∈ lwT := List.mem_filter.mpr ⟨List.mem_of_getElem? (i := 107) (by decide +kernel), by decide +kernel⟩
theorem qX8_100 : Cond.fieldLink RX8 100 "ChangeFeed$Reader" "view" "LChangeFeed$Values;" ∈ lwT := List.mem_filter.mpr ⟨List.mem_of_getElem? (i := 108) (by decide +kernel), by decide +kernel⟩
theorem qX3_26 : Cond.fieldLink RX3 26 "ChangeFeed$Reader" "confirmedView" "LChangeFeed$Values;" ∈ lwT := List.mem_filter.mpr ⟨List.mem_of_getElem? (i := 109) (by decide +kernel), by decide +kernel⟩
theorem qX8_163 : Cond.fieldLink RX8 163 "ChangeFeed$Reader" "confirmedView" "LChangeFeed$Values;" ∈ lwT := List.mem_filter.mpr ⟨List.mem_of_getElem? (i := 110) (by decide +kernel), by decide +kernel⟩
theorem qins_X5 : Cond.instantiable RX5 2 ∈ lwT := List.mem_filter.mpr ⟨List.mem_of_getElem? (i := 122) (by decide +kernel), by decide +kernel⟩
theorem qX5_1 : Cond.methodLink RX5 1 objectInit ∈ lwT := List.mem_filter.mpr ⟨List.mem_of_getElem? (i := 126) (by decide +kernel), by decide +kernel⟩
theorem qX5_13 : Cond.classLink RX5 13 RX7 ∈ lwT := List.mem_filter.mpr ⟨List.mem_of_getElem? (i := 127) (by decide +kernel), by decide +kernel⟩
theorem qX5_15 : Cond.methodLink RX5 15 yX7_init ∈ lwT := List.mem_filter.mpr ⟨List.mem_of_getElem? (i := 128) (by decide +kernel), by decide +kernel⟩
theorem qX5_7 : Cond.fieldLink RX5 7 "ChangeFeed$Snapshot" "number" "I" ∈ lwT := List.mem_filter.mpr ⟨List.mem_of_getElem? (i := 129) (by decide +kernel), by decide +kernel⟩
theorem qX3_39 : Cond.fieldLink RX3 39 "ChangeFeed$Snapshot" "number" "I" ∈ lwT := List.mem_filter.mpr ⟨List.mem_of_getElem? (i := 130) (by decide +kernel), by decide +kernel⟩
theorem qX6_116 : Cond.fieldLink RX6 116 "ChangeFeed$Snapshot" "number" "I" ∈ lwT := List.mem_filter.mpr ⟨List.mem_of_getElem? (i := 131) (by decide +kernel), by decide +kernel⟩
theorem qX8_170 : Cond.fieldLink RX8 170 "ChangeFeed$Snapshot" "number" "I" ∈ lwT := List.mem_filter.mpr ⟨List.mem_of_getElem? (i := 132) (by decide +kernel), by decide +kernel⟩
theorem qX5_16 : Cond.fieldLink RX5 16 "ChangeFeed$Snapshot" "table" "LChangeFeed$Values;" ∈ lwT := List.mem_filter.mpr ⟨List.mem_of_getElem? (i := 133) (by decide +kernel), by decide +kernel⟩
theorem qX3_44 : Cond.fieldLink RX3 44 "ChangeFeed$Snapshot" "table" "LChangeFeed$Values;" ∈ lwT := List.mem_filter.mpr ⟨List.mem_of_getElem? (i := 134) (by decide +kernel), by decide +kernel⟩
theorem qX6_119 : Cond.fieldLink RX6 119 "ChangeFeed$Snapshot" "table" "LChangeFeed$Values;" ∈ lwT := List.mem_filter.mpr ⟨List.mem_of_getElem? (i := 135) (by decide +kernel), by decide +kernel⟩
theorem qX8_175 : Cond.fieldLink RX8 175 "ChangeFeed$Snapshot" "table" "LChangeFeed$Values;" ∈ lwT := List.mem_filter.mpr ⟨List.mem_of_getElem? (i := 136) (by decide +kernel), by decide +kernel⟩
theorem qX6_9 : Cond.fieldLink RX6 9 "ChangeFeed$State" "size" "I" ∈ lwT := List.mem_filter.mpr ⟨List.mem_of_getElem? (i := 142) (by decide +kernel), by decide +kernel⟩
theorem qX8_134 : Cond.fieldLink RX8 134 "ChangeFeed$State" "size" "I" ∈ lwT := List.mem_filter.mpr ⟨List.mem_of_getElem? (i := 143) (by decide +kernel), by decide +kernel⟩
theorem qX6_15 : Cond.fieldLink RX6 15 "ChangeFeed$State" "grace" "I" ∈ lwT := List.mem_filter.mpr ⟨List.mem_of_getElem? (i := 144) (by decide +kernel), by decide +kernel⟩
theorem qX8_197 : Cond.fieldLink RX8 197 "ChangeFeed$State" "grace" "I" ∈ lwT := List.mem_filter.mpr ⟨List.mem_of_getElem? (i := 145) (by decide +kernel), by decide +kernel⟩
theorem qX6_18 : Cond.fieldLink RX6 18 "ChangeFeed$State" "minute" "I" ∈ lwT := List.mem_filter.mpr ⟨List.mem_of_getElem? (i := 146) (by decide +kernel), by decide +kernel⟩
theorem qX8_182 : Cond.fieldLink RX8 182 "ChangeFeed$State" "minute" "I" ∈ lwT := List.mem_filter.mpr ⟨List.mem_of_getElem? (i := 147) (by decide +kernel), by decide +kernel⟩
theorem qX6_21 : Cond.fieldLink RX6 21 "ChangeFeed$State" "readerCount" "I" ∈ lwT := List.mem_filter.mpr ⟨List.mem_of_getElem? (i := 148) (by decide +kernel), by decide +kernel⟩
theorem qX8_188 : Cond.fieldLink RX8 188 "ChangeFeed$State" "readerCount" "I" ∈ lwT := List.mem_filter.mpr ⟨List.mem_of_getElem? (i := 149) (by decide +kernel), by decide +kernel⟩
theorem qX6_24 : Cond.fieldLink RX6 24 "ChangeFeed$State" "snapshotCount" "I" ∈ lwT := List.mem_filter.mpr ⟨List.mem_of_getElem? (i := 150) (by decide +kernel), by decide +kernel⟩
theorem qX8_194 : Cond.fieldLink RX8 194 "ChangeFeed$State" "snapshotCount" "I" ∈ lwT := List.mem_filter.mpr ⟨List.mem_of_getElem? (i := 151) (by decide +kernel), by decide +kernel⟩
theorem qX6_30 : Cond.fieldLink RX6 30 "ChangeFeed$State" "table" "LChangeFeed$Values;" ∈ lwT := List.mem_filter.mpr ⟨List.mem_of_getElem? (i := 152) (by decide +kernel), by decide +kernel⟩
theorem qX8_87 : Cond.fieldLink RX8 87 "ChangeFeed$State" "table" "LChangeFeed$Values;" ∈ lwT := List.mem_filter.mpr ⟨List.mem_of_getElem? (i := 153) (by decide +kernel), by decide +kernel⟩
theorem qX6_37 : Cond.fieldLink RX6 37 "ChangeFeed$State" "feed" "LChangeFeed$Feed;" ∈ lwT := List.mem_filter.mpr ⟨List.mem_of_getElem? (i := 154) (by decide +kernel), by decide +kernel⟩
theorem qX8_105 : Cond.fieldLink RX8 105 "ChangeFeed$State" "feed" "LChangeFeed$Feed;" ∈ lwT := List.mem_filter.mpr ⟨List.mem_of_getElem? (i := 155) (by decide +kernel), by decide +kernel⟩
theorem qX6_43 : Cond.fieldLink RX6 43 "ChangeFeed$State" "readers" "[LChangeFeed$Reader;" ∈ lwT := List.mem_filter.mpr ⟨List.mem_of_getElem? (i := 156) (by decide +kernel), by decide +kernel⟩
theorem qX6_49 : Cond.fieldLink RX6 49 "ChangeFeed$State" "snapshots" "[LChangeFeed$Snapshot;" ∈ lwT := List.mem_filter.mpr ⟨List.mem_of_getElem? (i := 157) (by decide +kernel), by decide +kernel⟩
theorem qX8_16 : Cond.classLink RX8 16 RX1 ∈ lwT := List.mem_filter.mpr ⟨List.mem_of_getElem? (i := 177) (by decide +kernel), by decide +kernel⟩
theorem qins_X1 : Cond.instantiable RX1 2 ∈ lwT := List.mem_filter.mpr ⟨List.mem_of_getElem? (i := 178) (by decide +kernel), by decide +kernel⟩
theorem qX8_18 : Cond.methodLink RX8 18 yX1_init ∈ lwT := List.mem_filter.mpr ⟨List.mem_of_getElem? (i := 179) (by decide +kernel), by decide +kernel⟩
theorem qX1_3 : Cond.methodLink RX1 3 objectInit ∈ lwT := List.mem_filter.mpr ⟨List.mem_of_getElem? (i := 182) (by decide +kernel), by decide +kernel⟩
theorem qX1_9 : Cond.classLink RX1 9 RX6 ∈ lwT := List.mem_filter.mpr ⟨List.mem_of_getElem? (i := 183) (by decide +kernel), by decide +kernel⟩
theorem qX1_21 : Cond.methodLink RX1 21 yX6_init ∈ lwT := List.mem_filter.mpr ⟨List.mem_of_getElem? (i := 185) (by decide +kernel), by decide +kernel⟩
theorem qX1_11 : Cond.fieldLink RX1 11 "ChangeFeed$History" "states" "[LChangeFeed$State;" ∈ lwT := List.mem_filter.mpr ⟨List.mem_of_getElem? (i := 186) (by decide +kernel), by decide +kernel⟩
theorem qX1_17 : Cond.fieldLink RX1 17 "ChangeFeed$History" "held" "I" ∈ lwT := List.mem_filter.mpr ⟨List.mem_of_getElem? (i := 187) (by decide +kernel), by decide +kernel⟩
theorem qX8_203 : Cond.fieldLink RX8 203 "ChangeFeed$History" "held" "I" ∈ lwT := List.mem_filter.mpr ⟨List.mem_of_getElem? (i := 188) (by decide +kernel), by decide +kernel⟩
theorem qX8_23 : Cond.classLink RX8 23 RX2 ∈ lwT := List.mem_filter.mpr ⟨List.mem_of_getElem? (i := 194) (by decide +kernel), by decide +kernel⟩
theorem qins_X2 : Cond.instantiable RX2 6 ∈ lwT := List.mem_filter.mpr ⟨List.mem_of_getElem? (i := 195) (by decide +kernel), by decide +kernel⟩
theorem qX2_3 : Cond.methodLink RX2 3 objectInit ∈ lwT := List.mem_filter.mpr ⟨List.mem_of_getElem? (i := 199) (by decide +kernel), by decide +kernel⟩
theorem qX2_9 : Cond.fieldLink RX2 9 "ChangeFeed$Pad" "signs" "[I" ∈ lwT := List.mem_filter.mpr ⟨List.mem_of_getElem? (i := 200) (by decide +kernel), by decide +kernel⟩
theorem qX2_15 : Cond.fieldLink RX2 15 "ChangeFeed$Pad" "length" "I" ∈ lwT := List.mem_filter.mpr ⟨List.mem_of_getElem? (i := 201) (by decide +kernel), by decide +kernel⟩
theorem qX8_200 : Cond.fieldLink RX8 200 "ChangeFeed$Pad" "length" "I" ∈ lwT := List.mem_filter.mpr ⟨List.mem_of_getElem? (i := 202) (by decide +kernel), by decide +kernel⟩
theorem qX2_19 : Cond.fieldLink RX2 19 "ChangeFeed$Pad" "place" "I" ∈ lwT := List.mem_filter.mpr ⟨List.mem_of_getElem? (i := 203) (by decide +kernel), by decide +kernel⟩
theorem qX2_22 : Cond.fieldLink RX2 22 "ChangeFeed$Pad" "letter" "I" ∈ lwT := List.mem_filter.mpr ⟨List.mem_of_getElem? (i := 204) (by decide +kernel), by decide +kernel⟩
theorem qX2_25 : Cond.fieldLink RX2 25 "ChangeFeed$Pad" "first" "I" ∈ lwT := List.mem_filter.mpr ⟨List.mem_of_getElem? (i := 205) (by decide +kernel), by decide +kernel⟩
theorem qX2_28 : Cond.fieldLink RX2 28 "ChangeFeed$Pad" "second" "I" ∈ lwT := List.mem_filter.mpr ⟨List.mem_of_getElem? (i := 206) (by decide +kernel), by decide +kernel⟩
theorem qX8_30 : Cond.classLink RX8 30 RX4 ∈ lwT := List.mem_filter.mpr ⟨List.mem_of_getElem? (i := 220) (by decide +kernel), by decide +kernel⟩
theorem qins_X4 : Cond.instantiable RX4 2 ∈ lwT := List.mem_filter.mpr ⟨List.mem_of_getElem? (i := 222) (by decide +kernel), by decide +kernel⟩
theorem qX4_1 : Cond.methodLink RX4 1 objectInit ∈ lwT := List.mem_filter.mpr ⟨List.mem_of_getElem? (i := 226) (by decide +kernel), by decide +kernel⟩
theorem qX4_13 : Cond.classLink RX4 13 RX6 ∈ lwT := List.mem_filter.mpr ⟨List.mem_of_getElem? (i := 227) (by decide +kernel), by decide +kernel⟩
theorem qX4_15 : Cond.methodLink RX4 15 yX6_init ∈ lwT := List.mem_filter.mpr ⟨List.mem_of_getElem? (i := 228) (by decide +kernel), by decide +kernel⟩
theorem qX4_7 : Cond.fieldLink RX4 7 "ChangeFeed$Slot" "isUsed" "Z" ∈ lwT := List.mem_filter.mpr ⟨List.mem_of_getElem? (i := 229) (by decide +kernel), by decide +kernel⟩
theorem qX4_16 : Cond.fieldLink RX4 16 "ChangeFeed$Slot" "state" "LChangeFeed$State;" ∈ lwT := List.mem_filter.mpr ⟨List.mem_of_getElem? (i := 230) (by decide +kernel), by decide +kernel⟩
theorem qX8_10 : Cond.fieldLink RX8 10 "ChangeFeed" "now" "LChangeFeed$State;" ∈ lwT := List.mem_filter.mpr ⟨List.mem_of_getElem? (i := 236) (by decide +kernel), by decide +kernel⟩
theorem qX8_19 : Cond.fieldLink RX8 19 "ChangeFeed" "history" "LChangeFeed$History;" ∈ lwT := List.mem_filter.mpr ⟨List.mem_of_getElem? (i := 237) (by decide +kernel), by decide +kernel⟩
theorem qX8_26 : Cond.fieldLink RX8 26 "ChangeFeed" "pad" "LChangeFeed$Pad;" ∈ lwT := List.mem_filter.mpr ⟨List.mem_of_getElem? (i := 238) (by decide +kernel), by decide +kernel⟩
theorem qX8_32 : Cond.fieldLink RX8 32 "ChangeFeed" "slots" "[LChangeFeed$Slot;" ∈ lwT := List.mem_filter.mpr ⟨List.mem_of_getElem? (i := 239) (by decide +kernel), by decide +kernel⟩
theorem qL_59 : Cond.methodLink RL 59 yX8_count ∈ lwT := List.mem_filter.mpr ⟨List.mem_of_getElem? (i := 249) (by decide +kernel), by decide +kernel⟩
theorem qX8_176 : Cond.methodLink RX8 176 yX7_howMany ∈ lwT := List.mem_filter.mpr ⟨List.mem_of_getElem? (i := 253) (by decide +kernel), by decide +kernel⟩
theorem qX7_30 : Cond.methodLink RX7 30 yX7_of ∈ lwT := List.mem_filter.mpr ⟨List.mem_of_getElem? (i := 257) (by decide +kernel), by decide +kernel⟩
theorem qX8_191 : Cond.methodLink RX8 191 yX6_lateBelow ∈ lwT := List.mem_filter.mpr ⟨List.mem_of_getElem? (i := 264) (by decide +kernel), by decide +kernel⟩
theorem qX6_62 : Cond.methodLink RX6 62 yX6_readerAt ∈ lwT := List.mem_filter.mpr ⟨List.mem_of_getElem? (i := 268) (by decide +kernel), by decide +kernel⟩
theorem qL_92 : Cond.methodLink RL 92 yX8_leftIn ∈ lwT := List.mem_filter.mpr ⟨List.mem_of_getElem? (i := 275) (by decide +kernel), by decide +kernel⟩
theorem qX8_204 : Cond.methodLink RX8 204 yX8_isNumber ∈ lwT := List.mem_filter.mpr ⟨List.mem_of_getElem? (i := 279) (by decide +kernel), by decide +kernel⟩
theorem qX8_207 : Cond.methodLink RX8 207 yX0_leftAfterThinning ∈ lwT := List.mem_filter.mpr ⟨List.mem_of_getElem? (i := 282) (by decide +kernel), by decide +kernel⟩
theorem qX0_73 : Cond.methodLink RX0 73 yX0_wouldGo ∈ lwT := List.mem_filter.mpr ⟨List.mem_of_getElem? (i := 286) (by decide +kernel), by decide +kernel⟩
theorem qX0_61 : Cond.methodLink RX0 61 yX0_isClosed ∈ lwT := List.mem_filter.mpr ⟨List.mem_of_getElem? (i := 290) (by decide +kernel), by decide +kernel⟩
theorem qX0_57 : Cond.methodLink RX0 57 yX0_segmentOf ∈ lwT := List.mem_filter.mpr ⟨List.mem_of_getElem? (i := 295) (by decide +kernel), by decide +kernel⟩
theorem qX0_65 : Cond.methodLink RX0 65 yX0_isLastOfItsKey ∈ lwT := List.mem_filter.mpr ⟨List.mem_of_getElem? (i := 298) (by decide +kernel), by decide +kernel⟩
theorem qX0_69 : Cond.methodLink RX0 69 yX0_isOldRemoval ∈ lwT := List.mem_filter.mpr ⟨List.mem_of_getElem? (i := 302) (by decide +kernel), by decide +kernel⟩
theorem qL_81 : Cond.methodLink RL 81 yL_act ∈ lwT := List.mem_filter.mpr ⟨List.mem_of_getElem? (i := 306) (by decide +kernel), by decide +kernel⟩
theorem qL_9 : Cond.methodLink RL 9 yL_cell ∈ lwT := List.mem_filter.mpr ⟨List.mem_of_getElem? (i := 309) (by decide +kernel), by decide +kernel⟩
theorem qL_8 : Cond.constant RL 8 (40503) ∈ lwT := List.mem_filter.mpr ⟨List.mem_of_getElem? (i := 312) (by decide +kernel), by decide +kernel⟩
theorem qL_15 : Cond.methodLink RL 15 yL_low ∈ lwT := List.mem_filter.mpr ⟨List.mem_of_getElem? (i := 313) (by decide +kernel), by decide +kernel⟩
theorem qL_7 : Cond.constant RL 7 (2147483647) ∈ lwT := List.mem_filter.mpr ⟨List.mem_of_getElem? (i := 316) (by decide +kernel), by decide +kernel⟩
theorem qL_19 : Cond.methodLink RL 19 yX8_set ∈ lwT := List.mem_filter.mpr ⟨List.mem_of_getElem? (i := 317) (by decide +kernel), by decide +kernel⟩
theorem qX8_37 : Cond.methodLink RX8 37 yX1_prepare ∈ lwT := List.mem_filter.mpr ⟨List.mem_of_getElem? (i := 321) (by decide +kernel), by decide +kernel⟩
theorem qX1_22 : Cond.methodLink RX1 22 yX1_stateAt ∈ lwT := List.mem_filter.mpr ⟨List.mem_of_getElem? (i := 325) (by decide +kernel), by decide +kernel⟩
theorem qX1_26 : Cond.methodLink RX1 26 yX6_copyFrom ∈ lwT := List.mem_filter.mpr ⟨List.mem_of_getElem? (i := 329) (by decide +kernel), by decide +kernel⟩
theorem qX6_55 : Cond.methodLink RX6 55 yX7_copyFrom ∈ lwT := List.mem_filter.mpr ⟨List.mem_of_getElem? (i := 333) (by decide +kernel), by decide +kernel⟩
theorem qX6_59 : Cond.methodLink RX6 59 yX0_copyFrom ∈ lwT := List.mem_filter.mpr ⟨List.mem_of_getElem? (i := 340) (by decide +kernel), by decide +kernel⟩
theorem qX6_66 : Cond.methodLink RX6 66 yX3_copyFrom ∈ lwT := List.mem_filter.mpr ⟨List.mem_of_getElem? (i := 345) (by decide +kernel), by decide +kernel⟩
theorem qX3_29 : Cond.methodLink RX3 29 yX7_copyFrom ∈ lwT := List.mem_filter.mpr ⟨List.mem_of_getElem? (i := 349) (by decide +kernel), by decide +kernel⟩
theorem qX6_69 : Cond.methodLink RX6 69 yX6_snapshotAt ∈ lwT := List.mem_filter.mpr ⟨List.mem_of_getElem? (i := 350) (by decide +kernel), by decide +kernel⟩
theorem qX6_73 : Cond.methodLink RX6 73 yX6_copySnapshot ∈ lwT := List.mem_filter.mpr ⟨List.mem_of_getElem? (i := 354) (by decide +kernel), by decide +kernel⟩
theorem qX6_77 : Cond.methodLink RX6 77 yX5_copyFrom ∈ lwT := List.mem_filter.mpr ⟨List.mem_of_getElem? (i := 357) (by decide +kernel), by decide +kernel⟩
theorem qX5_20 : Cond.methodLink RX5 20 yX7_copyFrom ∈ lwT := List.mem_filter.mpr ⟨List.mem_of_getElem? (i := 361) (by decide +kernel), by decide +kernel⟩
theorem qX8_49 : Cond.methodLink RX8 49 yX6_setKey ∈ lwT := List.mem_filter.mpr ⟨List.mem_of_getElem? (i := 362) (by decide +kernel), by decide +kernel⟩
theorem qX6_87 : Cond.methodLink RX6 87 yX0_isFull ∈ lwT := List.mem_filter.mpr ⟨List.mem_of_getElem? (i := 370) (by decide +kernel), by decide +kernel⟩
theorem qX6_91 : Cond.methodLink RX6 91 yX7_change ∈ lwT := List.mem_filter.mpr ⟨List.mem_of_getElem? (i := 374) (by decide +kernel), by decide +kernel⟩
theorem qX6_95 : Cond.methodLink RX6 95 yX0_append ∈ lwT := List.mem_filter.mpr ⟨List.mem_of_getElem? (i := 378) (by decide +kernel), by decide +kernel⟩
theorem qX0_45 : Cond.methodLink RX0 45 yX0_layEntry ∈ lwT := List.mem_filter.mpr ⟨List.mem_of_getElem? (i := 382) (by decide +kernel), by decide +kernel⟩
theorem qX8_45 : Cond.methodLink RX8 45 yX1_settle ∈ lwT := List.mem_filter.mpr ⟨List.mem_of_getElem? (i := 387) (by decide +kernel), by decide +kernel⟩
theorem qX1_30 : Cond.methodLink RX1 30 yX1_dropOldest ∈ lwT := List.mem_filter.mpr ⟨List.mem_of_getElem? (i := 391) (by decide +kernel), by decide +kernel⟩
theorem qL_24 : Cond.methodLink RL 24 yX8_remove ∈ lwT := List.mem_filter.mpr ⟨List.mem_of_getElem? (i := 395) (by decide +kernel), by decide +kernel⟩
theorem qX8_52 : Cond.methodLink RX8 52 yX6_removeKey ∈ lwT := List.mem_filter.mpr ⟨List.mem_of_getElem? (i := 399) (by decide +kernel), by decide +kernel⟩
theorem qX6_99 : Cond.methodLink RX6 99 yX7_of ∈ lwT := List.mem_filter.mpr ⟨List.mem_of_getElem? (i := 403) (by decide +kernel), by decide +kernel⟩
theorem qL_28 : Cond.methodLink RL 28 yX8_pass ∈ lwT := List.mem_filter.mpr ⟨List.mem_of_getElem? (i := 404) (by decide +kernel), by decide +kernel⟩
theorem qX8_55 : Cond.methodLink RX8 55 yX6_letPass ∈ lwT := List.mem_filter.mpr ⟨List.mem_of_getElem? (i := 408) (by decide +kernel), by decide +kernel⟩
theorem qX6_103 : Cond.constant RX6 103 (99999) ∈ lwT := List.mem_filter.mpr ⟨List.mem_of_getElem? (i := 412) (by decide +kernel), by decide +kernel⟩
theorem qL_31 : Cond.methodLink RL 31 yX8_reader ∈ lwT := List.mem_filter.mpr ⟨List.mem_of_getElem? (i := 413) (by decide +kernel), by decide +kernel⟩
theorem qX8_65 : Cond.methodLink RX8 65 yX6_addReader ∈ lwT := List.mem_filter.mpr ⟨List.mem_of_getElem? (i := 417) (by decide +kernel), by decide +kernel⟩
theorem qX6_120 : Cond.methodLink RX6 120 yX3_startOver ∈ lwT := List.mem_filter.mpr ⟨List.mem_of_getElem? (i := 421) (by decide +kernel), by decide +kernel⟩
theorem qX3_33 : Cond.methodLink RX3 33 yX7_clear ∈ lwT := List.mem_filter.mpr ⟨List.mem_of_getElem? (i := 425) (by decide +kernel), by decide +kernel⟩
theorem qX3_36 : Cond.methodLink RX3 36 yX3_keepPlace ∈ lwT := List.mem_filter.mpr ⟨List.mem_of_getElem? (i := 426) (by decide +kernel), by decide +kernel⟩
theorem qL_35 : Cond.methodLink RL 35 yX8_read ∈ lwT := List.mem_filter.mpr ⟨List.mem_of_getElem? (i := 430) (by decide +kernel), by decide +kernel⟩
theorem qX8_68 : Cond.methodLink RX8 68 yX6_letRead ∈ lwT := List.mem_filter.mpr ⟨List.mem_of_getElem? (i := 434) (by decide +kernel), by decide +kernel⟩
theorem qX6_133 : Cond.methodLink RX6 133 yX3_readOn ∈ lwT := List.mem_filter.mpr ⟨List.mem_of_getElem? (i := 438) (by decide +kernel), by decide +kernel⟩
theorem qX3_47 : Cond.methodLink RX3 47 yX0_firstFrom ∈ lwT := List.mem_filter.mpr ⟨List.mem_of_getElem? (i := 442) (by decide +kernel), by decide +kernel⟩
theorem qX3_56 : Cond.methodLink RX3 56 Lib.Math.min.name ∈ lwT := List.mem_filter.mpr ⟨List.mem_of_getElem? (i := 446) (by decide +kernel), by decide +kernel⟩
theorem qX3_62 : Cond.methodLink RX3 62 yX0_keyAt ∈ lwT := List.mem_filter.mpr ⟨List.mem_of_getElem? (i := 449) (by decide +kernel), by decide +kernel⟩
theorem qX3_65 : Cond.methodLink RX3 65 yX0_valueAt ∈ lwT := List.mem_filter.mpr ⟨List.mem_of_getElem? (i := 453) (by decide +kernel), by decide +kernel⟩
theorem qX3_68 : Cond.methodLink RX3 68 yX7_change ∈ lwT := List.mem_filter.mpr ⟨List.mem_of_getElem? (i := 457) (by decide +kernel), by decide +kernel⟩
theorem qX3_72 : Cond.methodLink RX3 72 yX0_numberAt ∈ lwT := List.mem_filter.mpr ⟨List.mem_of_getElem? (i := 458) (by decide +kernel), by decide +kernel⟩
theorem qL_38 : Cond.methodLink RL 38 yX8_confirm ∈ lwT := List.mem_filter.mpr ⟨List.mem_of_getElem? (i := 462) (by decide +kernel), by decide +kernel⟩
theorem qX8_71 : Cond.methodLink RX8 71 yX6_letConfirm ∈ lwT := List.mem_filter.mpr ⟨List.mem_of_getElem? (i := 466) (by decide +kernel), by decide +kernel⟩
theorem qX6_137 : Cond.methodLink RX6 137 yX3_keepPlace ∈ lwT := List.mem_filter.mpr ⟨List.mem_of_getElem? (i := 470) (by decide +kernel), by decide +kernel⟩
theorem qL_41 : Cond.methodLink RL 41 yX8_goBack ∈ lwT := List.mem_filter.mpr ⟨List.mem_of_getElem? (i := 471) (by decide +kernel), by decide +kernel⟩
theorem qX8_74 : Cond.methodLink RX8 74 yX6_letGoBack ∈ lwT := List.mem_filter.mpr ⟨List.mem_of_getElem? (i := 475) (by decide +kernel), by decide +kernel⟩
theorem qX6_140 : Cond.methodLink RX6 140 yX3_returnToConfirmed ∈ lwT := List.mem_filter.mpr ⟨List.mem_of_getElem? (i := 479) (by decide +kernel), by decide +kernel⟩
theorem qL_44 : Cond.methodLink RL 44 yX8_snapshot ∈ lwT := List.mem_filter.mpr ⟨List.mem_of_getElem? (i := 483) (by decide +kernel), by decide +kernel⟩
theorem qX8_62 : Cond.methodLink RX8 62 yX6_makeSnapshot ∈ lwT := List.mem_filter.mpr ⟨List.mem_of_getElem? (i := 487) (by decide +kernel), by decide +kernel⟩
theorem qL_47 : Cond.methodLink RL 47 yX8_beginAnew ∈ lwT := List.mem_filter.mpr ⟨List.mem_of_getElem? (i := 491) (by decide +kernel), by decide +kernel⟩
theorem qX8_77 : Cond.methodLink RX8 77 yX6_letBeginAnew ∈ lwT := List.mem_filter.mpr ⟨List.mem_of_getElem? (i := 495) (by decide +kernel), by decide +kernel⟩
theorem qX6_143 : Cond.methodLink RX6 143 yX0_aheadOf ∈ lwT := List.mem_filter.mpr ⟨List.mem_of_getElem? (i := 499) (by decide +kernel), by decide +kernel⟩
theorem qX0_53 : Cond.methodLink RX0 53 yX0_firstFrom ∈ lwT := List.mem_filter.mpr ⟨List.mem_of_getElem? (i := 503) (by decide +kernel), by decide +kernel⟩
theorem qL_50 : Cond.methodLink RL 50 yX8_load ∈ lwT := List.mem_filter.mpr ⟨List.mem_of_getElem? (i := 504) (by decide +kernel), by decide +kernel⟩
theorem qX8_80 : Cond.methodLink RX8 80 yX6_letLoad ∈ lwT := List.mem_filter.mpr ⟨List.mem_of_getElem? (i := 508) (by decide +kernel), by decide +kernel⟩
theorem qX6_146 : Cond.methodLink RX6 146 yX3_takeOver ∈ lwT := List.mem_filter.mpr ⟨List.mem_of_getElem? (i := 512) (by decide +kernel), by decide +kernel⟩
theorem qL_53 : Cond.methodLink RL 53 yX8_turn ∈ lwT := List.mem_filter.mpr ⟨List.mem_of_getElem? (i := 516) (by decide +kernel), by decide +kernel⟩
theorem qX8_41 : Cond.methodLink RX8 41 yX6_turnSetting ∈ lwT := List.mem_filter.mpr ⟨List.mem_of_getElem? (i := 520) (by decide +kernel), by decide +kernel⟩
theorem qL_56 : Cond.methodLink RL 56 yX8_thin ∈ lwT := List.mem_filter.mpr ⟨List.mem_of_getElem? (i := 524) (by decide +kernel), by decide +kernel⟩
theorem qX8_58 : Cond.methodLink RX8 58 yX6_thinFeed ∈ lwT := List.mem_filter.mpr ⟨List.mem_of_getElem? (i := 528) (by decide +kernel), by decide +kernel⟩
theorem qX6_104 : Cond.methodLink RX6 104 yX0_floorAfterThinning ∈ lwT := List.mem_filter.mpr ⟨List.mem_of_getElem? (i := 532) (by decide +kernel), by decide +kernel⟩
theorem qX0_77 : Cond.methodLink RX0 77 yX0_numberAt ∈ lwT := List.mem_filter.mpr ⟨List.mem_of_getElem? (i := 536) (by decide +kernel), by decide +kernel⟩
theorem qX0_80 : Cond.methodLink RX0 80 Lib.Math.max.name ∈ lwT := List.mem_filter.mpr ⟨List.mem_of_getElem? (i := 537) (by decide +kernel), by decide +kernel⟩
theorem qX6_110 : Cond.methodLink RX6 110 yX0_thinOut ∈ lwT := List.mem_filter.mpr ⟨List.mem_of_getElem? (i := 540) (by decide +kernel), by decide +kernel⟩
theorem qX0_85 : Cond.methodLink RX0 85 yX0_keyAt ∈ lwT := List.mem_filter.mpr ⟨List.mem_of_getElem? (i := 544) (by decide +kernel), by decide +kernel⟩
theorem qX0_88 : Cond.methodLink RX0 88 yX0_valueAt ∈ lwT := List.mem_filter.mpr ⟨List.mem_of_getElem? (i := 545) (by decide +kernel), by decide +kernel⟩
theorem qX0_91 : Cond.methodLink RX0 91 yX0_minuteAt ∈ lwT := List.mem_filter.mpr ⟨List.mem_of_getElem? (i := 546) (by decide +kernel), by decide +kernel⟩
theorem qL_85 : Cond.methodLink RL 85 yL_feed ∈ lwT := List.mem_filter.mpr ⟨List.mem_of_getElem? (i := 550) (by decide +kernel), by decide +kernel⟩
theorem qL_62 : Cond.methodLink RL 62 yX8_entry ∈ lwT := List.mem_filter.mpr ⟨List.mem_of_getElem? (i := 553) (by decide +kernel), by decide +kernel⟩
theorem qX8_115 : Cond.methodLink RX8 115 yX0_numberAt ∈ lwT := List.mem_filter.mpr ⟨List.mem_of_getElem? (i := 557) (by decide +kernel), by decide +kernel⟩
theorem qX8_118 : Cond.methodLink RX8 118 yX0_keyAt ∈ lwT := List.mem_filter.mpr ⟨List.mem_of_getElem? (i := 558) (by decide +kernel), by decide +kernel⟩
theorem qX8_121 : Cond.methodLink RX8 121 yX0_valueAt ∈ lwT := List.mem_filter.mpr ⟨List.mem_of_getElem? (i := 559) (by decide +kernel), by decide +kernel⟩
theorem qX8_124 : Cond.methodLink RX8 124 yX0_minuteAt ∈ lwT := List.mem_filter.mpr ⟨List.mem_of_getElem? (i := 560) (by decide +kernel), by decide +kernel⟩
theorem qX8_127 : Cond.methodLink RX8 127 yX0_isLastOfItsKey ∈ lwT := List.mem_filter.mpr ⟨List.mem_of_getElem? (i := 561) (by decide +kernel), by decide +kernel⟩
theorem qX8_130 : Cond.methodLink RX8 130 yX8_oneIf ∈ lwT := List.mem_filter.mpr ⟨List.mem_of_getElem? (i := 562) (by decide +kernel), by decide +kernel⟩
theorem qX8_137 : Cond.methodLink RX8 137 yX0_isClosed ∈ lwT := List.mem_filter.mpr ⟨List.mem_of_getElem? (i := 565) (by decide +kernel), by decide +kernel⟩
theorem qL_65 : Cond.methodLink RL 65 yX8_table ∈ lwT := List.mem_filter.mpr ⟨List.mem_of_getElem? (i := 566) (by decide +kernel), by decide +kernel⟩
theorem qX8_83 : Cond.methodLink RX8 83 yX8_isKey ∈ lwT := List.mem_filter.mpr ⟨List.mem_of_getElem? (i := 570) (by decide +kernel), by decide +kernel⟩
theorem qX8_91 : Cond.methodLink RX8 91 yX7_of ∈ lwT := List.mem_filter.mpr ⟨List.mem_of_getElem? (i := 571) (by decide +kernel), by decide +kernel⟩
theorem qL_89 : Cond.methodLink RL 89 yL_readers ∈ lwT := List.mem_filter.mpr ⟨List.mem_of_getElem? (i := 572) (by decide +kernel), by decide +kernel⟩
theorem qL_68 : Cond.methodLink RL 68 yX8_ofReader ∈ lwT := List.mem_filter.mpr ⟨List.mem_of_getElem? (i := 575) (by decide +kernel), by decide +kernel⟩
theorem qX8_96 : Cond.methodLink RX8 96 yX6_readerAt ∈ lwT := List.mem_filter.mpr ⟨List.mem_of_getElem? (i := 579) (by decide +kernel), by decide +kernel⟩
theorem qX8_147 : Cond.methodLink RX8 147 yX0_aheadOf ∈ lwT := List.mem_filter.mpr ⟨List.mem_of_getElem? (i := 580) (by decide +kernel), by decide +kernel⟩
theorem qX8_153 : Cond.methodLink RX8 153 yX8_isLate ∈ lwT := List.mem_filter.mpr ⟨List.mem_of_getElem? (i := 581) (by decide +kernel), by decide +kernel⟩
theorem qX8_159 : Cond.methodLink RX8 159 yX7_differingFrom ∈ lwT := List.mem_filter.mpr ⟨List.mem_of_getElem? (i := 582) (by decide +kernel), by decide +kernel⟩
theorem qL_71 : Cond.methodLink RL 71 yX8_view ∈ lwT := List.mem_filter.mpr ⟨List.mem_of_getElem? (i := 586) (by decide +kernel), by decide +kernel⟩
theorem qL_74 : Cond.methodLink RL 74 yX8_shortest ∈ lwT := List.mem_filter.mpr ⟨List.mem_of_getElem? (i := 590) (by decide +kernel), by decide +kernel⟩
theorem qX8_214 : Cond.methodLink RX8 214 yX6_shortestWay ∈ lwT := List.mem_filter.mpr ⟨List.mem_of_getElem? (i := 594) (by decide +kernel), by decide +kernel⟩
theorem qX6_155 : Cond.methodLink RX6 155 yX6_entriesOnWay ∈ lwT := List.mem_filter.mpr ⟨List.mem_of_getElem? (i := 598) (by decide +kernel), by decide +kernel⟩
theorem qX6_152 : Cond.methodLink RX6 152 yX6_aheadUnlessLate ∈ lwT := List.mem_filter.mpr ⟨List.mem_of_getElem? (i := 602) (by decide +kernel), by decide +kernel⟩
theorem qX8_218 : Cond.methodLink RX8 218 yX6_entriesOnWay ∈ lwT := List.mem_filter.mpr ⟨List.mem_of_getElem? (i := 606) (by decide +kernel), by decide +kernel⟩
theorem qL_77 : Cond.methodLink RL 77 yX8_ofSnapshot ∈ lwT := List.mem_filter.mpr ⟨List.mem_of_getElem? (i := 607) (by decide +kernel), by decide +kernel⟩
theorem qX8_166 : Cond.methodLink RX8 166 yX6_snapshotAt ∈ lwT := List.mem_filter.mpr ⟨List.mem_of_getElem? (i := 611) (by decide +kernel), by decide +kernel⟩
theorem inX0 : ∀ w ∈ u_ws RX0 TX0 8, w ∈ lwT := fun w hw => List.mem_filter.mpr ⟨(show ∀ w ∈ u_ws RX0 TX0 8, w ∈ lw_tbl by decide +kernel) w hw, (show ∀ w ∈ u_ws RX0 TX0 8, goodWord w = true by decide +kernel) w hw⟩
theorem inX1 : ∀ w ∈ u_ws RX1 TX1 2, w ∈ lwT := fun w hw => List.mem_filter.mpr ⟨(show ∀ w ∈ u_ws RX1 TX1 2, w ∈ lw_tbl by decide +kernel) w hw, (show ∀ w ∈ u_ws RX1 TX1 2, goodWord w = true by decide +kernel) w hw⟩
theorem inX2 : ∀ w ∈ u_ws RX2 TX2 6, w ∈ lwT := fun w hw => List.mem_filter.mpr ⟨(show ∀ w ∈ u_ws RX2 TX2 6, w ∈ lw_tbl by decide +kernel) w hw, (show ∀ w ∈ u_ws RX2 TX2 6, goodWord w = true by decide +kernel) w hw⟩
theorem inX3 : ∀ w ∈ u_ws RX3 TX3 5, w ∈ lwT := fun w hw => List.mem_filter.mpr ⟨(show ∀ w ∈ u_ws RX3 TX3 5, w ∈ lw_tbl by decide +kernel) w hw, (show ∀ w ∈ u_ws RX3 TX3 5, goodWord w = true by decide +kernel) w hw⟩
theorem inX4 : ∀ w ∈ u_ws RX4 TX4 2, w ∈ lwT := fun w hw => List.mem_filter.mpr ⟨(show ∀ w ∈ u_ws RX4 TX4 2, w ∈ lw_tbl by decide +kernel) w hw, (show ∀ w ∈ u_ws RX4 TX4 2, goodWord w = true by decide +kernel) w hw⟩
theorem inX5 : ∀ w ∈ u_ws RX5 TX5 2, w ∈ lwT := fun w hw => List.mem_filter.mpr ⟨(show ∀ w ∈ u_ws RX5 TX5 2, w ∈ lw_tbl by decide +kernel) w hw, (show ∀ w ∈ u_ws RX5 TX5 2, goodWord w = true by decide +kernel) w hw⟩
theorem inX6 : ∀ w ∈ u_ws RX6 TX6 9, w ∈ lwT := fun w hw => List.mem_filter.mpr ⟨(show ∀ w ∈ u_ws RX6 TX6 9, w ∈ lw_tbl by decide +kernel) w hw, (show ∀ w ∈ u_ws RX6 TX6 9, goodWord w = true by decide +kernel) w hw⟩
theorem inX7 : ∀ w ∈ u_ws RX7 TX7 1, w ∈ lwT := fun w hw => List.mem_filter.mpr ⟨(show ∀ w ∈ u_ws RX7 TX7 1, w ∈ lw_tbl by decide +kernel) w hw, (show ∀ w ∈ u_ws RX7 TX7 1, goodWord w = true by decide +kernel) w hw⟩
theorem inX8 : ∀ w ∈ u_ws RX8 TX8 4, w ∈ lwT := fun w hw => List.mem_filter.mpr ⟨(show ∀ w ∈ u_ws RX8 TX8 4, w ∈ lw_tbl by decide +kernel) w hw, (show ∀ w ∈ u_ws RX8 TX8 4, goodWord w = true by decide +kernel) w hw⟩
abbrev nestL : List (String × Nat × MethodName × String) := [(RX7, 18, yX8_layAt, RX8), (RX6, 36, yX0_init, RX8), (RX6, 53, yX3_init, RX8), (RX6, 54, yX5_init, RX8), (RX8, 25, yX2_init, RX8), (RX8, 36, yX4_init, RX8), (RX7, 26, yX8_at, RX8), (RX6, 129, yX8_isLate, RX8), (RX0, 41, yX8_at, RX8), (RX7, 22, yX8_copyRow, RX8), (RX0, 37, yX8_copyRow, RX8), (RX6, 84, yX8_isKey, RX8), (RX6, 80, yX8_isNumber, RX8), (RX0, 49, yX8_layAt, RX8)]
theorem nX7_18 : (RX7, 18, yX8_layAt, RX8) ∈ nestL := List.mem_of_getElem? (i := 0) rfl
theorem nX6_36 : (RX6, 36, yX0_init, RX8) ∈ nestL := List.mem_of_getElem? (i := 1) rfl
theorem nX6_53 : (RX6, 53, yX3_init, RX8) ∈ nestL := List.mem_of_getElem? (i := 2) rfl
theorem nX6_54 : (RX6, 54, yX5_init, RX8) ∈ nestL := List.mem_of_getElem? (i := 3) rfl
theorem nX8_25 : (RX8, 25, yX2_init, RX8) ∈ nestL := List.mem_of_getElem? (i := 4) rfl
theorem nX8_36 : (RX8, 36, yX4_init, RX8) ∈ nestL := List.mem_of_getElem? (i := 5) rfl
theorem nX7_26 : (RX7, 26, yX8_at, RX8) ∈ nestL := List.mem_of_getElem? (i := 6) rfl
theorem nX6_129 : (RX6, 129, yX8_isLate, RX8) ∈ nestL := List.mem_of_getElem? (i := 7) rfl
theorem nX0_41 : (RX0, 41, yX8_at, RX8) ∈ nestL := List.mem_of_getElem? (i := 8) rfl
theorem nX7_22 : (RX7, 22, yX8_copyRow, RX8) ∈ nestL := List.mem_of_getElem? (i := 9) rfl
theorem nX0_37 : (RX0, 37, yX8_copyRow, RX8) ∈ nestL := List.mem_of_getElem? (i := 10) rfl
theorem nX6_84 : (RX6, 84, yX8_isKey, RX8) ∈ nestL := List.mem_of_getElem? (i := 11) rfl
theorem nX6_80 : (RX6, 80, yX8_isNumber, RX8) ∈ nestL := List.mem_of_getElem? (i := 12) rfl
theorem nX0_49 : (RX0, 49, yX8_layAt, RX8) ∈ nestL := List.mem_of_getElem? (i := 13) rfl
theorem nest_in : ∀ q ∈ nestL, Cond.methodLinkNest q.1 q.2.1 q.2.2.1 q.2.2.2 ∈ lw_tbl := by
  refine List.forall_mem_cons.mpr ⟨?_, List.forall_mem_cons.mpr ⟨?_, List.forall_mem_cons.mpr ⟨?_, List.forall_mem_cons.mpr ⟨?_, List.forall_mem_cons.mpr ⟨?_, List.forall_mem_cons.mpr ⟨?_, List.forall_mem_cons.mpr ⟨?_, List.forall_mem_cons.mpr ⟨?_, List.forall_mem_cons.mpr ⟨?_, List.forall_mem_cons.mpr ⟨?_, List.forall_mem_cons.mpr ⟨?_, List.forall_mem_cons.mpr ⟨?_, List.forall_mem_cons.mpr ⟨?_, List.forall_mem_cons.mpr ⟨?_, fun _ h => absurd h List.not_mem_nil⟩⟩⟩⟩⟩⟩⟩⟩⟩⟩⟩⟩⟩⟩
  · exact List.mem_of_getElem? (i := 41) (by decide +kernel)
  · exact List.mem_of_getElem? (i := 51) (by decide +kernel)
  · exact List.mem_of_getElem? (i := 93) (by decide +kernel)
  · exact List.mem_of_getElem? (i := 123) (by decide +kernel)
  · exact List.mem_of_getElem? (i := 196) (by decide +kernel)
  · exact List.mem_of_getElem? (i := 223) (by decide +kernel)
  · exact List.mem_of_getElem? (i := 261) (by decide +kernel)
  · exact List.mem_of_getElem? (i := 272) (by decide +kernel)
  · exact List.mem_of_getElem? (i := 294) (by decide +kernel)
  · exact List.mem_of_getElem? (i := 337) (by decide +kernel)
  · exact List.mem_of_getElem? (i := 344) (by decide +kernel)
  · exact List.mem_of_getElem? (i := 366) (by decide +kernel)
  · exact List.mem_of_getElem? (i := 369) (by decide +kernel)
  · exact List.mem_of_getElem? (i := 386) (by decide +kernel)
/-- a field of class ci, place k, as own links it at idx -/
def FOk (ci k : Nat) (own : String) (idx : Nat) : Prop := ∃ (C : String) (T : u_T) (N : Nat), classes[ci]? = some (C, T, N) ∧ k < N ∧ (∀ w ∈ u_ws C T N, w ∈ lwT) ∧ Cond.fieldLink own idx (T k).1 (T k).2.1 (T k).2.2.1 ∈ lwT
def POk (ci k : Nat) (own : String) (idx : Nat) (fin : Bool) (ty : FieldType) : Prop := ∃ (C : String) (T : u_T) (N : Nat) (ty0 : Nat → FieldType), classes[ci]? = some (C, T, N) ∧ k < N ∧ (∀ w ∈ u_ws C T N, w ∈ lwT) ∧ Cond.fieldLink own idx (T k).1 (T k).2.1 (T k).2.2.1 ∈ lwT ∧ (∀ k, k < N → parseFieldDescriptor (T k).2.2.1 = some (ty0 k)) ∧ (∀ a, a < N → ∀ b, b < N → a ≠ b → (T a).2.1 ≠ (T b).2.1) ∧ (T k).2.2.2 = fin ∧ parseFieldDescriptor (T k).2.2.1 = some ty ∧ (fin = true → (T k).1 = own)
theorem fX7_9 : FOk 7 0 RX7 9 := ⟨_, _, _, rfl, by decide, inX7, qX7_9⟩
theorem pX7_9 : POk 7 0 RX7 9 true (.array .int) := ⟨_, _, _, tyX7, rfl, by decide, inX7, qX7_9, tyX7_ok, nmX7, rfl, by decide +kernel, by decide +kernel⟩
theorem fX0_9 : FOk 0 0 RX0 9 := ⟨_, _, _, rfl, by decide, inX0, qX0_9⟩
theorem pX0_9 : POk 0 0 RX0 9 true (.array .int) := ⟨_, _, _, tyX0, rfl, by decide, inX0, qX0_9, tyX0_ok, nmX0, rfl, by decide +kernel, by decide +kernel⟩
theorem fX0_15 : FOk 0 1 RX0 15 := ⟨_, _, _, rfl, by decide, inX0, qX0_15⟩
theorem pX0_15 : POk 0 1 RX0 15 true (.array .int) := ⟨_, _, _, tyX0, rfl, by decide, inX0, qX0_15, tyX0_ok, nmX0, rfl, by decide +kernel, by decide +kernel⟩
theorem fX0_18 : FOk 0 2 RX0 18 := ⟨_, _, _, rfl, by decide, inX0, qX0_18⟩
theorem pX0_18 : POk 0 2 RX0 18 true (.array .int) := ⟨_, _, _, tyX0, rfl, by decide, inX0, qX0_18, tyX0_ok, nmX0, rfl, by decide +kernel, by decide +kernel⟩
theorem fX0_21 : FOk 0 3 RX0 21 := ⟨_, _, _, rfl, by decide, inX0, qX0_21⟩
theorem pX0_21 : POk 0 3 RX0 21 true (.array .int) := ⟨_, _, _, tyX0, rfl, by decide, inX0, qX0_21, tyX0_ok, nmX0, rfl, by decide +kernel, by decide +kernel⟩
theorem fX0_24 : FOk 0 4 RX0 24 := ⟨_, _, _, rfl, by decide, inX0, qX0_24⟩
theorem pX0_24 : POk 0 4 RX0 24 false .int := ⟨_, _, _, tyX0, rfl, by decide, inX0, qX0_24, tyX0_ok, nmX0, rfl, by decide +kernel, by decide +kernel⟩
theorem fX3_53 : FOk 0 4 RX3 53 := ⟨_, _, _, rfl, by decide, inX0, qX3_53⟩
theorem pX3_53 : POk 0 4 RX3 53 false .int := ⟨_, _, _, tyX0, rfl, by decide, inX0, qX3_53, tyX0_ok, nmX0, rfl, by decide +kernel, by decide +kernel⟩
theorem fX8_109 : FOk 0 4 RX8 109 := ⟨_, _, _, rfl, by decide, inX0, qX8_109⟩
theorem pX8_109 : POk 0 4 RX8 109 false .int := ⟨_, _, _, tyX0, rfl, by decide, inX0, qX8_109, tyX0_ok, nmX0, rfl, by decide +kernel, by decide +kernel⟩
theorem fX6_149 : FOk 0 4 RX6 149 := ⟨_, _, _, rfl, by decide, inX0, qX6_149⟩
theorem pX6_149 : POk 0 4 RX6 149 false .int := ⟨_, _, _, tyX0, rfl, by decide, inX0, qX6_149, tyX0_ok, nmX0, rfl, by decide +kernel, by decide +kernel⟩
theorem fX0_28 : FOk 0 5 RX0 28 := ⟨_, _, _, rfl, by decide, inX0, qX0_28⟩
theorem pX0_28 : POk 0 5 RX0 28 false .int := ⟨_, _, _, tyX0, rfl, by decide, inX0, qX0_28, tyX0_ok, nmX0, rfl, by decide +kernel, by decide +kernel⟩
theorem fX6_113 : FOk 0 5 RX6 113 := ⟨_, _, _, rfl, by decide, inX0, qX6_113⟩
theorem pX6_113 : POk 0 5 RX6 113 false .int := ⟨_, _, _, tyX0, rfl, by decide, inX0, qX6_113, tyX0_ok, nmX0, rfl, by decide +kernel, by decide +kernel⟩
theorem fX8_179 : FOk 0 5 RX8 179 := ⟨_, _, _, rfl, by decide, inX0, qX8_179⟩
theorem pX8_179 : POk 0 5 RX8 179 false .int := ⟨_, _, _, tyX0, rfl, by decide, inX0, qX8_179, tyX0_ok, nmX0, rfl, by decide +kernel, by decide +kernel⟩
theorem fX0_31 : FOk 0 6 RX0 31 := ⟨_, _, _, rfl, by decide, inX0, qX0_31⟩
theorem pX0_31 : POk 0 6 RX0 31 false .int := ⟨_, _, _, tyX0, rfl, by decide, inX0, qX0_31, tyX0_ok, nmX0, rfl, by decide +kernel, by decide +kernel⟩
theorem fX6_107 : FOk 0 6 RX6 107 := ⟨_, _, _, rfl, by decide, inX0, qX6_107⟩
theorem pX6_107 : POk 0 6 RX6 107 false .int := ⟨_, _, _, tyX0, rfl, by decide, inX0, qX6_107, tyX0_ok, nmX0, rfl, by decide +kernel, by decide +kernel⟩
theorem fX8_150 : FOk 0 6 RX8 150 := ⟨_, _, _, rfl, by decide, inX0, qX8_150⟩
theorem pX8_150 : POk 0 6 RX8 150 false .int := ⟨_, _, _, tyX0, rfl, by decide, inX0, qX8_150, tyX0_ok, nmX0, rfl, by decide +kernel, by decide +kernel⟩
theorem fX0_34 : FOk 0 7 RX0 34 := ⟨_, _, _, rfl, by decide, inX0, qX0_34⟩
theorem pX0_34 : POk 0 7 RX0 34 false .int := ⟨_, _, _, tyX0, rfl, by decide, inX0, qX0_34, tyX0_ok, nmX0, rfl, by decide +kernel, by decide +kernel⟩
theorem fX8_185 : FOk 0 7 RX8 185 := ⟨_, _, _, rfl, by decide, inX0, qX8_185⟩
theorem pX8_185 : POk 0 7 RX8 185 false .int := ⟨_, _, _, tyX0, rfl, by decide, inX0, qX8_185, tyX0_ok, nmX0, rfl, by decide +kernel, by decide +kernel⟩
theorem fX3_7 : FOk 3 0 RX3 7 := ⟨_, _, _, rfl, by decide, inX3, qX3_7⟩
theorem pX3_7 : POk 3 0 RX3 7 false .int := ⟨_, _, _, tyX3, rfl, by decide, inX3, qX3_7, tyX3_ok, nmX3, rfl, by decide +kernel, by decide +kernel⟩
theorem fX6_126 : FOk 3 0 RX6 126 := ⟨_, _, _, rfl, by decide, inX3, qX6_126⟩
theorem pX6_126 : POk 3 0 RX6 126 false .int := ⟨_, _, _, tyX3, rfl, by decide, inX3, qX6_126, tyX3_ok, nmX3, rfl, by decide +kernel, by decide +kernel⟩
theorem fX8_141 : FOk 3 0 RX8 141 := ⟨_, _, _, rfl, by decide, inX3, qX8_141⟩
theorem pX8_141 : POk 3 0 RX8 141 false .int := ⟨_, _, _, tyX3, rfl, by decide, inX3, qX8_141, tyX3_ok, nmX3, rfl, by decide +kernel, by decide +kernel⟩
theorem fX3_13 : FOk 3 1 RX3 13 := ⟨_, _, _, rfl, by decide, inX3, qX3_13⟩
theorem pX3_13 : POk 3 1 RX3 13 false .int := ⟨_, _, _, tyX3, rfl, by decide, inX3, qX3_13, tyX3_ok, nmX3, rfl, by decide +kernel, by decide +kernel⟩
theorem fX8_144 : FOk 3 1 RX8 144 := ⟨_, _, _, rfl, by decide, inX3, qX8_144⟩
theorem pX8_144 : POk 3 1 RX8 144 false .int := ⟨_, _, _, tyX3, rfl, by decide, inX3, qX8_144, tyX3_ok, nmX3, rfl, by decide +kernel, by decide +kernel⟩
theorem fX3_16 : FOk 3 2 RX3 16 := ⟨_, _, _, rfl, by decide, inX3, qX3_16⟩
theorem pX3_16 : POk 3 2 RX3 16 false .int := ⟨_, _, _, tyX3, rfl, by decide, inX3, qX3_16, tyX3_ok, nmX3, rfl, by decide +kernel, by decide +kernel⟩
theorem fX6_123 : FOk 3 2 RX6 123 := ⟨_, _, _, rfl, by decide, inX3, qX6_123⟩
theorem pX6_123 : POk 3 2 RX6 123 false .int := ⟨_, _, _, tyX3, rfl, by decide, inX3, qX6_123, tyX3_ok, nmX3, rfl, by decide +kernel, by decide +kernel⟩
theorem fX8_156 : FOk 3 2 RX8 156 := ⟨_, _, _, rfl, by decide, inX3, qX8_156⟩
theorem pX8_156 : POk 3 2 RX8 156 false .int := ⟨_, _, _, tyX3, rfl, by decide, inX3, qX8_156, tyX3_ok, nmX3, rfl, by decide +kernel, by decide +kernel⟩
theorem fX3_22 : FOk 3 3 RX3 22 := ⟨_, _, _, rfl, by decide, inX3, qX3_22⟩
theorem pX3_22 : POk 3 3 RX3 22 true (.object RX7) := ⟨_, _, _, tyX3, rfl, by decide, inX3, qX3_22, tyX3_ok, nmX3, rfl, by decide +kernel, by decide +kernel⟩
theorem fX8_100 : FOk 3 3 RX8 100 := ⟨_, _, _, rfl, by decide, inX3, qX8_100⟩
theorem fX3_26 : FOk 3 4 RX3 26 := ⟨_, _, _, rfl, by decide, inX3, qX3_26⟩
theorem pX3_26 : POk 3 4 RX3 26 true (.object RX7) := ⟨_, _, _, tyX3, rfl, by decide, inX3, qX3_26, tyX3_ok, nmX3, rfl, by decide +kernel, by decide +kernel⟩
theorem fX8_163 : FOk 3 4 RX8 163 := ⟨_, _, _, rfl, by decide, inX3, qX8_163⟩
theorem fX5_7 : FOk 5 0 RX5 7 := ⟨_, _, _, rfl, by decide, inX5, qX5_7⟩
theorem pX5_7 : POk 5 0 RX5 7 false .int := ⟨_, _, _, tyX5, rfl, by decide, inX5, qX5_7, tyX5_ok, nmX5, rfl, by decide +kernel, by decide +kernel⟩
theorem fX3_39 : FOk 5 0 RX3 39 := ⟨_, _, _, rfl, by decide, inX5, qX3_39⟩
theorem pX3_39 : POk 5 0 RX3 39 false .int := ⟨_, _, _, tyX5, rfl, by decide, inX5, qX3_39, tyX5_ok, nmX5, rfl, by decide +kernel, by decide +kernel⟩
theorem fX6_116 : FOk 5 0 RX6 116 := ⟨_, _, _, rfl, by decide, inX5, qX6_116⟩
theorem pX6_116 : POk 5 0 RX6 116 false .int := ⟨_, _, _, tyX5, rfl, by decide, inX5, qX6_116, tyX5_ok, nmX5, rfl, by decide +kernel, by decide +kernel⟩
theorem fX8_170 : FOk 5 0 RX8 170 := ⟨_, _, _, rfl, by decide, inX5, qX8_170⟩
theorem pX8_170 : POk 5 0 RX8 170 false .int := ⟨_, _, _, tyX5, rfl, by decide, inX5, qX8_170, tyX5_ok, nmX5, rfl, by decide +kernel, by decide +kernel⟩
theorem fX5_16 : FOk 5 1 RX5 16 := ⟨_, _, _, rfl, by decide, inX5, qX5_16⟩
theorem pX5_16 : POk 5 1 RX5 16 true (.object RX7) := ⟨_, _, _, tyX5, rfl, by decide, inX5, qX5_16, tyX5_ok, nmX5, rfl, by decide +kernel, by decide +kernel⟩
theorem fX3_44 : FOk 5 1 RX3 44 := ⟨_, _, _, rfl, by decide, inX5, qX3_44⟩
theorem fX6_119 : FOk 5 1 RX6 119 := ⟨_, _, _, rfl, by decide, inX5, qX6_119⟩
theorem fX8_175 : FOk 5 1 RX8 175 := ⟨_, _, _, rfl, by decide, inX5, qX8_175⟩
theorem fX6_9 : FOk 6 0 RX6 9 := ⟨_, _, _, rfl, by decide, inX6, qX6_9⟩
theorem pX6_9 : POk 6 0 RX6 9 false .int := ⟨_, _, _, tyX6, rfl, by decide, inX6, qX6_9, tyX6_ok, nmX6, rfl, by decide +kernel, by decide +kernel⟩
theorem fX8_134 : FOk 6 0 RX8 134 := ⟨_, _, _, rfl, by decide, inX6, qX8_134⟩
theorem pX8_134 : POk 6 0 RX8 134 false .int := ⟨_, _, _, tyX6, rfl, by decide, inX6, qX8_134, tyX6_ok, nmX6, rfl, by decide +kernel, by decide +kernel⟩
theorem fX6_15 : FOk 6 1 RX6 15 := ⟨_, _, _, rfl, by decide, inX6, qX6_15⟩
theorem pX6_15 : POk 6 1 RX6 15 false .int := ⟨_, _, _, tyX6, rfl, by decide, inX6, qX6_15, tyX6_ok, nmX6, rfl, by decide +kernel, by decide +kernel⟩
theorem fX8_197 : FOk 6 1 RX8 197 := ⟨_, _, _, rfl, by decide, inX6, qX8_197⟩
theorem pX8_197 : POk 6 1 RX8 197 false .int := ⟨_, _, _, tyX6, rfl, by decide, inX6, qX8_197, tyX6_ok, nmX6, rfl, by decide +kernel, by decide +kernel⟩
theorem fX6_18 : FOk 6 2 RX6 18 := ⟨_, _, _, rfl, by decide, inX6, qX6_18⟩
theorem pX6_18 : POk 6 2 RX6 18 false .int := ⟨_, _, _, tyX6, rfl, by decide, inX6, qX6_18, tyX6_ok, nmX6, rfl, by decide +kernel, by decide +kernel⟩
theorem fX8_182 : FOk 6 2 RX8 182 := ⟨_, _, _, rfl, by decide, inX6, qX8_182⟩
theorem pX8_182 : POk 6 2 RX8 182 false .int := ⟨_, _, _, tyX6, rfl, by decide, inX6, qX8_182, tyX6_ok, nmX6, rfl, by decide +kernel, by decide +kernel⟩
theorem fX6_21 : FOk 6 3 RX6 21 := ⟨_, _, _, rfl, by decide, inX6, qX6_21⟩
theorem pX6_21 : POk 6 3 RX6 21 false .int := ⟨_, _, _, tyX6, rfl, by decide, inX6, qX6_21, tyX6_ok, nmX6, rfl, by decide +kernel, by decide +kernel⟩
theorem fX8_188 : FOk 6 3 RX8 188 := ⟨_, _, _, rfl, by decide, inX6, qX8_188⟩
theorem pX8_188 : POk 6 3 RX8 188 false .int := ⟨_, _, _, tyX6, rfl, by decide, inX6, qX8_188, tyX6_ok, nmX6, rfl, by decide +kernel, by decide +kernel⟩
theorem fX6_24 : FOk 6 4 RX6 24 := ⟨_, _, _, rfl, by decide, inX6, qX6_24⟩
theorem pX6_24 : POk 6 4 RX6 24 false .int := ⟨_, _, _, tyX6, rfl, by decide, inX6, qX6_24, tyX6_ok, nmX6, rfl, by decide +kernel, by decide +kernel⟩
theorem fX8_194 : FOk 6 4 RX8 194 := ⟨_, _, _, rfl, by decide, inX6, qX8_194⟩
theorem pX8_194 : POk 6 4 RX8 194 false .int := ⟨_, _, _, tyX6, rfl, by decide, inX6, qX8_194, tyX6_ok, nmX6, rfl, by decide +kernel, by decide +kernel⟩
theorem fX6_30 : FOk 6 5 RX6 30 := ⟨_, _, _, rfl, by decide, inX6, qX6_30⟩
theorem pX6_30 : POk 6 5 RX6 30 true (.object RX7) := ⟨_, _, _, tyX6, rfl, by decide, inX6, qX6_30, tyX6_ok, nmX6, rfl, by decide +kernel, by decide +kernel⟩
theorem fX8_87 : FOk 6 5 RX8 87 := ⟨_, _, _, rfl, by decide, inX6, qX8_87⟩
theorem fX6_37 : FOk 6 6 RX6 37 := ⟨_, _, _, rfl, by decide, inX6, qX6_37⟩
theorem pX6_37 : POk 6 6 RX6 37 true (.object RX0) := ⟨_, _, _, tyX6, rfl, by decide, inX6, qX6_37, tyX6_ok, nmX6, rfl, by decide +kernel, by decide +kernel⟩
theorem fX8_105 : FOk 6 6 RX8 105 := ⟨_, _, _, rfl, by decide, inX6, qX8_105⟩
theorem fX6_43 : FOk 6 7 RX6 43 := ⟨_, _, _, rfl, by decide, inX6, qX6_43⟩
theorem pX6_43 : POk 6 7 RX6 43 true (.array (.object RX3)) := ⟨_, _, _, tyX6, rfl, by decide, inX6, qX6_43, tyX6_ok, nmX6, rfl, by decide +kernel, by decide +kernel⟩
theorem fX6_49 : FOk 6 8 RX6 49 := ⟨_, _, _, rfl, by decide, inX6, qX6_49⟩
theorem pX6_49 : POk 6 8 RX6 49 true (.array (.object RX5)) := ⟨_, _, _, tyX6, rfl, by decide, inX6, qX6_49, tyX6_ok, nmX6, rfl, by decide +kernel, by decide +kernel⟩
theorem fX1_11 : FOk 1 0 RX1 11 := ⟨_, _, _, rfl, by decide, inX1, qX1_11⟩
theorem pX1_11 : POk 1 0 RX1 11 true (.array (.object RX6)) := ⟨_, _, _, tyX1, rfl, by decide, inX1, qX1_11, tyX1_ok, nmX1, rfl, by decide +kernel, by decide +kernel⟩
theorem fX1_17 : FOk 1 1 RX1 17 := ⟨_, _, _, rfl, by decide, inX1, qX1_17⟩
theorem pX1_17 : POk 1 1 RX1 17 false .int := ⟨_, _, _, tyX1, rfl, by decide, inX1, qX1_17, tyX1_ok, nmX1, rfl, by decide +kernel, by decide +kernel⟩
theorem fX8_203 : FOk 1 1 RX8 203 := ⟨_, _, _, rfl, by decide, inX1, qX8_203⟩
theorem pX8_203 : POk 1 1 RX8 203 false .int := ⟨_, _, _, tyX1, rfl, by decide, inX1, qX8_203, tyX1_ok, nmX1, rfl, by decide +kernel, by decide +kernel⟩
theorem fX2_9 : FOk 2 0 RX2 9 := ⟨_, _, _, rfl, by decide, inX2, qX2_9⟩
theorem pX2_9 : POk 2 0 RX2 9 true (.array .int) := ⟨_, _, _, tyX2, rfl, by decide, inX2, qX2_9, tyX2_ok, nmX2, rfl, by decide +kernel, by decide +kernel⟩
theorem fX2_15 : FOk 2 1 RX2 15 := ⟨_, _, _, rfl, by decide, inX2, qX2_15⟩
theorem pX2_15 : POk 2 1 RX2 15 false .int := ⟨_, _, _, tyX2, rfl, by decide, inX2, qX2_15, tyX2_ok, nmX2, rfl, by decide +kernel, by decide +kernel⟩
theorem fX8_200 : FOk 2 1 RX8 200 := ⟨_, _, _, rfl, by decide, inX2, qX8_200⟩
theorem pX8_200 : POk 2 1 RX8 200 false .int := ⟨_, _, _, tyX2, rfl, by decide, inX2, qX8_200, tyX2_ok, nmX2, rfl, by decide +kernel, by decide +kernel⟩
theorem fX2_19 : FOk 2 2 RX2 19 := ⟨_, _, _, rfl, by decide, inX2, qX2_19⟩
theorem pX2_19 : POk 2 2 RX2 19 false .int := ⟨_, _, _, tyX2, rfl, by decide, inX2, qX2_19, tyX2_ok, nmX2, rfl, by decide +kernel, by decide +kernel⟩
theorem fX2_22 : FOk 2 3 RX2 22 := ⟨_, _, _, rfl, by decide, inX2, qX2_22⟩
theorem pX2_22 : POk 2 3 RX2 22 false .int := ⟨_, _, _, tyX2, rfl, by decide, inX2, qX2_22, tyX2_ok, nmX2, rfl, by decide +kernel, by decide +kernel⟩
theorem fX2_25 : FOk 2 4 RX2 25 := ⟨_, _, _, rfl, by decide, inX2, qX2_25⟩
theorem pX2_25 : POk 2 4 RX2 25 false .int := ⟨_, _, _, tyX2, rfl, by decide, inX2, qX2_25, tyX2_ok, nmX2, rfl, by decide +kernel, by decide +kernel⟩
theorem fX2_28 : FOk 2 5 RX2 28 := ⟨_, _, _, rfl, by decide, inX2, qX2_28⟩
theorem pX2_28 : POk 2 5 RX2 28 false .int := ⟨_, _, _, tyX2, rfl, by decide, inX2, qX2_28, tyX2_ok, nmX2, rfl, by decide +kernel, by decide +kernel⟩
theorem fX4_7 : FOk 4 0 RX4 7 := ⟨_, _, _, rfl, by decide, inX4, qX4_7⟩
theorem pX4_7 : POk 4 0 RX4 7 false .boolean := ⟨_, _, _, tyX4, rfl, by decide, inX4, qX4_7, tyX4_ok, nmX4, rfl, by decide +kernel, by decide +kernel⟩
theorem fX4_16 : FOk 4 1 RX4 16 := ⟨_, _, _, rfl, by decide, inX4, qX4_16⟩
theorem pX4_16 : POk 4 1 RX4 16 true (.object RX6) := ⟨_, _, _, tyX4, rfl, by decide, inX4, qX4_16, tyX4_ok, nmX4, rfl, by decide +kernel, by decide +kernel⟩
theorem fX8_10 : FOk 8 0 RX8 10 := ⟨_, _, _, rfl, by decide, inX8, qX8_10⟩
theorem pX8_10 : POk 8 0 RX8 10 true (.object RX6) := ⟨_, _, _, tyX8, rfl, by decide, inX8, qX8_10, tyX8_ok, nmX8, rfl, by decide +kernel, by decide +kernel⟩
theorem fX8_19 : FOk 8 1 RX8 19 := ⟨_, _, _, rfl, by decide, inX8, qX8_19⟩
theorem pX8_19 : POk 8 1 RX8 19 true (.object RX1) := ⟨_, _, _, tyX8, rfl, by decide, inX8, qX8_19, tyX8_ok, nmX8, rfl, by decide +kernel, by decide +kernel⟩
theorem fX8_26 : FOk 8 2 RX8 26 := ⟨_, _, _, rfl, by decide, inX8, qX8_26⟩
theorem pX8_26 : POk 8 2 RX8 26 true (.object RX2) := ⟨_, _, _, tyX8, rfl, by decide, inX8, qX8_26, tyX8_ok, nmX8, rfl, by decide +kernel, by decide +kernel⟩
theorem fX8_32 : FOk 8 3 RX8 32 := ⟨_, _, _, rfl, by decide, inX8, qX8_32⟩
theorem pX8_32 : POk 8 3 RX8 32 true (.array (.object RX4)) := ⟨_, _, _, tyX8, rfl, by decide, inX8, qX8_32, tyX8_ok, nmX8, rfl, by decide +kernel, by decide +kernel⟩
/-- what is asked of a callee, by kind -/
abbrev BOk (k : MethodName × ByteArray × Nat × Option FieldType) (n : Nat) : Prop := Cond.code k.1 k.2.1 k.2.2.1 k.2.2.2 ∈ lwT ∧ Cond.initialized k.1.cls ∈ lwT ∧ (k.1.cls ≠ "java/lang/invoke/MethodHandle" ∧ k.1.cls ≠ "java/lang/invoke/VarHandle" ∧ (parseMethodDescriptor k.1.desc).map (fun d => d.parameters.length) = some n) ∧ plainName k.1.cls = true
def VOk (k : MethodName × ByteArray × Nat × Option FieldType) (n : Nat) : Prop := BOk k n ∧ Cond.instanceMethod k.1 ∈ lwT ∧ Cond.selects k.1.cls k.1 k.1 ∈ lwT
def SOk (k : MethodName × ByteArray × Nat × Option FieldType) (n : Nat) : Prop := BOk k n ∧ Cond.static k.1 ∈ lwT
def IOk (k : MethodName × ByteArray × Nat × Option FieldType) (n : Nat) : Prop := BOk k n ∧ k.1.name = "<init>" ∧ Cond.instanceMethod k.1 ∈ lwT
theorem oX0_init : IOk kX0_init 0 := ⟨⟨List.mem_filter.mpr ⟨List.mem_of_getElem? (i := 53) (by decide +kernel), by decide +kernel⟩, qini_X0, ⟨by decide +kernel, by decide +kernel, by decide +kernel⟩, by decide +kernel⟩, by decide +kernel, List.mem_filter.mpr ⟨List.mem_of_getElem? (i := 52) (by decide +kernel), by decide +kernel⟩⟩
theorem oX0_copyFrom : VOk kX0_copyFrom 1 := ⟨⟨List.mem_filter.mpr ⟨List.mem_of_getElem? (i := 343) (by decide +kernel), by decide +kernel⟩, qini_X0, ⟨by decide +kernel, by decide +kernel, by decide +kernel⟩, by decide +kernel⟩, List.mem_filter.mpr ⟨List.mem_of_getElem? (i := 341) (by decide +kernel), by decide +kernel⟩, List.mem_filter.mpr ⟨List.mem_of_getElem? (i := 342) (by decide +kernel), by decide +kernel⟩⟩
theorem oX0_numberAt : VOk kX0_numberAt 1 := ⟨⟨List.mem_filter.mpr ⟨List.mem_of_getElem? (i := 461) (by decide +kernel), by decide +kernel⟩, qini_X0, ⟨by decide +kernel, by decide +kernel, by decide +kernel⟩, by decide +kernel⟩, List.mem_filter.mpr ⟨List.mem_of_getElem? (i := 459) (by decide +kernel), by decide +kernel⟩, List.mem_filter.mpr ⟨List.mem_of_getElem? (i := 460) (by decide +kernel), by decide +kernel⟩⟩
theorem oX0_keyAt : VOk kX0_keyAt 1 := ⟨⟨List.mem_filter.mpr ⟨List.mem_of_getElem? (i := 452) (by decide +kernel), by decide +kernel⟩, qini_X0, ⟨by decide +kernel, by decide +kernel, by decide +kernel⟩, by decide +kernel⟩, List.mem_filter.mpr ⟨List.mem_of_getElem? (i := 450) (by decide +kernel), by decide +kernel⟩, List.mem_filter.mpr ⟨List.mem_of_getElem? (i := 451) (by decide +kernel), by decide +kernel⟩⟩
theorem oX0_valueAt : VOk kX0_valueAt 1 := ⟨⟨List.mem_filter.mpr ⟨List.mem_of_getElem? (i := 456) (by decide +kernel), by decide +kernel⟩, qini_X0, ⟨by decide +kernel, by decide +kernel, by decide +kernel⟩, by decide +kernel⟩, List.mem_filter.mpr ⟨List.mem_of_getElem? (i := 454) (by decide +kernel), by decide +kernel⟩, List.mem_filter.mpr ⟨List.mem_of_getElem? (i := 455) (by decide +kernel), by decide +kernel⟩⟩
theorem oX0_minuteAt : VOk kX0_minuteAt 1 := ⟨⟨List.mem_filter.mpr ⟨List.mem_of_getElem? (i := 549) (by decide +kernel), by decide +kernel⟩, qini_X0, ⟨by decide +kernel, by decide +kernel, by decide +kernel⟩, by decide +kernel⟩, List.mem_filter.mpr ⟨List.mem_of_getElem? (i := 547) (by decide +kernel), by decide +kernel⟩, List.mem_filter.mpr ⟨List.mem_of_getElem? (i := 548) (by decide +kernel), by decide +kernel⟩⟩
theorem oX0_isFull : VOk kX0_isFull 0 := ⟨⟨List.mem_filter.mpr ⟨List.mem_of_getElem? (i := 373) (by decide +kernel), by decide +kernel⟩, qini_X0, ⟨by decide +kernel, by decide +kernel, by decide +kernel⟩, by decide +kernel⟩, List.mem_filter.mpr ⟨List.mem_of_getElem? (i := 371) (by decide +kernel), by decide +kernel⟩, List.mem_filter.mpr ⟨List.mem_of_getElem? (i := 372) (by decide +kernel), by decide +kernel⟩⟩
theorem oX0_append : VOk kX0_append 3 := ⟨⟨List.mem_filter.mpr ⟨List.mem_of_getElem? (i := 381) (by decide +kernel), by decide +kernel⟩, qini_X0, ⟨by decide +kernel, by decide +kernel, by decide +kernel⟩, by decide +kernel⟩, List.mem_filter.mpr ⟨List.mem_of_getElem? (i := 379) (by decide +kernel), by decide +kernel⟩, List.mem_filter.mpr ⟨List.mem_of_getElem? (i := 380) (by decide +kernel), by decide +kernel⟩⟩
theorem oX0_layEntry : VOk kX0_layEntry 5 := ⟨⟨List.mem_filter.mpr ⟨List.mem_of_getElem? (i := 385) (by decide +kernel), by decide +kernel⟩, qini_X0, ⟨by decide +kernel, by decide +kernel, by decide +kernel⟩, by decide +kernel⟩, List.mem_filter.mpr ⟨List.mem_of_getElem? (i := 384) (by decide +kernel), by decide +kernel⟩, List.mem_filter.mpr ⟨List.mem_of_getElem? (i := 3) (by decide +kernel), by decide +kernel⟩⟩
theorem oX0_firstFrom : VOk kX0_firstFrom 1 := ⟨⟨List.mem_filter.mpr ⟨List.mem_of_getElem? (i := 445) (by decide +kernel), by decide +kernel⟩, qini_X0, ⟨by decide +kernel, by decide +kernel, by decide +kernel⟩, by decide +kernel⟩, List.mem_filter.mpr ⟨List.mem_of_getElem? (i := 443) (by decide +kernel), by decide +kernel⟩, List.mem_filter.mpr ⟨List.mem_of_getElem? (i := 444) (by decide +kernel), by decide +kernel⟩⟩
theorem oX0_aheadOf : VOk kX0_aheadOf 1 := ⟨⟨List.mem_filter.mpr ⟨List.mem_of_getElem? (i := 502) (by decide +kernel), by decide +kernel⟩, qini_X0, ⟨by decide +kernel, by decide +kernel, by decide +kernel⟩, by decide +kernel⟩, List.mem_filter.mpr ⟨List.mem_of_getElem? (i := 500) (by decide +kernel), by decide +kernel⟩, List.mem_filter.mpr ⟨List.mem_of_getElem? (i := 501) (by decide +kernel), by decide +kernel⟩⟩
theorem oX0_isLastOfItsKey : VOk kX0_isLastOfItsKey 1 := ⟨⟨List.mem_filter.mpr ⟨List.mem_of_getElem? (i := 301) (by decide +kernel), by decide +kernel⟩, qini_X0, ⟨by decide +kernel, by decide +kernel, by decide +kernel⟩, by decide +kernel⟩, List.mem_filter.mpr ⟨List.mem_of_getElem? (i := 299) (by decide +kernel), by decide +kernel⟩, List.mem_filter.mpr ⟨List.mem_of_getElem? (i := 300) (by decide +kernel), by decide +kernel⟩⟩
theorem oX0_isClosed : VOk kX0_isClosed 2 := ⟨⟨List.mem_filter.mpr ⟨List.mem_of_getElem? (i := 293) (by decide +kernel), by decide +kernel⟩, qini_X0, ⟨by decide +kernel, by decide +kernel, by decide +kernel⟩, by decide +kernel⟩, List.mem_filter.mpr ⟨List.mem_of_getElem? (i := 291) (by decide +kernel), by decide +kernel⟩, List.mem_filter.mpr ⟨List.mem_of_getElem? (i := 292) (by decide +kernel), by decide +kernel⟩⟩
theorem oX0_segmentOf : SOk kX0_segmentOf 2 := ⟨⟨List.mem_filter.mpr ⟨List.mem_of_getElem? (i := 297) (by decide +kernel), by decide +kernel⟩, qini_X0, ⟨by decide +kernel, by decide +kernel, by decide +kernel⟩, by decide +kernel⟩, List.mem_filter.mpr ⟨List.mem_of_getElem? (i := 296) (by decide +kernel), by decide +kernel⟩⟩
theorem oX0_isOldRemoval : VOk kX0_isOldRemoval 3 := ⟨⟨List.mem_filter.mpr ⟨List.mem_of_getElem? (i := 305) (by decide +kernel), by decide +kernel⟩, qini_X0, ⟨by decide +kernel, by decide +kernel, by decide +kernel⟩, by decide +kernel⟩, List.mem_filter.mpr ⟨List.mem_of_getElem? (i := 304) (by decide +kernel), by decide +kernel⟩, List.mem_filter.mpr ⟨List.mem_of_getElem? (i := 1) (by decide +kernel), by decide +kernel⟩⟩
theorem oX0_wouldGo : VOk kX0_wouldGo 4 := ⟨⟨List.mem_filter.mpr ⟨List.mem_of_getElem? (i := 289) (by decide +kernel), by decide +kernel⟩, qini_X0, ⟨by decide +kernel, by decide +kernel, by decide +kernel⟩, by decide +kernel⟩, List.mem_filter.mpr ⟨List.mem_of_getElem? (i := 288) (by decide +kernel), by decide +kernel⟩, List.mem_filter.mpr ⟨List.mem_of_getElem? (i := 0) (by decide +kernel), by decide +kernel⟩⟩
theorem oX0_leftAfterThinning : VOk kX0_leftAfterThinning 3 := ⟨⟨List.mem_filter.mpr ⟨List.mem_of_getElem? (i := 285) (by decide +kernel), by decide +kernel⟩, qini_X0, ⟨by decide +kernel, by decide +kernel, by decide +kernel⟩, by decide +kernel⟩, List.mem_filter.mpr ⟨List.mem_of_getElem? (i := 283) (by decide +kernel), by decide +kernel⟩, List.mem_filter.mpr ⟨List.mem_of_getElem? (i := 284) (by decide +kernel), by decide +kernel⟩⟩
theorem oX0_floorAfterThinning : VOk kX0_floorAfterThinning 3 := ⟨⟨List.mem_filter.mpr ⟨List.mem_of_getElem? (i := 535) (by decide +kernel), by decide +kernel⟩, qini_X0, ⟨by decide +kernel, by decide +kernel, by decide +kernel⟩, by decide +kernel⟩, List.mem_filter.mpr ⟨List.mem_of_getElem? (i := 533) (by decide +kernel), by decide +kernel⟩, List.mem_filter.mpr ⟨List.mem_of_getElem? (i := 534) (by decide +kernel), by decide +kernel⟩⟩
theorem oX0_thinOut : VOk kX0_thinOut 3 := ⟨⟨List.mem_filter.mpr ⟨List.mem_of_getElem? (i := 543) (by decide +kernel), by decide +kernel⟩, qini_X0, ⟨by decide +kernel, by decide +kernel, by decide +kernel⟩, by decide +kernel⟩, List.mem_filter.mpr ⟨List.mem_of_getElem? (i := 541) (by decide +kernel), by decide +kernel⟩, List.mem_filter.mpr ⟨List.mem_of_getElem? (i := 542) (by decide +kernel), by decide +kernel⟩⟩
theorem oX1_init : IOk kX1_init 0 := ⟨⟨List.mem_filter.mpr ⟨List.mem_of_getElem? (i := 181) (by decide +kernel), by decide +kernel⟩, qini_X1, ⟨by decide +kernel, by decide +kernel, by decide +kernel⟩, by decide +kernel⟩, by decide +kernel, List.mem_filter.mpr ⟨List.mem_of_getElem? (i := 180) (by decide +kernel), by decide +kernel⟩⟩
theorem oX1_stateAt : VOk kX1_stateAt 1 := ⟨⟨List.mem_filter.mpr ⟨List.mem_of_getElem? (i := 328) (by decide +kernel), by decide +kernel⟩, qini_X1, ⟨by decide +kernel, by decide +kernel, by decide +kernel⟩, by decide +kernel⟩, List.mem_filter.mpr ⟨List.mem_of_getElem? (i := 327) (by decide +kernel), by decide +kernel⟩, List.mem_filter.mpr ⟨List.mem_of_getElem? (i := 2) (by decide +kernel), by decide +kernel⟩⟩
theorem oX1_prepare : VOk kX1_prepare 1 := ⟨⟨List.mem_filter.mpr ⟨List.mem_of_getElem? (i := 324) (by decide +kernel), by decide +kernel⟩, qini_X1, ⟨by decide +kernel, by decide +kernel, by decide +kernel⟩, by decide +kernel⟩, List.mem_filter.mpr ⟨List.mem_of_getElem? (i := 322) (by decide +kernel), by decide +kernel⟩, List.mem_filter.mpr ⟨List.mem_of_getElem? (i := 323) (by decide +kernel), by decide +kernel⟩⟩
theorem oX1_settle : VOk kX1_settle 1 := ⟨⟨List.mem_filter.mpr ⟨List.mem_of_getElem? (i := 390) (by decide +kernel), by decide +kernel⟩, qini_X1, ⟨by decide +kernel, by decide +kernel, by decide +kernel⟩, by decide +kernel⟩, List.mem_filter.mpr ⟨List.mem_of_getElem? (i := 388) (by decide +kernel), by decide +kernel⟩, List.mem_filter.mpr ⟨List.mem_of_getElem? (i := 389) (by decide +kernel), by decide +kernel⟩⟩
theorem oX1_dropOldest : VOk kX1_dropOldest 0 := ⟨⟨List.mem_filter.mpr ⟨List.mem_of_getElem? (i := 394) (by decide +kernel), by decide +kernel⟩, qini_X1, ⟨by decide +kernel, by decide +kernel, by decide +kernel⟩, by decide +kernel⟩, List.mem_filter.mpr ⟨List.mem_of_getElem? (i := 393) (by decide +kernel), by decide +kernel⟩, List.mem_filter.mpr ⟨List.mem_of_getElem? (i := 4) (by decide +kernel), by decide +kernel⟩⟩
theorem oX2_init : IOk kX2_init 0 := ⟨⟨List.mem_filter.mpr ⟨List.mem_of_getElem? (i := 198) (by decide +kernel), by decide +kernel⟩, qini_X2, ⟨by decide +kernel, by decide +kernel, by decide +kernel⟩, by decide +kernel⟩, by decide +kernel, List.mem_filter.mpr ⟨List.mem_of_getElem? (i := 197) (by decide +kernel), by decide +kernel⟩⟩
theorem oX3_init : IOk kX3_init 0 := ⟨⟨List.mem_filter.mpr ⟨List.mem_of_getElem? (i := 95) (by decide +kernel), by decide +kernel⟩, qini_X3, ⟨by decide +kernel, by decide +kernel, by decide +kernel⟩, by decide +kernel⟩, by decide +kernel, List.mem_filter.mpr ⟨List.mem_of_getElem? (i := 94) (by decide +kernel), by decide +kernel⟩⟩
theorem oX3_copyFrom : VOk kX3_copyFrom 1 := ⟨⟨List.mem_filter.mpr ⟨List.mem_of_getElem? (i := 348) (by decide +kernel), by decide +kernel⟩, qini_X3, ⟨by decide +kernel, by decide +kernel, by decide +kernel⟩, by decide +kernel⟩, List.mem_filter.mpr ⟨List.mem_of_getElem? (i := 346) (by decide +kernel), by decide +kernel⟩, List.mem_filter.mpr ⟨List.mem_of_getElem? (i := 347) (by decide +kernel), by decide +kernel⟩⟩
theorem oX3_startOver : VOk kX3_startOver 0 := ⟨⟨List.mem_filter.mpr ⟨List.mem_of_getElem? (i := 424) (by decide +kernel), by decide +kernel⟩, qini_X3, ⟨by decide +kernel, by decide +kernel, by decide +kernel⟩, by decide +kernel⟩, List.mem_filter.mpr ⟨List.mem_of_getElem? (i := 422) (by decide +kernel), by decide +kernel⟩, List.mem_filter.mpr ⟨List.mem_of_getElem? (i := 423) (by decide +kernel), by decide +kernel⟩⟩
theorem oX3_keepPlace : VOk kX3_keepPlace 0 := ⟨⟨List.mem_filter.mpr ⟨List.mem_of_getElem? (i := 429) (by decide +kernel), by decide +kernel⟩, qini_X3, ⟨by decide +kernel, by decide +kernel, by decide +kernel⟩, by decide +kernel⟩, List.mem_filter.mpr ⟨List.mem_of_getElem? (i := 427) (by decide +kernel), by decide +kernel⟩, List.mem_filter.mpr ⟨List.mem_of_getElem? (i := 428) (by decide +kernel), by decide +kernel⟩⟩
theorem oX3_returnToConfirmed : VOk kX3_returnToConfirmed 0 := ⟨⟨List.mem_filter.mpr ⟨List.mem_of_getElem? (i := 482) (by decide +kernel), by decide +kernel⟩, qini_X3, ⟨by decide +kernel, by decide +kernel, by decide +kernel⟩, by decide +kernel⟩, List.mem_filter.mpr ⟨List.mem_of_getElem? (i := 480) (by decide +kernel), by decide +kernel⟩, List.mem_filter.mpr ⟨List.mem_of_getElem? (i := 481) (by decide +kernel), by decide +kernel⟩⟩
theorem oX3_takeOver : VOk kX3_takeOver 1 := ⟨⟨List.mem_filter.mpr ⟨List.mem_of_getElem? (i := 515) (by decide +kernel), by decide +kernel⟩, qini_X3, ⟨by decide +kernel, by decide +kernel, by decide +kernel⟩, by decide +kernel⟩, List.mem_filter.mpr ⟨List.mem_of_getElem? (i := 513) (by decide +kernel), by decide +kernel⟩, List.mem_filter.mpr ⟨List.mem_of_getElem? (i := 514) (by decide +kernel), by decide +kernel⟩⟩
theorem oX3_readOn : VOk kX3_readOn 2 := ⟨⟨List.mem_filter.mpr ⟨List.mem_of_getElem? (i := 441) (by decide +kernel), by decide +kernel⟩, qini_X3, ⟨by decide +kernel, by decide +kernel, by decide +kernel⟩, by decide +kernel⟩, List.mem_filter.mpr ⟨List.mem_of_getElem? (i := 439) (by decide +kernel), by decide +kernel⟩, List.mem_filter.mpr ⟨List.mem_of_getElem? (i := 440) (by decide +kernel), by decide +kernel⟩⟩
theorem oX4_init : IOk kX4_init 0 := ⟨⟨List.mem_filter.mpr ⟨List.mem_of_getElem? (i := 225) (by decide +kernel), by decide +kernel⟩, qini_X4, ⟨by decide +kernel, by decide +kernel, by decide +kernel⟩, by decide +kernel⟩, by decide +kernel, List.mem_filter.mpr ⟨List.mem_of_getElem? (i := 224) (by decide +kernel), by decide +kernel⟩⟩
theorem oX5_init : IOk kX5_init 0 := ⟨⟨List.mem_filter.mpr ⟨List.mem_of_getElem? (i := 125) (by decide +kernel), by decide +kernel⟩, qini_X5, ⟨by decide +kernel, by decide +kernel, by decide +kernel⟩, by decide +kernel⟩, by decide +kernel, List.mem_filter.mpr ⟨List.mem_of_getElem? (i := 124) (by decide +kernel), by decide +kernel⟩⟩
theorem oX5_copyFrom : VOk kX5_copyFrom 1 := ⟨⟨List.mem_filter.mpr ⟨List.mem_of_getElem? (i := 360) (by decide +kernel), by decide +kernel⟩, qini_X5, ⟨by decide +kernel, by decide +kernel, by decide +kernel⟩, by decide +kernel⟩, List.mem_filter.mpr ⟨List.mem_of_getElem? (i := 358) (by decide +kernel), by decide +kernel⟩, List.mem_filter.mpr ⟨List.mem_of_getElem? (i := 359) (by decide +kernel), by decide +kernel⟩⟩
theorem oX6_init : IOk kX6_init 0 := ⟨⟨List.mem_filter.mpr ⟨List.mem_of_getElem? (i := 29) (by decide +kernel), by decide +kernel⟩, qini_X6, ⟨by decide +kernel, by decide +kernel, by decide +kernel⟩, by decide +kernel⟩, by decide +kernel, List.mem_filter.mpr ⟨List.mem_of_getElem? (i := 28) (by decide +kernel), by decide +kernel⟩⟩
theorem oX6_copyFrom : VOk kX6_copyFrom 1 := ⟨⟨List.mem_filter.mpr ⟨List.mem_of_getElem? (i := 332) (by decide +kernel), by decide +kernel⟩, qini_X6, ⟨by decide +kernel, by decide +kernel, by decide +kernel⟩, by decide +kernel⟩, List.mem_filter.mpr ⟨List.mem_of_getElem? (i := 330) (by decide +kernel), by decide +kernel⟩, List.mem_filter.mpr ⟨List.mem_of_getElem? (i := 331) (by decide +kernel), by decide +kernel⟩⟩
theorem oX6_copySnapshot : SOk kX6_copySnapshot 2 := ⟨⟨List.mem_filter.mpr ⟨List.mem_of_getElem? (i := 356) (by decide +kernel), by decide +kernel⟩, qini_X6, ⟨by decide +kernel, by decide +kernel, by decide +kernel⟩, by decide +kernel⟩, List.mem_filter.mpr ⟨List.mem_of_getElem? (i := 355) (by decide +kernel), by decide +kernel⟩⟩
theorem oX6_readerAt : VOk kX6_readerAt 1 := ⟨⟨List.mem_filter.mpr ⟨List.mem_of_getElem? (i := 271) (by decide +kernel), by decide +kernel⟩, qini_X6, ⟨by decide +kernel, by decide +kernel, by decide +kernel⟩, by decide +kernel⟩, List.mem_filter.mpr ⟨List.mem_of_getElem? (i := 269) (by decide +kernel), by decide +kernel⟩, List.mem_filter.mpr ⟨List.mem_of_getElem? (i := 270) (by decide +kernel), by decide +kernel⟩⟩
theorem oX6_snapshotAt : VOk kX6_snapshotAt 1 := ⟨⟨List.mem_filter.mpr ⟨List.mem_of_getElem? (i := 353) (by decide +kernel), by decide +kernel⟩, qini_X6, ⟨by decide +kernel, by decide +kernel, by decide +kernel⟩, by decide +kernel⟩, List.mem_filter.mpr ⟨List.mem_of_getElem? (i := 351) (by decide +kernel), by decide +kernel⟩, List.mem_filter.mpr ⟨List.mem_of_getElem? (i := 352) (by decide +kernel), by decide +kernel⟩⟩
theorem oX6_turnSetting : VOk kX6_turnSetting 2 := ⟨⟨List.mem_filter.mpr ⟨List.mem_of_getElem? (i := 523) (by decide +kernel), by decide +kernel⟩, qini_X6, ⟨by decide +kernel, by decide +kernel, by decide +kernel⟩, by decide +kernel⟩, List.mem_filter.mpr ⟨List.mem_of_getElem? (i := 521) (by decide +kernel), by decide +kernel⟩, List.mem_filter.mpr ⟨List.mem_of_getElem? (i := 522) (by decide +kernel), by decide +kernel⟩⟩
theorem oX6_setKey : VOk kX6_setKey 2 := ⟨⟨List.mem_filter.mpr ⟨List.mem_of_getElem? (i := 365) (by decide +kernel), by decide +kernel⟩, qini_X6, ⟨by decide +kernel, by decide +kernel, by decide +kernel⟩, by decide +kernel⟩, List.mem_filter.mpr ⟨List.mem_of_getElem? (i := 363) (by decide +kernel), by decide +kernel⟩, List.mem_filter.mpr ⟨List.mem_of_getElem? (i := 364) (by decide +kernel), by decide +kernel⟩⟩
theorem oX6_removeKey : VOk kX6_removeKey 1 := ⟨⟨List.mem_filter.mpr ⟨List.mem_of_getElem? (i := 402) (by decide +kernel), by decide +kernel⟩, qini_X6, ⟨by decide +kernel, by decide +kernel, by decide +kernel⟩, by decide +kernel⟩, List.mem_filter.mpr ⟨List.mem_of_getElem? (i := 400) (by decide +kernel), by decide +kernel⟩, List.mem_filter.mpr ⟨List.mem_of_getElem? (i := 401) (by decide +kernel), by decide +kernel⟩⟩
theorem oX6_letPass : VOk kX6_letPass 1 := ⟨⟨List.mem_filter.mpr ⟨List.mem_of_getElem? (i := 411) (by decide +kernel), by decide +kernel⟩, qini_X6, ⟨by decide +kernel, by decide +kernel, by decide +kernel⟩, by decide +kernel⟩, List.mem_filter.mpr ⟨List.mem_of_getElem? (i := 409) (by decide +kernel), by decide +kernel⟩, List.mem_filter.mpr ⟨List.mem_of_getElem? (i := 410) (by decide +kernel), by decide +kernel⟩⟩
theorem oX6_thinFeed : VOk kX6_thinFeed 0 := ⟨⟨List.mem_filter.mpr ⟨List.mem_of_getElem? (i := 531) (by decide +kernel), by decide +kernel⟩, qini_X6, ⟨by decide +kernel, by decide +kernel, by decide +kernel⟩, by decide +kernel⟩, List.mem_filter.mpr ⟨List.mem_of_getElem? (i := 529) (by decide +kernel), by decide +kernel⟩, List.mem_filter.mpr ⟨List.mem_of_getElem? (i := 530) (by decide +kernel), by decide +kernel⟩⟩
theorem oX6_makeSnapshot : VOk kX6_makeSnapshot 0 := ⟨⟨List.mem_filter.mpr ⟨List.mem_of_getElem? (i := 490) (by decide +kernel), by decide +kernel⟩, qini_X6, ⟨by decide +kernel, by decide +kernel, by decide +kernel⟩, by decide +kernel⟩, List.mem_filter.mpr ⟨List.mem_of_getElem? (i := 488) (by decide +kernel), by decide +kernel⟩, List.mem_filter.mpr ⟨List.mem_of_getElem? (i := 489) (by decide +kernel), by decide +kernel⟩⟩
theorem oX6_addReader : VOk kX6_addReader 0 := ⟨⟨List.mem_filter.mpr ⟨List.mem_of_getElem? (i := 420) (by decide +kernel), by decide +kernel⟩, qini_X6, ⟨by decide +kernel, by decide +kernel, by decide +kernel⟩, by decide +kernel⟩, List.mem_filter.mpr ⟨List.mem_of_getElem? (i := 418) (by decide +kernel), by decide +kernel⟩, List.mem_filter.mpr ⟨List.mem_of_getElem? (i := 419) (by decide +kernel), by decide +kernel⟩⟩
theorem oX6_letRead : VOk kX6_letRead 2 := ⟨⟨List.mem_filter.mpr ⟨List.mem_of_getElem? (i := 437) (by decide +kernel), by decide +kernel⟩, qini_X6, ⟨by decide +kernel, by decide +kernel, by decide +kernel⟩, by decide +kernel⟩, List.mem_filter.mpr ⟨List.mem_of_getElem? (i := 435) (by decide +kernel), by decide +kernel⟩, List.mem_filter.mpr ⟨List.mem_of_getElem? (i := 436) (by decide +kernel), by decide +kernel⟩⟩
theorem oX6_letConfirm : VOk kX6_letConfirm 1 := ⟨⟨List.mem_filter.mpr ⟨List.mem_of_getElem? (i := 469) (by decide +kernel), by decide +kernel⟩, qini_X6, ⟨by decide +kernel, by decide +kernel, by decide +kernel⟩, by decide +kernel⟩, List.mem_filter.mpr ⟨List.mem_of_getElem? (i := 467) (by decide +kernel), by decide +kernel⟩, List.mem_filter.mpr ⟨List.mem_of_getElem? (i := 468) (by decide +kernel), by decide +kernel⟩⟩
theorem oX6_letGoBack : VOk kX6_letGoBack 1 := ⟨⟨List.mem_filter.mpr ⟨List.mem_of_getElem? (i := 478) (by decide +kernel), by decide +kernel⟩, qini_X6, ⟨by decide +kernel, by decide +kernel, by decide +kernel⟩, by decide +kernel⟩, List.mem_filter.mpr ⟨List.mem_of_getElem? (i := 476) (by decide +kernel), by decide +kernel⟩, List.mem_filter.mpr ⟨List.mem_of_getElem? (i := 477) (by decide +kernel), by decide +kernel⟩⟩
theorem oX6_letBeginAnew : VOk kX6_letBeginAnew 1 := ⟨⟨List.mem_filter.mpr ⟨List.mem_of_getElem? (i := 498) (by decide +kernel), by decide +kernel⟩, qini_X6, ⟨by decide +kernel, by decide +kernel, by decide +kernel⟩, by decide +kernel⟩, List.mem_filter.mpr ⟨List.mem_of_getElem? (i := 496) (by decide +kernel), by decide +kernel⟩, List.mem_filter.mpr ⟨List.mem_of_getElem? (i := 497) (by decide +kernel), by decide +kernel⟩⟩
theorem oX6_letLoad : VOk kX6_letLoad 2 := ⟨⟨List.mem_filter.mpr ⟨List.mem_of_getElem? (i := 511) (by decide +kernel), by decide +kernel⟩, qini_X6, ⟨by decide +kernel, by decide +kernel, by decide +kernel⟩, by decide +kernel⟩, List.mem_filter.mpr ⟨List.mem_of_getElem? (i := 509) (by decide +kernel), by decide +kernel⟩, List.mem_filter.mpr ⟨List.mem_of_getElem? (i := 510) (by decide +kernel), by decide +kernel⟩⟩
theorem oX6_lateBelow : VOk kX6_lateBelow 1 := ⟨⟨List.mem_filter.mpr ⟨List.mem_of_getElem? (i := 267) (by decide +kernel), by decide +kernel⟩, qini_X6, ⟨by decide +kernel, by decide +kernel, by decide +kernel⟩, by decide +kernel⟩, List.mem_filter.mpr ⟨List.mem_of_getElem? (i := 265) (by decide +kernel), by decide +kernel⟩, List.mem_filter.mpr ⟨List.mem_of_getElem? (i := 266) (by decide +kernel), by decide +kernel⟩⟩
theorem oX6_entriesOnWay : VOk kX6_entriesOnWay 2 := ⟨⟨List.mem_filter.mpr ⟨List.mem_of_getElem? (i := 601) (by decide +kernel), by decide +kernel⟩, qini_X6, ⟨by decide +kernel, by decide +kernel, by decide +kernel⟩, by decide +kernel⟩, List.mem_filter.mpr ⟨List.mem_of_getElem? (i := 599) (by decide +kernel), by decide +kernel⟩, List.mem_filter.mpr ⟨List.mem_of_getElem? (i := 600) (by decide +kernel), by decide +kernel⟩⟩
theorem oX6_aheadUnlessLate : VOk kX6_aheadUnlessLate 1 := ⟨⟨List.mem_filter.mpr ⟨List.mem_of_getElem? (i := 605) (by decide +kernel), by decide +kernel⟩, qini_X6, ⟨by decide +kernel, by decide +kernel, by decide +kernel⟩, by decide +kernel⟩, List.mem_filter.mpr ⟨List.mem_of_getElem? (i := 604) (by decide +kernel), by decide +kernel⟩, List.mem_filter.mpr ⟨List.mem_of_getElem? (i := 5) (by decide +kernel), by decide +kernel⟩⟩
theorem oX6_shortestWay : VOk kX6_shortestWay 1 := ⟨⟨List.mem_filter.mpr ⟨List.mem_of_getElem? (i := 597) (by decide +kernel), by decide +kernel⟩, qini_X6, ⟨by decide +kernel, by decide +kernel, by decide +kernel⟩, by decide +kernel⟩, List.mem_filter.mpr ⟨List.mem_of_getElem? (i := 595) (by decide +kernel), by decide +kernel⟩, List.mem_filter.mpr ⟨List.mem_of_getElem? (i := 596) (by decide +kernel), by decide +kernel⟩⟩
theorem oX7_init : IOk kX7_init 0 := ⟨⟨List.mem_filter.mpr ⟨List.mem_of_getElem? (i := 35) (by decide +kernel), by decide +kernel⟩, qini_X7, ⟨by decide +kernel, by decide +kernel, by decide +kernel⟩, by decide +kernel⟩, by decide +kernel, List.mem_filter.mpr ⟨List.mem_of_getElem? (i := 34) (by decide +kernel), by decide +kernel⟩⟩
theorem oX7_clear : VOk kX7_clear 0 := ⟨⟨List.mem_filter.mpr ⟨List.mem_of_getElem? (i := 40) (by decide +kernel), by decide +kernel⟩, qini_X7, ⟨by decide +kernel, by decide +kernel, by decide +kernel⟩, by decide +kernel⟩, List.mem_filter.mpr ⟨List.mem_of_getElem? (i := 38) (by decide +kernel), by decide +kernel⟩, List.mem_filter.mpr ⟨List.mem_of_getElem? (i := 39) (by decide +kernel), by decide +kernel⟩⟩
theorem oX7_copyFrom : VOk kX7_copyFrom 1 := ⟨⟨List.mem_filter.mpr ⟨List.mem_of_getElem? (i := 336) (by decide +kernel), by decide +kernel⟩, qini_X7, ⟨by decide +kernel, by decide +kernel, by decide +kernel⟩, by decide +kernel⟩, List.mem_filter.mpr ⟨List.mem_of_getElem? (i := 334) (by decide +kernel), by decide +kernel⟩, List.mem_filter.mpr ⟨List.mem_of_getElem? (i := 335) (by decide +kernel), by decide +kernel⟩⟩
theorem oX7_of : VOk kX7_of 1 := ⟨⟨List.mem_filter.mpr ⟨List.mem_of_getElem? (i := 260) (by decide +kernel), by decide +kernel⟩, qini_X7, ⟨by decide +kernel, by decide +kernel, by decide +kernel⟩, by decide +kernel⟩, List.mem_filter.mpr ⟨List.mem_of_getElem? (i := 258) (by decide +kernel), by decide +kernel⟩, List.mem_filter.mpr ⟨List.mem_of_getElem? (i := 259) (by decide +kernel), by decide +kernel⟩⟩
theorem oX7_change : VOk kX7_change 2 := ⟨⟨List.mem_filter.mpr ⟨List.mem_of_getElem? (i := 377) (by decide +kernel), by decide +kernel⟩, qini_X7, ⟨by decide +kernel, by decide +kernel, by decide +kernel⟩, by decide +kernel⟩, List.mem_filter.mpr ⟨List.mem_of_getElem? (i := 375) (by decide +kernel), by decide +kernel⟩, List.mem_filter.mpr ⟨List.mem_of_getElem? (i := 376) (by decide +kernel), by decide +kernel⟩⟩
theorem oX7_howMany : VOk kX7_howMany 0 := ⟨⟨List.mem_filter.mpr ⟨List.mem_of_getElem? (i := 256) (by decide +kernel), by decide +kernel⟩, qini_X7, ⟨by decide +kernel, by decide +kernel, by decide +kernel⟩, by decide +kernel⟩, List.mem_filter.mpr ⟨List.mem_of_getElem? (i := 254) (by decide +kernel), by decide +kernel⟩, List.mem_filter.mpr ⟨List.mem_of_getElem? (i := 255) (by decide +kernel), by decide +kernel⟩⟩
theorem oX7_differingFrom : VOk kX7_differingFrom 1 := ⟨⟨List.mem_filter.mpr ⟨List.mem_of_getElem? (i := 585) (by decide +kernel), by decide +kernel⟩, qini_X7, ⟨by decide +kernel, by decide +kernel, by decide +kernel⟩, by decide +kernel⟩, List.mem_filter.mpr ⟨List.mem_of_getElem? (i := 583) (by decide +kernel), by decide +kernel⟩, List.mem_filter.mpr ⟨List.mem_of_getElem? (i := 584) (by decide +kernel), by decide +kernel⟩⟩
theorem oX8_init : IOk kX8_init 0 := ⟨⟨List.mem_filter.mpr ⟨List.mem_of_getElem? (i := 21) (by decide +kernel), by decide +kernel⟩, qini_X8, ⟨by decide +kernel, by decide +kernel, by decide +kernel⟩, by decide +kernel⟩, by decide +kernel, List.mem_filter.mpr ⟨List.mem_of_getElem? (i := 20) (by decide +kernel), by decide +kernel⟩⟩
theorem oX8_turn : VOk kX8_turn 2 := ⟨⟨List.mem_filter.mpr ⟨List.mem_of_getElem? (i := 519) (by decide +kernel), by decide +kernel⟩, qini_X8, ⟨by decide +kernel, by decide +kernel, by decide +kernel⟩, by decide +kernel⟩, List.mem_filter.mpr ⟨List.mem_of_getElem? (i := 517) (by decide +kernel), by decide +kernel⟩, List.mem_filter.mpr ⟨List.mem_of_getElem? (i := 518) (by decide +kernel), by decide +kernel⟩⟩
theorem oX8_set : VOk kX8_set 2 := ⟨⟨List.mem_filter.mpr ⟨List.mem_of_getElem? (i := 320) (by decide +kernel), by decide +kernel⟩, qini_X8, ⟨by decide +kernel, by decide +kernel, by decide +kernel⟩, by decide +kernel⟩, List.mem_filter.mpr ⟨List.mem_of_getElem? (i := 318) (by decide +kernel), by decide +kernel⟩, List.mem_filter.mpr ⟨List.mem_of_getElem? (i := 319) (by decide +kernel), by decide +kernel⟩⟩
theorem oX8_remove : VOk kX8_remove 1 := ⟨⟨List.mem_filter.mpr ⟨List.mem_of_getElem? (i := 398) (by decide +kernel), by decide +kernel⟩, qini_X8, ⟨by decide +kernel, by decide +kernel, by decide +kernel⟩, by decide +kernel⟩, List.mem_filter.mpr ⟨List.mem_of_getElem? (i := 396) (by decide +kernel), by decide +kernel⟩, List.mem_filter.mpr ⟨List.mem_of_getElem? (i := 397) (by decide +kernel), by decide +kernel⟩⟩
theorem oX8_pass : VOk kX8_pass 1 := ⟨⟨List.mem_filter.mpr ⟨List.mem_of_getElem? (i := 407) (by decide +kernel), by decide +kernel⟩, qini_X8, ⟨by decide +kernel, by decide +kernel, by decide +kernel⟩, by decide +kernel⟩, List.mem_filter.mpr ⟨List.mem_of_getElem? (i := 405) (by decide +kernel), by decide +kernel⟩, List.mem_filter.mpr ⟨List.mem_of_getElem? (i := 406) (by decide +kernel), by decide +kernel⟩⟩
theorem oX8_thin : VOk kX8_thin 0 := ⟨⟨List.mem_filter.mpr ⟨List.mem_of_getElem? (i := 527) (by decide +kernel), by decide +kernel⟩, qini_X8, ⟨by decide +kernel, by decide +kernel, by decide +kernel⟩, by decide +kernel⟩, List.mem_filter.mpr ⟨List.mem_of_getElem? (i := 525) (by decide +kernel), by decide +kernel⟩, List.mem_filter.mpr ⟨List.mem_of_getElem? (i := 526) (by decide +kernel), by decide +kernel⟩⟩
theorem oX8_snapshot : VOk kX8_snapshot 0 := ⟨⟨List.mem_filter.mpr ⟨List.mem_of_getElem? (i := 486) (by decide +kernel), by decide +kernel⟩, qini_X8, ⟨by decide +kernel, by decide +kernel, by decide +kernel⟩, by decide +kernel⟩, List.mem_filter.mpr ⟨List.mem_of_getElem? (i := 484) (by decide +kernel), by decide +kernel⟩, List.mem_filter.mpr ⟨List.mem_of_getElem? (i := 485) (by decide +kernel), by decide +kernel⟩⟩
theorem oX8_reader : VOk kX8_reader 0 := ⟨⟨List.mem_filter.mpr ⟨List.mem_of_getElem? (i := 416) (by decide +kernel), by decide +kernel⟩, qini_X8, ⟨by decide +kernel, by decide +kernel, by decide +kernel⟩, by decide +kernel⟩, List.mem_filter.mpr ⟨List.mem_of_getElem? (i := 414) (by decide +kernel), by decide +kernel⟩, List.mem_filter.mpr ⟨List.mem_of_getElem? (i := 415) (by decide +kernel), by decide +kernel⟩⟩
theorem oX8_read : VOk kX8_read 2 := ⟨⟨List.mem_filter.mpr ⟨List.mem_of_getElem? (i := 433) (by decide +kernel), by decide +kernel⟩, qini_X8, ⟨by decide +kernel, by decide +kernel, by decide +kernel⟩, by decide +kernel⟩, List.mem_filter.mpr ⟨List.mem_of_getElem? (i := 431) (by decide +kernel), by decide +kernel⟩, List.mem_filter.mpr ⟨List.mem_of_getElem? (i := 432) (by decide +kernel), by decide +kernel⟩⟩
theorem oX8_confirm : VOk kX8_confirm 1 := ⟨⟨List.mem_filter.mpr ⟨List.mem_of_getElem? (i := 465) (by decide +kernel), by decide +kernel⟩, qini_X8, ⟨by decide +kernel, by decide +kernel, by decide +kernel⟩, by decide +kernel⟩, List.mem_filter.mpr ⟨List.mem_of_getElem? (i := 463) (by decide +kernel), by decide +kernel⟩, List.mem_filter.mpr ⟨List.mem_of_getElem? (i := 464) (by decide +kernel), by decide +kernel⟩⟩
theorem oX8_goBack : VOk kX8_goBack 1 := ⟨⟨List.mem_filter.mpr ⟨List.mem_of_getElem? (i := 474) (by decide +kernel), by decide +kernel⟩, qini_X8, ⟨by decide +kernel, by decide +kernel, by decide +kernel⟩, by decide +kernel⟩, List.mem_filter.mpr ⟨List.mem_of_getElem? (i := 472) (by decide +kernel), by decide +kernel⟩, List.mem_filter.mpr ⟨List.mem_of_getElem? (i := 473) (by decide +kernel), by decide +kernel⟩⟩
theorem oX8_beginAnew : VOk kX8_beginAnew 1 := ⟨⟨List.mem_filter.mpr ⟨List.mem_of_getElem? (i := 494) (by decide +kernel), by decide +kernel⟩, qini_X8, ⟨by decide +kernel, by decide +kernel, by decide +kernel⟩, by decide +kernel⟩, List.mem_filter.mpr ⟨List.mem_of_getElem? (i := 492) (by decide +kernel), by decide +kernel⟩, List.mem_filter.mpr ⟨List.mem_of_getElem? (i := 493) (by decide +kernel), by decide +kernel⟩⟩
theorem oX8_load : VOk kX8_load 2 := ⟨⟨List.mem_filter.mpr ⟨List.mem_of_getElem? (i := 507) (by decide +kernel), by decide +kernel⟩, qini_X8, ⟨by decide +kernel, by decide +kernel, by decide +kernel⟩, by decide +kernel⟩, List.mem_filter.mpr ⟨List.mem_of_getElem? (i := 505) (by decide +kernel), by decide +kernel⟩, List.mem_filter.mpr ⟨List.mem_of_getElem? (i := 506) (by decide +kernel), by decide +kernel⟩⟩
theorem oX8_table : VOk kX8_table 1 := ⟨⟨List.mem_filter.mpr ⟨List.mem_of_getElem? (i := 569) (by decide +kernel), by decide +kernel⟩, qini_X8, ⟨by decide +kernel, by decide +kernel, by decide +kernel⟩, by decide +kernel⟩, List.mem_filter.mpr ⟨List.mem_of_getElem? (i := 567) (by decide +kernel), by decide +kernel⟩, List.mem_filter.mpr ⟨List.mem_of_getElem? (i := 568) (by decide +kernel), by decide +kernel⟩⟩
theorem oX8_view : VOk kX8_view 2 := ⟨⟨List.mem_filter.mpr ⟨List.mem_of_getElem? (i := 589) (by decide +kernel), by decide +kernel⟩, qini_X8, ⟨by decide +kernel, by decide +kernel, by decide +kernel⟩, by decide +kernel⟩, List.mem_filter.mpr ⟨List.mem_of_getElem? (i := 587) (by decide +kernel), by decide +kernel⟩, List.mem_filter.mpr ⟨List.mem_of_getElem? (i := 588) (by decide +kernel), by decide +kernel⟩⟩
theorem oX8_entry : VOk kX8_entry 2 := ⟨⟨List.mem_filter.mpr ⟨List.mem_of_getElem? (i := 556) (by decide +kernel), by decide +kernel⟩, qini_X8, ⟨by decide +kernel, by decide +kernel, by decide +kernel⟩, by decide +kernel⟩, List.mem_filter.mpr ⟨List.mem_of_getElem? (i := 554) (by decide +kernel), by decide +kernel⟩, List.mem_filter.mpr ⟨List.mem_of_getElem? (i := 555) (by decide +kernel), by decide +kernel⟩⟩
theorem oX8_ofReader : VOk kX8_ofReader 2 := ⟨⟨List.mem_filter.mpr ⟨List.mem_of_getElem? (i := 578) (by decide +kernel), by decide +kernel⟩, qini_X8, ⟨by decide +kernel, by decide +kernel, by decide +kernel⟩, by decide +kernel⟩, List.mem_filter.mpr ⟨List.mem_of_getElem? (i := 576) (by decide +kernel), by decide +kernel⟩, List.mem_filter.mpr ⟨List.mem_of_getElem? (i := 577) (by decide +kernel), by decide +kernel⟩⟩
theorem oX8_ofSnapshot : VOk kX8_ofSnapshot 2 := ⟨⟨List.mem_filter.mpr ⟨List.mem_of_getElem? (i := 610) (by decide +kernel), by decide +kernel⟩, qini_X8, ⟨by decide +kernel, by decide +kernel, by decide +kernel⟩, by decide +kernel⟩, List.mem_filter.mpr ⟨List.mem_of_getElem? (i := 608) (by decide +kernel), by decide +kernel⟩, List.mem_filter.mpr ⟨List.mem_of_getElem? (i := 609) (by decide +kernel), by decide +kernel⟩⟩
theorem oX8_count : VOk kX8_count 1 := ⟨⟨List.mem_filter.mpr ⟨List.mem_of_getElem? (i := 252) (by decide +kernel), by decide +kernel⟩, qini_X8, ⟨by decide +kernel, by decide +kernel, by decide +kernel⟩, by decide +kernel⟩, List.mem_filter.mpr ⟨List.mem_of_getElem? (i := 250) (by decide +kernel), by decide +kernel⟩, List.mem_filter.mpr ⟨List.mem_of_getElem? (i := 251) (by decide +kernel), by decide +kernel⟩⟩
theorem oX8_leftIn : VOk kX8_leftIn 1 := ⟨⟨List.mem_filter.mpr ⟨List.mem_of_getElem? (i := 278) (by decide +kernel), by decide +kernel⟩, qini_X8, ⟨by decide +kernel, by decide +kernel, by decide +kernel⟩, by decide +kernel⟩, List.mem_filter.mpr ⟨List.mem_of_getElem? (i := 276) (by decide +kernel), by decide +kernel⟩, List.mem_filter.mpr ⟨List.mem_of_getElem? (i := 277) (by decide +kernel), by decide +kernel⟩⟩
theorem oX8_shortest : VOk kX8_shortest 2 := ⟨⟨List.mem_filter.mpr ⟨List.mem_of_getElem? (i := 593) (by decide +kernel), by decide +kernel⟩, qini_X8, ⟨by decide +kernel, by decide +kernel, by decide +kernel⟩, by decide +kernel⟩, List.mem_filter.mpr ⟨List.mem_of_getElem? (i := 591) (by decide +kernel), by decide +kernel⟩, List.mem_filter.mpr ⟨List.mem_of_getElem? (i := 592) (by decide +kernel), by decide +kernel⟩⟩
theorem oX8_isKey : SOk kX8_isKey 1 := ⟨⟨List.mem_filter.mpr ⟨List.mem_of_getElem? (i := 368) (by decide +kernel), by decide +kernel⟩, qini_X8, ⟨by decide +kernel, by decide +kernel, by decide +kernel⟩, by decide +kernel⟩, List.mem_filter.mpr ⟨List.mem_of_getElem? (i := 367) (by decide +kernel), by decide +kernel⟩⟩
theorem oX8_isNumber : SOk kX8_isNumber 1 := ⟨⟨List.mem_filter.mpr ⟨List.mem_of_getElem? (i := 281) (by decide +kernel), by decide +kernel⟩, qini_X8, ⟨by decide +kernel, by decide +kernel, by decide +kernel⟩, by decide +kernel⟩, List.mem_filter.mpr ⟨List.mem_of_getElem? (i := 280) (by decide +kernel), by decide +kernel⟩⟩
theorem oX8_isLate : SOk kX8_isLate 2 := ⟨⟨List.mem_filter.mpr ⟨List.mem_of_getElem? (i := 274) (by decide +kernel), by decide +kernel⟩, qini_X8, ⟨by decide +kernel, by decide +kernel, by decide +kernel⟩, by decide +kernel⟩, List.mem_filter.mpr ⟨List.mem_of_getElem? (i := 273) (by decide +kernel), by decide +kernel⟩⟩
theorem oX8_oneIf : SOk kX8_oneIf 1 := ⟨⟨List.mem_filter.mpr ⟨List.mem_of_getElem? (i := 564) (by decide +kernel), by decide +kernel⟩, qini_X8, ⟨by decide +kernel, by decide +kernel, by decide +kernel⟩, by decide +kernel⟩, List.mem_filter.mpr ⟨List.mem_of_getElem? (i := 563) (by decide +kernel), by decide +kernel⟩⟩
theorem oX8_at : SOk kX8_at 2 := ⟨⟨List.mem_filter.mpr ⟨List.mem_of_getElem? (i := 263) (by decide +kernel), by decide +kernel⟩, qini_X8, ⟨by decide +kernel, by decide +kernel, by decide +kernel⟩, by decide +kernel⟩, List.mem_filter.mpr ⟨List.mem_of_getElem? (i := 262) (by decide +kernel), by decide +kernel⟩⟩
theorem oX8_layAt : SOk kX8_layAt 3 := ⟨⟨List.mem_filter.mpr ⟨List.mem_of_getElem? (i := 43) (by decide +kernel), by decide +kernel⟩, qini_X8, ⟨by decide +kernel, by decide +kernel, by decide +kernel⟩, by decide +kernel⟩, List.mem_filter.mpr ⟨List.mem_of_getElem? (i := 42) (by decide +kernel), by decide +kernel⟩⟩
theorem oX8_copyRow : SOk kX8_copyRow 2 := ⟨⟨List.mem_filter.mpr ⟨List.mem_of_getElem? (i := 339) (by decide +kernel), by decide +kernel⟩, qini_X8, ⟨by decide +kernel, by decide +kernel, by decide +kernel⟩, by decide +kernel⟩, List.mem_filter.mpr ⟨List.mem_of_getElem? (i := 338) (by decide +kernel), by decide +kernel⟩⟩
theorem oL_low : SOk kL_low 2 := ⟨⟨List.mem_filter.mpr ⟨List.mem_of_getElem? (i := 315) (by decide +kernel), by decide +kernel⟩, qini_L, ⟨by decide +kernel, by decide +kernel, by decide +kernel⟩, by decide +kernel⟩, List.mem_filter.mpr ⟨List.mem_of_getElem? (i := 314) (by decide +kernel), by decide +kernel⟩⟩
theorem oL_cell : SOk kL_cell 2 := ⟨⟨List.mem_filter.mpr ⟨List.mem_of_getElem? (i := 311) (by decide +kernel), by decide +kernel⟩, qini_L, ⟨by decide +kernel, by decide +kernel, by decide +kernel⟩, by decide +kernel⟩, List.mem_filter.mpr ⟨List.mem_of_getElem? (i := 310) (by decide +kernel), by decide +kernel⟩⟩
theorem oL_act : SOk kL_act 3 := ⟨⟨List.mem_filter.mpr ⟨List.mem_of_getElem? (i := 308) (by decide +kernel), by decide +kernel⟩, qini_L, ⟨by decide +kernel, by decide +kernel, by decide +kernel⟩, by decide +kernel⟩, List.mem_filter.mpr ⟨List.mem_of_getElem? (i := 307) (by decide +kernel), by decide +kernel⟩⟩
theorem oL_feed : SOk kL_feed 1 := ⟨⟨List.mem_filter.mpr ⟨List.mem_of_getElem? (i := 552) (by decide +kernel), by decide +kernel⟩, qini_L, ⟨by decide +kernel, by decide +kernel, by decide +kernel⟩, by decide +kernel⟩, List.mem_filter.mpr ⟨List.mem_of_getElem? (i := 551) (by decide +kernel), by decide +kernel⟩⟩
theorem oL_readers : SOk kL_readers 1 := ⟨⟨List.mem_filter.mpr ⟨List.mem_of_getElem? (i := 574) (by decide +kernel), by decide +kernel⟩, qini_L, ⟨by decide +kernel, by decide +kernel, by decide +kernel⟩, by decide +kernel⟩, List.mem_filter.mpr ⟨List.mem_of_getElem? (i := 573) (by decide +kernel), by decide +kernel⟩⟩
theorem qoi_inst : Cond.instanceMethod objectInit ∈ lwT := List.mem_filter.mpr ⟨List.mem_of_getElem? (i := 23) (by decide +kernel), by decide +kernel⟩
theorem qoi_code : Cond.code objectInit ⟨#[0xb1]⟩ 1 none ∈ lwT := List.mem_filter.mpr ⟨List.mem_of_getElem? (i := 24) (by decide +kernel), by decide +kernel⟩
theorem qmax_st : Cond.static Lib.Math.max.name ∈ lwT := List.mem_filter.mpr ⟨List.mem_of_getElem? (i := 538) (by decide +kernel), by decide +kernel⟩
theorem qmax_code : Cond.code Lib.Math.max.name Lib.Math.max.code 2 (some .int) ∈ lwT := List.mem_filter.mpr ⟨List.mem_of_getElem? (i := 539) (by decide +kernel), by decide +kernel⟩
theorem qmin_st : Cond.static Lib.Math.min.name ∈ lwT := List.mem_filter.mpr ⟨List.mem_of_getElem? (i := 447) (by decide +kernel), by decide +kernel⟩
theorem qmin_code : Cond.code Lib.Math.min.name Lib.Math.min.code 2 (some .int) ∈ lwT := List.mem_filter.mpr ⟨List.mem_of_getElem? (i := 448) (by decide +kernel), by decide +kernel⟩
