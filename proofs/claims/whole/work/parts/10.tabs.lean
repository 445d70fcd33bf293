theorem mm0 (i : Nat) {w : Cond} (h : (k2_sels lw_privs)[i]? = some w) (hg : goodWord w = true) : w ∈ gT := gT_mem (List.mem_append_left _ (List.mem_of_getElem? h)) hg
theorem mm1 (i : Nat) {w : Cond} (h : tables_1_1[i]? = some w) (hg : goodWord w = true) : w ∈ gT := gT_mem (List.mem_append_right _ (List.mem_append_left _ (List.mem_of_getElem? h))) hg
theorem mm2 (i : Nat) {w : Cond} (h : tables_1_2[i]? = some w) (hg : goodWord w = true) : w ∈ gT := gT_mem (List.mem_append_right _ (List.mem_append_right _ (List.mem_append_left _ (List.mem_of_getElem? h)))) hg
theorem mm3 (i : Nat) {w : Cond} (h : tables_1_3[i]? = some w) (hg : goodWord w = true) : w ∈ gT := gT_mem (List.mem_append_right _ (List.mem_append_right _ (List.mem_append_right _ (List.mem_append_left _ (List.mem_of_getElem? h))))) hg
theorem mm4 (i : Nat) {w : Cond} (h : tables_1_4[i]? = some w) (hg : goodWord w = true) : w ∈ gT := gT_mem (List.mem_append_right _ (List.mem_append_right _ (List.mem_append_right _ (List.mem_append_right _ (List.mem_append_left _ (List.mem_of_getElem? h)))))) hg
theorem mm5 (i : Nat) {w : Cond} (h : tables_1_5[i]? = some w) (hg : goodWord w = true) : w ∈ gT := gT_mem (List.mem_append_right _ (List.mem_append_right _ (List.mem_append_right _ (List.mem_append_right _ (List.mem_append_right _ (List.mem_append_left _ (List.mem_of_getElem? h))))))) hg
theorem mm6 (i : Nat) {w : Cond} (h : tables_1_6[i]? = some w) (hg : goodWord w = true) : w ∈ gT := gT_mem (List.mem_append_right _ (List.mem_append_right _ (List.mem_append_right _ (List.mem_append_right _ (List.mem_append_right _ (List.mem_append_right _ (List.mem_append_left _ (List.mem_of_getElem? h)))))))) hg
theorem mm7 (i : Nat) {w : Cond} (h : tables_1_7[i]? = some w) (hg : goodWord w = true) : w ∈ gT := gT_mem (List.mem_append_right _ (List.mem_append_right _ (List.mem_append_right _ (List.mem_append_right _ (List.mem_append_right _ (List.mem_append_right _ (List.mem_append_right _ (List.mem_of_getElem? h)))))))) hg
/-- a virtual call's words -/
def CV (own : String) (idx ci : Nat) (y : MethodName) (cy : ByteArray) (nLy : Nat) (rety : Option FieldType) (n : Nat) : Prop := COK own idx y cy nLy rety n ∧ Cond.instanceMethod y ∈ gT ∧ Cond.selects y.cls y y ∈ gT ∧ ∃ T N, vwCl[ci]? = some (y.cls, T, N)
/-- a static call's -/
def CS (own : String) (idx : Nat) (y : MethodName) (cy : ByteArray) (nLy : Nat) (rety : Option FieldType) (n : Nat) : Prop := COK own idx y cy nLy rety n ∧ Cond.static y ∈ gT
/-- a constructor's -/
def CI (own : String) (idx : Nat) (y : MethodName) (cy : ByteArray) (nLy : Nat) (n : Nat) : Prop := COK own idx y cy nLy none n ∧ Cond.instanceMethod y ∈ gT ∧ y.name = "<init>"
theorem tw_167 : Cond.arrayClass .int ∈ gT := mm1 98 rfl rfl
theorem tw_139 : Cond.arrayClass .long ∈ gT := mm1 70 rfl rfl
theorem tw_113 : Cond.arrayClass .byte ∈ gT := mm1 44 rfl rfl
theorem tw_1162 : Cond.arrayClass .boolean ∈ gT := mm5 133 rfl rfl
theorem tw_92 : Cond.instanceMethod Lib.objectInit ∈ gT := mm1 23 rfl rfl
theorem tw_93 : Cond.code Lib.objectInit ⟨#[0xb1]⟩ 1 none ∈ gT := mm1 24 rfl rfl
theorem tw_285 : Cond.lays RX0 "MahlerBox$Circle" "mark" "J" ∈ gT := mm1 216 rfl rfl
theorem tw_283 : Cond.lays RX0 "MahlerBox$Circle" "top" "I" ∈ gT := mm1 214 rfl rfl
theorem tw_281 : Cond.laysFinal RX0 "MahlerBox$Circle" "quotient" "[J" ∈ gT := mm1 212 rfl rfl
theorem tw_279 : Cond.laysFinal RX0 "MahlerBox$Circle" "rest" "[J" ∈ gT := mm1 210 rfl rfl
theorem tw_277 : Cond.laysFinal RX0 "MahlerBox$Circle" "left" "[J" ∈ gT := mm1 208 rfl rfl
theorem tw_275 : Cond.laysFinal RX0 "MahlerBox$Circle" "marks" "[J" ∈ gT := mm1 206 rfl rfl
theorem tw_273 : Cond.laysFinal RX0 "MahlerBox$Circle" "divisors" "[LMahlerBox$Poly;" ∈ gT := mm1 204 rfl rfl
theorem tw_381 : Cond.laysFinal RX1 "MahlerBox$Found" "entries" "[I" ∈ gT := mm2 72 rfl rfl
theorem tw_379 : Cond.laysFinal RX1 "MahlerBox$Found" "kept" "I" ∈ gT := mm2 70 rfl rfl
theorem tw_377 : Cond.laysFinal RX1 "MahlerBox$Found" "ones" "I" ∈ gT := mm2 68 rfl rfl
theorem tw_375 : Cond.laysFinal RX1 "MahlerBox$Found" "looked" "I" ∈ gT := mm2 66 rfl rfl
theorem tw_373 : Cond.laysFinal RX1 "MahlerBox$Found" "inAll" "I" ∈ gT := mm2 64 rfl rfl
theorem tw_371 : Cond.laysFinal RX1 "MahlerBox$Found" "degree" "I" ∈ gT := mm2 62 rfl rfl
theorem tw_215 : Cond.lays RX2 "MahlerBox$Gauge" "bestLevel" "I" ∈ gT := mm1 146 rfl rfl
theorem tw_213 : Cond.lays RX2 "MahlerBox$Gauge" "bestBound" "I" ∈ gT := mm1 144 rfl rfl
theorem tw_211 : Cond.laysFinal RX2 "MahlerBox$Gauge" "two" "LMahlerBox$Whole;" ∈ gT := mm1 142 rfl rfl
theorem tw_209 : Cond.laysFinal RX2 "MahlerBox$Gauge" "one" "LMahlerBox$Whole;" ∈ gT := mm1 140 rfl rfl
theorem tw_207 : Cond.laysFinal RX2 "MahlerBox$Gauge" "bound" "LMahlerBox$Whole;" ∈ gT := mm1 138 rfl rfl
theorem tw_205 : Cond.laysFinal RX2 "MahlerBox$Gauge" "size" "LMahlerBox$Whole;" ∈ gT := mm1 136 rfl rfl
theorem tw_203 : Cond.laysFinal RX2 "MahlerBox$Gauge" "ways" "[[I" ∈ gT := mm1 134 rfl rfl
theorem tw_201 : Cond.laysFinal RX2 "MahlerBox$Gauge" "thousands" "[LMahlerBox$Whole;" ∈ gT := mm1 132 rfl rfl
theorem tw_324 : Cond.lays RX3 "MahlerBox$Hunt" "ones" "I" ∈ gT := mm2 15 rfl rfl
theorem tw_322 : Cond.lays RX3 "MahlerBox$Hunt" "looked" "I" ∈ gT := mm2 13 rfl rfl
theorem tw_320 : Cond.lays RX3 "MahlerBox$Hunt" "inAll" "I" ∈ gT := mm2 11 rfl rfl
theorem tw_318 : Cond.lays RX3 "MahlerBox$Hunt" "level" "I" ∈ gT := mm2 9 rfl rfl
theorem tw_316 : Cond.lays RX3 "MahlerBox$Hunt" "height" "I" ∈ gT := mm2 7 rfl rfl
theorem tw_314 : Cond.lays RX3 "MahlerBox$Hunt" "degree" "I" ∈ gT := mm2 5 rfl rfl
theorem tw_312 : Cond.laysFinal RX3 "MahlerBox$Hunt" "entries" "[I" ∈ gT := mm2 3 rfl rfl
theorem tw_310 : Cond.laysFinal RX3 "MahlerBox$Hunt" "row" "[J" ∈ gT := mm2 1 rfl rfl
theorem tw_308 : Cond.laysFinal RX3 "MahlerBox$Hunt" "squares" "LMahlerBox$Whole;" ∈ gT := mm1 239 rfl rfl
theorem tw_306 : Cond.laysFinal RX3 "MahlerBox$Hunt" "limits" "[LMahlerBox$Whole;" ∈ gT := mm1 237 rfl rfl
theorem tw_136 : Cond.lays RX4 "MahlerBox$Ladder" "top" "I" ∈ gT := mm1 67 rfl rfl
theorem tw_134 : Cond.lays RX4 "MahlerBox$Ladder" "degree" "I" ∈ gT := mm1 65 rfl rfl
theorem tw_132 : Cond.laysFinal RX4 "MahlerBox$Ladder" "rows" "[[J" ∈ gT := mm1 63 rfl rfl
theorem tw_343 : Cond.lays RX5 "MahlerBox$Past" "size" "I" ∈ gT := mm2 34 rfl rfl
theorem tw_341 : Cond.laysFinal RX5 "MahlerBox$Past" "kinds" "[I" ∈ gT := mm2 32 rfl rfl
theorem tw_339 : Cond.laysFinal RX5 "MahlerBox$Past" "shelves" "[LMahlerBox$Shelf;" ∈ gT := mm2 30 rfl rfl
theorem tw_248 : Cond.laysFinal RX6 "MahlerBox$Poly" "at" "[I" ∈ gT := mm1 179 rfl rfl
theorem tw_246 : Cond.laysFinal RX6 "MahlerBox$Poly" "degree" "I" ∈ gT := mm1 177 rfl rfl
theorem tw_389 : Cond.laysFinal RX7 "MahlerBox$Shelf" "found" "LMahlerBox$Found;" ∈ gT := mm2 80 rfl rfl
theorem tw_387 : Cond.laysFinal RX7 "MahlerBox$Shelf" "polys" "[LMahlerBox$Poly;" ∈ gT := mm2 78 rfl rfl
theorem tw_110 : Cond.lays RX8 "MahlerBox$Tape" "place" "I" ∈ gT := mm1 41 rfl rfl
theorem tw_108 : Cond.lays RX8 "MahlerBox$Tape" "length" "I" ∈ gT := mm1 39 rfl rfl
theorem tw_106 : Cond.laysFinal RX8 "MahlerBox$Tape" "bytes" "[B" ∈ gT := mm1 37 rfl rfl
theorem tw_164 : Cond.lays RX10 "MahlerBox$Whole" "length" "I" ∈ gT := mm1 95 rfl rfl
theorem tw_162 : Cond.laysFinal RX10 "MahlerBox$Whole" "digits" "[J" ∈ gT := mm1 93 rfl rfl
theorem tw_429 : Cond.lays RX11 "MahlerBox" "lastRefusal" "I" ∈ gT := mm2 120 rfl rfl
theorem tw_427 : Cond.lays RX11 "MahlerBox" "lastFault" "I" ∈ gT := mm2 118 rfl rfl
theorem tw_425 : Cond.lays RX11 "MahlerBox" "shelf" "LMahlerBox$Shelf;" ∈ gT := mm2 116 rfl rfl
theorem tw_423 : Cond.laysFinal RX11 "MahlerBox" "refusals" "[I" ∈ gT := mm2 114 rfl rfl
theorem tw_421 : Cond.laysFinal RX11 "MahlerBox" "spare" "[J" ∈ gT := mm2 112 rfl rfl
theorem tw_419 : Cond.laysFinal RX11 "MahlerBox" "row" "[J" ∈ gT := mm2 110 rfl rfl
theorem tw_417 : Cond.laysFinal RX11 "MahlerBox" "images" "[LMahlerBox$Shelf;" ∈ gT := mm2 108 rfl rfl
theorem tw_415 : Cond.laysFinal RX11 "MahlerBox" "past" "LMahlerBox$Past;" ∈ gT := mm2 106 rfl rfl
theorem tw_413 : Cond.laysFinal RX11 "MahlerBox" "hunt" "LMahlerBox$Hunt;" ∈ gT := mm2 104 rfl rfl
theorem tw_411 : Cond.laysFinal RX11 "MahlerBox" "circle" "LMahlerBox$Circle;" ∈ gT := mm2 102 rfl rfl
theorem tw_409 : Cond.laysFinal RX11 "MahlerBox" "gauge" "LMahlerBox$Gauge;" ∈ gT := mm2 100 rfl rfl
theorem tw_407 : Cond.laysFinal RX11 "MahlerBox" "ladder" "LMahlerBox$Ladder;" ∈ gT := mm2 98 rfl rfl
theorem tw_405 : Cond.laysFinal RX11 "MahlerBox" "band" "LMahlerBox$Tape;" ∈ gT := mm2 96 rfl rfl
theorem tw_1159 : Cond.laysFinal RX12 "MahlerBoxModel" "highs" "[I" ∈ gT := mm5 130 rfl rfl
theorem tw_1157 : Cond.laysFinal RX12 "MahlerBoxModel" "lows" "[I" ∈ gT := mm5 128 rfl rfl
theorem tw_1155 : Cond.laysFinal RX12 "MahlerBoxModel" "bound" "[I" ∈ gT := mm5 126 rfl rfl
theorem tw_1153 : Cond.laysFinal RX12 "MahlerBoxModel" "box" "[I" ∈ gT := mm5 124 rfl rfl
theorem tw_1151 : Cond.lays RX12 "MahlerBoxModel" "isGood" "Z" ∈ gT := mm5 122 rfl rfl
theorem tw_1149 : Cond.lays RX12 "MahlerBoxModel" "reading" "I" ∈ gT := mm5 120 rfl rfl
theorem tw_1147 : Cond.lays RX12 "MahlerBoxModel" "fault" "I" ∈ gT := mm5 118 rfl rfl
theorem tw_1145 : Cond.lays RX12 "MahlerBoxModel" "taped" "I" ∈ gT := mm5 116 rfl rfl
theorem tw_1143 : Cond.laysFinal RX12 "MahlerBoxModel" "tape" "[B" ∈ gT := mm5 114 rfl rfl
theorem tw_1141 : Cond.laysFinal RX12 "MahlerBoxModel" "thousandMany" "[I" ∈ gT := mm5 112 rfl rfl
theorem tw_1139 : Cond.laysFinal RX12 "MahlerBoxModel" "thousand" "[J" ∈ gT := mm5 110 rfl rfl
theorem tw_1137 : Cond.laysFinal RX12 "MahlerBoxModel" "many" "[I" ∈ gT := mm5 108 rfl rfl
theorem tw_1135 : Cond.laysFinal RX12 "MahlerBoxModel" "digits" "[J" ∈ gT := mm5 106 rfl rfl
theorem tw_1133 : Cond.lays RX12 "MahlerBoxModel" "isBeyond" "Z" ∈ gT := mm5 104 rfl rfl
theorem tw_1131 : Cond.lays RX12 "MahlerBoxModel" "best" "I" ∈ gT := mm5 102 rfl rfl
theorem tw_1129 : Cond.lays RX12 "MahlerBoxModel" "levelDegree" "I" ∈ gT := mm5 100 rfl rfl
theorem tw_1127 : Cond.laysFinal RX12 "MahlerBoxModel" "levels" "[J" ∈ gT := mm5 98 rfl rfl
theorem tw_1125 : Cond.laysFinal RX12 "MahlerBoxModel" "circle" "[I" ∈ gT := mm5 96 rfl rfl
theorem tw_1123 : Cond.laysFinal RX12 "MahlerBoxModel" "rest" "[J" ∈ gT := mm5 94 rfl rfl
theorem tw_1121 : Cond.laysFinal RX12 "MahlerBoxModel" "quotient" "[J" ∈ gT := mm5 92 rfl rfl
theorem tw_1119 : Cond.lays RX12 "MahlerBoxModel" "divisorDegree" "I" ∈ gT := mm5 90 rfl rfl
theorem tw_1117 : Cond.laysFinal RX12 "MahlerBoxModel" "divisor" "[J" ∈ gT := mm5 88 rfl rfl
theorem tw_1115 : Cond.lays RX12 "MahlerBoxModel" "degree" "I" ∈ gT := mm5 86 rfl rfl
theorem tw_1113 : Cond.laysFinal RX12 "MahlerBoxModel" "hand" "[J" ∈ gT := mm5 84 rfl rfl
theorem tw_1111 : Cond.laysFinal RX12 "MahlerBoxModel" "isKept" "[Z" ∈ gT := mm5 82 rfl rfl
theorem tw_1109 : Cond.laysFinal RX12 "MahlerBoxModel" "images" "[I" ∈ gT := mm5 80 rfl rfl
theorem tw_1107 : Cond.lays RX12 "MahlerBoxModel" "nUndo" "I" ∈ gT := mm5 78 rfl rfl
theorem tw_1105 : Cond.laysFinal RX12 "MahlerBoxModel" "sorts" "[I" ∈ gT := mm5 76 rfl rfl
theorem tw_1103 : Cond.laysFinal RX12 "MahlerBoxModel" "undos" "[I" ∈ gT := mm5 74 rfl rfl
theorem tw_1101 : Cond.laysFinal RX12 "MahlerBoxModel" "row" "[I" ∈ gT := mm5 72 rfl rfl
theorem tw_1099 : Cond.laysFinal RX12 "MahlerBoxModel" "refusals" "[I" ∈ gT := mm5 70 rfl rfl
theorem tw_1097 : Cond.lays RX12 "MahlerBoxModel" "status" "I" ∈ gT := mm5 68 rfl rfl
theorem tw_1095 : Cond.lays RX12 "MahlerBoxModel" "thrown" "I" ∈ gT := mm5 66 rfl rfl
theorem tw_86 : Cond.classLink RL 7 "MahlerBox" ∈ gT := mm1 17 rfl rfl
theorem tw_87 : Cond.instantiable RX11 13 ∈ gT := mm1 18 rfl rfl
theorem tw_70 : Cond.initialized RX11 ∈ gT := mm1 1 rfl rfl
theorem tw_88 : Cond.methodLink RL 9 yX11_init ∈ gT := mm1 19 rfl rfl
theorem tw_90 : Cond.code yX11_init cX11_init 1 none ∈ gT := mm1 21 rfl rfl
theorem tw_89 : Cond.instanceMethod yX11_init ∈ gT := mm1 20 rfl rfl
theorem tw_91 : Cond.methodLink RX11 3 Lib.objectInit ∈ gT := mm1 22 rfl rfl
theorem tw_94 : Cond.classLink RX11 9 "MahlerBox$Tape" ∈ gT := mm1 25 rfl rfl
theorem tw_95 : Cond.instantiable RX8 3 ∈ gT := mm1 26 rfl rfl
theorem tw_71 : Cond.initialized RX8 ∈ gT := mm1 2 rfl rfl
theorem tw_98 : Cond.code yX8_init cX8_init 1 none ∈ gT := mm1 29 rfl rfl
theorem tw_97 : Cond.instanceMethod yX8_init ∈ gT := mm1 28 rfl rfl
theorem tw_99 : Cond.methodLink RX8 3 Lib.objectInit ∈ gT := mm1 30 rfl rfl
theorem tw_100 : Cond.fieldLink RX8 11 "MahlerBox$Tape" "bytes" "[B" ∈ gT := mm1 31 rfl rfl
theorem tw_101 : Cond.fieldLink RX8 15 "MahlerBox$Tape" "length" "I" ∈ gT := mm1 32 rfl rfl
theorem tw_102 : Cond.fieldLink RX11 88 "MahlerBox$Tape" "length" "I" ∈ gT := mm1 33 rfl rfl
theorem tw_103 : Cond.fieldLink RX9 34 "MahlerBox$Tape" "length" "I" ∈ gT := mm1 34 rfl rfl
theorem tw_104 : Cond.fieldLink RX8 19 "MahlerBox$Tape" "place" "I" ∈ gT := mm1 35 rfl rfl
theorem tw_105 : Cond.fieldLink RX9 15 "MahlerBox$Tape" "place" "I" ∈ gT := mm1 36 rfl rfl
theorem tw_114 : Cond.classLink RX11 16 "MahlerBox$Ladder" ∈ gT := mm1 45 rfl rfl
theorem tw_115 : Cond.instantiable RX4 3 ∈ gT := mm1 46 rfl rfl
theorem tw_72 : Cond.initialized RX4 ∈ gT := mm1 3 rfl rfl
theorem tw_118 : Cond.code yX4_init cX4_init 1 none ∈ gT := mm1 49 rfl rfl
theorem tw_117 : Cond.instanceMethod yX4_init ∈ gT := mm1 48 rfl rfl
theorem tw_119 : Cond.methodLink RX4 3 Lib.objectInit ∈ gT := mm1 50 rfl rfl
theorem tw_120 : Cond.classLink RX4 9 "[[J" ∈ gT := mm1 51 rfl rfl
theorem tw_122 : Cond.fieldLink RX4 11 "MahlerBox$Ladder" "rows" "[[J" ∈ gT := mm1 53 rfl rfl
theorem tw_123 : Cond.fieldLink RX2 55 "MahlerBox$Ladder" "rows" "[[J" ∈ gT := mm1 54 rfl rfl
theorem tw_124 : Cond.fieldLink RX3 97 "MahlerBox$Ladder" "rows" "[[J" ∈ gT := mm1 55 rfl rfl
theorem tw_125 : Cond.fieldLink RX11 283 "MahlerBox$Ladder" "rows" "[[J" ∈ gT := mm1 56 rfl rfl
theorem tw_126 : Cond.fieldLink RX4 16 "MahlerBox$Ladder" "degree" "I" ∈ gT := mm1 57 rfl rfl
theorem tw_127 : Cond.fieldLink RX2 61 "MahlerBox$Ladder" "degree" "I" ∈ gT := mm1 58 rfl rfl
theorem tw_128 : Cond.fieldLink RX11 282 "MahlerBox$Ladder" "degree" "I" ∈ gT := mm1 59 rfl rfl
theorem tw_129 : Cond.fieldLink RX4 20 "MahlerBox$Ladder" "top" "I" ∈ gT := mm1 60 rfl rfl
theorem tw_130 : Cond.fieldLink RX2 99 "MahlerBox$Ladder" "top" "I" ∈ gT := mm1 61 rfl rfl
theorem tw_131 : Cond.fieldLink RX3 108 "MahlerBox$Ladder" "top" "I" ∈ gT := mm1 62 rfl rfl
theorem tw_140 : Cond.classLink RX11 23 "MahlerBox$Gauge" ∈ gT := mm1 71 rfl rfl
theorem tw_141 : Cond.instantiable RX2 8 ∈ gT := mm1 72 rfl rfl
theorem tw_73 : Cond.initialized RX2 ∈ gT := mm1 4 rfl rfl
theorem tw_142 : Cond.methodLink RX11 25 yX2_init ∈ gT := mm1 73 rfl rfl
theorem tw_144 : Cond.code yX2_init cX2_init 4 none ∈ gT := mm1 75 rfl rfl
theorem tw_143 : Cond.instanceMethod yX2_init ∈ gT := mm1 74 rfl rfl
theorem tw_145 : Cond.methodLink RX2 5 Lib.objectInit ∈ gT := mm1 76 rfl rfl
theorem tw_146 : Cond.classLink RX2 1 "MahlerBox$Whole" ∈ gT := mm1 77 rfl rfl
theorem tw_150 : Cond.instantiable RX10 2 ∈ gT := mm1 81 rfl rfl
theorem tw_74 : Cond.initialized RX10 ∈ gT := mm1 5 rfl rfl
theorem tw_148 : Cond.classLink RX2 17 "[[I" ∈ gT := mm1 79 rfl rfl
theorem tw_151 : Cond.methodLink RX2 22 yX10_init ∈ gT := mm1 82 rfl rfl
theorem tw_153 : Cond.code yX10_init cX10_init 2 none ∈ gT := mm1 84 rfl rfl
theorem tw_152 : Cond.instanceMethod yX10_init ∈ gT := mm1 83 rfl rfl
theorem tw_154 : Cond.methodLink RX10 3 Lib.objectInit ∈ gT := mm1 85 rfl rfl
theorem tw_155 : Cond.methodLink RX10 13 yJ9_max_7cf53 ∈ gT := mm1 86 rfl rfl
theorem tw_75 : Cond.initialized RJ9 ∈ gT := mm1 6 rfl rfl
theorem tw_157 : Cond.code yJ9_max_7cf53 cJ9_max_7cf53 2 (some .int) ∈ gT := mm1 88 rfl rfl
theorem tw_156 : Cond.static yJ9_max_7cf53 ∈ gT := mm1 87 rfl rfl
theorem tw_158 : Cond.fieldLink RX10 19 "MahlerBox$Whole" "digits" "[J" ∈ gT := mm1 89 rfl rfl
theorem tw_159 : Cond.fieldLink RX2 128 "MahlerBox$Whole" "digits" "[J" ∈ gT := mm1 90 rfl rfl
theorem tw_160 : Cond.fieldLink RX10 9 "MahlerBox$Whole" "length" "I" ∈ gT := mm1 91 rfl rfl
theorem tw_161 : Cond.fieldLink RX2 48 "MahlerBox$Whole" "length" "I" ∈ gT := mm1 92 rfl rfl
theorem tw_168 : Cond.methodLink RX2 45 yX10_setSmall ∈ gT := mm1 99 rfl rfl
theorem tw_171 : Cond.code yX10_setSmall cX10_setSmall 2 none ∈ gT := mm1 102 rfl rfl
theorem tw_169 : Cond.instanceMethod yX10_setSmall ∈ gT := mm1 100 rfl rfl
theorem tw_170 : Cond.selects RX10 yX10_setSmall yX10_setSmall ∈ gT := mm1 101 rfl rfl
theorem tw_172 : Cond.constantLong RX10 23 (268435455) ∈ gT := mm1 103 rfl rfl
theorem tw_173 : Cond.methodLink RX2 51 yX10_setSquare ∈ gT := mm1 104 rfl rfl
theorem tw_176 : Cond.code yX10_setSquare cX10_setSquare 8 none ∈ gT := mm1 107 rfl rfl
theorem tw_174 : Cond.instanceMethod yX10_setSquare ∈ gT := mm1 105 rfl rfl
theorem tw_175 : Cond.selects RX10 yX10_setSquare yX10_setSquare ∈ gT := mm1 106 rfl rfl
theorem tw_177 : Cond.methodLink RX10 25 yJ9_min_7cf53 ∈ gT := mm1 108 rfl rfl
theorem tw_179 : Cond.code yJ9_min_7cf53 cJ9_min_7cf53 2 (some .int) ∈ gT := mm1 110 rfl rfl
theorem tw_178 : Cond.static yJ9_min_7cf53 ∈ gT := mm1 109 rfl rfl
theorem tw_180 : Cond.methodLink RX10 38 yJ7_fill_bad5a ∈ gT := mm1 111 rfl rfl
theorem tw_76 : Cond.initialized RJ7 ∈ gT := mm1 7 rfl rfl
theorem tw_182 : Cond.code yJ7_fill_bad5a cJ7_fill_bad5a 6 none ∈ gT := mm1 113 rfl rfl
theorem tw_181 : Cond.static yJ7_fill_bad5a ∈ gT := mm1 112 rfl rfl
theorem tw_183 : Cond.methodLink RJ7 13 yJ7_rangeCheck_23922 ∈ gT := mm1 114 rfl rfl
theorem tw_185 : Cond.code yJ7_rangeCheck_23922 cJ7_rangeCheck_23922 3 none ∈ gT := mm1 116 rfl rfl
theorem tw_184 : Cond.static yJ7_rangeCheck_23922 ∈ gT := mm1 115 rfl rfl
theorem tw_186 : Cond.constantLong RX10 44 (2) ∈ gT := mm1 117 rfl rfl
theorem tw_187 : Cond.methodLink RX10 28 yX10_carry ∈ gT := mm1 118 rfl rfl
theorem tw_190 : Cond.code yX10_carry cX10_carry 7 none ∈ gT := mm1 121 rfl rfl
theorem tw_189 : Cond.instanceMethod yX10_carry ∈ gT := mm1 120 rfl rfl
theorem tw_0 : Cond.selects RX10 yX10_carry yX10_carry ∈ gT := mm0 0 rfl rfl
theorem tw_191 : Cond.fieldLink RX2 11 "MahlerBox$Gauge" "thousands" "[LMahlerBox$Whole;" ∈ gT := mm1 122 rfl rfl
theorem tw_192 : Cond.fieldLink RX2 19 "MahlerBox$Gauge" "ways" "[[I" ∈ gT := mm1 123 rfl rfl
theorem tw_193 : Cond.fieldLink RX2 25 "MahlerBox$Gauge" "size" "LMahlerBox$Whole;" ∈ gT := mm1 124 rfl rfl
theorem tw_194 : Cond.fieldLink RX2 29 "MahlerBox$Gauge" "bound" "LMahlerBox$Whole;" ∈ gT := mm1 125 rfl rfl
theorem tw_195 : Cond.fieldLink RX2 32 "MahlerBox$Gauge" "one" "LMahlerBox$Whole;" ∈ gT := mm1 126 rfl rfl
theorem tw_196 : Cond.fieldLink RX2 35 "MahlerBox$Gauge" "two" "LMahlerBox$Whole;" ∈ gT := mm1 127 rfl rfl
theorem tw_197 : Cond.fieldLink RX2 38 "MahlerBox$Gauge" "bestBound" "I" ∈ gT := mm1 128 rfl rfl
theorem tw_198 : Cond.fieldLink RX11 301 "MahlerBox$Gauge" "bestBound" "I" ∈ gT := mm1 129 rfl rfl
theorem tw_199 : Cond.fieldLink RX2 42 "MahlerBox$Gauge" "bestLevel" "I" ∈ gT := mm1 130 rfl rfl
theorem tw_200 : Cond.fieldLink RX11 304 "MahlerBox$Gauge" "bestLevel" "I" ∈ gT := mm1 131 rfl rfl
theorem tw_218 : Cond.classLink RX11 30 "MahlerBox$Circle" ∈ gT := mm1 149 rfl rfl
theorem tw_219 : Cond.instantiable RX0 7 ∈ gT := mm1 150 rfl rfl
theorem tw_77 : Cond.initialized RX0 ∈ gT := mm1 8 rfl rfl
theorem tw_220 : Cond.methodLink RX11 32 yX0_init ∈ gT := mm1 151 rfl rfl
theorem tw_222 : Cond.code yX0_init cX0_init 3 none ∈ gT := mm1 153 rfl rfl
theorem tw_221 : Cond.instanceMethod yX0_init ∈ gT := mm1 152 rfl rfl
theorem tw_223 : Cond.methodLink RX0 3 Lib.objectInit ∈ gT := mm1 154 rfl rfl
theorem tw_224 : Cond.classLink RX0 9 "MahlerBox$Poly" ∈ gT := mm1 155 rfl rfl
theorem tw_230 : Cond.instantiable RX6 2 ∈ gT := mm1 161 rfl rfl
theorem tw_78 : Cond.initialized RX6 ∈ gT := mm1 9 rfl rfl
theorem tw_226 : Cond.methodLink RX0 38 yX0_put ∈ gT := mm1 157 rfl rfl
theorem tw_229 : Cond.code yX0_put cX0_put 3 none ∈ gT := mm1 160 rfl rfl
theorem tw_228 : Cond.instanceMethod yX0_put ∈ gT := mm1 159 rfl rfl
theorem tw_1 : Cond.selects RX0 yX0_put yX0_put ∈ gT := mm0 1 rfl rfl
theorem tw_231 : Cond.methodLink RX0 97 yX6_init ∈ gT := mm1 162 rfl rfl
theorem tw_233 : Cond.code yX6_init cX6_init 4 none ∈ gT := mm1 164 rfl rfl
theorem tw_232 : Cond.instanceMethod yX6_init ∈ gT := mm1 163 rfl rfl
theorem tw_234 : Cond.methodLink RX6 3 Lib.objectInit ∈ gT := mm1 165 rfl rfl
theorem tw_235 : Cond.methodLink RX6 9 yJ9_min_7cf53 ∈ gT := mm1 166 rfl rfl
theorem tw_236 : Cond.methodLink RX6 15 yJ9_max_7cf53 ∈ gT := mm1 167 rfl rfl
theorem tw_237 : Cond.fieldLink RX6 18 "MahlerBox$Poly" "degree" "I" ∈ gT := mm1 168 rfl rfl
theorem tw_238 : Cond.fieldLink RX4 29 "MahlerBox$Poly" "degree" "I" ∈ gT := mm1 169 rfl rfl
theorem tw_239 : Cond.fieldLink RX0 50 "MahlerBox$Poly" "degree" "I" ∈ gT := mm1 170 rfl rfl
theorem tw_240 : Cond.fieldLink RX9 55 "MahlerBox$Poly" "degree" "I" ∈ gT := mm1 171 rfl rfl
theorem tw_241 : Cond.fieldLink RX7 32 "MahlerBox$Poly" "degree" "I" ∈ gT := mm1 172 rfl rfl
theorem tw_242 : Cond.fieldLink RX11 132 "MahlerBox$Poly" "degree" "I" ∈ gT := mm1 173 rfl rfl
theorem tw_243 : Cond.fieldLink RX6 24 "MahlerBox$Poly" "at" "[I" ∈ gT := mm1 174 rfl rfl
theorem tw_244 : Cond.fieldLink RX9 58 "MahlerBox$Poly" "at" "[I" ∈ gT := mm1 175 rfl rfl
theorem tw_245 : Cond.fieldLink RX11 139 "MahlerBox$Poly" "at" "[I" ∈ gT := mm1 176 rfl rfl
theorem tw_251 : Cond.methodLink RX0 53 yX0_markOf ∈ gT := mm1 182 rfl rfl
theorem tw_253 : Cond.code yX0_markOf cX0_markOf 5 (some .long) ∈ gT := mm1 184 rfl rfl
theorem tw_252 : Cond.static yX0_markOf ∈ gT := mm1 183 rfl rfl
theorem tw_254 : Cond.constantLong RX0 100 (4) ∈ gT := mm1 185 rfl rfl
theorem tw_255 : Cond.methodLink RX0 42 yX0_writeCyclotomic ∈ gT := mm1 186 rfl rfl
theorem tw_258 : Cond.code yX0_writeCyclotomic cX0_writeCyclotomic 6 (some .int) ∈ gT := mm1 189 rfl rfl
theorem tw_257 : Cond.instanceMethod yX0_writeCyclotomic ∈ gT := mm1 188 rfl rfl
theorem tw_2 : Cond.selects RX0 yX0_writeCyclotomic yX0_writeCyclotomic ∈ gT := mm0 2 rfl rfl
theorem tw_259 : Cond.methodLink RX0 83 yJ7_fill_d0a16 ∈ gT := mm1 190 rfl rfl
theorem tw_261 : Cond.code yJ7_fill_d0a16 cJ7_fill_d0a16 5 none ∈ gT := mm1 192 rfl rfl
theorem tw_260 : Cond.static yJ7_fill_d0a16 ∈ gT := mm1 191 rfl rfl
theorem tw_262 : Cond.constantLong RX0 102 (-1) ∈ gT := mm1 193 rfl rfl
theorem tw_263 : Cond.methodLink RX0 104 yX0_moebius ∈ gT := mm1 194 rfl rfl
theorem tw_265 : Cond.code yX0_moebius cX0_moebius 4 (some .int) ∈ gT := mm1 196 rfl rfl
theorem tw_264 : Cond.static yX0_moebius ∈ gT := mm1 195 rfl rfl
theorem tw_266 : Cond.fieldLink RX0 11 "MahlerBox$Circle" "divisors" "[LMahlerBox$Poly;" ∈ gT := mm1 197 rfl rfl
theorem tw_267 : Cond.fieldLink RX0 17 "MahlerBox$Circle" "marks" "[J" ∈ gT := mm1 198 rfl rfl
theorem tw_268 : Cond.fieldLink RX0 21 "MahlerBox$Circle" "left" "[J" ∈ gT := mm1 199 rfl rfl
theorem tw_269 : Cond.fieldLink RX0 24 "MahlerBox$Circle" "rest" "[J" ∈ gT := mm1 200 rfl rfl
theorem tw_270 : Cond.fieldLink RX0 27 "MahlerBox$Circle" "quotient" "[J" ∈ gT := mm1 201 rfl rfl
theorem tw_271 : Cond.fieldLink RX0 30 "MahlerBox$Circle" "top" "I" ∈ gT := mm1 202 rfl rfl
theorem tw_272 : Cond.fieldLink RX0 34 "MahlerBox$Circle" "mark" "J" ∈ gT := mm1 203 rfl rfl
theorem tw_288 : Cond.classLink RX11 37 "MahlerBox$Hunt" ∈ gT := mm1 219 rfl rfl
theorem tw_289 : Cond.instantiable RX3 10 ∈ gT := mm1 220 rfl rfl
theorem tw_79 : Cond.initialized RX3 ∈ gT := mm1 10 rfl rfl
theorem tw_290 : Cond.methodLink RX11 39 yX3_init ∈ gT := mm1 221 rfl rfl
theorem tw_292 : Cond.code yX3_init cX3_init 2 none ∈ gT := mm1 223 rfl rfl
theorem tw_291 : Cond.instanceMethod yX3_init ∈ gT := mm1 222 rfl rfl
theorem tw_293 : Cond.methodLink RX3 3 Lib.objectInit ∈ gT := mm1 224 rfl rfl
theorem tw_294 : Cond.classLink RX3 9 "MahlerBox$Whole" ∈ gT := mm1 225 rfl rfl
theorem tw_295 : Cond.methodLink RX3 17 yX10_init ∈ gT := mm1 226 rfl rfl
theorem tw_296 : Cond.fieldLink RX3 11 "MahlerBox$Hunt" "limits" "[LMahlerBox$Whole;" ∈ gT := mm1 227 rfl rfl
theorem tw_297 : Cond.fieldLink RX3 20 "MahlerBox$Hunt" "squares" "LMahlerBox$Whole;" ∈ gT := mm1 228 rfl rfl
theorem tw_298 : Cond.fieldLink RX3 24 "MahlerBox$Hunt" "row" "[J" ∈ gT := mm1 229 rfl rfl
theorem tw_299 : Cond.fieldLink RX3 30 "MahlerBox$Hunt" "entries" "[I" ∈ gT := mm1 230 rfl rfl
theorem tw_300 : Cond.fieldLink RX3 34 "MahlerBox$Hunt" "degree" "I" ∈ gT := mm1 231 rfl rfl
theorem tw_301 : Cond.fieldLink RX3 38 "MahlerBox$Hunt" "height" "I" ∈ gT := mm1 232 rfl rfl
theorem tw_302 : Cond.fieldLink RX3 41 "MahlerBox$Hunt" "level" "I" ∈ gT := mm1 233 rfl rfl
theorem tw_303 : Cond.fieldLink RX3 44 "MahlerBox$Hunt" "inAll" "I" ∈ gT := mm1 234 rfl rfl
theorem tw_304 : Cond.fieldLink RX3 47 "MahlerBox$Hunt" "looked" "I" ∈ gT := mm1 235 rfl rfl
theorem tw_305 : Cond.fieldLink RX3 50 "MahlerBox$Hunt" "ones" "I" ∈ gT := mm1 236 rfl rfl
theorem tw_327 : Cond.classLink RX11 44 "MahlerBox$Past" ∈ gT := mm2 18 rfl rfl
theorem tw_328 : Cond.instantiable RX5 3 ∈ gT := mm2 19 rfl rfl
theorem tw_80 : Cond.initialized RX5 ∈ gT := mm1 11 rfl rfl
theorem tw_331 : Cond.code yX5_init cX5_init 1 none ∈ gT := mm2 22 rfl rfl
theorem tw_330 : Cond.instanceMethod yX5_init ∈ gT := mm2 21 rfl rfl
theorem tw_332 : Cond.methodLink RX5 3 Lib.objectInit ∈ gT := mm2 23 rfl rfl
theorem tw_333 : Cond.classLink RX5 11 "MahlerBox$Shelf" ∈ gT := mm2 24 rfl rfl
theorem tw_347 : Cond.instantiable RX7 2 ∈ gT := mm2 38 rfl rfl
theorem tw_81 : Cond.initialized RX7 ∈ gT := mm1 12 rfl rfl
theorem tw_335 : Cond.fieldLink RX5 13 "MahlerBox$Past" "shelves" "[LMahlerBox$Shelf;" ∈ gT := mm2 26 rfl rfl
theorem tw_336 : Cond.fieldLink RX5 17 "MahlerBox$Past" "kinds" "[I" ∈ gT := mm2 27 rfl rfl
theorem tw_337 : Cond.fieldLink RX5 21 "MahlerBox$Past" "size" "I" ∈ gT := mm2 28 rfl rfl
theorem tw_338 : Cond.fieldLink RX11 218 "MahlerBox$Past" "size" "I" ∈ gT := mm2 29 rfl rfl
theorem tw_346 : Cond.classLink RX11 51 "MahlerBox$Shelf" ∈ gT := mm2 37 rfl rfl
theorem tw_348 : Cond.methodLink RX11 68 yX7_init ∈ gT := mm2 39 rfl rfl
theorem tw_350 : Cond.code yX7_init cX7_init 3 none ∈ gT := mm2 41 rfl rfl
theorem tw_349 : Cond.instanceMethod yX7_init ∈ gT := mm2 40 rfl rfl
theorem tw_351 : Cond.methodLink RX7 3 Lib.objectInit ∈ gT := mm2 42 rfl rfl
theorem tw_352 : Cond.classLink RX7 9 "MahlerBox$Poly" ∈ gT := mm2 43 rfl rfl
theorem tw_353 : Cond.methodLink RX7 17 yX6_init ∈ gT := mm2 44 rfl rfl
theorem tw_354 : Cond.classLink RX7 20 "MahlerBox$Found" ∈ gT := mm2 45 rfl rfl
theorem tw_355 : Cond.instantiable RX1 6 ∈ gT := mm2 46 rfl rfl
theorem tw_82 : Cond.initialized RX1 ∈ gT := mm1 13 rfl rfl
theorem tw_356 : Cond.methodLink RX7 22 yX1_init ∈ gT := mm2 47 rfl rfl
theorem tw_358 : Cond.code yX1_init cX1_init 6 none ∈ gT := mm2 49 rfl rfl
theorem tw_357 : Cond.instanceMethod yX1_init ∈ gT := mm2 48 rfl rfl
theorem tw_359 : Cond.methodLink RX1 1 Lib.objectInit ∈ gT := mm2 50 rfl rfl
theorem tw_360 : Cond.fieldLink RX1 7 "MahlerBox$Found" "degree" "I" ∈ gT := mm2 51 rfl rfl
theorem tw_361 : Cond.fieldLink RX11 324 "MahlerBox$Found" "degree" "I" ∈ gT := mm2 52 rfl rfl
theorem tw_362 : Cond.fieldLink RX1 13 "MahlerBox$Found" "inAll" "I" ∈ gT := mm2 53 rfl rfl
theorem tw_363 : Cond.fieldLink RX11 204 "MahlerBox$Found" "inAll" "I" ∈ gT := mm2 54 rfl rfl
theorem tw_364 : Cond.fieldLink RX1 16 "MahlerBox$Found" "looked" "I" ∈ gT := mm2 55 rfl rfl
theorem tw_365 : Cond.fieldLink RX11 337 "MahlerBox$Found" "looked" "I" ∈ gT := mm2 56 rfl rfl
theorem tw_366 : Cond.fieldLink RX1 19 "MahlerBox$Found" "ones" "I" ∈ gT := mm2 57 rfl rfl
theorem tw_367 : Cond.fieldLink RX11 340 "MahlerBox$Found" "ones" "I" ∈ gT := mm2 58 rfl rfl
theorem tw_368 : Cond.fieldLink RX1 26 "MahlerBox$Found" "kept" "I" ∈ gT := mm2 59 rfl rfl
theorem tw_369 : Cond.fieldLink RX11 328 "MahlerBox$Found" "kept" "I" ∈ gT := mm2 60 rfl rfl
theorem tw_370 : Cond.fieldLink RX1 22 "MahlerBox$Found" "entries" "[I" ∈ gT := mm2 61 rfl rfl
theorem tw_384 : Cond.fieldLink RX7 11 "MahlerBox$Shelf" "polys" "[LMahlerBox$Poly;" ∈ gT := mm2 75 rfl rfl
theorem tw_385 : Cond.fieldLink RX7 25 "MahlerBox$Shelf" "found" "LMahlerBox$Found;" ∈ gT := mm2 76 rfl rfl
theorem tw_386 : Cond.fieldLink RX11 209 "MahlerBox$Shelf" "found" "LMahlerBox$Found;" ∈ gT := mm2 77 rfl rfl
theorem tw_392 : Cond.fieldLink RX11 12 "MahlerBox" "band" "LMahlerBox$Tape;" ∈ gT := mm2 83 rfl rfl
theorem tw_393 : Cond.fieldLink RX11 19 "MahlerBox" "ladder" "LMahlerBox$Ladder;" ∈ gT := mm2 84 rfl rfl
theorem tw_394 : Cond.fieldLink RX11 26 "MahlerBox" "gauge" "LMahlerBox$Gauge;" ∈ gT := mm2 85 rfl rfl
theorem tw_395 : Cond.fieldLink RX11 33 "MahlerBox" "circle" "LMahlerBox$Circle;" ∈ gT := mm2 86 rfl rfl
theorem tw_396 : Cond.fieldLink RX11 40 "MahlerBox" "hunt" "LMahlerBox$Hunt;" ∈ gT := mm2 87 rfl rfl
theorem tw_397 : Cond.fieldLink RX11 47 "MahlerBox" "past" "LMahlerBox$Past;" ∈ gT := mm2 88 rfl rfl
theorem tw_398 : Cond.fieldLink RX11 53 "MahlerBox" "images" "[LMahlerBox$Shelf;" ∈ gT := mm2 89 rfl rfl
theorem tw_399 : Cond.fieldLink RX11 57 "MahlerBox" "row" "[J" ∈ gT := mm2 90 rfl rfl
theorem tw_400 : Cond.fieldLink RX11 61 "MahlerBox" "spare" "[J" ∈ gT := mm2 91 rfl rfl
theorem tw_401 : Cond.fieldLink RX11 64 "MahlerBox" "refusals" "[I" ∈ gT := mm2 92 rfl rfl
theorem tw_402 : Cond.fieldLink RX11 69 "MahlerBox" "shelf" "LMahlerBox$Shelf;" ∈ gT := mm2 93 rfl rfl
theorem tw_403 : Cond.fieldLink RX11 73 "MahlerBox" "lastFault" "I" ∈ gT := mm2 94 rfl rfl
theorem tw_404 : Cond.fieldLink RX11 77 "MahlerBox" "lastRefusal" "I" ∈ gT := mm2 95 rfl rfl
theorem tw_432 : Cond.methodLink RL 13 yX11_feed ∈ gT := mm2 123 rfl rfl
theorem tw_435 : Cond.code yX11_feed cX11_feed 6 (some .int) ∈ gT := mm2 126 rfl rfl
theorem tw_433 : Cond.instanceMethod yX11_feed ∈ gT := mm2 124 rfl rfl
theorem tw_434 : Cond.selects RX11 yX11_feed yX11_feed ∈ gT := mm2 125 rfl rfl
theorem tw_436 : Cond.methodLink RX11 80 yX8_hasRoom ∈ gT := mm2 127 rfl rfl
theorem tw_439 : Cond.code yX8_hasRoom cX8_hasRoom 2 (some .boolean) ∈ gT := mm2 130 rfl rfl
theorem tw_437 : Cond.instanceMethod yX8_hasRoom ∈ gT := mm2 128 rfl rfl
theorem tw_438 : Cond.selects RX8 yX8_hasRoom yX8_hasRoom ∈ gT := mm2 129 rfl rfl
theorem tw_440 : Cond.methodLink RX11 84 yX8_addWord ∈ gT := mm2 131 rfl rfl
theorem tw_443 : Cond.code yX8_addWord cX8_addWord 3 none ∈ gT := mm2 134 rfl rfl
theorem tw_441 : Cond.instanceMethod yX8_addWord ∈ gT := mm2 132 rfl rfl
theorem tw_442 : Cond.selects RX8 yX8_addWord yX8_addWord ∈ gT := mm2 133 rfl rfl
theorem tw_444 : Cond.methodLink RX8 22 yX8_addByte ∈ gT := mm2 135 rfl rfl
theorem tw_447 : Cond.code yX8_addByte cX8_addByte 2 none ∈ gT := mm2 138 rfl rfl
theorem tw_445 : Cond.instanceMethod yX8_addByte ∈ gT := mm2 136 rfl rfl
theorem tw_446 : Cond.selects RX8 yX8_addByte yX8_addByte ∈ gT := mm2 137 rfl rfl
theorem tw_448 : Cond.methodLink RL 18 yX11_end ∈ gT := mm2 139 rfl rfl
theorem tw_451 : Cond.code yX11_end cX11_end 2 (some .int) ∈ gT := mm2 142 rfl rfl
theorem tw_449 : Cond.instanceMethod yX11_end ∈ gT := mm2 140 rfl rfl
theorem tw_450 : Cond.selects RX11 yX11_end yX11_end ∈ gT := mm2 141 rfl rfl
theorem tw_452 : Cond.methodLink RL 23 yX11_tape ∈ gT := mm2 143 rfl rfl
theorem tw_455 : Cond.code yX11_tape cX11_tape 2 (some .int) ∈ gT := mm2 146 rfl rfl
theorem tw_453 : Cond.instanceMethod yX11_tape ∈ gT := mm2 144 rfl rfl
theorem tw_454 : Cond.selects RX11 yX11_tape yX11_tape ∈ gT := mm2 145 rfl rfl
theorem tw_456 : Cond.methodLink RX11 91 yX8_byteAt ∈ gT := mm2 147 rfl rfl
theorem tw_459 : Cond.code yX8_byteAt cX8_byteAt 2 (some .int) ∈ gT := mm2 150 rfl rfl
theorem tw_457 : Cond.instanceMethod yX8_byteAt ∈ gT := mm2 148 rfl rfl
theorem tw_458 : Cond.selects RX8 yX8_byteAt yX8_byteAt ∈ gT := mm2 149 rfl rfl
theorem tw_460 : Cond.methodLink RL 27 yX11_read ∈ gT := mm2 151 rfl rfl
theorem tw_463 : Cond.code yX11_read cX11_read 2 (some .int) ∈ gT := mm2 154 rfl rfl
theorem tw_461 : Cond.instanceMethod yX11_read ∈ gT := mm2 152 rfl rfl
theorem tw_462 : Cond.selects RX11 yX11_read yX11_read ∈ gT := mm2 153 rfl rfl
theorem tw_464 : Cond.methodLink RX11 95 yX11_isPlace ∈ gT := mm2 155 rfl rfl
theorem tw_466 : Cond.code yX11_isPlace cX11_isPlace 1 (some .boolean) ∈ gT := mm2 157 rfl rfl
theorem tw_465 : Cond.static yX11_isPlace ∈ gT := mm2 156 rfl rfl
theorem tw_467 : Cond.methodLink RX11 98 yX11_refuse ∈ gT := mm2 158 rfl rfl
theorem tw_470 : Cond.code yX11_refuse cX11_refuse 3 (some .int) ∈ gT := mm2 161 rfl rfl
theorem tw_469 : Cond.instanceMethod yX11_refuse ∈ gT := mm2 160 rfl rfl
theorem tw_3 : Cond.selects RX11 yX11_refuse yX11_refuse ∈ gT := mm0 3 rfl rfl
theorem tw_471 : Cond.methodLink RX11 101 yX9_parse ∈ gT := mm2 162 rfl rfl
theorem tw_84 : Cond.initialized RX9 ∈ gT := mm1 15 rfl rfl
theorem tw_473 : Cond.code yX9_parse cX9_parse 6 (some .int) ∈ gT := mm2 164 rfl rfl
theorem tw_472 : Cond.static yX9_parse ∈ gT := mm2 163 rfl rfl
theorem tw_474 : Cond.methodLink RX9 9 yJ7_fill_d0a16 ∈ gT := mm2 165 rfl rfl
theorem tw_475 : Cond.methodLink RX9 21 yX8_skipBlanks ∈ gT := mm2 166 rfl rfl
theorem tw_478 : Cond.code yX8_skipBlanks cX8_skipBlanks 1 none ∈ gT := mm2 169 rfl rfl
theorem tw_476 : Cond.instanceMethod yX8_skipBlanks ∈ gT := mm2 167 rfl rfl
theorem tw_477 : Cond.selects RX8 yX8_skipBlanks yX8_skipBlanks ∈ gT := mm2 168 rfl rfl
theorem tw_479 : Cond.methodLink RX8 30 yX8_isAt ∈ gT := mm2 170 rfl rfl
theorem tw_482 : Cond.code yX8_isAt cX8_isAt 2 (some .boolean) ∈ gT := mm2 173 rfl rfl
theorem tw_480 : Cond.instanceMethod yX8_isAt ∈ gT := mm2 171 rfl rfl
theorem tw_481 : Cond.selects RX8 yX8_isAt yX8_isAt ∈ gT := mm2 172 rfl rfl
theorem tw_483 : Cond.methodLink RX8 26 yX8_byteAt ∈ gT := mm2 174 rfl rfl
theorem tw_484 : Cond.methodLink RX9 24 yX8_skips ∈ gT := mm2 175 rfl rfl
theorem tw_487 : Cond.code yX8_skips cX8_skips 3 (some .boolean) ∈ gT := mm2 178 rfl rfl
theorem tw_485 : Cond.instanceMethod yX8_skips ∈ gT := mm2 176 rfl rfl
theorem tw_486 : Cond.selects RX8 yX8_skips yX8_skips ∈ gT := mm2 177 rfl rfl
theorem tw_488 : Cond.methodLink RX9 28 yX9_parseTerm ∈ gT := mm2 179 rfl rfl
theorem tw_490 : Cond.code yX9_parseTerm cX9_parseTerm 7 (some .int) ∈ gT := mm2 181 rfl rfl
theorem tw_489 : Cond.static yX9_parseTerm ∈ gT := mm2 180 rfl rfl
theorem tw_491 : Cond.methodLink RX9 47 yX8_isAtDigit ∈ gT := mm2 182 rfl rfl
theorem tw_494 : Cond.code yX8_isAtDigit cX8_isAtDigit 1 (some .boolean) ∈ gT := mm2 185 rfl rfl
theorem tw_492 : Cond.instanceMethod yX8_isAtDigit ∈ gT := mm2 183 rfl rfl
theorem tw_493 : Cond.selects RX8 yX8_isAtDigit yX8_isAtDigit ∈ gT := mm2 184 rfl rfl
theorem tw_495 : Cond.methodLink RX9 51 yX8_takeNumber ∈ gT := mm2 186 rfl rfl
theorem tw_498 : Cond.code yX8_takeNumber cX8_takeNumber 2 (some .int) ∈ gT := mm2 189 rfl rfl
theorem tw_496 : Cond.instanceMethod yX8_takeNumber ∈ gT := mm2 187 rfl rfl
theorem tw_497 : Cond.selects RX8 yX8_takeNumber yX8_takeNumber ∈ gT := mm2 188 rfl rfl
theorem tw_499 : Cond.methodLink RX8 34 yX8_isAtDigit ∈ gT := mm2 190 rfl rfl
theorem tw_500 : Cond.methodLink RX8 38 yJ9_min_7cf53 ∈ gT := mm2 191 rfl rfl
theorem tw_501 : Cond.methodLink RX9 37 yX6_topOf ∈ gT := mm2 192 rfl rfl
theorem tw_503 : Cond.code yX6_topOf cX6_topOf 2 (some .int) ∈ gT := mm2 194 rfl rfl
theorem tw_502 : Cond.static yX6_topOf ∈ gT := mm2 193 rfl rfl
theorem tw_504 : Cond.methodLink RX9 43 yX6_canBeInStore ∈ gT := mm2 195 rfl rfl
theorem tw_506 : Cond.code yX6_canBeInStore cX6_canBeInStore 3 (some .boolean) ∈ gT := mm2 197 rfl rfl
theorem tw_505 : Cond.static yX6_canBeInStore ∈ gT := mm2 196 rfl rfl
theorem tw_507 : Cond.constantLong RX6 28 (9999) ∈ gT := mm2 198 rfl rfl
theorem tw_508 : Cond.constantLong RX6 30 (-9999) ∈ gT := mm2 199 rfl rfl
theorem tw_509 : Cond.methodLink RX11 107 yX11_putRow ∈ gT := mm2 200 rfl rfl
theorem tw_512 : Cond.code yX11_putRow cX11_putRow 4 (some .int) ∈ gT := mm2 203 rfl rfl
theorem tw_511 : Cond.instanceMethod yX11_putRow ∈ gT := mm2 202 rfl rfl
theorem tw_4 : Cond.selects RX11 yX11_putRow yX11_putRow ∈ gT := mm0 4 rfl rfl
theorem tw_513 : Cond.methodLink RX11 343 yX6_topOf ∈ gT := mm2 204 rfl rfl
theorem tw_514 : Cond.methodLink RX11 347 yX6_canBeInStore ∈ gT := mm2 205 rfl rfl
theorem tw_515 : Cond.classLink RX11 123 "MahlerBox$Poly" ∈ gT := mm2 206 rfl rfl
theorem tw_516 : Cond.methodLink RX11 351 yX6_init ∈ gT := mm2 207 rfl rfl
theorem tw_517 : Cond.methodLink RX11 354 yX7_withPoly ∈ gT := mm2 208 rfl rfl
theorem tw_520 : Cond.code yX7_withPoly cX7_withPoly 4 (some (.object "MahlerBox$Shelf")) ∈ gT := mm2 211 rfl rfl
theorem tw_518 : Cond.instanceMethod yX7_withPoly ∈ gT := mm2 209 rfl rfl
theorem tw_519 : Cond.selects RX7 yX7_withPoly yX7_withPoly ∈ gT := mm2 210 rfl rfl
theorem tw_521 : Cond.classLink RX7 12 "MahlerBox$Shelf" ∈ gT := mm2 212 rfl rfl
theorem tw_522 : Cond.methodLink RX7 29 yX7_init_ ∈ gT := mm2 213 rfl rfl
theorem tw_524 : Cond.code yX7_init_ cX7_init_ 4 none ∈ gT := mm2 215 rfl rfl
theorem tw_523 : Cond.instanceMethod yX7_init_ ∈ gT := mm2 214 rfl rfl
theorem tw_525 : Cond.methodLink RX11 200 yX11_moveOn ∈ gT := mm2 216 rfl rfl
theorem tw_528 : Cond.code yX11_moveOn cX11_moveOn 3 none ∈ gT := mm2 219 rfl rfl
theorem tw_527 : Cond.instanceMethod yX11_moveOn ∈ gT := mm2 218 rfl rfl
theorem tw_5 : Cond.selects RX11 yX11_moveOn yX11_moveOn ∈ gT := mm0 5 rfl rfl
theorem tw_529 : Cond.methodLink RX11 358 yX5_keep ∈ gT := mm2 220 rfl rfl
theorem tw_532 : Cond.code yX5_keep cX5_keep 4 none ∈ gT := mm2 223 rfl rfl
theorem tw_530 : Cond.instanceMethod yX5_keep ∈ gT := mm2 221 rfl rfl
theorem tw_531 : Cond.selects RX5 yX5_keep yX5_keep ∈ gT := mm2 222 rfl rfl
theorem tw_533 : Cond.methodLink RX11 119 yX11_accept ∈ gT := mm2 224 rfl rfl
theorem tw_536 : Cond.code yX11_accept cX11_accept 2 (some .int) ∈ gT := mm2 227 rfl rfl
theorem tw_535 : Cond.instanceMethod yX11_accept ∈ gT := mm2 226 rfl rfl
theorem tw_6 : Cond.selects RX11 yX11_accept yX11_accept ∈ gT := mm0 6 rfl rfl
theorem tw_537 : Cond.methodLink RL 31 yX11_fault ∈ gT := mm2 228 rfl rfl
theorem tw_540 : Cond.code yX11_fault cX11_fault 1 (some .int) ∈ gT := mm2 231 rfl rfl
theorem tw_538 : Cond.instanceMethod yX11_fault ∈ gT := mm2 229 rfl rfl
theorem tw_539 : Cond.selects RX11 yX11_fault yX11_fault ∈ gT := mm2 230 rfl rfl
theorem tw_541 : Cond.methodLink RL 36 yX11_listing ∈ gT := mm2 232 rfl rfl
theorem tw_544 : Cond.code yX11_listing cX11_listing 2 (some .int) ∈ gT := mm2 235 rfl rfl
theorem tw_542 : Cond.instanceMethod yX11_listing ∈ gT := mm2 233 rfl rfl
theorem tw_543 : Cond.selects RX11 yX11_listing yX11_listing ∈ gT := mm2 234 rfl rfl
theorem tw_545 : Cond.methodLink RX11 111 yX7_poly ∈ gT := mm2 236 rfl rfl
theorem tw_548 : Cond.code yX7_poly cX7_poly 2 (some (.object "MahlerBox$Poly")) ∈ gT := mm2 239 rfl rfl
theorem tw_546 : Cond.instanceMethod yX7_poly ∈ gT := mm2 237 rfl rfl
theorem tw_547 : Cond.selects RX7 yX7_poly yX7_poly ∈ gT := mm2 238 rfl rfl
theorem tw_549 : Cond.methodLink RX11 115 yX9_write ∈ gT := mm3 0 rfl rfl
theorem tw_551 : Cond.code yX9_write cX9_write 3 none ∈ gT := mm3 2 rfl rfl
theorem tw_550 : Cond.static yX9_write ∈ gT := mm3 1 rfl rfl
theorem tw_552 : Cond.methodLink RX9 62 yX9_writeTerm ∈ gT := mm3 3 rfl rfl
theorem tw_554 : Cond.code yX9_writeTerm cX9_writeTerm 4 none ∈ gT := mm3 5 rfl rfl
theorem tw_553 : Cond.static yX9_writeTerm ∈ gT := mm3 4 rfl rfl
theorem tw_555 : Cond.methodLink RX9 66 yJ9_abs_0f7a4 ∈ gT := mm3 6 rfl rfl
theorem tw_557 : Cond.code yJ9_abs_0f7a4 cJ9_abs_0f7a4 1 (some .int) ∈ gT := mm3 8 rfl rfl
theorem tw_556 : Cond.static yJ9_abs_0f7a4 ∈ gT := mm3 7 rfl rfl
theorem tw_558 : Cond.methodLink RX9 72 yX8_addByte ∈ gT := mm3 9 rfl rfl
theorem tw_559 : Cond.methodLink RX9 76 yX8_addNumber ∈ gT := mm3 10 rfl rfl
theorem tw_562 : Cond.code yX8_addNumber cX8_addNumber 3 none ∈ gT := mm3 13 rfl rfl
theorem tw_560 : Cond.instanceMethod yX8_addNumber ∈ gT := mm3 11 rfl rfl
theorem tw_561 : Cond.selects RX8 yX8_addNumber yX8_addNumber ∈ gT := mm3 12 rfl rfl
theorem tw_563 : Cond.methodLink RL 40 yX11_times ∈ gT := mm3 14 rfl rfl
theorem tw_566 : Cond.code yX11_times cX11_times 4 (some .int) ∈ gT := mm3 17 rfl rfl
theorem tw_564 : Cond.instanceMethod yX11_times ∈ gT := mm3 15 rfl rfl
theorem tw_565 : Cond.selects RX11 yX11_times yX11_times ∈ gT := mm3 16 rfl rfl
theorem tw_567 : Cond.methodLink RX11 122 yX6_writeProduct ∈ gT := mm3 18 rfl rfl
theorem tw_570 : Cond.code yX6_writeProduct cX6_writeProduct 5 none ∈ gT := mm3 21 rfl rfl
theorem tw_568 : Cond.instanceMethod yX6_writeProduct ∈ gT := mm3 19 rfl rfl
theorem tw_569 : Cond.selects RX6 yX6_writeProduct yX6_writeProduct ∈ gT := mm3 20 rfl rfl
theorem tw_571 : Cond.methodLink RX6 32 yJ7_fill_d0a16 ∈ gT := mm3 22 rfl rfl
theorem tw_572 : Cond.methodLink RL 45 yX11_by ∈ gT := mm3 23 rfl rfl
theorem tw_575 : Cond.code yX11_by cX11_by 5 (some .int) ∈ gT := mm3 26 rfl rfl
theorem tw_573 : Cond.instanceMethod yX11_by ∈ gT := mm3 24 rfl rfl
theorem tw_574 : Cond.selects RX11 yX11_by yX11_by ∈ gT := mm3 25 rfl rfl
theorem tw_576 : Cond.methodLink RX11 128 yX6_writeTo ∈ gT := mm3 27 rfl rfl
theorem tw_579 : Cond.code yX6_writeTo cX6_writeTo 3 none ∈ gT := mm3 30 rfl rfl
theorem tw_577 : Cond.instanceMethod yX6_writeTo ∈ gT := mm3 28 rfl rfl
theorem tw_578 : Cond.selects RX6 yX6_writeTo yX6_writeTo ∈ gT := mm3 29 rfl rfl
theorem tw_580 : Cond.methodLink RX11 135 yX6_divides ∈ gT := mm3 31 rfl rfl
theorem tw_583 : Cond.code yX6_divides cX6_divides 11 (some .boolean) ∈ gT := mm3 34 rfl rfl
theorem tw_581 : Cond.instanceMethod yX6_divides ∈ gT := mm3 32 rfl rfl
theorem tw_582 : Cond.selects RX6 yX6_divides yX6_divides ∈ gT := mm3 33 rfl rfl
theorem tw_584 : Cond.constantLong RX6 38 (1000000000) ∈ gT := mm3 35 rfl rfl
theorem tw_585 : Cond.constantLong RX6 40 (-1000000000) ∈ gT := mm3 36 rfl rfl
theorem tw_586 : Cond.methodLink RL 49 yX11_plus ∈ gT := mm3 37 rfl rfl
theorem tw_589 : Cond.code yX11_plus cX11_plus 7 (some .int) ∈ gT := mm3 40 rfl rfl
theorem tw_587 : Cond.instanceMethod yX11_plus ∈ gT := mm3 38 rfl rfl
theorem tw_588 : Cond.selects RX11 yX11_plus yX11_plus ∈ gT := mm3 39 rfl rfl
theorem tw_590 : Cond.methodLink RL 54 yX11_turn ∈ gT := mm3 41 rfl rfl
theorem tw_593 : Cond.code yX11_turn cX11_turn 5 (some .int) ∈ gT := mm3 44 rfl rfl
theorem tw_591 : Cond.instanceMethod yX11_turn ∈ gT := mm3 42 rfl rfl
theorem tw_592 : Cond.selects RX11 yX11_turn yX11_turn ∈ gT := mm3 43 rfl rfl
theorem tw_594 : Cond.methodLink RX11 142 yX6_writeTurned ∈ gT := mm3 45 rfl rfl
theorem tw_597 : Cond.code yX6_writeTurned cX6_writeTurned 4 none ∈ gT := mm3 48 rfl rfl
theorem tw_595 : Cond.instanceMethod yX6_writeTurned ∈ gT := mm3 46 rfl rfl
theorem tw_596 : Cond.selects RX6 yX6_writeTurned yX6_writeTurned ∈ gT := mm3 47 rfl rfl
theorem tw_598 : Cond.methodLink RX11 146 yJ7_fill_d0a16 ∈ gT := mm3 49 rfl rfl
theorem tw_599 : Cond.methodLink RX11 152 yX4_writesSquared ∈ gT := mm3 50 rfl rfl
theorem tw_601 : Cond.code yX4_writesSquared cX4_writesSquared 5 (some .boolean) ∈ gT := mm3 52 rfl rfl
theorem tw_600 : Cond.static yX4_writesSquared ∈ gT := mm3 51 rfl rfl
theorem tw_602 : Cond.constantLong RX4 53 (536870912) ∈ gT := mm3 53 rfl rfl
theorem tw_603 : Cond.constantLong RX4 55 (-536870912) ∈ gT := mm3 54 rfl rfl
theorem tw_604 : Cond.methodLink RX4 57 yX4_easySum ∈ gT := mm3 55 rfl rfl
theorem tw_606 : Cond.code yX4_easySum cX4_easySum 7 (some .long) ∈ gT := mm3 57 rfl rfl
theorem tw_605 : Cond.static yX4_easySum ∈ gT := mm3 56 rfl rfl
theorem tw_607 : Cond.methodLink RX4 34 yJ9_min_7cf53 ∈ gT := mm3 58 rfl rfl
theorem tw_608 : Cond.constantLong RX4 65 (2) ∈ gT := mm3 59 rfl rfl
theorem tw_609 : Cond.methodLink RX4 61 yX4_writesCarefulSum ∈ gT := mm3 60 rfl rfl
theorem tw_611 : Cond.code yX4_writesCarefulSum cX4_writesCarefulSum 12 (some .boolean) ∈ gT := mm3 62 rfl rfl
theorem tw_610 : Cond.static yX4_writesCarefulSum ∈ gT := mm3 61 rfl rfl
theorem tw_612 : Cond.methodLink RX4 40 yJ9_max_7cf53 ∈ gT := mm3 63 rfl rfl
theorem tw_613 : Cond.methodLink RX4 67 yX4_productFits ∈ gT := mm3 64 rfl rfl
theorem tw_615 : Cond.code yX4_productFits cX4_productFits 4 (some .boolean) ∈ gT := mm3 66 rfl rfl
theorem tw_614 : Cond.static yX4_productFits ∈ gT := mm3 65 rfl rfl
theorem tw_616 : Cond.constantLong RX4 77 (-1) ∈ gT := mm3 67 rfl rfl
theorem tw_617 : Cond.constantLong RX4 81 (-9223372036854775808) ∈ gT := mm3 68 rfl rfl
theorem tw_618 : Cond.methodLink RX4 71 yX4_differenceFits ∈ gT := mm3 69 rfl rfl
theorem tw_620 : Cond.code yX4_differenceFits cX4_differenceFits 6 (some .boolean) ∈ gT := mm3 71 rfl rfl
theorem tw_619 : Cond.static yX4_differenceFits ∈ gT := mm3 70 rfl rfl
theorem tw_621 : Cond.methodLink RX4 74 yX4_sumFits ∈ gT := mm3 72 rfl rfl
theorem tw_623 : Cond.code yX4_sumFits cX4_sumFits 6 (some .boolean) ∈ gT := mm3 74 rfl rfl
theorem tw_622 : Cond.static yX4_sumFits ∈ gT := mm3 73 rfl rfl
theorem tw_624 : Cond.methodLink RL 58 yX11_cyclotomic ∈ gT := mm3 75 rfl rfl
theorem tw_627 : Cond.code yX11_cyclotomic cX11_cyclotomic 4 (some .int) ∈ gT := mm3 78 rfl rfl
theorem tw_625 : Cond.instanceMethod yX11_cyclotomic ∈ gT := mm3 76 rfl rfl
theorem tw_626 : Cond.selects RX11 yX11_cyclotomic yX11_cyclotomic ∈ gT := mm3 77 rfl rfl
theorem tw_628 : Cond.methodLink RX11 155 yX0_divisor ∈ gT := mm3 79 rfl rfl
theorem tw_631 : Cond.code yX0_divisor cX0_divisor 2 (some (.object "MahlerBox$Poly")) ∈ gT := mm3 82 rfl rfl
theorem tw_629 : Cond.instanceMethod yX0_divisor ∈ gT := mm3 80 rfl rfl
theorem tw_630 : Cond.selects RX0 yX0_divisor yX0_divisor ∈ gT := mm3 81 rfl rfl
theorem tw_632 : Cond.methodLink RL 63 yX11_core ∈ gT := mm3 83 rfl rfl
theorem tw_635 : Cond.code yX11_core cX11_core 3 (some .int) ∈ gT := mm3 86 rfl rfl
theorem tw_633 : Cond.instanceMethod yX11_core ∈ gT := mm3 84 rfl rfl
theorem tw_634 : Cond.selects RX11 yX11_core yX11_core ∈ gT := mm3 85 rfl rfl
theorem tw_636 : Cond.methodLink RX11 158 yX0_begin ∈ gT := mm3 87 rfl rfl
theorem tw_639 : Cond.code yX0_begin cX0_begin 2 none ∈ gT := mm3 90 rfl rfl
theorem tw_637 : Cond.instanceMethod yX0_begin ∈ gT := mm3 88 rfl rfl
theorem tw_638 : Cond.selects RX0 yX0_begin yX0_begin ∈ gT := mm3 89 rfl rfl
theorem tw_640 : Cond.methodLink RX0 46 yX6_writeTo ∈ gT := mm3 91 rfl rfl
theorem tw_641 : Cond.methodLink RX11 162 yX0_divideAllOut ∈ gT := mm3 92 rfl rfl
theorem tw_644 : Cond.code yX0_divideAllOut cX0_divideAllOut 4 none ∈ gT := mm3 95 rfl rfl
theorem tw_642 : Cond.instanceMethod yX0_divideAllOut ∈ gT := mm3 93 rfl rfl
theorem tw_643 : Cond.selects RX0 yX0_divideAllOut yX0_divideAllOut ∈ gT := mm3 94 rfl rfl
theorem tw_645 : Cond.methodLink RX0 79 yX0_isDividedBy ∈ gT := mm3 96 rfl rfl
theorem tw_648 : Cond.code yX0_isDividedBy cX0_isDividedBy 3 (some .boolean) ∈ gT := mm3 99 rfl rfl
theorem tw_647 : Cond.instanceMethod yX0_isDividedBy ∈ gT := mm3 98 rfl rfl
theorem tw_7 : Cond.selects RX0 yX0_isDividedBy yX0_isDividedBy ∈ gT := mm0 7 rfl rfl
theorem tw_649 : Cond.methodLink RX0 89 yX0_divisor ∈ gT := mm3 100 rfl rfl
theorem tw_650 : Cond.methodLink RX0 66 (⟨"java/lang/System", "arraycopy", "(Ljava/lang/Object;ILjava/lang/Object;II)V"⟩ : MethodName) ∈ gT := mm3 101 rfl rfl
theorem tw_653 : Cond.methodLink RX0 93 yX6_divides ∈ gT := mm3 104 rfl rfl
theorem tw_654 : Cond.methodLink RX11 165 yX0_writeCore ∈ gT := mm3 105 rfl rfl
theorem tw_657 : Cond.code yX0_writeCore cX0_writeCore 4 none ∈ gT := mm3 108 rfl rfl
theorem tw_655 : Cond.instanceMethod yX0_writeCore ∈ gT := mm3 106 rfl rfl
theorem tw_656 : Cond.selects RX0 yX0_writeCore yX0_writeCore ∈ gT := mm3 107 rfl rfl
theorem tw_658 : Cond.methodLink RL 67 yX11_search ∈ gT := mm3 109 rfl rfl
theorem tw_661 : Cond.code yX11_search cX11_search 8 (some .int) ∈ gT := mm3 112 rfl rfl
theorem tw_659 : Cond.instanceMethod yX11_search ∈ gT := mm3 110 rfl rfl
theorem tw_660 : Cond.selects RX11 yX11_search yX11_search ∈ gT := mm3 111 rfl rfl
theorem tw_662 : Cond.methodLink RX11 168 yX11_isLevel ∈ gT := mm3 113 rfl rfl
theorem tw_664 : Cond.code yX11_isLevel cX11_isLevel 1 (some .boolean) ∈ gT := mm3 115 rfl rfl
theorem tw_663 : Cond.static yX11_isLevel ∈ gT := mm3 114 rfl rfl
theorem tw_665 : Cond.methodLink RX11 171 yX3_boxSize ∈ gT := mm3 116 rfl rfl
theorem tw_667 : Cond.code yX3_boxSize cX3_boxSize 4 (some .int) ∈ gT := mm3 118 rfl rfl
theorem tw_666 : Cond.static yX3_boxSize ∈ gT := mm3 117 rfl rfl
theorem tw_668 : Cond.methodLink RX11 174 yX3_begin ∈ gT := mm3 119 rfl rfl
theorem tw_671 : Cond.code yX3_begin cX3_begin 3 none ∈ gT := mm3 122 rfl rfl
theorem tw_669 : Cond.instanceMethod yX3_begin ∈ gT := mm3 120 rfl rfl
theorem tw_670 : Cond.selects RX3 yX3_begin yX3_begin ∈ gT := mm3 121 rfl rfl
theorem tw_672 : Cond.methodLink RX3 53 yJ9_min_7cf53 ∈ gT := mm3 123 rfl rfl
theorem tw_673 : Cond.methodLink RX3 59 yJ9_max_7cf53 ∈ gT := mm3 124 rfl rfl
theorem tw_674 : Cond.methodLink RX3 62 yJ7_fill_d0a16 ∈ gT := mm3 125 rfl rfl
theorem tw_675 : Cond.methodLink RX3 68 yJ7_fill_bad5a ∈ gT := mm3 126 rfl rfl
theorem tw_676 : Cond.methodLink RX3 71 yX3_putBoth ∈ gT := mm3 127 rfl rfl
theorem tw_679 : Cond.code yX3_putBoth cX3_putBoth 4 none ∈ gT := mm3 130 rfl rfl
theorem tw_678 : Cond.instanceMethod yX3_putBoth ∈ gT := mm3 129 rfl rfl
theorem tw_8 : Cond.selects RX3 yX3_putBoth yX3_putBoth ∈ gT := mm0 8 rfl rfl
theorem tw_680 : Cond.methodLink RX11 177 yX3_setLimits ∈ gT := mm3 131 rfl rfl
theorem tw_683 : Cond.code yX3_setLimits cX3_setLimits 5 none ∈ gT := mm3 134 rfl rfl
theorem tw_681 : Cond.instanceMethod yX3_setLimits ∈ gT := mm3 132 rfl rfl
theorem tw_682 : Cond.selects RX3 yX3_setLimits yX3_setLimits ∈ gT := mm3 133 rfl rfl
theorem tw_684 : Cond.methodLink RX3 75 yX2_setLimit ∈ gT := mm3 135 rfl rfl
theorem tw_687 : Cond.code yX2_setLimit cX2_setLimit 6 none ∈ gT := mm3 138 rfl rfl
theorem tw_685 : Cond.instanceMethod yX2_setLimit ∈ gT := mm3 136 rfl rfl
theorem tw_686 : Cond.selects RX2 yX2_setLimit yX2_setLimit ∈ gT := mm3 137 rfl rfl
theorem tw_688 : Cond.methodLink RX2 110 yX2_powerOf ∈ gT := mm3 139 rfl rfl
theorem tw_691 : Cond.code yX2_powerOf cX2_powerOf 7 (some (.object "MahlerBox$Whole")) ∈ gT := mm3 142 rfl rfl
theorem tw_690 : Cond.instanceMethod yX2_powerOf ∈ gT := mm3 141 rfl rfl
theorem tw_9 : Cond.selects RX2 yX2_powerOf yX2_powerOf ∈ gT := mm0 9 rfl rfl
theorem tw_692 : Cond.constant RX2 114 (1000000) ∈ gT := mm3 143 rfl rfl
theorem tw_693 : Cond.methodLink RX2 82 yX10_divide ∈ gT := mm3 144 rfl rfl
theorem tw_696 : Cond.code yX10_divide cX10_divide 7 none ∈ gT := mm3 147 rfl rfl
theorem tw_694 : Cond.instanceMethod yX10_divide ∈ gT := mm3 145 rfl rfl
theorem tw_695 : Cond.selects RX10 yX10_divide yX10_divide ∈ gT := mm3 146 rfl rfl
theorem tw_697 : Cond.methodLink RX2 115 yX10_setTo ∈ gT := mm3 148 rfl rfl
theorem tw_700 : Cond.code yX10_setTo cX10_setTo 2 none ∈ gT := mm3 151 rfl rfl
theorem tw_698 : Cond.instanceMethod yX10_setTo ∈ gT := mm3 149 rfl rfl
theorem tw_699 : Cond.selects RX10 yX10_setTo yX10_setTo ∈ gT := mm3 150 rfl rfl
theorem tw_701 : Cond.methodLink RX10 32 (⟨"java/lang/System", "arraycopy", "(Ljava/lang/Object;ILjava/lang/Object;II)V"⟩ : MethodName) ∈ gT := mm3 152 rfl rfl
theorem tw_702 : Cond.methodLink RX11 181 yX3_isFound ∈ gT := mm3 153 rfl rfl
theorem tw_705 : Cond.code yX3_isFound cX3_isFound 4 (some .boolean) ∈ gT := mm3 156 rfl rfl
theorem tw_703 : Cond.instanceMethod yX3_isFound ∈ gT := mm3 154 rfl rfl
theorem tw_704 : Cond.selects RX3 yX3_isFound yX3_isFound ∈ gT := mm3 155 rfl rfl
theorem tw_706 : Cond.methodLink RX3 81 yX0_beginRow ∈ gT := mm3 157 rfl rfl
theorem tw_709 : Cond.code yX0_beginRow cX0_beginRow 3 none ∈ gT := mm3 160 rfl rfl
theorem tw_707 : Cond.instanceMethod yX0_beginRow ∈ gT := mm3 158 rfl rfl
theorem tw_708 : Cond.selects RX0 yX0_beginRow yX0_beginRow ∈ gT := mm3 159 rfl rfl
theorem tw_710 : Cond.methodLink RX0 57 yJ9_min_7cf53 ∈ gT := mm3 161 rfl rfl
theorem tw_711 : Cond.methodLink RX0 63 yJ9_max_7cf53 ∈ gT := mm3 162 rfl rfl
theorem tw_712 : Cond.methodLink RX3 87 yX0_isOne ∈ gT := mm3 163 rfl rfl
theorem tw_715 : Cond.code yX0_isOne cX0_isOne 1 (some .boolean) ∈ gT := mm3 166 rfl rfl
theorem tw_713 : Cond.instanceMethod yX0_isOne ∈ gT := mm3 164 rfl rfl
theorem tw_714 : Cond.selects RX0 yX0_isOne yX0_isOne ∈ gT := mm3 165 rfl rfl
theorem tw_716 : Cond.methodLink RX0 72 yJ9_abs_067f4 ∈ gT := mm3 167 rfl rfl
theorem tw_718 : Cond.code yJ9_abs_067f4 cJ9_abs_067f4 2 (some .long) ∈ gT := mm3 169 rfl rfl
theorem tw_717 : Cond.static yJ9_abs_067f4 ∈ gT := mm3 168 rfl rfl
theorem tw_719 : Cond.methodLink RX0 76 yX0_divideAllOut ∈ gT := mm3 170 rfl rfl
theorem tw_720 : Cond.methodLink RX3 91 yX4_climbRow ∈ gT := mm3 171 rfl rfl
theorem tw_723 : Cond.code yX4_climbRow cX4_climbRow 4 (some .int) ∈ gT := mm3 174 rfl rfl
theorem tw_721 : Cond.instanceMethod yX4_climbRow ∈ gT := mm3 172 rfl rfl
theorem tw_722 : Cond.selects RX4 yX4_climbRow yX4_climbRow ∈ gT := mm3 173 rfl rfl
theorem tw_724 : Cond.methodLink RX4 43 (⟨"java/lang/System", "arraycopy", "(Ljava/lang/Object;ILjava/lang/Object;II)V"⟩ : MethodName) ∈ gT := mm3 175 rfl rfl
theorem tw_725 : Cond.methodLink RX4 30 yX4_climbFromFirst ∈ gT := mm3 176 rfl rfl
theorem tw_728 : Cond.code yX4_climbFromFirst cX4_climbFromFirst 2 (some .int) ∈ gT := mm3 179 rfl rfl
theorem tw_727 : Cond.instanceMethod yX4_climbFromFirst ∈ gT := mm3 178 rfl rfl
theorem tw_10 : Cond.selects RX4 yX4_climbFromFirst yX4_climbFromFirst ∈ gT := mm0 10 rfl rfl
theorem tw_729 : Cond.methodLink RX4 49 yX4_writesSquared ∈ gT := mm3 180 rfl rfl
theorem tw_730 : Cond.methodLink RX3 101 yX10_setSquares ∈ gT := mm3 181 rfl rfl
theorem tw_733 : Cond.code yX10_setSquares cX10_setSquares 12 none ∈ gT := mm3 184 rfl rfl
theorem tw_731 : Cond.instanceMethod yX10_setSquares ∈ gT := mm3 182 rfl rfl
theorem tw_732 : Cond.selects RX10 yX10_setSquares yX10_setSquares ∈ gT := mm3 183 rfl rfl
theorem tw_734 : Cond.methodLink RX10 46 yJ7_fill_d0a16 ∈ gT := mm3 185 rfl rfl
theorem tw_735 : Cond.methodLink RX10 49 yJ9_abs_067f4 ∈ gT := mm3 186 rfl rfl
theorem tw_736 : Cond.methodLink RX3 104 yX10_isAbove ∈ gT := mm3 187 rfl rfl
theorem tw_739 : Cond.code yX10_isAbove cX10_isAbove 3 (some .boolean) ∈ gT := mm3 190 rfl rfl
theorem tw_737 : Cond.instanceMethod yX10_isAbove ∈ gT := mm3 188 rfl rfl
theorem tw_738 : Cond.selects RX10 yX10_isAbove yX10_isAbove ∈ gT := mm3 189 rfl rfl
theorem tw_740 : Cond.methodLink RX11 185 yX3_keep ∈ gT := mm3 191 rfl rfl
theorem tw_743 : Cond.code yX3_keep cX3_keep 5 none ∈ gT := mm3 194 rfl rfl
theorem tw_741 : Cond.instanceMethod yX3_keep ∈ gT := mm3 192 rfl rfl
theorem tw_742 : Cond.selects RX3 yX3_keep yX3_keep ∈ gT := mm3 193 rfl rfl
theorem tw_744 : Cond.methodLink RX3 111 yX2_highBy ∈ gT := mm3 195 rfl rfl
theorem tw_747 : Cond.code yX2_highBy cX2_highBy 3 (some .int) ∈ gT := mm3 198 rfl rfl
theorem tw_745 : Cond.instanceMethod yX2_highBy ∈ gT := mm3 196 rfl rfl
theorem tw_746 : Cond.selects RX2 yX2_highBy yX2_highBy ∈ gT := mm3 197 rfl rfl
theorem tw_748 : Cond.methodLink RX2 89 yX10_setSquares ∈ gT := mm3 199 rfl rfl
theorem tw_749 : Cond.methodLink RX2 78 yX10_setProduct ∈ gT := mm3 200 rfl rfl
theorem tw_752 : Cond.code yX10_setProduct cX10_setProduct 9 none ∈ gT := mm3 203 rfl rfl
theorem tw_750 : Cond.instanceMethod yX10_setProduct ∈ gT := mm3 201 rfl rfl
theorem tw_751 : Cond.selects RX10 yX10_setProduct yX10_setProduct ∈ gT := mm3 202 rfl rfl
theorem tw_753 : Cond.methodLink RX2 93 yX10_lessOne ∈ gT := mm3 204 rfl rfl
theorem tw_756 : Cond.code yX10_lessOne cX10_lessOne 2 none ∈ gT := mm3 207 rfl rfl
theorem tw_754 : Cond.instanceMethod yX10_lessOne ∈ gT := mm3 205 rfl rfl
theorem tw_755 : Cond.selects RX10 yX10_lessOne yX10_lessOne ∈ gT := mm3 206 rfl rfl
theorem tw_757 : Cond.methodLink RX2 85 yX2_root ∈ gT := mm3 208 rfl rfl
theorem tw_760 : Cond.code yX2_root cX2_root 3 (some .int) ∈ gT := mm3 211 rfl rfl
theorem tw_759 : Cond.instanceMethod yX2_root ∈ gT := mm3 210 rfl rfl
theorem tw_11 : Cond.selects RX2 yX2_root yX2_root ∈ gT := mm0 11 rfl rfl
theorem tw_761 : Cond.methodLink RX2 118 yX2_guessRoot ∈ gT := mm3 212 rfl rfl
theorem tw_764 : Cond.code yX2_guessRoot cX2_guessRoot 7 (some .int) ∈ gT := mm3 215 rfl rfl
theorem tw_763 : Cond.instanceMethod yX2_guessRoot ∈ gT := mm3 214 rfl rfl
theorem tw_12 : Cond.selects RX2 yX2_guessRoot yX2_guessRoot ∈ gT := mm0 12 rfl rfl
theorem tw_765 : Cond.constantLong RX2 126 (17179869184) ∈ gT := mm3 216 rfl rfl
theorem tw_766 : Cond.constantLong RX2 132 (1152921504606846976) ∈ gT := mm3 217 rfl rfl
theorem tw_767 : Cond.methodLink RX2 134 yX2_squareRoot ∈ gT := mm3 218 rfl rfl
theorem tw_769 : Cond.code yX2_squareRoot cX2_squareRoot 7 (some .long) ∈ gT := mm3 220 rfl rfl
theorem tw_768 : Cond.static yX2_squareRoot ∈ gT := mm3 219 rfl rfl
theorem tw_770 : Cond.constantLong RX2 143 (2147483648) ∈ gT := mm3 221 rfl rfl
theorem tw_771 : Cond.constant RX2 121 (268435455) ∈ gT := mm3 222 rfl rfl
theorem tw_772 : Cond.constantLong RX2 137 (268435455) ∈ gT := mm3 223 rfl rfl
theorem tw_773 : Cond.methodLink RX2 139 yJ9_min_f86c9 ∈ gT := mm3 224 rfl rfl
theorem tw_775 : Cond.code yJ9_min_f86c9 cJ9_min_f86c9 4 (some .long) ∈ gT := mm3 226 rfl rfl
theorem tw_774 : Cond.static yJ9_min_f86c9 ∈ gT := mm3 225 rfl rfl
theorem tw_776 : Cond.methodLink RX2 122 yX10_isAbove ∈ gT := mm3 227 rfl rfl
theorem tw_777 : Cond.methodLink RX3 115 yX2_lowBy ∈ gT := mm3 228 rfl rfl
theorem tw_780 : Cond.code yX2_lowBy cX2_lowBy 6 (some .int) ∈ gT := mm3 231 rfl rfl
theorem tw_778 : Cond.instanceMethod yX2_lowBy ∈ gT := mm3 229 rfl rfl
theorem tw_779 : Cond.selects RX2 yX2_lowBy yX2_lowBy ∈ gT := mm3 230 rfl rfl
theorem tw_781 : Cond.methodLink RX2 64 yX2_greatestShare ∈ gT := mm3 232 rfl rfl
theorem tw_784 : Cond.code yX2_greatestShare cX2_greatestShare 16 (some .int) ∈ gT := mm3 235 rfl rfl
theorem tw_783 : Cond.instanceMethod yX2_greatestShare ∈ gT := mm3 234 rfl rfl
theorem tw_13 : Cond.selects RX2 yX2_greatestShare yX2_greatestShare ∈ gT := mm0 13 rfl rfl
theorem tw_785 : Cond.methodLink RX2 68 yJ9_abs_067f4 ∈ gT := mm3 236 rfl rfl
theorem tw_786 : Cond.methodLink RX2 74 yX10_setSize ∈ gT := mm3 237 rfl rfl
theorem tw_789 : Cond.code yX10_setSize cX10_setSize 5 none ∈ gT := mm4 0 rfl rfl
theorem tw_787 : Cond.instanceMethod yX10_setSize ∈ gT := mm3 238 rfl rfl
theorem tw_788 : Cond.selects RX10 yX10_setSize yX10_setSize ∈ gT := mm3 239 rfl rfl
theorem tw_790 : Cond.methodLink RX11 189 yX3_goOn ∈ gT := mm4 1 rfl rfl
theorem tw_793 : Cond.code yX3_goOn cX3_goOn 2 none ∈ gT := mm4 4 rfl rfl
theorem tw_791 : Cond.instanceMethod yX3_goOn ∈ gT := mm4 2 rfl rfl
theorem tw_792 : Cond.selects RX3 yX3_goOn yX3_goOn ∈ gT := mm4 3 rfl rfl
theorem tw_794 : Cond.methodLink RX11 192 yX3_told ∈ gT := mm4 5 rfl rfl
theorem tw_797 : Cond.code yX3_told cX3_told 2 (some (.object "MahlerBox$Found")) ∈ gT := mm4 8 rfl rfl
theorem tw_795 : Cond.instanceMethod yX3_told ∈ gT := mm4 6 rfl rfl
theorem tw_796 : Cond.selects RX3 yX3_told yX3_told ∈ gT := mm4 7 rfl rfl
theorem tw_798 : Cond.classLink RX3 28 "MahlerBox$Found" ∈ gT := mm4 9 rfl rfl
theorem tw_799 : Cond.methodLink RX3 118 yJ7_copyOf_59c91 ∈ gT := mm4 10 rfl rfl
theorem tw_801 : Cond.code yJ7_copyOf_59c91 cJ7_copyOf_59c91 3 (some (.array .int)) ∈ gT := mm4 12 rfl rfl
theorem tw_800 : Cond.static yJ7_copyOf_59c91 ∈ gT := mm4 11 rfl rfl
theorem tw_802 : Cond.methodLink RJ7 316 (⟨"[I", "clone", "()Ljava/lang/Object;"⟩ : MethodName) ∈ gT := mm4 13 rfl rfl
theorem tw_808 : Cond.classLink RJ7 317 "[I" ∈ gT := mm4 19 rfl rfl
theorem tw_809 : Cond.methodLink RJ7 304 yJ9_min_7cf53 ∈ gT := mm4 20 rfl rfl
theorem tw_810 : Cond.methodLink RJ7 150 (⟨"java/lang/System", "arraycopy", "(Ljava/lang/Object;ILjava/lang/Object;II)V"⟩ : MethodName) ∈ gT := mm4 21 rfl rfl
theorem tw_811 : Cond.methodLink RX3 122 yX1_init ∈ gT := mm4 22 rfl rfl
theorem tw_812 : Cond.methodLink RX11 196 yX7_withFound ∈ gT := mm4 23 rfl rfl
theorem tw_815 : Cond.code yX7_withFound cX7_withFound 2 (some (.object "MahlerBox$Shelf")) ∈ gT := mm4 26 rfl rfl
theorem tw_813 : Cond.instanceMethod yX7_withFound ∈ gT := mm4 24 rfl rfl
theorem tw_814 : Cond.selects RX7 yX7_withFound yX7_withFound ∈ gT := mm4 25 rfl rfl
theorem tw_816 : Cond.methodLink RL 71 yX11_take ∈ gT := mm4 27 rfl rfl
theorem tw_819 : Cond.code yX11_take cX11_take 3 (some .int) ∈ gT := mm4 30 rfl rfl
theorem tw_817 : Cond.instanceMethod yX11_take ∈ gT := mm4 28 rfl rfl
theorem tw_818 : Cond.selects RX11 yX11_take yX11_take ∈ gT := mm4 29 rfl rfl
theorem tw_820 : Cond.methodLink RX11 213 yX1_has ∈ gT := mm4 31 rfl rfl
theorem tw_823 : Cond.code yX1_has cX1_has 2 (some .boolean) ∈ gT := mm4 34 rfl rfl
theorem tw_821 : Cond.instanceMethod yX1_has ∈ gT := mm4 32 rfl rfl
theorem tw_822 : Cond.selects RX1 yX1_has yX1_has ∈ gT := mm4 33 rfl rfl
theorem tw_824 : Cond.methodLink RX11 216 yX1_writeTo ∈ gT := mm4 35 rfl rfl
theorem tw_827 : Cond.code yX1_writeTo cX1_writeTo 4 none ∈ gT := mm4 38 rfl rfl
theorem tw_825 : Cond.instanceMethod yX1_writeTo ∈ gT := mm4 36 rfl rfl
theorem tw_826 : Cond.selects RX1 yX1_writeTo yX1_writeTo ∈ gT := mm4 37 rfl rfl
theorem tw_828 : Cond.methodLink RX1 33 yJ7_fill_d0a16 ∈ gT := mm4 39 rfl rfl
theorem tw_829 : Cond.methodLink RX1 39 yX1_entry ∈ gT := mm4 40 rfl rfl
theorem tw_832 : Cond.code yX1_entry cX1_entry 3 (some .int) ∈ gT := mm4 43 rfl rfl
theorem tw_830 : Cond.instanceMethod yX1_entry ∈ gT := mm4 41 rfl rfl
theorem tw_831 : Cond.selects RX1 yX1_entry yX1_entry ∈ gT := mm4 42 rfl rfl
theorem tw_833 : Cond.methodLink RX1 29 yX1_has ∈ gT := mm4 44 rfl rfl
theorem tw_834 : Cond.methodLink RL 75 yX11_undo ∈ gT := mm4 45 rfl rfl
theorem tw_837 : Cond.code yX11_undo cX11_undo 2 (some .int) ∈ gT := mm4 48 rfl rfl
theorem tw_835 : Cond.instanceMethod yX11_undo ∈ gT := mm4 46 rfl rfl
theorem tw_836 : Cond.selects RX11 yX11_undo yX11_undo ∈ gT := mm4 47 rfl rfl
theorem tw_838 : Cond.methodLink RX11 221 yX5_latestKind ∈ gT := mm4 49 rfl rfl
theorem tw_841 : Cond.code yX5_latestKind cX5_latestKind 1 (some .int) ∈ gT := mm4 52 rfl rfl
theorem tw_839 : Cond.instanceMethod yX5_latestKind ∈ gT := mm4 50 rfl rfl
theorem tw_840 : Cond.selects RX5 yX5_latestKind yX5_latestKind ∈ gT := mm4 51 rfl rfl
theorem tw_842 : Cond.methodLink RX11 225 yX5_drop ∈ gT := mm4 53 rfl rfl
theorem tw_845 : Cond.code yX5_drop cX5_drop 3 (some (.object "MahlerBox$Shelf")) ∈ gT := mm4 56 rfl rfl
theorem tw_843 : Cond.instanceMethod yX5_drop ∈ gT := mm4 54 rfl rfl
theorem tw_844 : Cond.selects RX5 yX5_drop yX5_drop ∈ gT := mm4 55 rfl rfl
theorem tw_846 : Cond.methodLink RL 79 yX11_image ∈ gT := mm4 57 rfl rfl
theorem tw_849 : Cond.code yX11_image cX11_image 2 (some .int) ∈ gT := mm4 60 rfl rfl
theorem tw_847 : Cond.instanceMethod yX11_image ∈ gT := mm4 58 rfl rfl
theorem tw_848 : Cond.selects RX11 yX11_image yX11_image ∈ gT := mm4 59 rfl rfl
theorem tw_850 : Cond.methodLink RX11 229 yX7_degrees ∈ gT := mm4 61 rfl rfl
theorem tw_853 : Cond.code yX7_degrees cX7_degrees 3 (some .int) ∈ gT := mm4 64 rfl rfl
theorem tw_851 : Cond.instanceMethod yX7_degrees ∈ gT := mm4 62 rfl rfl
theorem tw_852 : Cond.selects RX7 yX7_degrees yX7_degrees ∈ gT := mm4 63 rfl rfl
theorem tw_854 : Cond.methodLink RL 83 yX11_back ∈ gT := mm4 65 rfl rfl
theorem tw_857 : Cond.code yX11_back cX11_back 3 (some .int) ∈ gT := mm4 68 rfl rfl
theorem tw_855 : Cond.instanceMethod yX11_back ∈ gT := mm4 66 rfl rfl
theorem tw_856 : Cond.selects RX11 yX11_back yX11_back ∈ gT := mm4 67 rfl rfl
theorem tw_858 : Cond.methodLink RX11 232 yX5_forget ∈ gT := mm4 69 rfl rfl
theorem tw_861 : Cond.code yX5_forget cX5_forget 2 none ∈ gT := mm4 72 rfl rfl
theorem tw_859 : Cond.instanceMethod yX5_forget ∈ gT := mm4 70 rfl rfl
theorem tw_860 : Cond.selects RX5 yX5_forget yX5_forget ∈ gT := mm4 71 rfl rfl
theorem tw_862 : Cond.methodLink RL 87 yX11_coefficient ∈ gT := mm4 73 rfl rfl
theorem tw_865 : Cond.code yX11_coefficient cX11_coefficient 3 (some .int) ∈ gT := mm4 76 rfl rfl
theorem tw_863 : Cond.instanceMethod yX11_coefficient ∈ gT := mm4 74 rfl rfl
theorem tw_864 : Cond.selects RX11 yX11_coefficient yX11_coefficient ∈ gT := mm4 75 rfl rfl
theorem tw_866 : Cond.methodLink RX11 235 yX11_isPower ∈ gT := mm4 77 rfl rfl
theorem tw_868 : Cond.code yX11_isPower cX11_isPower 1 (some .boolean) ∈ gT := mm4 79 rfl rfl
theorem tw_867 : Cond.static yX11_isPower ∈ gT := mm4 78 rfl rfl
theorem tw_869 : Cond.constant RX11 240 (-2147483648) ∈ gT := mm4 80 rfl rfl
theorem tw_870 : Cond.methodLink RX11 241 yX6_ofPower ∈ gT := mm4 81 rfl rfl
theorem tw_873 : Cond.code yX6_ofPower cX6_ofPower 2 (some .int) ∈ gT := mm4 84 rfl rfl
theorem tw_871 : Cond.instanceMethod yX6_ofPower ∈ gT := mm4 82 rfl rfl
theorem tw_872 : Cond.selects RX6 yX6_ofPower yX6_ofPower ∈ gT := mm4 83 rfl rfl
theorem tw_874 : Cond.methodLink RL 91 yX11_of ∈ gT := mm4 85 rfl rfl
theorem tw_877 : Cond.code yX11_of cX11_of 4 (some .int) ∈ gT := mm4 88 rfl rfl
theorem tw_875 : Cond.instanceMethod yX11_of ∈ gT := mm4 86 rfl rfl
theorem tw_876 : Cond.selects RX11 yX11_of yX11_of ∈ gT := mm4 87 rfl rfl
theorem tw_878 : Cond.methodLink RX11 244 yX6_sizes ∈ gT := mm4 89 rfl rfl
theorem tw_881 : Cond.code yX6_sizes cX6_sizes 3 (some .int) ∈ gT := mm4 92 rfl rfl
theorem tw_879 : Cond.instanceMethod yX6_sizes ∈ gT := mm4 90 rfl rfl
theorem tw_880 : Cond.selects RX6 yX6_sizes yX6_sizes ∈ gT := mm4 91 rfl rfl
theorem tw_882 : Cond.methodLink RX6 42 yJ9_abs_0f7a4 ∈ gT := mm4 93 rfl rfl
theorem tw_883 : Cond.methodLink RX11 247 yX6_greatestSize ∈ gT := mm4 94 rfl rfl
theorem tw_886 : Cond.code yX6_greatestSize cX6_greatestSize 3 (some .int) ∈ gT := mm4 97 rfl rfl
theorem tw_884 : Cond.instanceMethod yX6_greatestSize ∈ gT := mm4 95 rfl rfl
theorem tw_885 : Cond.selects RX6 yX6_greatestSize yX6_greatestSize ∈ gT := mm4 96 rfl rfl
theorem tw_887 : Cond.methodLink RX11 250 yX6_squares ∈ gT := mm4 98 rfl rfl
theorem tw_890 : Cond.code yX6_squares cX6_squares 3 (some .int) ∈ gT := mm4 101 rfl rfl
theorem tw_888 : Cond.instanceMethod yX6_squares ∈ gT := mm4 99 rfl rfl
theorem tw_889 : Cond.selects RX6 yX6_squares yX6_squares ∈ gT := mm4 100 rfl rfl
theorem tw_891 : Cond.methodLink RX11 253 yX6_isReciprocal ∈ gT := mm4 102 rfl rfl
theorem tw_894 : Cond.code yX6_isReciprocal cX6_isReciprocal 2 (some .boolean) ∈ gT := mm4 105 rfl rfl
theorem tw_892 : Cond.instanceMethod yX6_isReciprocal ∈ gT := mm4 103 rfl rfl
theorem tw_893 : Cond.selects RX6 yX6_isReciprocal yX6_isReciprocal ∈ gT := mm4 104 rfl rfl
theorem tw_895 : Cond.methodLink RX11 257 yX11_isMeasureOne ∈ gT := mm4 106 rfl rfl
theorem tw_898 : Cond.code yX11_isMeasureOne cX11_isMeasureOne 2 (some .boolean) ∈ gT := mm4 109 rfl rfl
theorem tw_897 : Cond.instanceMethod yX11_isMeasureOne ∈ gT := mm4 108 rfl rfl
theorem tw_14 : Cond.selects RX11 yX11_isMeasureOne yX11_isMeasureOne ∈ gT := mm0 14 rfl rfl
theorem tw_899 : Cond.methodLink RX11 360 yX0_isOne ∈ gT := mm4 110 rfl rfl
theorem tw_900 : Cond.methodLink RX11 261 yX6_terms ∈ gT := mm4 111 rfl rfl
theorem tw_903 : Cond.code yX6_terms cX6_terms 3 (some .int) ∈ gT := mm4 114 rfl rfl
theorem tw_901 : Cond.instanceMethod yX6_terms ∈ gT := mm4 112 rfl rfl
theorem tw_902 : Cond.selects RX6 yX6_terms yX6_terms ∈ gT := mm4 113 rfl rfl
theorem tw_904 : Cond.methodLink RX11 264 yX6_commonDivisor ∈ gT := mm4 115 rfl rfl
theorem tw_907 : Cond.code yX6_commonDivisor cX6_commonDivisor 3 (some .int) ∈ gT := mm4 118 rfl rfl
theorem tw_905 : Cond.instanceMethod yX6_commonDivisor ∈ gT := mm4 116 rfl rfl
theorem tw_906 : Cond.selects RX6 yX6_commonDivisor yX6_commonDivisor ∈ gT := mm4 117 rfl rfl
theorem tw_908 : Cond.methodLink RX6 46 yX6_commonOf ∈ gT := mm4 119 rfl rfl
theorem tw_910 : Cond.code yX6_commonOf cX6_commonOf 6 (some .int) ∈ gT := mm4 121 rfl rfl
theorem tw_909 : Cond.static yX6_commonOf ∈ gT := mm4 120 rfl rfl
theorem tw_911 : Cond.methodLink RX11 267 yX6_signChanges ∈ gT := mm4 122 rfl rfl
theorem tw_914 : Cond.code yX6_signChanges cX6_signChanges 4 (some .int) ∈ gT := mm4 125 rfl rfl
theorem tw_912 : Cond.instanceMethod yX6_signChanges ∈ gT := mm4 123 rfl rfl
theorem tw_913 : Cond.selects RX6 yX6_signChanges yX6_signChanges ∈ gT := mm4 124 rfl rfl
theorem tw_915 : Cond.methodLink RX11 270 yX4_climb ∈ gT := mm4 126 rfl rfl
theorem tw_918 : Cond.code yX4_climb cX4_climb 3 (some .int) ∈ gT := mm4 129 rfl rfl
theorem tw_916 : Cond.instanceMethod yX4_climb ∈ gT := mm4 127 rfl rfl
theorem tw_917 : Cond.selects RX4 yX4_climb yX4_climb ∈ gT := mm4 128 rfl rfl
theorem tw_919 : Cond.methodLink RX4 23 yX6_writeTo ∈ gT := mm4 130 rfl rfl
theorem tw_920 : Cond.methodLink RL 95 yX11_level ∈ gT := mm4 131 rfl rfl
theorem tw_923 : Cond.code yX11_level cX11_level 4 (some .long) ∈ gT := mm4 134 rfl rfl
theorem tw_921 : Cond.instanceMethod yX11_level ∈ gT := mm4 132 rfl rfl
theorem tw_922 : Cond.selects RX11 yX11_level yX11_level ∈ gT := mm4 133 rfl rfl
theorem tw_924 : Cond.methodLink RX11 274 yX11_standsOn ∈ gT := mm4 135 rfl rfl
theorem tw_927 : Cond.code yX11_standsOn cX11_standsOn 3 (some .boolean) ∈ gT := mm4 138 rfl rfl
theorem tw_926 : Cond.instanceMethod yX11_standsOn ∈ gT := mm4 137 rfl rfl
theorem tw_15 : Cond.selects RX11 yX11_standsOn yX11_standsOn ∈ gT := mm0 15 rfl rfl
theorem tw_928 : Cond.constantLong RX11 280 (-9223372036854775808) ∈ gT := mm4 139 rfl rfl
theorem tw_929 : Cond.methodLink RL 100 yX11_low ∈ gT := mm4 140 rfl rfl
theorem tw_932 : Cond.code yX11_low cX11_low 3 (some .int) ∈ gT := mm4 143 rfl rfl
theorem tw_930 : Cond.instanceMethod yX11_low ∈ gT := mm4 141 rfl rfl
theorem tw_931 : Cond.selects RX11 yX11_low yX11_low ∈ gT := mm4 142 rfl rfl
theorem tw_933 : Cond.methodLink RX11 287 yX2_lowBy ∈ gT := mm4 144 rfl rfl
theorem tw_934 : Cond.methodLink RL 104 yX11_high ∈ gT := mm4 145 rfl rfl
theorem tw_937 : Cond.code yX11_high cX11_high 3 (some .int) ∈ gT := mm4 148 rfl rfl
theorem tw_935 : Cond.instanceMethod yX11_high ∈ gT := mm4 146 rfl rfl
theorem tw_936 : Cond.selects RX11 yX11_high yX11_high ∈ gT := mm4 147 rfl rfl
theorem tw_938 : Cond.methodLink RX11 291 yX2_highBy ∈ gT := mm4 149 rfl rfl
theorem tw_939 : Cond.methodLink RL 108 yX11_enclosed ∈ gT := mm4 150 rfl rfl
theorem tw_942 : Cond.code yX11_enclosed cX11_enclosed 3 (some .int) ∈ gT := mm4 153 rfl rfl
theorem tw_940 : Cond.instanceMethod yX11_enclosed ∈ gT := mm4 151 rfl rfl
theorem tw_941 : Cond.selects RX11 yX11_enclosed yX11_enclosed ∈ gT := mm4 152 rfl rfl
theorem tw_943 : Cond.methodLink RX11 294 yX2_findGreatestLow ∈ gT := mm4 154 rfl rfl
theorem tw_946 : Cond.code yX2_findGreatestLow cX2_findGreatestLow 4 none ∈ gT := mm4 157 rfl rfl
theorem tw_944 : Cond.instanceMethod yX2_findGreatestLow ∈ gT := mm4 155 rfl rfl
theorem tw_945 : Cond.selects RX2 yX2_findGreatestLow yX2_findGreatestLow ∈ gT := mm4 156 rfl rfl
theorem tw_947 : Cond.constant RX2 98 (-2147483648) ∈ gT := mm4 158 rfl rfl
theorem tw_948 : Cond.methodLink RX2 102 yX2_lowBy ∈ gT := mm4 159 rfl rfl
theorem tw_949 : Cond.methodLink RX11 298 yX2_findLeastHigh ∈ gT := mm4 160 rfl rfl
theorem tw_952 : Cond.code yX2_findLeastHigh cX2_findLeastHigh 4 none ∈ gT := mm4 163 rfl rfl
theorem tw_950 : Cond.instanceMethod yX2_findLeastHigh ∈ gT := mm4 161 rfl rfl
theorem tw_951 : Cond.selects RX2 yX2_findLeastHigh yX2_findLeastHigh ∈ gT := mm4 162 rfl rfl
theorem tw_953 : Cond.constant RX2 106 (2147483647) ∈ gT := mm4 164 rfl rfl
theorem tw_954 : Cond.methodLink RX2 107 yX2_highBy ∈ gT := mm4 165 rfl rfl
theorem tw_955 : Cond.methodLink RL 112 yX11_often ∈ gT := mm4 166 rfl rfl
theorem tw_958 : Cond.code yX11_often cX11_often 3 (some .int) ∈ gT := mm4 169 rfl rfl
theorem tw_956 : Cond.instanceMethod yX11_often ∈ gT := mm4 167 rfl rfl
theorem tw_957 : Cond.selects RX11 yX11_often yX11_often ∈ gT := mm4 168 rfl rfl
theorem tw_959 : Cond.methodLink RX11 307 yX0_divideOut ∈ gT := mm4 170 rfl rfl
theorem tw_962 : Cond.code yX0_divideOut cX0_divideOut 3 (some .int) ∈ gT := mm4 173 rfl rfl
theorem tw_960 : Cond.instanceMethod yX0_divideOut ∈ gT := mm4 171 rfl rfl
theorem tw_961 : Cond.selects RX0 yX0_divideOut yX0_divideOut ∈ gT := mm4 172 rfl rfl
theorem tw_963 : Cond.methodLink RL 116 yX11_value ∈ gT := mm4 174 rfl rfl
theorem tw_966 : Cond.code yX11_value cX11_value 3 (some .long) ∈ gT := mm4 177 rfl rfl
theorem tw_964 : Cond.instanceMethod yX11_value ∈ gT := mm4 175 rfl rfl
theorem tw_965 : Cond.selects RX11 yX11_value yX11_value ∈ gT := mm4 176 rfl rfl
theorem tw_967 : Cond.methodLink RX11 310 yX6_valueAt ∈ gT := mm4 178 rfl rfl
theorem tw_970 : Cond.code yX6_valueAt cX6_valueAt 7 (some .long) ∈ gT := mm4 181 rfl rfl
theorem tw_968 : Cond.instanceMethod yX6_valueAt ∈ gT := mm4 179 rfl rfl
theorem tw_969 : Cond.selects RX6 yX6_valueAt yX6_valueAt ∈ gT := mm4 180 rfl rfl
theorem tw_971 : Cond.methodLink RX6 49 yX4_productFits ∈ gT := mm4 182 rfl rfl
theorem tw_972 : Cond.methodLink RX6 55 yX4_sumFits ∈ gT := mm4 183 rfl rfl
theorem tw_973 : Cond.constantLong RX6 60 (-9223372036854775808) ∈ gT := mm4 184 rfl rfl
theorem tw_974 : Cond.methodLink RL 121 yX11_roots ∈ gT := mm4 185 rfl rfl
theorem tw_977 : Cond.code yX11_roots cX11_roots 8 (some .int) ∈ gT := mm4 188 rfl rfl
theorem tw_975 : Cond.instanceMethod yX11_roots ∈ gT := mm4 186 rfl rfl
theorem tw_976 : Cond.selects RX11 yX11_roots yX11_roots ∈ gT := mm4 187 rfl rfl
theorem tw_978 : Cond.methodLink RX11 314 yX6_isZeroAt ∈ gT := mm4 189 rfl rfl
theorem tw_981 : Cond.code yX6_isZeroAt cX6_isZeroAt 5 (some .boolean) ∈ gT := mm4 192 rfl rfl
theorem tw_979 : Cond.instanceMethod yX6_isZeroAt ∈ gT := mm4 190 rfl rfl
theorem tw_980 : Cond.selects RX6 yX6_isZeroAt yX6_isZeroAt ∈ gT := mm4 191 rfl rfl
theorem tw_982 : Cond.constantLong RX6 62 (129987) ∈ gT := mm4 193 rfl rfl
theorem tw_983 : Cond.constantLong RX6 64 (-129987) ∈ gT := mm4 194 rfl rfl
theorem tw_984 : Cond.methodLink RL 125 yX11_compare ∈ gT := mm4 195 rfl rfl
theorem tw_987 : Cond.code yX11_compare cX11_compare 10 (some .int) ∈ gT := mm4 198 rfl rfl
theorem tw_985 : Cond.instanceMethod yX11_compare ∈ gT := mm4 196 rfl rfl
theorem tw_986 : Cond.selects RX11 yX11_compare yX11_compare ∈ gT := mm4 197 rfl rfl
theorem tw_988 : Cond.methodLink RL 129 yX11_surely ∈ gT := mm4 199 rfl rfl
theorem tw_991 : Cond.code yX11_surely cX11_surely 5 (some .int) ∈ gT := mm4 202 rfl rfl
theorem tw_989 : Cond.instanceMethod yX11_surely ∈ gT := mm4 200 rfl rfl
theorem tw_990 : Cond.selects RX11 yX11_surely yX11_surely ∈ gT := mm4 201 rfl rfl
theorem tw_992 : Cond.constant RX11 317 (99999999) ∈ gT := mm4 203 rfl rfl
theorem tw_993 : Cond.methodLink RL 133 yX11_least ∈ gT := mm4 204 rfl rfl
theorem tw_996 : Cond.code yX11_least cX11_least 5 (some .int) ∈ gT := mm4 207 rfl rfl
theorem tw_994 : Cond.instanceMethod yX11_least ∈ gT := mm4 205 rfl rfl
theorem tw_995 : Cond.selects RX11 yX11_least yX11_least ∈ gT := mm4 206 rfl rfl
theorem tw_997 : Cond.constant RX11 318 (2147483647) ∈ gT := mm4 208 rfl rfl
theorem tw_998 : Cond.methodLink RX11 319 yJ9_min_7cf53 ∈ gT := mm4 209 rfl rfl
theorem tw_999 : Cond.methodLink RL 137 yX11_found ∈ gT := mm4 210 rfl rfl
theorem tw_1002 : Cond.code yX11_found cX11_found 4 (some .int) ∈ gT := mm4 213 rfl rfl
theorem tw_1000 : Cond.instanceMethod yX11_found ∈ gT := mm4 211 rfl rfl
theorem tw_1001 : Cond.selects RX11 yX11_found yX11_found ∈ gT := mm4 212 rfl rfl
theorem tw_1003 : Cond.methodLink RX11 325 yX1_entry ∈ gT := mm4 214 rfl rfl
theorem tw_1004 : Cond.methodLink RL 141 yX11_smallest ∈ gT := mm4 215 rfl rfl
theorem tw_1007 : Cond.code yX11_smallest cX11_smallest 4 (some .int) ∈ gT := mm4 218 rfl rfl
theorem tw_1005 : Cond.instanceMethod yX11_smallest ∈ gT := mm4 216 rfl rfl
theorem tw_1006 : Cond.selects RX11 yX11_smallest yX11_smallest ∈ gT := mm4 217 rfl rfl
theorem tw_1008 : Cond.methodLink RX11 331 yX1_firstLeast ∈ gT := mm4 219 rfl rfl
theorem tw_1011 : Cond.code yX1_firstLeast cX1_firstLeast 3 (some .int) ∈ gT := mm4 222 rfl rfl
theorem tw_1009 : Cond.instanceMethod yX1_firstLeast ∈ gT := mm4 220 rfl rfl
theorem tw_1010 : Cond.selects RX1 yX1_firstLeast yX1_firstLeast ∈ gT := mm4 221 rfl rfl
theorem tw_1012 : Cond.methodLink RX11 334 yX1_howMany ∈ gT := mm4 223 rfl rfl
theorem tw_1015 : Cond.code yX1_howMany cX1_howMany 4 (some .int) ∈ gT := mm4 226 rfl rfl
theorem tw_1013 : Cond.instanceMethod yX1_howMany ∈ gT := mm4 224 rfl rfl
theorem tw_1014 : Cond.selects RX1 yX1_howMany yX1_howMany ∈ gT := mm4 225 rfl rfl
theorem tw_1016 : Cond.methodLink RL 145 yX11_count ∈ gT := mm4 227 rfl rfl
theorem tw_1019 : Cond.code yX11_count cX11_count 2 (some .int) ∈ gT := mm4 230 rfl rfl
theorem tw_1017 : Cond.instanceMethod yX11_count ∈ gT := mm4 228 rfl rfl
theorem tw_1018 : Cond.selects RX11 yX11_count yX11_count ∈ gT := mm4 229 rfl rfl
theorem tw_1020 : Cond.methodLink RL 149 yX11_status ∈ gT := mm4 231 rfl rfl
theorem tw_1023 : Cond.code yX11_status cX11_status 1 (some .int) ∈ gT := mm4 234 rfl rfl
theorem tw_1021 : Cond.instanceMethod yX11_status ∈ gT := mm4 232 rfl rfl
theorem tw_1022 : Cond.selects RX11 yX11_status yX11_status ∈ gT := mm4 233 rfl rfl
theorem tw_1024 : Cond.classLink RL 10 "MahlerBoxModel" ∈ gT := mm4 235 rfl rfl
theorem tw_1025 : Cond.instantiable RX12 33 ∈ gT := mm4 236 rfl rfl
theorem tw_83 : Cond.initialized RX12 ∈ gT := mm1 14 rfl rfl
theorem tw_1026 : Cond.methodLink RL 12 yX12_init ∈ gT := mm4 237 rfl rfl
theorem tw_1028 : Cond.code yX12_init cX12_init 2 none ∈ gT := mm4 239 rfl rfl
theorem tw_1027 : Cond.instanceMethod yX12_init ∈ gT := mm4 238 rfl rfl
theorem tw_1029 : Cond.methodLink RX12 1 Lib.objectInit ∈ gT := mm5 0 rfl rfl
theorem tw_1030 : Cond.methodLink RX12 80 yX12_layCyclotomic ∈ gT := mm5 1 rfl rfl
theorem tw_1033 : Cond.code yX12_layCyclotomic cX12_layCyclotomic 4 none ∈ gT := mm5 4 rfl rfl
theorem tw_1032 : Cond.instanceMethod yX12_layCyclotomic ∈ gT := mm5 3 rfl rfl
theorem tw_16 : Cond.selects RX12 yX12_layCyclotomic yX12_layCyclotomic ∈ gT := mm0 16 rfl rfl
theorem tw_1034 : Cond.methodLink RX12 152 yX12_common ∈ gT := mm5 5 rfl rfl
theorem tw_1036 : Cond.code yX12_common cX12_common 5 (some .int) ∈ gT := mm5 7 rfl rfl
theorem tw_1035 : Cond.static yX12_common ∈ gT := mm5 6 rfl rfl
theorem tw_1037 : Cond.methodLink RX12 116 yX12_empty ∈ gT := mm5 8 rfl rfl
theorem tw_1040 : Cond.code yX12_empty cX12_empty 2 none ∈ gT := mm5 11 rfl rfl
theorem tw_1039 : Cond.instanceMethod yX12_empty ∈ gT := mm5 10 rfl rfl
theorem tw_17 : Cond.selects RX12 yX12_empty yX12_empty ∈ gT := mm0 17 rfl rfl
theorem tw_1041 : Cond.constantLong RX12 155 (-1) ∈ gT := mm5 12 rfl rfl
theorem tw_1042 : Cond.methodLink RX12 157 yX12_takeCircle ∈ gT := mm5 13 rfl rfl
theorem tw_1045 : Cond.code yX12_takeCircle cX12_takeCircle 3 none ∈ gT := mm5 16 rfl rfl
theorem tw_1044 : Cond.instanceMethod yX12_takeCircle ∈ gT := mm5 15 rfl rfl
theorem tw_18 : Cond.selects RX12 yX12_takeCircle yX12_takeCircle ∈ gT := mm0 18 rfl rfl
theorem tw_1046 : Cond.methodLink RX12 160 yX12_divides ∈ gT := mm5 17 rfl rfl
theorem tw_1049 : Cond.code yX12_divides cX12_divides 7 (some .boolean) ∈ gT := mm5 20 rfl rfl
theorem tw_1048 : Cond.instanceMethod yX12_divides ∈ gT := mm5 19 rfl rfl
theorem tw_19 : Cond.selects RX12 yX12_divides yX12_divides ∈ gT := mm0 19 rfl rfl
theorem tw_1050 : Cond.methodLink RX12 146 yX12_size ∈ gT := mm5 21 rfl rfl
theorem tw_1052 : Cond.code yX12_size cX12_size 2 (some .long) ∈ gT := mm5 23 rfl rfl
theorem tw_1051 : Cond.static yX12_size ∈ gT := mm5 22 rfl rfl
theorem tw_1053 : Cond.constantLong RX12 150 (1000000000000) ∈ gT := mm5 24 rfl rfl
theorem tw_1054 : Cond.methodLink RX12 163 yX12_takeQuotient ∈ gT := mm5 25 rfl rfl
theorem tw_1057 : Cond.code yX12_takeQuotient cX12_takeQuotient 2 none ∈ gT := mm5 28 rfl rfl
theorem tw_1056 : Cond.instanceMethod yX12_takeQuotient ∈ gT := mm5 27 rfl rfl
theorem tw_20 : Cond.selects RX12 yX12_takeQuotient yX12_takeQuotient ∈ gT := mm0 20 rfl rfl
theorem tw_1058 : Cond.methodLink RX12 132 yX12_find ∈ gT := mm5 29 rfl rfl
theorem tw_1061 : Cond.code yX12_find cX12_find 2 none ∈ gT := mm5 32 rfl rfl
theorem tw_1060 : Cond.instanceMethod yX12_find ∈ gT := mm5 31 rfl rfl
theorem tw_21 : Cond.selects RX12 yX12_find yX12_find ∈ gT := mm0 21 rfl rfl
theorem tw_1062 : Cond.fieldLink RX12 83 "MahlerBoxModel" "thrown" "I" ∈ gT := mm5 33 rfl rfl
theorem tw_1063 : Cond.fieldLink RX12 86 "MahlerBoxModel" "status" "I" ∈ gT := mm5 34 rfl rfl
theorem tw_1064 : Cond.fieldLink RX12 7 "MahlerBoxModel" "refusals" "[I" ∈ gT := mm5 35 rfl rfl
theorem tw_1065 : Cond.fieldLink RX12 13 "MahlerBoxModel" "row" "[I" ∈ gT := mm5 36 rfl rfl
theorem tw_1066 : Cond.fieldLink RX12 16 "MahlerBoxModel" "undos" "[I" ∈ gT := mm5 37 rfl rfl
theorem tw_1067 : Cond.fieldLink RX12 19 "MahlerBoxModel" "sorts" "[I" ∈ gT := mm5 38 rfl rfl
theorem tw_1068 : Cond.fieldLink RX12 89 "MahlerBoxModel" "nUndo" "I" ∈ gT := mm5 39 rfl rfl
theorem tw_1069 : Cond.fieldLink RX12 22 "MahlerBoxModel" "images" "[I" ∈ gT := mm5 40 rfl rfl
theorem tw_1070 : Cond.fieldLink RX12 25 "MahlerBoxModel" "isKept" "[Z" ∈ gT := mm5 41 rfl rfl
theorem tw_1071 : Cond.fieldLink RX12 29 "MahlerBoxModel" "hand" "[J" ∈ gT := mm5 42 rfl rfl
theorem tw_1072 : Cond.fieldLink RX12 113 "MahlerBoxModel" "degree" "I" ∈ gT := mm5 43 rfl rfl
theorem tw_1073 : Cond.fieldLink RX12 33 "MahlerBoxModel" "divisor" "[J" ∈ gT := mm5 44 rfl rfl
theorem tw_1074 : Cond.fieldLink RX12 143 "MahlerBoxModel" "divisorDegree" "I" ∈ gT := mm5 45 rfl rfl
theorem tw_1075 : Cond.fieldLink RX12 36 "MahlerBoxModel" "quotient" "[J" ∈ gT := mm5 46 rfl rfl
theorem tw_1076 : Cond.fieldLink RX12 39 "MahlerBoxModel" "rest" "[J" ∈ gT := mm5 47 rfl rfl
theorem tw_1077 : Cond.fieldLink RX12 42 "MahlerBoxModel" "circle" "[I" ∈ gT := mm5 48 rfl rfl
theorem tw_1078 : Cond.fieldLink RX12 45 "MahlerBoxModel" "levels" "[J" ∈ gT := mm5 49 rfl rfl
theorem tw_1079 : Cond.fieldLink RX12 183 "MahlerBoxModel" "levelDegree" "I" ∈ gT := mm5 50 rfl rfl
theorem tw_1080 : Cond.fieldLink RX12 196 "MahlerBoxModel" "best" "I" ∈ gT := mm5 51 rfl rfl
theorem tw_1081 : Cond.fieldLink RX12 179 "MahlerBoxModel" "isBeyond" "Z" ∈ gT := mm5 52 rfl rfl
theorem tw_1082 : Cond.fieldLink RX12 48 "MahlerBoxModel" "digits" "[J" ∈ gT := mm5 53 rfl rfl
theorem tw_1083 : Cond.fieldLink RX12 51 "MahlerBoxModel" "many" "[I" ∈ gT := mm5 54 rfl rfl
theorem tw_1084 : Cond.fieldLink RX12 54 "MahlerBoxModel" "thousand" "[J" ∈ gT := mm5 55 rfl rfl
theorem tw_1085 : Cond.fieldLink RX12 57 "MahlerBoxModel" "thousandMany" "[I" ∈ gT := mm5 56 rfl rfl
theorem tw_1086 : Cond.fieldLink RX12 60 "MahlerBoxModel" "tape" "[B" ∈ gT := mm5 57 rfl rfl
theorem tw_1087 : Cond.fieldLink RX12 249 "MahlerBoxModel" "taped" "I" ∈ gT := mm5 58 rfl rfl
theorem tw_1088 : Cond.fieldLink RX12 64 "MahlerBoxModel" "fault" "I" ∈ gT := mm5 59 rfl rfl
theorem tw_1089 : Cond.fieldLink RX12 255 "MahlerBoxModel" "reading" "I" ∈ gT := mm5 60 rfl rfl
theorem tw_1090 : Cond.fieldLink RX12 262 "MahlerBoxModel" "isGood" "Z" ∈ gT := mm5 61 rfl rfl
theorem tw_1091 : Cond.fieldLink RX12 68 "MahlerBoxModel" "box" "[I" ∈ gT := mm5 62 rfl rfl
theorem tw_1092 : Cond.fieldLink RX12 71 "MahlerBoxModel" "bound" "[I" ∈ gT := mm5 63 rfl rfl
theorem tw_1093 : Cond.fieldLink RX12 74 "MahlerBoxModel" "lows" "[I" ∈ gT := mm5 64 rfl rfl
theorem tw_1094 : Cond.fieldLink RX12 77 "MahlerBoxModel" "highs" "[I" ∈ gT := mm5 65 rfl rfl
theorem tw_1163 : Cond.methodLink RL 78 yX12_undo ∈ gT := mm5 134 rfl rfl
theorem tw_1166 : Cond.code yX12_undo cX12_undo 1 (some .int) ∈ gT := mm5 137 rfl rfl
theorem tw_1164 : Cond.instanceMethod yX12_undo ∈ gT := mm5 135 rfl rfl
theorem tw_1165 : Cond.selects RX12 yX12_undo yX12_undo ∈ gT := mm5 136 rfl rfl
theorem tw_1167 : Cond.methodLink RX12 96 yX12_refuse ∈ gT := mm5 138 rfl rfl
theorem tw_1170 : Cond.code yX12_refuse cX12_refuse 2 (some .int) ∈ gT := mm5 141 rfl rfl
theorem tw_1169 : Cond.instanceMethod yX12_refuse ∈ gT := mm5 140 rfl rfl
theorem tw_22 : Cond.selects RX12 yX12_refuse yX12_refuse ∈ gT := mm0 22 rfl rfl
theorem tw_1171 : Cond.methodLink RX12 92 yX12_copy ∈ gT := mm5 142 rfl rfl
theorem tw_1173 : Cond.code yX12_copy cX12_copy 5 none ∈ gT := mm5 144 rfl rfl
theorem tw_1172 : Cond.static yX12_copy ∈ gT := mm5 143 rfl rfl
theorem tw_1174 : Cond.methodLink RX12 100 yX12_tell ∈ gT := mm5 145 rfl rfl
theorem tw_1177 : Cond.code yX12_tell cX12_tell 2 (some .int) ∈ gT := mm5 148 rfl rfl
theorem tw_1176 : Cond.instanceMethod yX12_tell ∈ gT := mm5 147 rfl rfl
theorem tw_23 : Cond.selects RX12 yX12_tell yX12_tell ∈ gT := mm0 23 rfl rfl
theorem tw_1178 : Cond.methodLink RL 82 yX12_image ∈ gT := mm5 149 rfl rfl
theorem tw_1181 : Cond.code yX12_image cX12_image 2 (some .int) ∈ gT := mm5 152 rfl rfl
theorem tw_1179 : Cond.instanceMethod yX12_image ∈ gT := mm5 150 rfl rfl
theorem tw_1180 : Cond.selects RX12 yX12_image yX12_image ∈ gT := mm5 151 rfl rfl
theorem tw_1182 : Cond.methodLink RX12 103 yX12_in ∈ gT := mm5 153 rfl rfl
theorem tw_1184 : Cond.code yX12_in cX12_in 6 (some .boolean) ∈ gT := mm5 155 rfl rfl
theorem tw_1183 : Cond.static yX12_in ∈ gT := mm5 154 rfl rfl
theorem tw_1185 : Cond.methodLink RX12 107 yX12_degrees ∈ gT := mm5 156 rfl rfl
theorem tw_1188 : Cond.code yX12_degrees cX12_degrees 3 (some .int) ∈ gT := mm5 159 rfl rfl
theorem tw_1187 : Cond.instanceMethod yX12_degrees ∈ gT := mm5 158 rfl rfl
theorem tw_24 : Cond.selects RX12 yX12_degrees yX12_degrees ∈ gT := mm0 24 rfl rfl
theorem tw_1189 : Cond.methodLink RL 86 yX12_back ∈ gT := mm5 160 rfl rfl
theorem tw_1192 : Cond.code yX12_back cX12_back 2 (some .int) ∈ gT := mm5 163 rfl rfl
theorem tw_1190 : Cond.instanceMethod yX12_back ∈ gT := mm5 161 rfl rfl
theorem tw_1191 : Cond.selects RX12 yX12_back yX12_back ∈ gT := mm5 162 rfl rfl
theorem tw_1193 : Cond.methodLink RL 17 yX12_feed ∈ gT := mm5 164 rfl rfl
theorem tw_1196 : Cond.code yX12_feed cX12_feed 6 (some .int) ∈ gT := mm5 167 rfl rfl
theorem tw_1194 : Cond.instanceMethod yX12_feed ∈ gT := mm5 165 rfl rfl
theorem tw_1195 : Cond.selects RX12 yX12_feed yX12_feed ∈ gT := mm5 166 rfl rfl
theorem tw_1197 : Cond.methodLink RX12 252 yX12_comes ∈ gT := mm5 168 rfl rfl
theorem tw_1200 : Cond.code yX12_comes cX12_comes 3 none ∈ gT := mm5 171 rfl rfl
theorem tw_1199 : Cond.instanceMethod yX12_comes ∈ gT := mm5 170 rfl rfl
theorem tw_25 : Cond.selects RX12 yX12_comes yX12_comes ∈ gT := mm0 25 rfl rfl
theorem tw_1201 : Cond.methodLink RL 22 yX12_end ∈ gT := mm5 172 rfl rfl
theorem tw_1204 : Cond.code yX12_end cX12_end 2 (some .int) ∈ gT := mm5 175 rfl rfl
theorem tw_1202 : Cond.instanceMethod yX12_end ∈ gT := mm5 173 rfl rfl
theorem tw_1203 : Cond.selects RX12 yX12_end yX12_end ∈ gT := mm5 174 rfl rfl
theorem tw_1205 : Cond.methodLink RL 26 yX12_tape ∈ gT := mm5 176 rfl rfl
theorem tw_1208 : Cond.code yX12_tape cX12_tape 2 (some .int) ∈ gT := mm5 179 rfl rfl
theorem tw_1206 : Cond.instanceMethod yX12_tape ∈ gT := mm5 177 rfl rfl
theorem tw_1207 : Cond.selects RX12 yX12_tape yX12_tape ∈ gT := mm5 178 rfl rfl
theorem tw_1209 : Cond.methodLink RL 30 yX12_read ∈ gT := mm5 180 rfl rfl
theorem tw_1212 : Cond.code yX12_read cX12_read 4 (some .int) ∈ gT := mm5 183 rfl rfl
theorem tw_1210 : Cond.instanceMethod yX12_read ∈ gT := mm5 181 rfl rfl
theorem tw_1211 : Cond.selects RX12 yX12_read yX12_read ∈ gT := mm5 182 rfl rfl
theorem tw_1213 : Cond.methodLink RX12 277 yX12_isStore ∈ gT := mm5 184 rfl rfl
theorem tw_1215 : Cond.code yX12_isStore cX12_isStore 1 (some .boolean) ∈ gT := mm5 186 rfl rfl
theorem tw_1214 : Cond.static yX12_isStore ∈ gT := mm5 185 rfl rfl
theorem tw_1216 : Cond.constantLong RX12 111 (7) ∈ gT := mm5 187 rfl rfl
theorem tw_1217 : Cond.methodLink RX12 265 yX12_sign ∈ gT := mm5 188 rfl rfl
theorem tw_1220 : Cond.code yX12_sign cX12_sign 1 (some .int) ∈ gT := mm5 191 rfl rfl
theorem tw_1219 : Cond.instanceMethod yX12_sign ∈ gT := mm5 190 rfl rfl
theorem tw_26 : Cond.selects RX12 yX12_sign yX12_sign ∈ gT := mm0 26 rfl rfl
theorem tw_1221 : Cond.methodLink RX12 280 yX12_isSign ∈ gT := mm5 192 rfl rfl
theorem tw_1223 : Cond.code yX12_isSign cX12_isSign 1 (some .boolean) ∈ gT := mm5 194 rfl rfl
theorem tw_1222 : Cond.static yX12_isSign ∈ gT := mm5 193 rfl rfl
theorem tw_1224 : Cond.methodLink RX12 283 yX12_term ∈ gT := mm5 195 rfl rfl
theorem tw_1227 : Cond.code yX12_term cX12_term 5 none ∈ gT := mm5 198 rfl rfl
theorem tw_1226 : Cond.instanceMethod yX12_term ∈ gT := mm5 197 rfl rfl
theorem tw_27 : Cond.selects RX12 yX12_term yX12_term ∈ gT := mm0 27 rfl rfl
theorem tw_1228 : Cond.methodLink RX12 268 yX12_isDigit ∈ gT := mm5 199 rfl rfl
theorem tw_1230 : Cond.code yX12_isDigit cX12_isDigit 1 (some .boolean) ∈ gT := mm5 201 rfl rfl
theorem tw_1229 : Cond.static yX12_isDigit ∈ gT := mm5 200 rfl rfl
theorem tw_1231 : Cond.constantLong RX12 258 (48) ∈ gT := mm5 202 rfl rfl
theorem tw_1232 : Cond.constantLong RX12 260 (57) ∈ gT := mm5 203 rfl rfl
theorem tw_1233 : Cond.methodLink RX12 274 yX12_number ∈ gT := mm5 204 rfl rfl
theorem tw_1236 : Cond.code yX12_number cX12_number 4 (some .int) ∈ gT := mm5 207 rfl rfl
theorem tw_1235 : Cond.instanceMethod yX12_number ∈ gT := mm5 206 rfl rfl
theorem tw_28 : Cond.selects RX12 yX12_number yX12_number ∈ gT := mm0 28 rfl rfl
theorem tw_1237 : Cond.methodLink RX12 271 yX12_wrong ∈ gT := mm5 208 rfl rfl
theorem tw_1240 : Cond.code yX12_wrong cX12_wrong 2 (some .int) ∈ gT := mm5 211 rfl rfl
theorem tw_1239 : Cond.instanceMethod yX12_wrong ∈ gT := mm5 210 rfl rfl
theorem tw_29 : Cond.selects RX12 yX12_wrong yX12_wrong ∈ gT := mm0 29 rfl rfl
theorem tw_1241 : Cond.methodLink RX12 135 yX12_isFit ∈ gT := mm5 212 rfl rfl
theorem tw_1244 : Cond.code yX12_isFit cX12_isFit 3 (some .boolean) ∈ gT := mm5 215 rfl rfl
theorem tw_1243 : Cond.instanceMethod yX12_isFit ∈ gT := mm5 214 rfl rfl
theorem tw_30 : Cond.selects RX12 yX12_isFit yX12_isFit ∈ gT := mm0 30 rfl rfl
theorem tw_1245 : Cond.constantLong RX12 126 (12) ∈ gT := mm5 216 rfl rfl
theorem tw_1246 : Cond.constantLong RX12 128 (-9999) ∈ gT := mm5 217 rfl rfl
theorem tw_1247 : Cond.constantLong RX12 130 (9999) ∈ gT := mm5 218 rfl rfl
theorem tw_1248 : Cond.methodLink RX12 286 yX12_put ∈ gT := mm5 219 rfl rfl
theorem tw_1251 : Cond.code yX12_put cX12_put 4 (some .int) ∈ gT := mm5 222 rfl rfl
theorem tw_1250 : Cond.instanceMethod yX12_put ∈ gT := mm5 221 rfl rfl
theorem tw_31 : Cond.selects RX12 yX12_put yX12_put ∈ gT := mm0 31 rfl rfl
theorem tw_1252 : Cond.methodLink RX12 139 yX12_remember ∈ gT := mm5 223 rfl rfl
theorem tw_1255 : Cond.code yX12_remember cX12_remember 3 none ∈ gT := mm5 226 rfl rfl
theorem tw_1254 : Cond.instanceMethod yX12_remember ∈ gT := mm5 225 rfl rfl
theorem tw_32 : Cond.selects RX12 yX12_remember yX12_remember ∈ gT := mm0 32 rfl rfl
theorem tw_1256 : Cond.methodLink RL 35 yX12_fault ∈ gT := mm5 227 rfl rfl
theorem tw_1259 : Cond.code yX12_fault cX12_fault 1 (some .int) ∈ gT := mm5 230 rfl rfl
theorem tw_1257 : Cond.instanceMethod yX12_fault ∈ gT := mm5 228 rfl rfl
theorem tw_1258 : Cond.selects RX12 yX12_fault yX12_fault ∈ gT := mm5 229 rfl rfl
theorem tw_1260 : Cond.methodLink RL 39 yX12_listing ∈ gT := mm5 231 rfl rfl
theorem tw_1263 : Cond.code yX12_listing cX12_listing 4 (some .int) ∈ gT := mm5 234 rfl rfl
theorem tw_1261 : Cond.instanceMethod yX12_listing ∈ gT := mm5 232 rfl rfl
theorem tw_1262 : Cond.selects RX12 yX12_listing yX12_listing ∈ gT := mm5 233 rfl rfl
theorem tw_1264 : Cond.methodLink RX12 119 yX12_degreeOf ∈ gT := mm5 235 rfl rfl
theorem tw_1267 : Cond.code yX12_degreeOf cX12_degreeOf 2 (some .int) ∈ gT := mm5 238 rfl rfl
theorem tw_1266 : Cond.instanceMethod yX12_degreeOf ∈ gT := mm5 237 rfl rfl
theorem tw_33 : Cond.selects RX12 yX12_degreeOf yX12_degreeOf ∈ gT := mm0 33 rfl rfl
theorem tw_1268 : Cond.methodLink RX12 122 yX12_at ∈ gT := mm5 239 rfl rfl
theorem tw_1271 : Cond.code yX12_at cX12_at 3 (some .int) ∈ gT := mm6 2 rfl rfl
theorem tw_1270 : Cond.instanceMethod yX12_at ∈ gT := mm6 1 rfl rfl
theorem tw_34 : Cond.selects RX12 yX12_at yX12_at ∈ gT := mm0 34 rfl rfl
theorem tw_1272 : Cond.methodLink RX12 289 yX12_write ∈ gT := mm6 3 rfl rfl
theorem tw_1275 : Cond.code yX12_write cX12_write 2 none ∈ gT := mm6 6 rfl rfl
theorem tw_1274 : Cond.instanceMethod yX12_write ∈ gT := mm6 5 rfl rfl
theorem tw_35 : Cond.selects RX12 yX12_write yX12_write ∈ gT := mm0 35 rfl rfl
theorem tw_1276 : Cond.methodLink RX12 292 yX12_writeNumber ∈ gT := mm6 7 rfl rfl
theorem tw_1279 : Cond.code yX12_writeNumber cX12_writeNumber 4 none ∈ gT := mm6 10 rfl rfl
theorem tw_1278 : Cond.instanceMethod yX12_writeNumber ∈ gT := mm6 9 rfl rfl
theorem tw_36 : Cond.selects RX12 yX12_writeNumber yX12_writeNumber ∈ gT := mm0 36 rfl rfl
theorem tw_1280 : Cond.methodLink RL 44 yX12_times_ ∈ gT := mm6 11 rfl rfl
theorem tw_1283 : Cond.code yX12_times_ cX12_times_ 6 (some .int) ∈ gT := mm6 14 rfl rfl
theorem tw_1281 : Cond.instanceMethod yX12_times_ ∈ gT := mm6 12 rfl rfl
theorem tw_1282 : Cond.selects RX12 yX12_times_ yX12_times_ ∈ gT := mm6 13 rfl rfl
theorem tw_1284 : Cond.methodLink RL 48 yX12_by ∈ gT := mm6 15 rfl rfl
theorem tw_1287 : Cond.code yX12_by cX12_by 4 (some .int) ∈ gT := mm6 18 rfl rfl
theorem tw_1285 : Cond.instanceMethod yX12_by ∈ gT := mm6 16 rfl rfl
theorem tw_1286 : Cond.selects RX12 yX12_by yX12_by ∈ gT := mm6 17 rfl rfl
theorem tw_1288 : Cond.methodLink RX12 295 yX12_take ∈ gT := mm6 19 rfl rfl
theorem tw_1291 : Cond.code yX12_take cX12_take 3 none ∈ gT := mm6 22 rfl rfl
theorem tw_1290 : Cond.instanceMethod yX12_take ∈ gT := mm6 21 rfl rfl
theorem tw_37 : Cond.selects RX12 yX12_take yX12_take ∈ gT := mm0 37 rfl rfl
theorem tw_1292 : Cond.methodLink RX12 298 yX12_takeDivisor ∈ gT := mm6 23 rfl rfl
theorem tw_1295 : Cond.code yX12_takeDivisor cX12_takeDivisor 3 none ∈ gT := mm6 26 rfl rfl
theorem tw_1294 : Cond.instanceMethod yX12_takeDivisor ∈ gT := mm6 25 rfl rfl
theorem tw_38 : Cond.selects RX12 yX12_takeDivisor yX12_takeDivisor ∈ gT := mm0 38 rfl rfl
theorem tw_1296 : Cond.methodLink RL 53 yX12_plus_ ∈ gT := mm6 27 rfl rfl
theorem tw_1299 : Cond.code yX12_plus_ cX12_plus_ 6 (some .int) ∈ gT := mm6 30 rfl rfl
theorem tw_1297 : Cond.instanceMethod yX12_plus_ ∈ gT := mm6 28 rfl rfl
theorem tw_1298 : Cond.selects RX12 yX12_plus_ yX12_plus_ ∈ gT := mm6 29 rfl rfl
theorem tw_1300 : Cond.methodLink RL 57 yX12_turn ∈ gT := mm6 31 rfl rfl
theorem tw_1303 : Cond.code yX12_turn cX12_turn 7 (some .int) ∈ gT := mm6 34 rfl rfl
theorem tw_1301 : Cond.instanceMethod yX12_turn ∈ gT := mm6 32 rfl rfl
theorem tw_1302 : Cond.selects RX12 yX12_turn yX12_turn ∈ gT := mm6 33 rfl rfl
theorem tw_1304 : Cond.constantLong RX12 301 (5) ∈ gT := mm6 35 rfl rfl
theorem tw_1305 : Cond.methodLink RX12 303 yX12_layLevels ∈ gT := mm6 36 rfl rfl
theorem tw_1308 : Cond.code yX12_layLevels cX12_layLevels 3 none ∈ gT := mm6 39 rfl rfl
theorem tw_1307 : Cond.instanceMethod yX12_layLevels ∈ gT := mm6 38 rfl rfl
theorem tw_39 : Cond.selects RX12 yX12_layLevels yX12_layLevels ∈ gT := mm0 39 rfl rfl
theorem tw_1309 : Cond.methodLink RX12 199 yX12_squares ∈ gT := mm6 40 rfl rfl
theorem tw_1312 : Cond.code yX12_squares cX12_squares 10 none ∈ gT := mm6 43 rfl rfl
theorem tw_1311 : Cond.instanceMethod yX12_squares ∈ gT := mm6 42 rfl rfl
theorem tw_40 : Cond.selects RX12 yX12_squares yX12_squares ∈ gT := mm0 40 rfl rfl
theorem tw_1313 : Cond.methodLink RX12 186 yX12_times ∈ gT := mm6 44 rfl rfl
theorem tw_1316 : Cond.code yX12_times cX12_times 8 (some .long) ∈ gT := mm6 47 rfl rfl
theorem tw_1315 : Cond.instanceMethod yX12_times ∈ gT := mm6 46 rfl rfl
theorem tw_41 : Cond.selects RX12 yX12_times yX12_times ∈ gT := mm0 41 rfl rfl
theorem tw_1317 : Cond.constantLong RX12 177 (-9223372036854775808) ∈ gT := mm6 48 rfl rfl
theorem tw_1318 : Cond.methodLink RX12 190 yX12_plus ∈ gT := mm6 49 rfl rfl
theorem tw_1321 : Cond.code yX12_plus cX12_plus 7 (some .long) ∈ gT := mm6 52 rfl rfl
theorem tw_1320 : Cond.instanceMethod yX12_plus ∈ gT := mm6 51 rfl rfl
theorem tw_42 : Cond.selects RX12 yX12_plus yX12_plus ∈ gT := mm0 42 rfl rfl
theorem tw_1322 : Cond.methodLink RX12 193 yX12_minus ∈ gT := mm6 53 rfl rfl
theorem tw_1325 : Cond.code yX12_minus cX12_minus 7 (some .long) ∈ gT := mm6 56 rfl rfl
theorem tw_1324 : Cond.instanceMethod yX12_minus ∈ gT := mm6 55 rfl rfl
theorem tw_43 : Cond.selects RX12 yX12_minus yX12_minus ∈ gT := mm0 43 rfl rfl
theorem tw_1326 : Cond.methodLink RL 62 yX12_cyclotomic ∈ gT := mm6 57 rfl rfl
theorem tw_1329 : Cond.code yX12_cyclotomic cX12_cyclotomic 4 (some .int) ∈ gT := mm6 60 rfl rfl
theorem tw_1327 : Cond.instanceMethod yX12_cyclotomic ∈ gT := mm6 58 rfl rfl
theorem tw_1328 : Cond.selects RX12 yX12_cyclotomic yX12_cyclotomic ∈ gT := mm6 59 rfl rfl
theorem tw_1330 : Cond.methodLink RX12 168 yX12_isCircle ∈ gT := mm6 61 rfl rfl
theorem tw_1333 : Cond.code yX12_isCircle cX12_isCircle 2 (some .boolean) ∈ gT := mm6 64 rfl rfl
theorem tw_1332 : Cond.instanceMethod yX12_isCircle ∈ gT := mm6 63 rfl rfl
theorem tw_44 : Cond.selects RX12 yX12_isCircle yX12_isCircle ∈ gT := mm0 44 rfl rfl
theorem tw_1334 : Cond.constantLong RX12 166 (42) ∈ gT := mm6 65 rfl rfl
theorem tw_1335 : Cond.methodLink RL 66 yX12_core ∈ gT := mm6 66 rfl rfl
theorem tw_1338 : Cond.code yX12_core cX12_core 3 (some .int) ∈ gT := mm6 69 rfl rfl
theorem tw_1336 : Cond.instanceMethod yX12_core ∈ gT := mm6 67 rfl rfl
theorem tw_1337 : Cond.selects RX12 yX12_core yX12_core ∈ gT := mm6 68 rfl rfl
theorem tw_1339 : Cond.methodLink RX12 172 yX12_cores ∈ gT := mm6 70 rfl rfl
theorem tw_1342 : Cond.code yX12_cores cX12_cores 2 none ∈ gT := mm6 73 rfl rfl
theorem tw_1341 : Cond.instanceMethod yX12_cores ∈ gT := mm6 72 rfl rfl
theorem tw_45 : Cond.selects RX12 yX12_cores yX12_cores ∈ gT := mm0 45 rfl rfl
theorem tw_1343 : Cond.methodLink RL 70 yX12_search ∈ gT := mm6 74 rfl rfl
theorem tw_1346 : Cond.code yX12_search cX12_search 7 (some .int) ∈ gT := mm6 77 rfl rfl
theorem tw_1344 : Cond.instanceMethod yX12_search ∈ gT := mm6 75 rfl rfl
theorem tw_1345 : Cond.selects RX12 yX12_search yX12_search ∈ gT := mm6 76 rfl rfl
theorem tw_1347 : Cond.constantLong RX12 318 (2) ∈ gT := mm6 78 rfl rfl
theorem tw_1348 : Cond.constantLong RX12 320 (10) ∈ gT := mm6 79 rfl rfl
theorem tw_1349 : Cond.constantLong RX12 322 (3) ∈ gT := mm6 80 rfl rfl
theorem tw_1350 : Cond.constantLong RX12 324 (6) ∈ gT := mm6 81 rfl rfl
theorem tw_1351 : Cond.constantLong RX12 212 (1000) ∈ gT := mm6 82 rfl rfl
theorem tw_1352 : Cond.methodLink RX12 326 yX12_layBox ∈ gT := mm6 83 rfl rfl
theorem tw_1355 : Cond.code yX12_layBox cX12_layBox 6 none ∈ gT := mm6 86 rfl rfl
theorem tw_1354 : Cond.instanceMethod yX12_layBox ∈ gT := mm6 85 rfl rfl
theorem tw_46 : Cond.selects RX12 yX12_layBox yX12_layBox ∈ gT := mm0 46 rfl rfl
theorem tw_1356 : Cond.methodLink RX12 329 yX12_looks ∈ gT := mm6 87 rfl rfl
theorem tw_1359 : Cond.code yX12_looks cX12_looks 7 none ∈ gT := mm6 90 rfl rfl
theorem tw_1358 : Cond.instanceMethod yX12_looks ∈ gT := mm6 89 rfl rfl
theorem tw_47 : Cond.selects RX12 yX12_looks yX12_looks ∈ gT := mm0 47 rfl rfl
theorem tw_1360 : Cond.methodLink RX12 306 yX12_takeBox ∈ gT := mm6 91 rfl rfl
theorem tw_1363 : Cond.code yX12_takeBox cX12_takeBox 3 none ∈ gT := mm6 94 rfl rfl
theorem tw_1362 : Cond.instanceMethod yX12_takeBox ∈ gT := mm6 93 rfl rfl
theorem tw_48 : Cond.selects RX12 yX12_takeBox yX12_takeBox ∈ gT := mm0 48 rfl rfl
theorem tw_1364 : Cond.methodLink RX12 309 yX12_isOne ∈ gT := mm6 95 rfl rfl
theorem tw_1367 : Cond.code yX12_isOne cX12_isOne 1 (some .boolean) ∈ gT := mm6 98 rfl rfl
theorem tw_1366 : Cond.instanceMethod yX12_isOne ∈ gT := mm6 97 rfl rfl
theorem tw_49 : Cond.selects RX12 yX12_isOne yX12_isOne ∈ gT := mm0 49 rfl rfl
theorem tw_1368 : Cond.methodLink RX12 243 yX12_laySquares ∈ gT := mm6 99 rfl rfl
theorem tw_1371 : Cond.code yX12_laySquares cX12_laySquares 3 none ∈ gT := mm6 102 rfl rfl
theorem tw_1370 : Cond.instanceMethod yX12_laySquares ∈ gT := mm6 101 rfl rfl
theorem tw_50 : Cond.selects RX12 yX12_laySquares yX12_laySquares ∈ gT := mm0 50 rfl rfl
theorem tw_1372 : Cond.methodLink RX12 228 yX12_layLong ∈ gT := mm6 103 rfl rfl
theorem tw_1375 : Cond.code yX12_layLong cX12_layLong 4 none ∈ gT := mm6 106 rfl rfl
theorem tw_1374 : Cond.instanceMethod yX12_layLong ∈ gT := mm6 105 rfl rfl
theorem tw_51 : Cond.selects RX12 yX12_layLong yX12_layLong ∈ gT := mm0 51 rfl rfl
theorem tw_1376 : Cond.constantLong RX12 234 (128) ∈ gT := mm6 107 rfl rfl
theorem tw_1377 : Cond.methodLink RX12 214 yX12_tellNumber ∈ gT := mm6 108 rfl rfl
theorem tw_1380 : Cond.code yX12_tellNumber cX12_tellNumber 7 none ∈ gT := mm6 111 rfl rfl
theorem tw_1379 : Cond.instanceMethod yX12_tellNumber ∈ gT := mm6 110 rfl rfl
theorem tw_52 : Cond.selects RX12 yX12_tellNumber yX12_tellNumber ∈ gT := mm0 52 rfl rfl
theorem tw_1381 : Cond.constantLong RX12 202 (268435455) ∈ gT := mm6 112 rfl rfl
theorem tw_1382 : Cond.methodLink RX12 208 yX12_copyNumber ∈ gT := mm6 113 rfl rfl
theorem tw_1385 : Cond.code yX12_copyNumber cX12_copyNumber 4 none ∈ gT := mm6 116 rfl rfl
theorem tw_1384 : Cond.instanceMethod yX12_copyNumber ∈ gT := mm6 115 rfl rfl
theorem tw_53 : Cond.selects RX12 yX12_copyNumber yX12_copyNumber ∈ gT := mm0 53 rfl rfl
theorem tw_1386 : Cond.methodLink RX12 204 yX12_product ∈ gT := mm6 117 rfl rfl
theorem tw_1389 : Cond.code yX12_product cX12_product 12 none ∈ gT := mm6 120 rfl rfl
theorem tw_1388 : Cond.instanceMethod yX12_product ∈ gT := mm6 119 rfl rfl
theorem tw_54 : Cond.selects RX12 yX12_product yX12_product ∈ gT := mm0 54 rfl rfl
theorem tw_1390 : Cond.methodLink RX12 236 yX12_add ∈ gT := mm6 121 rfl rfl
theorem tw_1393 : Cond.code yX12_add cX12_add 11 none ∈ gT := mm6 124 rfl rfl
theorem tw_1392 : Cond.instanceMethod yX12_add ∈ gT := mm6 123 rfl rfl
theorem tw_55 : Cond.selects RX12 yX12_add yX12_add ∈ gT := mm0 55 rfl rfl
theorem tw_1394 : Cond.methodLink RX12 225 yX12_takeThousand ∈ gT := mm6 125 rfl rfl
theorem tw_1397 : Cond.code yX12_takeThousand cX12_takeThousand 4 none ∈ gT := mm6 128 rfl rfl
theorem tw_1396 : Cond.instanceMethod yX12_takeThousand ∈ gT := mm6 127 rfl rfl
theorem tw_56 : Cond.selects RX12 yX12_takeThousand yX12_takeThousand ∈ gT := mm0 56 rfl rfl
theorem tw_1398 : Cond.methodLink RX12 218 yX12_raise ∈ gT := mm6 129 rfl rfl
theorem tw_1401 : Cond.code yX12_raise cX12_raise 4 none ∈ gT := mm6 132 rfl rfl
theorem tw_1400 : Cond.instanceMethod yX12_raise ∈ gT := mm6 131 rfl rfl
theorem tw_57 : Cond.selects RX12 yX12_raise yX12_raise ∈ gT := mm0 57 rfl rfl
theorem tw_1402 : Cond.methodLink RX12 246 yX12_isHigh ∈ gT := mm6 133 rfl rfl
theorem tw_1405 : Cond.code yX12_isHigh cX12_isHigh 3 (some .boolean) ∈ gT := mm6 136 rfl rfl
theorem tw_1404 : Cond.instanceMethod yX12_isHigh ∈ gT := mm6 135 rfl rfl
theorem tw_58 : Cond.selects RX12 yX12_isHigh yX12_isHigh ∈ gT := mm0 58 rfl rfl
theorem tw_1406 : Cond.methodLink RX12 231 yX12_compareNumbers ∈ gT := mm6 137 rfl rfl
theorem tw_1409 : Cond.code yX12_compareNumbers cX12_compareNumbers 6 (some .int) ∈ gT := mm6 140 rfl rfl
theorem tw_1408 : Cond.instanceMethod yX12_compareNumbers ∈ gT := mm6 139 rfl rfl
theorem tw_59 : Cond.selects RX12 yX12_compareNumbers yX12_compareNumbers ∈ gT := mm0 59 rfl rfl
theorem tw_1410 : Cond.methodLink RX12 312 yX12_highOf ∈ gT := mm6 141 rfl rfl
theorem tw_1413 : Cond.code yX12_highOf cX12_highOf 5 (some .int) ∈ gT := mm6 144 rfl rfl
theorem tw_1412 : Cond.instanceMethod yX12_highOf ∈ gT := mm6 143 rfl rfl
theorem tw_60 : Cond.selects RX12 yX12_highOf yX12_highOf ∈ gT := mm0 60 rfl rfl
theorem tw_1414 : Cond.methodLink RX12 315 yX12_lowOf ∈ gT := mm6 145 rfl rfl
theorem tw_1417 : Cond.code yX12_lowOf cX12_lowOf 5 (some .int) ∈ gT := mm6 148 rfl rfl
theorem tw_1416 : Cond.instanceMethod yX12_lowOf ∈ gT := mm6 147 rfl rfl
theorem tw_61 : Cond.selects RX12 yX12_lowOf yX12_lowOf ∈ gT := mm0 61 rfl rfl
theorem tw_1418 : Cond.methodLink RX12 239 yX12_isLow ∈ gT := mm6 149 rfl rfl
theorem tw_1421 : Cond.code yX12_isLow cX12_isLow 7 (some .boolean) ∈ gT := mm6 152 rfl rfl
theorem tw_1420 : Cond.instanceMethod yX12_isLow ∈ gT := mm6 151 rfl rfl
theorem tw_62 : Cond.selects RX12 yX12_isLow yX12_isLow ∈ gT := mm0 62 rfl rfl
theorem tw_1422 : Cond.methodLink RX12 221 yX12_choose ∈ gT := mm6 153 rfl rfl
theorem tw_1424 : Cond.code yX12_choose cX12_choose 5 (some .long) ∈ gT := mm6 155 rfl rfl
theorem tw_1423 : Cond.static yX12_choose ∈ gT := mm6 154 rfl rfl
theorem tw_1425 : Cond.methodLink RL 74 yX12_take_ ∈ gT := mm6 156 rfl rfl
theorem tw_1428 : Cond.code yX12_take_ cX12_take_ 4 (some .int) ∈ gT := mm6 159 rfl rfl
theorem tw_1426 : Cond.instanceMethod yX12_take_ ∈ gT := mm6 157 rfl rfl
theorem tw_1427 : Cond.selects RX12 yX12_take_ yX12_take_ ∈ gT := mm6 158 rfl rfl
theorem tw_1429 : Cond.methodLink RX12 332 yX12_isFound ∈ gT := mm6 160 rfl rfl
theorem tw_1432 : Cond.code yX12_isFound cX12_isFound 2 (some .boolean) ∈ gT := mm6 163 rfl rfl
theorem tw_1431 : Cond.instanceMethod yX12_isFound ∈ gT := mm6 162 rfl rfl
theorem tw_63 : Cond.selects RX12 yX12_isFound yX12_isFound ∈ gT := mm0 63 rfl rfl
theorem tw_1433 : Cond.methodLink RL 90 yX12_coefficient ∈ gT := mm6 164 rfl rfl
theorem tw_1436 : Cond.code yX12_coefficient cX12_coefficient 3 (some .int) ∈ gT := mm6 167 rfl rfl
theorem tw_1434 : Cond.instanceMethod yX12_coefficient ∈ gT := mm6 165 rfl rfl
theorem tw_1435 : Cond.selects RX12 yX12_coefficient yX12_coefficient ∈ gT := mm6 166 rfl rfl
theorem tw_1437 : Cond.constant RX12 337 (-2147483648) ∈ gT := mm6 168 rfl rfl
theorem tw_1438 : Cond.methodLink RL 94 yX12_of ∈ gT := mm6 169 rfl rfl
theorem tw_1441 : Cond.code yX12_of cX12_of 3 (some .int) ∈ gT := mm6 172 rfl rfl
theorem tw_1439 : Cond.instanceMethod yX12_of ∈ gT := mm6 170 rfl rfl
theorem tw_1440 : Cond.selects RX12 yX12_of yX12_of ∈ gT := mm6 171 rfl rfl
theorem tw_1442 : Cond.constantLong RX12 338 (9) ∈ gT := mm6 173 rfl rfl
theorem tw_1443 : Cond.methodLink RX12 340 yX12_isReciprocal ∈ gT := mm6 174 rfl rfl
theorem tw_1446 : Cond.code yX12_isReciprocal cX12_isReciprocal 4 (some .boolean) ∈ gT := mm6 177 rfl rfl
theorem tw_1445 : Cond.instanceMethod yX12_isReciprocal ∈ gT := mm6 176 rfl rfl
theorem tw_64 : Cond.selects RX12 yX12_isReciprocal yX12_isReciprocal ∈ gT := mm0 64 rfl rfl
theorem tw_1447 : Cond.methodLink RX12 343 yX12_sum ∈ gT := mm6 178 rfl rfl
theorem tw_1450 : Cond.code yX12_sum cX12_sum 13 (some .int) ∈ gT := mm6 181 rfl rfl
theorem tw_1449 : Cond.instanceMethod yX12_sum ∈ gT := mm6 180 rfl rfl
theorem tw_65 : Cond.selects RX12 yX12_sum yX12_sum ∈ gT := mm0 65 rfl rfl
theorem tw_1451 : Cond.methodLink RL 99 yX12_level ∈ gT := mm6 182 rfl rfl
theorem tw_1454 : Cond.code yX12_level cX12_level 4 (some .long) ∈ gT := mm6 185 rfl rfl
theorem tw_1452 : Cond.instanceMethod yX12_level ∈ gT := mm6 183 rfl rfl
theorem tw_1453 : Cond.selects RX12 yX12_level yX12_level ∈ gT := mm6 184 rfl rfl
theorem tw_1455 : Cond.methodLink RX12 346 yX12_hasLevel ∈ gT := mm6 186 rfl rfl
theorem tw_1458 : Cond.code yX12_hasLevel cX12_hasLevel 3 (some .boolean) ∈ gT := mm6 189 rfl rfl
theorem tw_1457 : Cond.instanceMethod yX12_hasLevel ∈ gT := mm6 188 rfl rfl
theorem tw_66 : Cond.selects RX12 yX12_hasLevel yX12_hasLevel ∈ gT := mm0 66 rfl rfl
theorem tw_1459 : Cond.methodLink RL 103 yX12_low ∈ gT := mm6 190 rfl rfl
theorem tw_1462 : Cond.code yX12_low cX12_low 3 (some .int) ∈ gT := mm6 193 rfl rfl
theorem tw_1460 : Cond.instanceMethod yX12_low ∈ gT := mm6 191 rfl rfl
theorem tw_1461 : Cond.selects RX12 yX12_low yX12_low ∈ gT := mm6 192 rfl rfl
theorem tw_1463 : Cond.methodLink RL 107 yX12_high ∈ gT := mm6 194 rfl rfl
theorem tw_1466 : Cond.code yX12_high cX12_high 3 (some .int) ∈ gT := mm6 197 rfl rfl
theorem tw_1464 : Cond.instanceMethod yX12_high ∈ gT := mm6 195 rfl rfl
theorem tw_1465 : Cond.selects RX12 yX12_high yX12_high ∈ gT := mm6 196 rfl rfl
theorem tw_1467 : Cond.methodLink RL 111 yX12_enclosed ∈ gT := mm6 198 rfl rfl
theorem tw_1470 : Cond.code yX12_enclosed cX12_enclosed 3 (some .int) ∈ gT := mm6 201 rfl rfl
theorem tw_1468 : Cond.instanceMethod yX12_enclosed ∈ gT := mm6 199 rfl rfl
theorem tw_1469 : Cond.selects RX12 yX12_enclosed yX12_enclosed ∈ gT := mm6 200 rfl rfl
theorem tw_1471 : Cond.methodLink RX12 349 yX12_layBounds ∈ gT := mm6 202 rfl rfl
theorem tw_1474 : Cond.code yX12_layBounds cX12_layBounds 5 none ∈ gT := mm6 205 rfl rfl
theorem tw_1473 : Cond.instanceMethod yX12_layBounds ∈ gT := mm6 204 rfl rfl
theorem tw_67 : Cond.selects RX12 yX12_layBounds yX12_layBounds ∈ gT := mm0 67 rfl rfl
theorem tw_1475 : Cond.methodLink RL 115 yX12_often ∈ gT := mm6 206 rfl rfl
theorem tw_1478 : Cond.code yX12_often cX12_often 4 (some .int) ∈ gT := mm6 209 rfl rfl
theorem tw_1476 : Cond.instanceMethod yX12_often ∈ gT := mm6 207 rfl rfl
theorem tw_1477 : Cond.selects RX12 yX12_often yX12_often ∈ gT := mm6 208 rfl rfl
theorem tw_1479 : Cond.methodLink RL 120 yX12_value ∈ gT := mm6 210 rfl rfl
theorem tw_1482 : Cond.code yX12_value cX12_value 6 (some .long) ∈ gT := mm6 213 rfl rfl
theorem tw_1480 : Cond.instanceMethod yX12_value ∈ gT := mm6 211 rfl rfl
theorem tw_1481 : Cond.selects RX12 yX12_value yX12_value ∈ gT := mm6 212 rfl rfl
theorem tw_1483 : Cond.constantLong RX12 352 (-50) ∈ gT := mm6 214 rfl rfl
theorem tw_1484 : Cond.constantLong RX12 354 (50) ∈ gT := mm6 215 rfl rfl
theorem tw_1485 : Cond.methodLink RL 124 yX12_roots ∈ gT := mm6 216 rfl rfl
theorem tw_1488 : Cond.code yX12_roots cX12_roots 7 (some .int) ∈ gT := mm6 219 rfl rfl
theorem tw_1486 : Cond.instanceMethod yX12_roots ∈ gT := mm6 217 rfl rfl
theorem tw_1487 : Cond.selects RX12 yX12_roots yX12_roots ∈ gT := mm6 218 rfl rfl
theorem tw_1489 : Cond.methodLink RX12 356 yX12_value ∈ gT := mm6 220 rfl rfl
theorem tw_1490 : Cond.methodLink RL 128 yX12_compare ∈ gT := mm6 221 rfl rfl
theorem tw_1493 : Cond.code yX12_compare cX12_compare 4 (some .int) ∈ gT := mm6 224 rfl rfl
theorem tw_1491 : Cond.instanceMethod yX12_compare ∈ gT := mm6 222 rfl rfl
theorem tw_1492 : Cond.selects RX12 yX12_compare yX12_compare ∈ gT := mm6 223 rfl rfl
theorem tw_1494 : Cond.methodLink RX12 359 yX12_by_ ∈ gT := mm6 225 rfl rfl
theorem tw_1497 : Cond.code yX12_by_ cX12_by_ 5 (some .int) ∈ gT := mm6 228 rfl rfl
theorem tw_1496 : Cond.instanceMethod yX12_by_ ∈ gT := mm6 227 rfl rfl
theorem tw_68 : Cond.selects RX12 yX12_by_ yX12_by_ ∈ gT := mm0 68 rfl rfl
theorem tw_1498 : Cond.methodLink RL 132 yX12_surely ∈ gT := mm6 229 rfl rfl
theorem tw_1501 : Cond.code yX12_surely cX12_surely 4 (some .int) ∈ gT := mm6 232 rfl rfl
theorem tw_1499 : Cond.instanceMethod yX12_surely ∈ gT := mm6 230 rfl rfl
theorem tw_1500 : Cond.selects RX12 yX12_surely yX12_surely ∈ gT := mm6 231 rfl rfl
theorem tw_1502 : Cond.constantLong RX12 363 (99999999) ∈ gT := mm6 233 rfl rfl
theorem tw_1503 : Cond.methodLink RL 136 yX12_least ∈ gT := mm6 234 rfl rfl
theorem tw_1506 : Cond.code yX12_least cX12_least 6 (some .int) ∈ gT := mm6 237 rfl rfl
theorem tw_1504 : Cond.instanceMethod yX12_least ∈ gT := mm6 235 rfl rfl
theorem tw_1505 : Cond.selects RX12 yX12_least yX12_least ∈ gT := mm6 236 rfl rfl
theorem tw_1507 : Cond.constantLong RX12 365 (255) ∈ gT := mm6 238 rfl rfl
theorem tw_1508 : Cond.methodLink RL 140 yX12_found ∈ gT := mm6 239 rfl rfl
theorem tw_1511 : Cond.code yX12_found cX12_found 4 (some .int) ∈ gT := mm7 2 rfl rfl
theorem tw_1509 : Cond.instanceMethod yX12_found ∈ gT := mm7 0 rfl rfl
theorem tw_1510 : Cond.selects RX12 yX12_found yX12_found ∈ gT := mm7 1 rfl rfl
theorem tw_1512 : Cond.constantLong RX12 367 (13) ∈ gT := mm7 3 rfl rfl
theorem tw_1513 : Cond.constantLong RX12 369 (15) ∈ gT := mm7 4 rfl rfl
theorem tw_1514 : Cond.methodLink RL 144 yX12_smallest ∈ gT := mm7 5 rfl rfl
theorem tw_1517 : Cond.code yX12_smallest cX12_smallest 6 (some .int) ∈ gT := mm7 8 rfl rfl
theorem tw_1515 : Cond.instanceMethod yX12_smallest ∈ gT := mm7 6 rfl rfl
theorem tw_1516 : Cond.selects RX12 yX12_smallest yX12_smallest ∈ gT := mm7 7 rfl rfl
theorem tw_1518 : Cond.methodLink RL 148 yX12_count ∈ gT := mm7 9 rfl rfl
theorem tw_1521 : Cond.code yX12_count cX12_count 2 (some .int) ∈ gT := mm7 12 rfl rfl
theorem tw_1519 : Cond.instanceMethod yX12_count ∈ gT := mm7 10 rfl rfl
theorem tw_1520 : Cond.selects RX12 yX12_count yX12_count ∈ gT := mm7 11 rfl rfl
theorem tw_1522 : Cond.methodLink RL 152 yX12_status ∈ gT := mm7 13 rfl rfl
theorem tw_1525 : Cond.code yX12_status cX12_status 1 (some .int) ∈ gT := mm7 16 rfl rfl
theorem tw_1523 : Cond.instanceMethod yX12_status ∈ gT := mm7 14 rfl rfl
theorem tw_1524 : Cond.selects RX12 yX12_status yX12_status ∈ gT := mm7 15 rfl rfl
theorem tw_69 : Cond.initialized RL ∈ gT := mm1 0 rfl rfl
theorem tw_85 : Cond.initialized RJ10 ∈ gT := mm1 16 rfl rfl
theorem tw_651 : Cond.static (⟨"java/lang/System", "arraycopy", "(Ljava/lang/Object;ILjava/lang/Object;II)V"⟩ : MethodName) ∈ gT := mm3 102 rfl rfl
theorem tw_652 : Cond.native (⟨"java/lang/System", "arraycopy", "(Ljava/lang/Object;ILjava/lang/Object;II)V"⟩ : MethodName) ∈ gT := mm3 103 rfl rfl
theorem tw_803 : Cond.sameMethod "[I" "java/lang/Object" "clone" "()Ljava/lang/Object;" ∈ gT := mm4 14 rfl rfl
theorem tw_804 : Cond.native (⟨"java/lang/Object", "clone", "()Ljava/lang/Object;"⟩ : MethodName) ∈ gT := mm4 15 rfl rfl
theorem tw_805 : Cond.instanceMethod (⟨"java/lang/Object", "clone", "()Ljava/lang/Object;"⟩ : MethodName) ∈ gT := mm4 16 rfl rfl
theorem tw_806 : Cond.selects "[I" (⟨"[I", "clone", "()Ljava/lang/Object;"⟩ : MethodName) (⟨"java/lang/Object", "clone", "()Ljava/lang/Object;"⟩ : MethodName) ∈ gT := mm4 17 rfl rfl
theorem acI : Cond.arrayClass .int ∈ gT := tw_167
theorem acL : Cond.arrayClass .long ∈ gT := tw_139
theorem acB : Cond.arrayClass .byte ∈ gT := tw_113
theorem acZ : Cond.arrayClass .boolean ∈ gT := tw_1162
theorem oi_in : Cond.instanceMethod Lib.objectInit ∈ gT := tw_92
theorem oi_co : Cond.code Lib.objectInit ⟨#[0xb1]⟩ 1 none ∈ gT := tw_93
theorem inX0 : ∀ w ∈ u_ws RX0 TX0 7, w ∈ gT := List.forall_mem_cons.mpr ⟨tw_273, List.forall_mem_cons.mpr ⟨tw_275, List.forall_mem_cons.mpr ⟨tw_277, List.forall_mem_cons.mpr ⟨tw_279, List.forall_mem_cons.mpr ⟨tw_281, List.forall_mem_cons.mpr ⟨tw_283, List.forall_mem_cons.mpr ⟨tw_285, fun _ h => absurd h List.not_mem_nil⟩⟩⟩⟩⟩⟩⟩
theorem inX1 : ∀ w ∈ u_ws RX1 TX1 6, w ∈ gT := List.forall_mem_cons.mpr ⟨tw_371, List.forall_mem_cons.mpr ⟨tw_373, List.forall_mem_cons.mpr ⟨tw_375, List.forall_mem_cons.mpr ⟨tw_377, List.forall_mem_cons.mpr ⟨tw_379, List.forall_mem_cons.mpr ⟨tw_381, fun _ h => absurd h List.not_mem_nil⟩⟩⟩⟩⟩⟩
theorem inX2 : ∀ w ∈ u_ws RX2 TX2 8, w ∈ gT := List.forall_mem_cons.mpr ⟨tw_201, List.forall_mem_cons.mpr ⟨tw_203, List.forall_mem_cons.mpr ⟨tw_205, List.forall_mem_cons.mpr ⟨tw_207, List.forall_mem_cons.mpr ⟨tw_209, List.forall_mem_cons.mpr ⟨tw_211, List.forall_mem_cons.mpr ⟨tw_213, List.forall_mem_cons.mpr ⟨tw_215, fun _ h => absurd h List.not_mem_nil⟩⟩⟩⟩⟩⟩⟩⟩
theorem inX3 : ∀ w ∈ u_ws RX3 TX3 10, w ∈ gT := List.forall_mem_cons.mpr ⟨tw_306, List.forall_mem_cons.mpr ⟨tw_308, List.forall_mem_cons.mpr ⟨tw_310, List.forall_mem_cons.mpr ⟨tw_312, List.forall_mem_cons.mpr ⟨tw_314, List.forall_mem_cons.mpr ⟨tw_316, List.forall_mem_cons.mpr ⟨tw_318, List.forall_mem_cons.mpr ⟨tw_320, List.forall_mem_cons.mpr ⟨tw_322, List.forall_mem_cons.mpr ⟨tw_324, fun _ h => absurd h List.not_mem_nil⟩⟩⟩⟩⟩⟩⟩⟩⟩⟩
theorem inX4 : ∀ w ∈ u_ws RX4 TX4 3, w ∈ gT := List.forall_mem_cons.mpr ⟨tw_132, List.forall_mem_cons.mpr ⟨tw_134, List.forall_mem_cons.mpr ⟨tw_136, fun _ h => absurd h List.not_mem_nil⟩⟩⟩
theorem inX5 : ∀ w ∈ u_ws RX5 TX5 3, w ∈ gT := List.forall_mem_cons.mpr ⟨tw_339, List.forall_mem_cons.mpr ⟨tw_341, List.forall_mem_cons.mpr ⟨tw_343, fun _ h => absurd h List.not_mem_nil⟩⟩⟩
theorem inX6 : ∀ w ∈ u_ws RX6 TX6 2, w ∈ gT := List.forall_mem_cons.mpr ⟨tw_246, List.forall_mem_cons.mpr ⟨tw_248, fun _ h => absurd h List.not_mem_nil⟩⟩
theorem inX7 : ∀ w ∈ u_ws RX7 TX7 2, w ∈ gT := List.forall_mem_cons.mpr ⟨tw_387, List.forall_mem_cons.mpr ⟨tw_389, fun _ h => absurd h List.not_mem_nil⟩⟩
theorem inX8 : ∀ w ∈ u_ws RX8 TX8 3, w ∈ gT := List.forall_mem_cons.mpr ⟨tw_106, List.forall_mem_cons.mpr ⟨tw_108, List.forall_mem_cons.mpr ⟨tw_110, fun _ h => absurd h List.not_mem_nil⟩⟩⟩
theorem inX10 : ∀ w ∈ u_ws RX10 TX10 2, w ∈ gT := List.forall_mem_cons.mpr ⟨tw_162, List.forall_mem_cons.mpr ⟨tw_164, fun _ h => absurd h List.not_mem_nil⟩⟩
theorem inX11 : ∀ w ∈ u_ws RX11 TX11 13, w ∈ gT := List.forall_mem_cons.mpr ⟨tw_405, List.forall_mem_cons.mpr ⟨tw_407, List.forall_mem_cons.mpr ⟨tw_409, List.forall_mem_cons.mpr ⟨tw_411, List.forall_mem_cons.mpr ⟨tw_413, List.forall_mem_cons.mpr ⟨tw_415, List.forall_mem_cons.mpr ⟨tw_417, List.forall_mem_cons.mpr ⟨tw_419, List.forall_mem_cons.mpr ⟨tw_421, List.forall_mem_cons.mpr ⟨tw_423, List.forall_mem_cons.mpr ⟨tw_425, List.forall_mem_cons.mpr ⟨tw_427, List.forall_mem_cons.mpr ⟨tw_429, fun _ h => absurd h List.not_mem_nil⟩⟩⟩⟩⟩⟩⟩⟩⟩⟩⟩⟩⟩
theorem inX12 : ∀ w ∈ u_ws RX12 TX12 33, w ∈ gT := List.forall_mem_cons.mpr ⟨tw_1095, List.forall_mem_cons.mpr ⟨tw_1097, List.forall_mem_cons.mpr ⟨tw_1099, List.forall_mem_cons.mpr ⟨tw_1101, List.forall_mem_cons.mpr ⟨tw_1103, List.forall_mem_cons.mpr ⟨tw_1105, List.forall_mem_cons.mpr ⟨tw_1107, List.forall_mem_cons.mpr ⟨tw_1109, List.forall_mem_cons.mpr ⟨tw_1111, List.forall_mem_cons.mpr ⟨tw_1113, List.forall_mem_cons.mpr ⟨tw_1115, List.forall_mem_cons.mpr ⟨tw_1117, List.forall_mem_cons.mpr ⟨tw_1119, List.forall_mem_cons.mpr ⟨tw_1121, List.forall_mem_cons.mpr ⟨tw_1123, List.forall_mem_cons.mpr ⟨tw_1125, List.forall_mem_cons.mpr ⟨tw_1127, List.forall_mem_cons.mpr ⟨tw_1129, List.forall_mem_cons.mpr ⟨tw_1131, List.forall_mem_cons.mpr ⟨tw_1133, List.forall_mem_cons.mpr ⟨tw_1135, List.forall_mem_cons.mpr ⟨tw_1137, List.forall_mem_cons.mpr ⟨tw_1139, List.forall_mem_cons.mpr ⟨tw_1141, List.forall_mem_cons.mpr ⟨tw_1143, List.forall_mem_cons.mpr ⟨tw_1145, List.forall_mem_cons.mpr ⟨tw_1147, List.forall_mem_cons.mpr ⟨tw_1149, List.forall_mem_cons.mpr ⟨tw_1151, List.forall_mem_cons.mpr ⟨tw_1153, List.forall_mem_cons.mpr ⟨tw_1155, List.forall_mem_cons.mpr ⟨tw_1157, List.forall_mem_cons.mpr ⟨tw_1159, fun _ h => absurd h List.not_mem_nil⟩⟩⟩⟩⟩⟩⟩⟩⟩⟩⟩⟩⟩⟩⟩⟩⟩⟩⟩⟩⟩⟩⟩⟩⟩⟩⟩⟩⟩⟩⟩⟩⟩
theorem cl_L_7 : Cond.classLink RL 7 "MahlerBox" ∈ gT := tw_86
theorem nk_L_7 : NOK RL 7 10 [.null, .null, .null, .null, .null, .null, .null, .null, .null, .null, .null, .int 0, .int 0] := ⟨_, _, _, tyX11, rfl, inX11, cl_L_7, tw_87, tw_70, tyX11_ok, rfl, fun _ _ => rfl, by decide +kernel⟩
theorem pn_X11_init : yX11_init.cls ≠ "java/lang/invoke/MethodHandle" ∧ yX11_init.cls ≠ "java/lang/invoke/VarHandle" ∧ (parseMethodDescriptor yX11_init.desc).map (fun d => d.parameters.length) = some 0 := ⟨by decide +kernel, by decide +kernel, by decide +kernel⟩
theorem ci_L_9 : CI RL 9 yX11_init cX11_init 1 0 := ⟨⟨tw_88, tw_70, tw_90, pn_X11_init⟩, tw_89, rfl⟩
theorem ol_X11_3 : Cond.methodLink RX11 3 Lib.objectInit ∈ gT := tw_91
theorem cl_X11_9 : Cond.classLink RX11 9 "MahlerBox$Tape" ∈ gT := tw_94
theorem nk_X11_9 : NOK RX11 9 8 [.null, .int 0, .int 0] := ⟨_, _, _, tyX8, rfl, inX8, cl_X11_9, tw_95, tw_71, tyX8_ok, rfl, fun _ _ => rfl, by decide +kernel⟩
theorem pn_X8_init : yX8_init.cls ≠ "java/lang/invoke/MethodHandle" ∧ yX8_init.cls ≠ "java/lang/invoke/VarHandle" ∧ (parseMethodDescriptor yX8_init.desc).map (fun d => d.parameters.length) = some 0 := ⟨by decide +kernel, by decide +kernel, by decide +kernel⟩
theorem cn_X8_init : Cond.initialized yX8_init.cls ∈ gT ∧ Cond.code yX8_init cX8_init 1 none ∈ gT ∧ Cond.instanceMethod yX8_init ∈ gT := ⟨tw_71, tw_98, tw_97⟩
theorem ol_X8_3 : Cond.methodLink RX8 3 Lib.objectInit ∈ gT := tw_99
theorem fk_X8_11 : FOK RX8 11 8 0 true (.array .byte) := ⟨_, _, _, tyX8, rfl, inX8, by decide, tw_100, tyX8_ok, nmX8, rfl, rfl⟩
theorem fk_X8_15 : FOK RX8 15 8 1 false (.int) := ⟨_, _, _, tyX8, rfl, inX8, by decide, tw_101, tyX8_ok, nmX8, rfl, rfl⟩
theorem fk_X11_88 : FOK RX11 88 8 1 false (.int) := ⟨_, _, _, tyX8, rfl, inX8, by decide, tw_102, tyX8_ok, nmX8, rfl, rfl⟩
theorem fk_X9_34 : FOK RX9 34 8 1 false (.int) := ⟨_, _, _, tyX8, rfl, inX8, by decide, tw_103, tyX8_ok, nmX8, rfl, rfl⟩
theorem fk_X8_19 : FOK RX8 19 8 2 false (.int) := ⟨_, _, _, tyX8, rfl, inX8, by decide, tw_104, tyX8_ok, nmX8, rfl, rfl⟩
theorem fk_X9_15 : FOK RX9 15 8 2 false (.int) := ⟨_, _, _, tyX8, rfl, inX8, by decide, tw_105, tyX8_ok, nmX8, rfl, rfl⟩
theorem cl_X11_16 : Cond.classLink RX11 16 "MahlerBox$Ladder" ∈ gT := tw_114
theorem nk_X11_16 : NOK RX11 16 4 [.null, .int 0, .int 0] := ⟨_, _, _, tyX4, rfl, inX4, cl_X11_16, tw_115, tw_72, tyX4_ok, rfl, fun _ _ => rfl, by decide +kernel⟩
theorem pn_X4_init : yX4_init.cls ≠ "java/lang/invoke/MethodHandle" ∧ yX4_init.cls ≠ "java/lang/invoke/VarHandle" ∧ (parseMethodDescriptor yX4_init.desc).map (fun d => d.parameters.length) = some 0 := ⟨by decide +kernel, by decide +kernel, by decide +kernel⟩
theorem cn_X4_init : Cond.initialized yX4_init.cls ∈ gT ∧ Cond.code yX4_init cX4_init 1 none ∈ gT ∧ Cond.instanceMethod yX4_init ∈ gT := ⟨tw_72, tw_118, tw_117⟩
theorem ol_X4_3 : Cond.methodLink RX4 3 Lib.objectInit ∈ gT := tw_119
theorem cl_X4_9 : Cond.classLink RX4 9 "[[J" ∈ gT := tw_120
theorem fk_X4_11 : FOK RX4 11 4 0 true (.array (.array .long)) := ⟨_, _, _, tyX4, rfl, inX4, by decide, tw_122, tyX4_ok, nmX4, rfl, rfl⟩
theorem fk_X2_55 : FOK RX2 55 4 0 true (.array (.array .long)) := ⟨_, _, _, tyX4, rfl, inX4, by decide, tw_123, tyX4_ok, nmX4, rfl, rfl⟩
theorem fk_X3_97 : FOK RX3 97 4 0 true (.array (.array .long)) := ⟨_, _, _, tyX4, rfl, inX4, by decide, tw_124, tyX4_ok, nmX4, rfl, rfl⟩
theorem fk_X11_283 : FOK RX11 283 4 0 true (.array (.array .long)) := ⟨_, _, _, tyX4, rfl, inX4, by decide, tw_125, tyX4_ok, nmX4, rfl, rfl⟩
theorem fk_X4_16 : FOK RX4 16 4 1 false (.int) := ⟨_, _, _, tyX4, rfl, inX4, by decide, tw_126, tyX4_ok, nmX4, rfl, rfl⟩
theorem fk_X2_61 : FOK RX2 61 4 1 false (.int) := ⟨_, _, _, tyX4, rfl, inX4, by decide, tw_127, tyX4_ok, nmX4, rfl, rfl⟩
theorem fk_X11_282 : FOK RX11 282 4 1 false (.int) := ⟨_, _, _, tyX4, rfl, inX4, by decide, tw_128, tyX4_ok, nmX4, rfl, rfl⟩
theorem fk_X4_20 : FOK RX4 20 4 2 false (.int) := ⟨_, _, _, tyX4, rfl, inX4, by decide, tw_129, tyX4_ok, nmX4, rfl, rfl⟩
theorem fk_X2_99 : FOK RX2 99 4 2 false (.int) := ⟨_, _, _, tyX4, rfl, inX4, by decide, tw_130, tyX4_ok, nmX4, rfl, rfl⟩
theorem fk_X3_108 : FOK RX3 108 4 2 false (.int) := ⟨_, _, _, tyX4, rfl, inX4, by decide, tw_131, tyX4_ok, nmX4, rfl, rfl⟩
theorem cl_X11_23 : Cond.classLink RX11 23 "MahlerBox$Gauge" ∈ gT := tw_140
theorem nk_X11_23 : NOK RX11 23 2 [.null, .null, .null, .null, .null, .null, .int 0, .int 0] := ⟨_, _, _, tyX2, rfl, inX2, cl_X11_23, tw_141, tw_73, tyX2_ok, rfl, fun _ _ => rfl, by decide +kernel⟩
theorem pn_X2_init : yX2_init.cls ≠ "java/lang/invoke/MethodHandle" ∧ yX2_init.cls ≠ "java/lang/invoke/VarHandle" ∧ (parseMethodDescriptor yX2_init.desc).map (fun d => d.parameters.length) = some 0 := ⟨by decide +kernel, by decide +kernel, by decide +kernel⟩
theorem ci_X11_25 : CI RX11 25 yX2_init cX2_init 4 0 := ⟨⟨tw_142, tw_73, tw_144, pn_X2_init⟩, tw_143, rfl⟩
theorem ol_X2_5 : Cond.methodLink RX2 5 Lib.objectInit ∈ gT := tw_145
theorem cl_X2_1 : Cond.classLink RX2 1 "MahlerBox$Whole" ∈ gT := tw_146
theorem nk_X2_1 : NOK RX2 1 9 [.null, .int 0] := ⟨_, _, _, tyX10, rfl, inX10, cl_X2_1, tw_150, tw_74, tyX10_ok, rfl, fun _ _ => rfl, by decide +kernel⟩
theorem cl_X2_17 : Cond.classLink RX2 17 "[[I" ∈ gT := tw_148
theorem pn_X10_init : yX10_init.cls ≠ "java/lang/invoke/MethodHandle" ∧ yX10_init.cls ≠ "java/lang/invoke/VarHandle" ∧ (parseMethodDescriptor yX10_init.desc).map (fun d => d.parameters.length) = some 1 := ⟨by decide +kernel, by decide +kernel, by decide +kernel⟩
theorem ci_X2_22 : CI RX2 22 yX10_init cX10_init 2 1 := ⟨⟨tw_151, tw_74, tw_153, pn_X10_init⟩, tw_152, rfl⟩
theorem ol_X10_3 : Cond.methodLink RX10 3 Lib.objectInit ∈ gT := tw_154
theorem pn_J9_max_7cf53 : yJ9_max_7cf53.cls ≠ "java/lang/invoke/MethodHandle" ∧ yJ9_max_7cf53.cls ≠ "java/lang/invoke/VarHandle" ∧ (parseMethodDescriptor yJ9_max_7cf53.desc).map (fun d => d.parameters.length) = some 2 := ⟨by decide +kernel, by decide +kernel, by decide +kernel⟩
theorem cs_X10_13 : CS RX10 13 yJ9_max_7cf53 cJ9_max_7cf53 2 (some .int) 2 := ⟨⟨tw_155, tw_75, tw_157, pn_J9_max_7cf53⟩, tw_156⟩
theorem fk_X10_19 : FOK RX10 19 9 0 true (.array .long) := ⟨_, _, _, tyX10, rfl, inX10, by decide, tw_158, tyX10_ok, nmX10, rfl, rfl⟩
theorem fk_X2_128 : FOK RX2 128 9 0 true (.array .long) := ⟨_, _, _, tyX10, rfl, inX10, by decide, tw_159, tyX10_ok, nmX10, rfl, rfl⟩
theorem fk_X10_9 : FOK RX10 9 9 1 false (.int) := ⟨_, _, _, tyX10, rfl, inX10, by decide, tw_160, tyX10_ok, nmX10, rfl, rfl⟩
theorem fk_X2_48 : FOK RX2 48 9 1 false (.int) := ⟨_, _, _, tyX10, rfl, inX10, by decide, tw_161, tyX10_ok, nmX10, rfl, rfl⟩
theorem pn_X10_setSmall : yX10_setSmall.cls ≠ "java/lang/invoke/MethodHandle" ∧ yX10_setSmall.cls ≠ "java/lang/invoke/VarHandle" ∧ (parseMethodDescriptor yX10_setSmall.desc).map (fun d => d.parameters.length) = some 1 := ⟨by decide +kernel, by decide +kernel, by decide +kernel⟩
theorem cv_X2_45 : CV RX2 45 9 yX10_setSmall cX10_setSmall 2 none 1 := ⟨⟨tw_168, tw_74, tw_171, pn_X10_setSmall⟩, tw_169, tw_170, _, _, rfl⟩
theorem kc_X10_23 : Cond.constantLong RX10 23 (268435455) ∈ gT := tw_172
theorem pn_X10_setSquare : yX10_setSquare.cls ≠ "java/lang/invoke/MethodHandle" ∧ yX10_setSquare.cls ≠ "java/lang/invoke/VarHandle" ∧ (parseMethodDescriptor yX10_setSquare.desc).map (fun d => d.parameters.length) = some 1 := ⟨by decide +kernel, by decide +kernel, by decide +kernel⟩
theorem cv_X2_51 : CV RX2 51 9 yX10_setSquare cX10_setSquare 8 none 1 := ⟨⟨tw_173, tw_74, tw_176, pn_X10_setSquare⟩, tw_174, tw_175, _, _, rfl⟩
theorem pn_J9_min_7cf53 : yJ9_min_7cf53.cls ≠ "java/lang/invoke/MethodHandle" ∧ yJ9_min_7cf53.cls ≠ "java/lang/invoke/VarHandle" ∧ (parseMethodDescriptor yJ9_min_7cf53.desc).map (fun d => d.parameters.length) = some 2 := ⟨by decide +kernel, by decide +kernel, by decide +kernel⟩
theorem cs_X10_25 : CS RX10 25 yJ9_min_7cf53 cJ9_min_7cf53 2 (some .int) 2 := ⟨⟨tw_177, tw_75, tw_179, pn_J9_min_7cf53⟩, tw_178⟩
theorem pn_J7_fill_bad5a : yJ7_fill_bad5a.cls ≠ "java/lang/invoke/MethodHandle" ∧ yJ7_fill_bad5a.cls ≠ "java/lang/invoke/VarHandle" ∧ (parseMethodDescriptor yJ7_fill_bad5a.desc).map (fun d => d.parameters.length) = some 4 := ⟨by decide +kernel, by decide +kernel, by decide +kernel⟩
theorem cs_X10_38 : CS RX10 38 yJ7_fill_bad5a cJ7_fill_bad5a 6 none 4 := ⟨⟨tw_180, tw_76, tw_182, pn_J7_fill_bad5a⟩, tw_181⟩
theorem pn_J7_rangeCheck_23922 : yJ7_rangeCheck_23922.cls ≠ "java/lang/invoke/MethodHandle" ∧ yJ7_rangeCheck_23922.cls ≠ "java/lang/invoke/VarHandle" ∧ (parseMethodDescriptor yJ7_rangeCheck_23922.desc).map (fun d => d.parameters.length) = some 3 := ⟨by decide +kernel, by decide +kernel, by decide +kernel⟩
theorem cs_J7_13 : CS RJ7 13 yJ7_rangeCheck_23922 cJ7_rangeCheck_23922 3 none 3 := ⟨⟨tw_183, tw_76, tw_185, pn_J7_rangeCheck_23922⟩, tw_184⟩
theorem kc_X10_44 : Cond.constantLong RX10 44 (2) ∈ gT := tw_186
theorem pn_X10_carry : yX10_carry.cls ≠ "java/lang/invoke/MethodHandle" ∧ yX10_carry.cls ≠ "java/lang/invoke/VarHandle" ∧ (parseMethodDescriptor yX10_carry.desc).map (fun d => d.parameters.length) = some 1 := ⟨by decide +kernel, by decide +kernel, by decide +kernel⟩
theorem cv_X10_28 : CV RX10 28 9 yX10_carry cX10_carry 7 none 1 := ⟨⟨tw_187, tw_74, tw_190, pn_X10_carry⟩, tw_189, tw_0, _, _, rfl⟩
theorem fk_X2_11 : FOK RX2 11 2 0 true (.array (.object "MahlerBox$Whole")) := ⟨_, _, _, tyX2, rfl, inX2, by decide, tw_191, tyX2_ok, nmX2, rfl, rfl⟩
theorem fk_X2_19 : FOK RX2 19 2 1 true (.array (.array .int)) := ⟨_, _, _, tyX2, rfl, inX2, by decide, tw_192, tyX2_ok, nmX2, rfl, rfl⟩
theorem fk_X2_25 : FOK RX2 25 2 2 true (.object "MahlerBox$Whole") := ⟨_, _, _, tyX2, rfl, inX2, by decide, tw_193, tyX2_ok, nmX2, rfl, rfl⟩
theorem fk_X2_29 : FOK RX2 29 2 3 true (.object "MahlerBox$Whole") := ⟨_, _, _, tyX2, rfl, inX2, by decide, tw_194, tyX2_ok, nmX2, rfl, rfl⟩
theorem fk_X2_32 : FOK RX2 32 2 4 true (.object "MahlerBox$Whole") := ⟨_, _, _, tyX2, rfl, inX2, by decide, tw_195, tyX2_ok, nmX2, rfl, rfl⟩
theorem fk_X2_35 : FOK RX2 35 2 5 true (.object "MahlerBox$Whole") := ⟨_, _, _, tyX2, rfl, inX2, by decide, tw_196, tyX2_ok, nmX2, rfl, rfl⟩
theorem fk_X2_38 : FOK RX2 38 2 6 false (.int) := ⟨_, _, _, tyX2, rfl, inX2, by decide, tw_197, tyX2_ok, nmX2, rfl, rfl⟩
theorem fk_X11_301 : FOK RX11 301 2 6 false (.int) := ⟨_, _, _, tyX2, rfl, inX2, by decide, tw_198, tyX2_ok, nmX2, rfl, rfl⟩
theorem fk_X2_42 : FOK RX2 42 2 7 false (.int) := ⟨_, _, _, tyX2, rfl, inX2, by decide, tw_199, tyX2_ok, nmX2, rfl, rfl⟩
theorem fk_X11_304 : FOK RX11 304 2 7 false (.int) := ⟨_, _, _, tyX2, rfl, inX2, by decide, tw_200, tyX2_ok, nmX2, rfl, rfl⟩
theorem cl_X11_30 : Cond.classLink RX11 30 "MahlerBox$Circle" ∈ gT := tw_218
theorem nk_X11_30 : NOK RX11 30 0 [.null, .null, .null, .null, .null, .int 0, .long 0] := ⟨_, _, _, tyX0, rfl, inX0, cl_X11_30, tw_219, tw_77, tyX0_ok, rfl, fun _ _ => rfl, by decide +kernel⟩
theorem pn_X0_init : yX0_init.cls ≠ "java/lang/invoke/MethodHandle" ∧ yX0_init.cls ≠ "java/lang/invoke/VarHandle" ∧ (parseMethodDescriptor yX0_init.desc).map (fun d => d.parameters.length) = some 0 := ⟨by decide +kernel, by decide +kernel, by decide +kernel⟩
theorem ci_X11_32 : CI RX11 32 yX0_init cX0_init 3 0 := ⟨⟨tw_220, tw_77, tw_222, pn_X0_init⟩, tw_221, rfl⟩
theorem ol_X0_3 : Cond.methodLink RX0 3 Lib.objectInit ∈ gT := tw_223
theorem cl_X0_9 : Cond.classLink RX0 9 "MahlerBox$Poly" ∈ gT := tw_224
theorem nk_X0_9 : NOK RX0 9 6 [.int 0, .null] := ⟨_, _, _, tyX6, rfl, inX6, cl_X0_9, tw_230, tw_78, tyX6_ok, rfl, fun _ _ => rfl, by decide +kernel⟩
theorem pn_X0_put : yX0_put.cls ≠ "java/lang/invoke/MethodHandle" ∧ yX0_put.cls ≠ "java/lang/invoke/VarHandle" ∧ (parseMethodDescriptor yX0_put.desc).map (fun d => d.parameters.length) = some 2 := ⟨by decide +kernel, by decide +kernel, by decide +kernel⟩
theorem cv_X0_38 : CV RX0 38 0 yX0_put cX0_put 3 none 2 := ⟨⟨tw_226, tw_77, tw_229, pn_X0_put⟩, tw_228, tw_1, _, _, rfl⟩
theorem pn_X6_init : yX6_init.cls ≠ "java/lang/invoke/MethodHandle" ∧ yX6_init.cls ≠ "java/lang/invoke/VarHandle" ∧ (parseMethodDescriptor yX6_init.desc).map (fun d => d.parameters.length) = some 2 := ⟨by decide +kernel, by decide +kernel, by decide +kernel⟩
theorem ci_X0_97 : CI RX0 97 yX6_init cX6_init 4 2 := ⟨⟨tw_231, tw_78, tw_233, pn_X6_init⟩, tw_232, rfl⟩
theorem ol_X6_3 : Cond.methodLink RX6 3 Lib.objectInit ∈ gT := tw_234
theorem cs_X6_9 : CS RX6 9 yJ9_min_7cf53 cJ9_min_7cf53 2 (some .int) 2 := ⟨⟨tw_235, tw_75, tw_179, pn_J9_min_7cf53⟩, tw_178⟩
theorem cs_X6_15 : CS RX6 15 yJ9_max_7cf53 cJ9_max_7cf53 2 (some .int) 2 := ⟨⟨tw_236, tw_75, tw_157, pn_J9_max_7cf53⟩, tw_156⟩
theorem fk_X6_18 : FOK RX6 18 6 0 true (.int) := ⟨_, _, _, tyX6, rfl, inX6, by decide, tw_237, tyX6_ok, nmX6, rfl, rfl⟩
theorem fk_X4_29 : FOK RX4 29 6 0 true (.int) := ⟨_, _, _, tyX6, rfl, inX6, by decide, tw_238, tyX6_ok, nmX6, rfl, rfl⟩
theorem fk_X0_50 : FOK RX0 50 6 0 true (.int) := ⟨_, _, _, tyX6, rfl, inX6, by decide, tw_239, tyX6_ok, nmX6, rfl, rfl⟩
theorem fk_X9_55 : FOK RX9 55 6 0 true (.int) := ⟨_, _, _, tyX6, rfl, inX6, by decide, tw_240, tyX6_ok, nmX6, rfl, rfl⟩
theorem fk_X7_32 : FOK RX7 32 6 0 true (.int) := ⟨_, _, _, tyX6, rfl, inX6, by decide, tw_241, tyX6_ok, nmX6, rfl, rfl⟩
theorem fk_X11_132 : FOK RX11 132 6 0 true (.int) := ⟨_, _, _, tyX6, rfl, inX6, by decide, tw_242, tyX6_ok, nmX6, rfl, rfl⟩
theorem fk_X6_24 : FOK RX6 24 6 1 true (.array .int) := ⟨_, _, _, tyX6, rfl, inX6, by decide, tw_243, tyX6_ok, nmX6, rfl, rfl⟩
theorem fk_X9_58 : FOK RX9 58 6 1 true (.array .int) := ⟨_, _, _, tyX6, rfl, inX6, by decide, tw_244, tyX6_ok, nmX6, rfl, rfl⟩
theorem fk_X11_139 : FOK RX11 139 6 1 true (.array .int) := ⟨_, _, _, tyX6, rfl, inX6, by decide, tw_245, tyX6_ok, nmX6, rfl, rfl⟩
theorem pn_X0_markOf : yX0_markOf.cls ≠ "java/lang/invoke/MethodHandle" ∧ yX0_markOf.cls ≠ "java/lang/invoke/VarHandle" ∧ (parseMethodDescriptor yX0_markOf.desc).map (fun d => d.parameters.length) = some 2 := ⟨by decide +kernel, by decide +kernel, by decide +kernel⟩
theorem cs_X0_53 : CS RX0 53 yX0_markOf cX0_markOf 5 (some .long) 2 := ⟨⟨tw_251, tw_77, tw_253, pn_X0_markOf⟩, tw_252⟩
theorem kc_X0_100 : Cond.constantLong RX0 100 (4) ∈ gT := tw_254
theorem pn_X0_writeCyclotomic : yX0_writeCyclotomic.cls ≠ "java/lang/invoke/MethodHandle" ∧ yX0_writeCyclotomic.cls ≠ "java/lang/invoke/VarHandle" ∧ (parseMethodDescriptor yX0_writeCyclotomic.desc).map (fun d => d.parameters.length) = some 1 := ⟨by decide +kernel, by decide +kernel, by decide +kernel⟩
theorem cv_X0_42 : CV RX0 42 0 yX0_writeCyclotomic cX0_writeCyclotomic 6 (some .int) 1 := ⟨⟨tw_255, tw_77, tw_258, pn_X0_writeCyclotomic⟩, tw_257, tw_2, _, _, rfl⟩
theorem pn_J7_fill_d0a16 : yJ7_fill_d0a16.cls ≠ "java/lang/invoke/MethodHandle" ∧ yJ7_fill_d0a16.cls ≠ "java/lang/invoke/VarHandle" ∧ (parseMethodDescriptor yJ7_fill_d0a16.desc).map (fun d => d.parameters.length) = some 2 := ⟨by decide +kernel, by decide +kernel, by decide +kernel⟩
theorem cs_X0_83 : CS RX0 83 yJ7_fill_d0a16 cJ7_fill_d0a16 5 none 2 := ⟨⟨tw_259, tw_76, tw_261, pn_J7_fill_d0a16⟩, tw_260⟩
theorem kc_X0_102 : Cond.constantLong RX0 102 (-1) ∈ gT := tw_262
theorem pn_X0_moebius : yX0_moebius.cls ≠ "java/lang/invoke/MethodHandle" ∧ yX0_moebius.cls ≠ "java/lang/invoke/VarHandle" ∧ (parseMethodDescriptor yX0_moebius.desc).map (fun d => d.parameters.length) = some 1 := ⟨by decide +kernel, by decide +kernel, by decide +kernel⟩
theorem cs_X0_104 : CS RX0 104 yX0_moebius cX0_moebius 4 (some .int) 1 := ⟨⟨tw_263, tw_77, tw_265, pn_X0_moebius⟩, tw_264⟩
theorem fk_X0_11 : FOK RX0 11 0 0 true (.array (.object "MahlerBox$Poly")) := ⟨_, _, _, tyX0, rfl, inX0, by decide, tw_266, tyX0_ok, nmX0, rfl, rfl⟩
theorem fk_X0_17 : FOK RX0 17 0 1 true (.array .long) := ⟨_, _, _, tyX0, rfl, inX0, by decide, tw_267, tyX0_ok, nmX0, rfl, rfl⟩
theorem fk_X0_21 : FOK RX0 21 0 2 true (.array .long) := ⟨_, _, _, tyX0, rfl, inX0, by decide, tw_268, tyX0_ok, nmX0, rfl, rfl⟩
theorem fk_X0_24 : FOK RX0 24 0 3 true (.array .long) := ⟨_, _, _, tyX0, rfl, inX0, by decide, tw_269, tyX0_ok, nmX0, rfl, rfl⟩
theorem fk_X0_27 : FOK RX0 27 0 4 true (.array .long) := ⟨_, _, _, tyX0, rfl, inX0, by decide, tw_270, tyX0_ok, nmX0, rfl, rfl⟩
theorem fk_X0_30 : FOK RX0 30 0 5 false (.int) := ⟨_, _, _, tyX0, rfl, inX0, by decide, tw_271, tyX0_ok, nmX0, rfl, rfl⟩
theorem fk_X0_34 : FOK RX0 34 0 6 false (.long) := ⟨_, _, _, tyX0, rfl, inX0, by decide, tw_272, tyX0_ok, nmX0, rfl, rfl⟩
theorem cl_X11_37 : Cond.classLink RX11 37 "MahlerBox$Hunt" ∈ gT := tw_288
theorem nk_X11_37 : NOK RX11 37 3 [.null, .null, .null, .null, .int 0, .int 0, .int 0, .int 0, .int 0, .int 0] := ⟨_, _, _, tyX3, rfl, inX3, cl_X11_37, tw_289, tw_79, tyX3_ok, rfl, fun _ _ => rfl, by decide +kernel⟩
theorem pn_X3_init : yX3_init.cls ≠ "java/lang/invoke/MethodHandle" ∧ yX3_init.cls ≠ "java/lang/invoke/VarHandle" ∧ (parseMethodDescriptor yX3_init.desc).map (fun d => d.parameters.length) = some 0 := ⟨by decide +kernel, by decide +kernel, by decide +kernel⟩
theorem ci_X11_39 : CI RX11 39 yX3_init cX3_init 2 0 := ⟨⟨tw_290, tw_79, tw_292, pn_X3_init⟩, tw_291, rfl⟩
theorem ol_X3_3 : Cond.methodLink RX3 3 Lib.objectInit ∈ gT := tw_293
theorem cl_X3_9 : Cond.classLink RX3 9 "MahlerBox$Whole" ∈ gT := tw_294
theorem nk_X3_9 : NOK RX3 9 9 [.null, .int 0] := ⟨_, _, _, tyX10, rfl, inX10, cl_X3_9, tw_150, tw_74, tyX10_ok, rfl, fun _ _ => rfl, by decide +kernel⟩
theorem ci_X3_17 : CI RX3 17 yX10_init cX10_init 2 1 := ⟨⟨tw_295, tw_74, tw_153, pn_X10_init⟩, tw_152, rfl⟩
theorem fk_X3_11 : FOK RX3 11 3 0 true (.array (.object "MahlerBox$Whole")) := ⟨_, _, _, tyX3, rfl, inX3, by decide, tw_296, tyX3_ok, nmX3, rfl, rfl⟩
theorem fk_X3_20 : FOK RX3 20 3 1 true (.object "MahlerBox$Whole") := ⟨_, _, _, tyX3, rfl, inX3, by decide, tw_297, tyX3_ok, nmX3, rfl, rfl⟩
theorem fk_X3_24 : FOK RX3 24 3 2 true (.array .long) := ⟨_, _, _, tyX3, rfl, inX3, by decide, tw_298, tyX3_ok, nmX3, rfl, rfl⟩
theorem fk_X3_30 : FOK RX3 30 3 3 true (.array .int) := ⟨_, _, _, tyX3, rfl, inX3, by decide, tw_299, tyX3_ok, nmX3, rfl, rfl⟩
theorem fk_X3_34 : FOK RX3 34 3 4 false (.int) := ⟨_, _, _, tyX3, rfl, inX3, by decide, tw_300, tyX3_ok, nmX3, rfl, rfl⟩
theorem fk_X3_38 : FOK RX3 38 3 5 false (.int) := ⟨_, _, _, tyX3, rfl, inX3, by decide, tw_301, tyX3_ok, nmX3, rfl, rfl⟩
theorem fk_X3_41 : FOK RX3 41 3 6 false (.int) := ⟨_, _, _, tyX3, rfl, inX3, by decide, tw_302, tyX3_ok, nmX3, rfl, rfl⟩
theorem fk_X3_44 : FOK RX3 44 3 7 false (.int) := ⟨_, _, _, tyX3, rfl, inX3, by decide, tw_303, tyX3_ok, nmX3, rfl, rfl⟩
theorem fk_X3_47 : FOK RX3 47 3 8 false (.int) := ⟨_, _, _, tyX3, rfl, inX3, by decide, tw_304, tyX3_ok, nmX3, rfl, rfl⟩
theorem fk_X3_50 : FOK RX3 50 3 9 false (.int) := ⟨_, _, _, tyX3, rfl, inX3, by decide, tw_305, tyX3_ok, nmX3, rfl, rfl⟩
theorem cl_X11_44 : Cond.classLink RX11 44 "MahlerBox$Past" ∈ gT := tw_327
theorem nk_X11_44 : NOK RX11 44 5 [.null, .null, .int 0] := ⟨_, _, _, tyX5, rfl, inX5, cl_X11_44, tw_328, tw_80, tyX5_ok, rfl, fun _ _ => rfl, by decide +kernel⟩
theorem pn_X5_init : yX5_init.cls ≠ "java/lang/invoke/MethodHandle" ∧ yX5_init.cls ≠ "java/lang/invoke/VarHandle" ∧ (parseMethodDescriptor yX5_init.desc).map (fun d => d.parameters.length) = some 0 := ⟨by decide +kernel, by decide +kernel, by decide +kernel⟩
theorem cn_X5_init : Cond.initialized yX5_init.cls ∈ gT ∧ Cond.code yX5_init cX5_init 1 none ∈ gT ∧ Cond.instanceMethod yX5_init ∈ gT := ⟨tw_80, tw_331, tw_330⟩
theorem ol_X5_3 : Cond.methodLink RX5 3 Lib.objectInit ∈ gT := tw_332
theorem cl_X5_11 : Cond.classLink RX5 11 "MahlerBox$Shelf" ∈ gT := tw_333
theorem nk_X5_11 : NOK RX5 11 7 [.null, .null] := ⟨_, _, _, tyX7, rfl, inX7, cl_X5_11, tw_347, tw_81, tyX7_ok, rfl, fun _ _ => rfl, by decide +kernel⟩
theorem fk_X5_13 : FOK RX5 13 5 0 true (.array (.object "MahlerBox$Shelf")) := ⟨_, _, _, tyX5, rfl, inX5, by decide, tw_335, tyX5_ok, nmX5, rfl, rfl⟩
theorem fk_X5_17 : FOK RX5 17 5 1 true (.array .int) := ⟨_, _, _, tyX5, rfl, inX5, by decide, tw_336, tyX5_ok, nmX5, rfl, rfl⟩
theorem fk_X5_21 : FOK RX5 21 5 2 false (.int) := ⟨_, _, _, tyX5, rfl, inX5, by decide, tw_337, tyX5_ok, nmX5, rfl, rfl⟩
theorem fk_X11_218 : FOK RX11 218 5 2 false (.int) := ⟨_, _, _, tyX5, rfl, inX5, by decide, tw_338, tyX5_ok, nmX5, rfl, rfl⟩
theorem cl_X11_51 : Cond.classLink RX11 51 "MahlerBox$Shelf" ∈ gT := tw_346
theorem nk_X11_51 : NOK RX11 51 7 [.null, .null] := ⟨_, _, _, tyX7, rfl, inX7, cl_X11_51, tw_347, tw_81, tyX7_ok, rfl, fun _ _ => rfl, by decide +kernel⟩
theorem pn_X7_init : yX7_init.cls ≠ "java/lang/invoke/MethodHandle" ∧ yX7_init.cls ≠ "java/lang/invoke/VarHandle" ∧ (parseMethodDescriptor yX7_init.desc).map (fun d => d.parameters.length) = some 0 := ⟨by decide +kernel, by decide +kernel, by decide +kernel⟩
theorem ci_X11_68 : CI RX11 68 yX7_init cX7_init 3 0 := ⟨⟨tw_348, tw_81, tw_350, pn_X7_init⟩, tw_349, rfl⟩
theorem ol_X7_3 : Cond.methodLink RX7 3 Lib.objectInit ∈ gT := tw_351
theorem cl_X7_9 : Cond.classLink RX7 9 "MahlerBox$Poly" ∈ gT := tw_352
theorem nk_X7_9 : NOK RX7 9 6 [.int 0, .null] := ⟨_, _, _, tyX6, rfl, inX6, cl_X7_9, tw_230, tw_78, tyX6_ok, rfl, fun _ _ => rfl, by decide +kernel⟩
theorem ci_X7_17 : CI RX7 17 yX6_init cX6_init 4 2 := ⟨⟨tw_353, tw_78, tw_233, pn_X6_init⟩, tw_232, rfl⟩
theorem cl_X7_20 : Cond.classLink RX7 20 "MahlerBox$Found" ∈ gT := tw_354
theorem nk_X7_20 : NOK RX7 20 1 [.int 0, .int 0, .int 0, .int 0, .int 0, .null] := ⟨_, _, _, tyX1, rfl, inX1, cl_X7_20, tw_355, tw_82, tyX1_ok, rfl, fun _ _ => rfl, by decide +kernel⟩
theorem pn_X1_init : yX1_init.cls ≠ "java/lang/invoke/MethodHandle" ∧ yX1_init.cls ≠ "java/lang/invoke/VarHandle" ∧ (parseMethodDescriptor yX1_init.desc).map (fun d => d.parameters.length) = some 5 := ⟨by decide +kernel, by decide +kernel, by decide +kernel⟩
theorem ci_X7_22 : CI RX7 22 yX1_init cX1_init 6 5 := ⟨⟨tw_356, tw_82, tw_358, pn_X1_init⟩, tw_357, rfl⟩
theorem ol_X1_1 : Cond.methodLink RX1 1 Lib.objectInit ∈ gT := tw_359
theorem fk_X1_7 : FOK RX1 7 1 0 true (.int) := ⟨_, _, _, tyX1, rfl, inX1, by decide, tw_360, tyX1_ok, nmX1, rfl, rfl⟩
theorem fk_X11_324 : FOK RX11 324 1 0 true (.int) := ⟨_, _, _, tyX1, rfl, inX1, by decide, tw_361, tyX1_ok, nmX1, rfl, rfl⟩
theorem fk_X1_13 : FOK RX1 13 1 1 true (.int) := ⟨_, _, _, tyX1, rfl, inX1, by decide, tw_362, tyX1_ok, nmX1, rfl, rfl⟩
theorem fk_X11_204 : FOK RX11 204 1 1 true (.int) := ⟨_, _, _, tyX1, rfl, inX1, by decide, tw_363, tyX1_ok, nmX1, rfl, rfl⟩
theorem fk_X1_16 : FOK RX1 16 1 2 true (.int) := ⟨_, _, _, tyX1, rfl, inX1, by decide, tw_364, tyX1_ok, nmX1, rfl, rfl⟩
theorem fk_X11_337 : FOK RX11 337 1 2 true (.int) := ⟨_, _, _, tyX1, rfl, inX1, by decide, tw_365, tyX1_ok, nmX1, rfl, rfl⟩
theorem fk_X1_19 : FOK RX1 19 1 3 true (.int) := ⟨_, _, _, tyX1, rfl, inX1, by decide, tw_366, tyX1_ok, nmX1, rfl, rfl⟩
theorem fk_X11_340 : FOK RX11 340 1 3 true (.int) := ⟨_, _, _, tyX1, rfl, inX1, by decide, tw_367, tyX1_ok, nmX1, rfl, rfl⟩
theorem fk_X1_26 : FOK RX1 26 1 4 true (.int) := ⟨_, _, _, tyX1, rfl, inX1, by decide, tw_368, tyX1_ok, nmX1, rfl, rfl⟩
theorem fk_X11_328 : FOK RX11 328 1 4 true (.int) := ⟨_, _, _, tyX1, rfl, inX1, by decide, tw_369, tyX1_ok, nmX1, rfl, rfl⟩
theorem fk_X1_22 : FOK RX1 22 1 5 true (.array .int) := ⟨_, _, _, tyX1, rfl, inX1, by decide, tw_370, tyX1_ok, nmX1, rfl, rfl⟩
theorem fk_X7_11 : FOK RX7 11 7 0 true (.array (.object "MahlerBox$Poly")) := ⟨_, _, _, tyX7, rfl, inX7, by decide, tw_384, tyX7_ok, nmX7, rfl, rfl⟩
theorem fk_X7_25 : FOK RX7 25 7 1 true (.object "MahlerBox$Found") := ⟨_, _, _, tyX7, rfl, inX7, by decide, tw_385, tyX7_ok, nmX7, rfl, rfl⟩
theorem fk_X11_209 : FOK RX11 209 7 1 true (.object "MahlerBox$Found") := ⟨_, _, _, tyX7, rfl, inX7, by decide, tw_386, tyX7_ok, nmX7, rfl, rfl⟩
theorem fk_X11_12 : FOK RX11 12 10 0 true (.object "MahlerBox$Tape") := ⟨_, _, _, tyX11, rfl, inX11, by decide, tw_392, tyX11_ok, nmX11, rfl, rfl⟩
theorem fk_X11_19 : FOK RX11 19 10 1 true (.object "MahlerBox$Ladder") := ⟨_, _, _, tyX11, rfl, inX11, by decide, tw_393, tyX11_ok, nmX11, rfl, rfl⟩
theorem fk_X11_26 : FOK RX11 26 10 2 true (.object "MahlerBox$Gauge") := ⟨_, _, _, tyX11, rfl, inX11, by decide, tw_394, tyX11_ok, nmX11, rfl, rfl⟩
theorem fk_X11_33 : FOK RX11 33 10 3 true (.object "MahlerBox$Circle") := ⟨_, _, _, tyX11, rfl, inX11, by decide, tw_395, tyX11_ok, nmX11, rfl, rfl⟩
theorem fk_X11_40 : FOK RX11 40 10 4 true (.object "MahlerBox$Hunt") := ⟨_, _, _, tyX11, rfl, inX11, by decide, tw_396, tyX11_ok, nmX11, rfl, rfl⟩
theorem fk_X11_47 : FOK RX11 47 10 5 true (.object "MahlerBox$Past") := ⟨_, _, _, tyX11, rfl, inX11, by decide, tw_397, tyX11_ok, nmX11, rfl, rfl⟩
theorem fk_X11_53 : FOK RX11 53 10 6 true (.array (.object "MahlerBox$Shelf")) := ⟨_, _, _, tyX11, rfl, inX11, by decide, tw_398, tyX11_ok, nmX11, rfl, rfl⟩
theorem fk_X11_57 : FOK RX11 57 10 7 true (.array .long) := ⟨_, _, _, tyX11, rfl, inX11, by decide, tw_399, tyX11_ok, nmX11, rfl, rfl⟩
theorem fk_X11_61 : FOK RX11 61 10 8 true (.array .long) := ⟨_, _, _, tyX11, rfl, inX11, by decide, tw_400, tyX11_ok, nmX11, rfl, rfl⟩
theorem fk_X11_64 : FOK RX11 64 10 9 true (.array .int) := ⟨_, _, _, tyX11, rfl, inX11, by decide, tw_401, tyX11_ok, nmX11, rfl, rfl⟩
theorem fk_X11_69 : FOK RX11 69 10 10 false (.object "MahlerBox$Shelf") := ⟨_, _, _, tyX11, rfl, inX11, by decide, tw_402, tyX11_ok, nmX11, rfl, rfl⟩
theorem fk_X11_73 : FOK RX11 73 10 11 false (.int) := ⟨_, _, _, tyX11, rfl, inX11, by decide, tw_403, tyX11_ok, nmX11, rfl, rfl⟩
theorem fk_X11_77 : FOK RX11 77 10 12 false (.int) := ⟨_, _, _, tyX11, rfl, inX11, by decide, tw_404, tyX11_ok, nmX11, rfl, rfl⟩
theorem pn_X11_feed : yX11_feed.cls ≠ "java/lang/invoke/MethodHandle" ∧ yX11_feed.cls ≠ "java/lang/invoke/VarHandle" ∧ (parseMethodDescriptor yX11_feed.desc).map (fun d => d.parameters.length) = some 5 := ⟨by decide +kernel, by decide +kernel, by decide +kernel⟩
theorem cv_L_13 : CV RL 13 10 yX11_feed cX11_feed 6 (some .int) 5 := ⟨⟨tw_432, tw_70, tw_435, pn_X11_feed⟩, tw_433, tw_434, _, _, rfl⟩
theorem pn_X8_hasRoom : yX8_hasRoom.cls ≠ "java/lang/invoke/MethodHandle" ∧ yX8_hasRoom.cls ≠ "java/lang/invoke/VarHandle" ∧ (parseMethodDescriptor yX8_hasRoom.desc).map (fun d => d.parameters.length) = some 1 := ⟨by decide +kernel, by decide +kernel, by decide +kernel⟩
theorem cv_X11_80 : CV RX11 80 8 yX8_hasRoom cX8_hasRoom 2 (some .boolean) 1 := ⟨⟨tw_436, tw_71, tw_439, pn_X8_hasRoom⟩, tw_437, tw_438, _, _, rfl⟩
theorem pn_X8_addWord : yX8_addWord.cls ≠ "java/lang/invoke/MethodHandle" ∧ yX8_addWord.cls ≠ "java/lang/invoke/VarHandle" ∧ (parseMethodDescriptor yX8_addWord.desc).map (fun d => d.parameters.length) = some 1 := ⟨by decide +kernel, by decide +kernel, by decide +kernel⟩
theorem cv_X11_84 : CV RX11 84 8 yX8_addWord cX8_addWord 3 none 1 := ⟨⟨tw_440, tw_71, tw_443, pn_X8_addWord⟩, tw_441, tw_442, _, _, rfl⟩
theorem pn_X8_addByte : yX8_addByte.cls ≠ "java/lang/invoke/MethodHandle" ∧ yX8_addByte.cls ≠ "java/lang/invoke/VarHandle" ∧ (parseMethodDescriptor yX8_addByte.desc).map (fun d => d.parameters.length) = some 1 := ⟨by decide +kernel, by decide +kernel, by decide +kernel⟩
theorem cv_X8_22 : CV RX8 22 8 yX8_addByte cX8_addByte 2 none 1 := ⟨⟨tw_444, tw_71, tw_447, pn_X8_addByte⟩, tw_445, tw_446, _, _, rfl⟩
theorem pn_X11_end : yX11_end.cls ≠ "java/lang/invoke/MethodHandle" ∧ yX11_end.cls ≠ "java/lang/invoke/VarHandle" ∧ (parseMethodDescriptor yX11_end.desc).map (fun d => d.parameters.length) = some 1 := ⟨by decide +kernel, by decide +kernel, by decide +kernel⟩
theorem cv_L_18 : CV RL 18 10 yX11_end cX11_end 2 (some .int) 1 := ⟨⟨tw_448, tw_70, tw_451, pn_X11_end⟩, tw_449, tw_450, _, _, rfl⟩
theorem pn_X11_tape : yX11_tape.cls ≠ "java/lang/invoke/MethodHandle" ∧ yX11_tape.cls ≠ "java/lang/invoke/VarHandle" ∧ (parseMethodDescriptor yX11_tape.desc).map (fun d => d.parameters.length) = some 1 := ⟨by decide +kernel, by decide +kernel, by decide +kernel⟩
theorem cv_L_23 : CV RL 23 10 yX11_tape cX11_tape 2 (some .int) 1 := ⟨⟨tw_452, tw_70, tw_455, pn_X11_tape⟩, tw_453, tw_454, _, _, rfl⟩
theorem pn_X8_byteAt : yX8_byteAt.cls ≠ "java/lang/invoke/MethodHandle" ∧ yX8_byteAt.cls ≠ "java/lang/invoke/VarHandle" ∧ (parseMethodDescriptor yX8_byteAt.desc).map (fun d => d.parameters.length) = some 1 := ⟨by decide +kernel, by decide +kernel, by decide +kernel⟩
theorem cv_X11_91 : CV RX11 91 8 yX8_byteAt cX8_byteAt 2 (some .int) 1 := ⟨⟨tw_456, tw_71, tw_459, pn_X8_byteAt⟩, tw_457, tw_458, _, _, rfl⟩
theorem pn_X11_read : yX11_read.cls ≠ "java/lang/invoke/MethodHandle" ∧ yX11_read.cls ≠ "java/lang/invoke/VarHandle" ∧ (parseMethodDescriptor yX11_read.desc).map (fun d => d.parameters.length) = some 1 := ⟨by decide +kernel, by decide +kernel, by decide +kernel⟩
theorem cv_L_27 : CV RL 27 10 yX11_read cX11_read 2 (some .int) 1 := ⟨⟨tw_460, tw_70, tw_463, pn_X11_read⟩, tw_461, tw_462, _, _, rfl⟩
theorem pn_X11_isPlace : yX11_isPlace.cls ≠ "java/lang/invoke/MethodHandle" ∧ yX11_isPlace.cls ≠ "java/lang/invoke/VarHandle" ∧ (parseMethodDescriptor yX11_isPlace.desc).map (fun d => d.parameters.length) = some 1 := ⟨by decide +kernel, by decide +kernel, by decide +kernel⟩
theorem cs_X11_95 : CS RX11 95 yX11_isPlace cX11_isPlace 1 (some .boolean) 1 := ⟨⟨tw_464, tw_70, tw_466, pn_X11_isPlace⟩, tw_465⟩
theorem pn_X11_refuse : yX11_refuse.cls ≠ "java/lang/invoke/MethodHandle" ∧ yX11_refuse.cls ≠ "java/lang/invoke/VarHandle" ∧ (parseMethodDescriptor yX11_refuse.desc).map (fun d => d.parameters.length) = some 1 := ⟨by decide +kernel, by decide +kernel, by decide +kernel⟩
theorem cv_X11_98 : CV RX11 98 10 yX11_refuse cX11_refuse 3 (some .int) 1 := ⟨⟨tw_467, tw_70, tw_470, pn_X11_refuse⟩, tw_469, tw_3, _, _, rfl⟩
theorem pn_X9_parse : yX9_parse.cls ≠ "java/lang/invoke/MethodHandle" ∧ yX9_parse.cls ≠ "java/lang/invoke/VarHandle" ∧ (parseMethodDescriptor yX9_parse.desc).map (fun d => d.parameters.length) = some 2 := ⟨by decide +kernel, by decide +kernel, by decide +kernel⟩
theorem cs_X11_101 : CS RX11 101 yX9_parse cX9_parse 6 (some .int) 2 := ⟨⟨tw_471, tw_84, tw_473, pn_X9_parse⟩, tw_472⟩
theorem cs_X9_9 : CS RX9 9 yJ7_fill_d0a16 cJ7_fill_d0a16 5 none 2 := ⟨⟨tw_474, tw_76, tw_261, pn_J7_fill_d0a16⟩, tw_260⟩
theorem pn_X8_skipBlanks : yX8_skipBlanks.cls ≠ "java/lang/invoke/MethodHandle" ∧ yX8_skipBlanks.cls ≠ "java/lang/invoke/VarHandle" ∧ (parseMethodDescriptor yX8_skipBlanks.desc).map (fun d => d.parameters.length) = some 0 := ⟨by decide +kernel, by decide +kernel, by decide +kernel⟩
theorem cv_X9_21 : CV RX9 21 8 yX8_skipBlanks cX8_skipBlanks 1 none 0 := ⟨⟨tw_475, tw_71, tw_478, pn_X8_skipBlanks⟩, tw_476, tw_477, _, _, rfl⟩
theorem pn_X8_isAt : yX8_isAt.cls ≠ "java/lang/invoke/MethodHandle" ∧ yX8_isAt.cls ≠ "java/lang/invoke/VarHandle" ∧ (parseMethodDescriptor yX8_isAt.desc).map (fun d => d.parameters.length) = some 1 := ⟨by decide +kernel, by decide +kernel, by decide +kernel⟩
theorem cv_X8_30 : CV RX8 30 8 yX8_isAt cX8_isAt 2 (some .boolean) 1 := ⟨⟨tw_479, tw_71, tw_482, pn_X8_isAt⟩, tw_480, tw_481, _, _, rfl⟩
theorem cv_X8_26 : CV RX8 26 8 yX8_byteAt cX8_byteAt 2 (some .int) 1 := ⟨⟨tw_483, tw_71, tw_459, pn_X8_byteAt⟩, tw_457, tw_458, _, _, rfl⟩
theorem pn_X8_skips : yX8_skips.cls ≠ "java/lang/invoke/MethodHandle" ∧ yX8_skips.cls ≠ "java/lang/invoke/VarHandle" ∧ (parseMethodDescriptor yX8_skips.desc).map (fun d => d.parameters.length) = some 1 := ⟨by decide +kernel, by decide +kernel, by decide +kernel⟩
theorem cv_X9_24 : CV RX9 24 8 yX8_skips cX8_skips 3 (some .boolean) 1 := ⟨⟨tw_484, tw_71, tw_487, pn_X8_skips⟩, tw_485, tw_486, _, _, rfl⟩
theorem pn_X9_parseTerm : yX9_parseTerm.cls ≠ "java/lang/invoke/MethodHandle" ∧ yX9_parseTerm.cls ≠ "java/lang/invoke/VarHandle" ∧ (parseMethodDescriptor yX9_parseTerm.desc).map (fun d => d.parameters.length) = some 3 := ⟨by decide +kernel, by decide +kernel, by decide +kernel⟩
theorem cs_X9_28 : CS RX9 28 yX9_parseTerm cX9_parseTerm 7 (some .int) 3 := ⟨⟨tw_488, tw_84, tw_490, pn_X9_parseTerm⟩, tw_489⟩
theorem pn_X8_isAtDigit : yX8_isAtDigit.cls ≠ "java/lang/invoke/MethodHandle" ∧ yX8_isAtDigit.cls ≠ "java/lang/invoke/VarHandle" ∧ (parseMethodDescriptor yX8_isAtDigit.desc).map (fun d => d.parameters.length) = some 0 := ⟨by decide +kernel, by decide +kernel, by decide +kernel⟩
theorem cv_X9_47 : CV RX9 47 8 yX8_isAtDigit cX8_isAtDigit 1 (some .boolean) 0 := ⟨⟨tw_491, tw_71, tw_494, pn_X8_isAtDigit⟩, tw_492, tw_493, _, _, rfl⟩
theorem pn_X8_takeNumber : yX8_takeNumber.cls ≠ "java/lang/invoke/MethodHandle" ∧ yX8_takeNumber.cls ≠ "java/lang/invoke/VarHandle" ∧ (parseMethodDescriptor yX8_takeNumber.desc).map (fun d => d.parameters.length) = some 0 := ⟨by decide +kernel, by decide +kernel, by decide +kernel⟩
theorem cv_X9_51 : CV RX9 51 8 yX8_takeNumber cX8_takeNumber 2 (some .int) 0 := ⟨⟨tw_495, tw_71, tw_498, pn_X8_takeNumber⟩, tw_496, tw_497, _, _, rfl⟩
theorem cv_X8_34 : CV RX8 34 8 yX8_isAtDigit cX8_isAtDigit 1 (some .boolean) 0 := ⟨⟨tw_499, tw_71, tw_494, pn_X8_isAtDigit⟩, tw_492, tw_493, _, _, rfl⟩
theorem cs_X8_38 : CS RX8 38 yJ9_min_7cf53 cJ9_min_7cf53 2 (some .int) 2 := ⟨⟨tw_500, tw_75, tw_179, pn_J9_min_7cf53⟩, tw_178⟩
theorem pn_X6_topOf : yX6_topOf.cls ≠ "java/lang/invoke/MethodHandle" ∧ yX6_topOf.cls ≠ "java/lang/invoke/VarHandle" ∧ (parseMethodDescriptor yX6_topOf.desc).map (fun d => d.parameters.length) = some 1 := ⟨by decide +kernel, by decide +kernel, by decide +kernel⟩
theorem cs_X9_37 : CS RX9 37 yX6_topOf cX6_topOf 2 (some .int) 1 := ⟨⟨tw_501, tw_78, tw_503, pn_X6_topOf⟩, tw_502⟩
theorem pn_X6_canBeInStore : yX6_canBeInStore.cls ≠ "java/lang/invoke/MethodHandle" ∧ yX6_canBeInStore.cls ≠ "java/lang/invoke/VarHandle" ∧ (parseMethodDescriptor yX6_canBeInStore.desc).map (fun d => d.parameters.length) = some 2 := ⟨by decide +kernel, by decide +kernel, by decide +kernel⟩
theorem cs_X9_43 : CS RX9 43 yX6_canBeInStore cX6_canBeInStore 3 (some .boolean) 2 := ⟨⟨tw_504, tw_78, tw_506, pn_X6_canBeInStore⟩, tw_505⟩
theorem kc_X6_28 : Cond.constantLong RX6 28 (9999) ∈ gT := tw_507
theorem kc_X6_30 : Cond.constantLong RX6 30 (-9999) ∈ gT := tw_508
theorem pn_X11_putRow : yX11_putRow.cls ≠ "java/lang/invoke/MethodHandle" ∧ yX11_putRow.cls ≠ "java/lang/invoke/VarHandle" ∧ (parseMethodDescriptor yX11_putRow.desc).map (fun d => d.parameters.length) = some 2 := ⟨by decide +kernel, by decide +kernel, by decide +kernel⟩
theorem cv_X11_107 : CV RX11 107 10 yX11_putRow cX11_putRow 4 (some .int) 2 := ⟨⟨tw_509, tw_70, tw_512, pn_X11_putRow⟩, tw_511, tw_4, _, _, rfl⟩
theorem cs_X11_343 : CS RX11 343 yX6_topOf cX6_topOf 2 (some .int) 1 := ⟨⟨tw_513, tw_78, tw_503, pn_X6_topOf⟩, tw_502⟩
theorem cs_X11_347 : CS RX11 347 yX6_canBeInStore cX6_canBeInStore 3 (some .boolean) 2 := ⟨⟨tw_514, tw_78, tw_506, pn_X6_canBeInStore⟩, tw_505⟩
theorem cl_X11_123 : Cond.classLink RX11 123 "MahlerBox$Poly" ∈ gT := tw_515
theorem nk_X11_123 : NOK RX11 123 6 [.int 0, .null] := ⟨_, _, _, tyX6, rfl, inX6, cl_X11_123, tw_230, tw_78, tyX6_ok, rfl, fun _ _ => rfl, by decide +kernel⟩
theorem ci_X11_351 : CI RX11 351 yX6_init cX6_init 4 2 := ⟨⟨tw_516, tw_78, tw_233, pn_X6_init⟩, tw_232, rfl⟩
theorem pn_X7_withPoly : yX7_withPoly.cls ≠ "java/lang/invoke/MethodHandle" ∧ yX7_withPoly.cls ≠ "java/lang/invoke/VarHandle" ∧ (parseMethodDescriptor yX7_withPoly.desc).map (fun d => d.parameters.length) = some 2 := ⟨by decide +kernel, by decide +kernel, by decide +kernel⟩
theorem cv_X11_354 : CV RX11 354 7 yX7_withPoly cX7_withPoly 4 (some (.object "MahlerBox$Shelf")) 2 := ⟨⟨tw_517, tw_81, tw_520, pn_X7_withPoly⟩, tw_518, tw_519, _, _, rfl⟩
theorem cl_X7_12 : Cond.classLink RX7 12 "MahlerBox$Shelf" ∈ gT := tw_521
theorem nk_X7_12 : NOK RX7 12 7 [.null, .null] := ⟨_, _, _, tyX7, rfl, inX7, cl_X7_12, tw_347, tw_81, tyX7_ok, rfl, fun _ _ => rfl, by decide +kernel⟩
theorem pn_X7_init_ : yX7_init_.cls ≠ "java/lang/invoke/MethodHandle" ∧ yX7_init_.cls ≠ "java/lang/invoke/VarHandle" ∧ (parseMethodDescriptor yX7_init_.desc).map (fun d => d.parameters.length) = some 2 := ⟨by decide +kernel, by decide +kernel, by decide +kernel⟩
theorem ci_X7_29 : CI RX7 29 yX7_init_ cX7_init_ 4 2 := ⟨⟨tw_522, tw_81, tw_524, pn_X7_init_⟩, tw_523, rfl⟩
theorem pn_X11_moveOn : yX11_moveOn.cls ≠ "java/lang/invoke/MethodHandle" ∧ yX11_moveOn.cls ≠ "java/lang/invoke/VarHandle" ∧ (parseMethodDescriptor yX11_moveOn.desc).map (fun d => d.parameters.length) = some 2 := ⟨by decide +kernel, by decide +kernel, by decide +kernel⟩
theorem cv_X11_200 : CV RX11 200 10 yX11_moveOn cX11_moveOn 3 none 2 := ⟨⟨tw_525, tw_70, tw_528, pn_X11_moveOn⟩, tw_527, tw_5, _, _, rfl⟩
theorem pn_X5_keep : yX5_keep.cls ≠ "java/lang/invoke/MethodHandle" ∧ yX5_keep.cls ≠ "java/lang/invoke/VarHandle" ∧ (parseMethodDescriptor yX5_keep.desc).map (fun d => d.parameters.length) = some 2 := ⟨by decide +kernel, by decide +kernel, by decide +kernel⟩
theorem cv_X11_358 : CV RX11 358 5 yX5_keep cX5_keep 4 none 2 := ⟨⟨tw_529, tw_80, tw_532, pn_X5_keep⟩, tw_530, tw_531, _, _, rfl⟩
theorem pn_X11_accept : yX11_accept.cls ≠ "java/lang/invoke/MethodHandle" ∧ yX11_accept.cls ≠ "java/lang/invoke/VarHandle" ∧ (parseMethodDescriptor yX11_accept.desc).map (fun d => d.parameters.length) = some 1 := ⟨by decide +kernel, by decide +kernel, by decide +kernel⟩
theorem cv_X11_119 : CV RX11 119 10 yX11_accept cX11_accept 2 (some .int) 1 := ⟨⟨tw_533, tw_70, tw_536, pn_X11_accept⟩, tw_535, tw_6, _, _, rfl⟩
theorem pn_X11_fault : yX11_fault.cls ≠ "java/lang/invoke/MethodHandle" ∧ yX11_fault.cls ≠ "java/lang/invoke/VarHandle" ∧ (parseMethodDescriptor yX11_fault.desc).map (fun d => d.parameters.length) = some 0 := ⟨by decide +kernel, by decide +kernel, by decide +kernel⟩
theorem cv_L_31 : CV RL 31 10 yX11_fault cX11_fault 1 (some .int) 0 := ⟨⟨tw_537, tw_70, tw_540, pn_X11_fault⟩, tw_538, tw_539, _, _, rfl⟩
theorem pn_X11_listing : yX11_listing.cls ≠ "java/lang/invoke/MethodHandle" ∧ yX11_listing.cls ≠ "java/lang/invoke/VarHandle" ∧ (parseMethodDescriptor yX11_listing.desc).map (fun d => d.parameters.length) = some 1 := ⟨by decide +kernel, by decide +kernel, by decide +kernel⟩
theorem cv_L_36 : CV RL 36 10 yX11_listing cX11_listing 2 (some .int) 1 := ⟨⟨tw_541, tw_70, tw_544, pn_X11_listing⟩, tw_542, tw_543, _, _, rfl⟩
theorem pn_X7_poly : yX7_poly.cls ≠ "java/lang/invoke/MethodHandle" ∧ yX7_poly.cls ≠ "java/lang/invoke/VarHandle" ∧ (parseMethodDescriptor yX7_poly.desc).map (fun d => d.parameters.length) = some 1 := ⟨by decide +kernel, by decide +kernel, by decide +kernel⟩
theorem cv_X11_111 : CV RX11 111 7 yX7_poly cX7_poly 2 (some (.object "MahlerBox$Poly")) 1 := ⟨⟨tw_545, tw_81, tw_548, pn_X7_poly⟩, tw_546, tw_547, _, _, rfl⟩
theorem pn_X9_write : yX9_write.cls ≠ "java/lang/invoke/MethodHandle" ∧ yX9_write.cls ≠ "java/lang/invoke/VarHandle" ∧ (parseMethodDescriptor yX9_write.desc).map (fun d => d.parameters.length) = some 2 := ⟨by decide +kernel, by decide +kernel, by decide +kernel⟩
theorem cs_X11_115 : CS RX11 115 yX9_write cX9_write 3 none 2 := ⟨⟨tw_549, tw_84, tw_551, pn_X9_write⟩, tw_550⟩
theorem pn_X9_writeTerm : yX9_writeTerm.cls ≠ "java/lang/invoke/MethodHandle" ∧ yX9_writeTerm.cls ≠ "java/lang/invoke/VarHandle" ∧ (parseMethodDescriptor yX9_writeTerm.desc).map (fun d => d.parameters.length) = some 3 := ⟨by decide +kernel, by decide +kernel, by decide +kernel⟩
theorem cs_X9_62 : CS RX9 62 yX9_writeTerm cX9_writeTerm 4 none 3 := ⟨⟨tw_552, tw_84, tw_554, pn_X9_writeTerm⟩, tw_553⟩
theorem pn_J9_abs_0f7a4 : yJ9_abs_0f7a4.cls ≠ "java/lang/invoke/MethodHandle" ∧ yJ9_abs_0f7a4.cls ≠ "java/lang/invoke/VarHandle" ∧ (parseMethodDescriptor yJ9_abs_0f7a4.desc).map (fun d => d.parameters.length) = some 1 := ⟨by decide +kernel, by decide +kernel, by decide +kernel⟩
theorem cs_X9_66 : CS RX9 66 yJ9_abs_0f7a4 cJ9_abs_0f7a4 1 (some .int) 1 := ⟨⟨tw_555, tw_75, tw_557, pn_J9_abs_0f7a4⟩, tw_556⟩
theorem cv_X9_72 : CV RX9 72 8 yX8_addByte cX8_addByte 2 none 1 := ⟨⟨tw_558, tw_71, tw_447, pn_X8_addByte⟩, tw_445, tw_446, _, _, rfl⟩
theorem pn_X8_addNumber : yX8_addNumber.cls ≠ "java/lang/invoke/MethodHandle" ∧ yX8_addNumber.cls ≠ "java/lang/invoke/VarHandle" ∧ (parseMethodDescriptor yX8_addNumber.desc).map (fun d => d.parameters.length) = some 1 := ⟨by decide +kernel, by decide +kernel, by decide +kernel⟩
theorem cv_X9_76 : CV RX9 76 8 yX8_addNumber cX8_addNumber 3 none 1 := ⟨⟨tw_559, tw_71, tw_562, pn_X8_addNumber⟩, tw_560, tw_561, _, _, rfl⟩
theorem pn_X11_times : yX11_times.cls ≠ "java/lang/invoke/MethodHandle" ∧ yX11_times.cls ≠ "java/lang/invoke/VarHandle" ∧ (parseMethodDescriptor yX11_times.desc).map (fun d => d.parameters.length) = some 3 := ⟨by decide +kernel, by decide +kernel, by decide +kernel⟩
theorem cv_L_40 : CV RL 40 10 yX11_times cX11_times 4 (some .int) 3 := ⟨⟨tw_563, tw_70, tw_566, pn_X11_times⟩, tw_564, tw_565, _, _, rfl⟩
theorem pn_X6_writeProduct : yX6_writeProduct.cls ≠ "java/lang/invoke/MethodHandle" ∧ yX6_writeProduct.cls ≠ "java/lang/invoke/VarHandle" ∧ (parseMethodDescriptor yX6_writeProduct.desc).map (fun d => d.parameters.length) = some 2 := ⟨by decide +kernel, by decide +kernel, by decide +kernel⟩
theorem cv_X11_122 : CV RX11 122 6 yX6_writeProduct cX6_writeProduct 5 none 2 := ⟨⟨tw_567, tw_78, tw_570, pn_X6_writeProduct⟩, tw_568, tw_569, _, _, rfl⟩
theorem cs_X6_32 : CS RX6 32 yJ7_fill_d0a16 cJ7_fill_d0a16 5 none 2 := ⟨⟨tw_571, tw_76, tw_261, pn_J7_fill_d0a16⟩, tw_260⟩
theorem pn_X11_by : yX11_by.cls ≠ "java/lang/invoke/MethodHandle" ∧ yX11_by.cls ≠ "java/lang/invoke/VarHandle" ∧ (parseMethodDescriptor yX11_by.desc).map (fun d => d.parameters.length) = some 3 := ⟨by decide +kernel, by decide +kernel, by decide +kernel⟩
theorem cv_L_45 : CV RL 45 10 yX11_by cX11_by 5 (some .int) 3 := ⟨⟨tw_572, tw_70, tw_575, pn_X11_by⟩, tw_573, tw_574, _, _, rfl⟩
theorem pn_X6_writeTo : yX6_writeTo.cls ≠ "java/lang/invoke/MethodHandle" ∧ yX6_writeTo.cls ≠ "java/lang/invoke/VarHandle" ∧ (parseMethodDescriptor yX6_writeTo.desc).map (fun d => d.parameters.length) = some 1 := ⟨by decide +kernel, by decide +kernel, by decide +kernel⟩
theorem cv_X11_128 : CV RX11 128 6 yX6_writeTo cX6_writeTo 3 none 1 := ⟨⟨tw_576, tw_78, tw_579, pn_X6_writeTo⟩, tw_577, tw_578, _, _, rfl⟩
theorem pn_X6_divides : yX6_divides.cls ≠ "java/lang/invoke/MethodHandle" ∧ yX6_divides.cls ≠ "java/lang/invoke/VarHandle" ∧ (parseMethodDescriptor yX6_divides.desc).map (fun d => d.parameters.length) = some 3 := ⟨by decide +kernel, by decide +kernel, by decide +kernel⟩
theorem cv_X11_135 : CV RX11 135 6 yX6_divides cX6_divides 11 (some .boolean) 3 := ⟨⟨tw_580, tw_78, tw_583, pn_X6_divides⟩, tw_581, tw_582, _, _, rfl⟩
theorem kc_X6_38 : Cond.constantLong RX6 38 (1000000000) ∈ gT := tw_584
theorem kc_X6_40 : Cond.constantLong RX6 40 (-1000000000) ∈ gT := tw_585
theorem pn_X11_plus : yX11_plus.cls ≠ "java/lang/invoke/MethodHandle" ∧ yX11_plus.cls ≠ "java/lang/invoke/VarHandle" ∧ (parseMethodDescriptor yX11_plus.desc).map (fun d => d.parameters.length) = some 4 := ⟨by decide +kernel, by decide +kernel, by decide +kernel⟩
theorem cv_L_49 : CV RL 49 10 yX11_plus cX11_plus 7 (some .int) 4 := ⟨⟨tw_586, tw_70, tw_589, pn_X11_plus⟩, tw_587, tw_588, _, _, rfl⟩
theorem pn_X11_turn : yX11_turn.cls ≠ "java/lang/invoke/MethodHandle" ∧ yX11_turn.cls ≠ "java/lang/invoke/VarHandle" ∧ (parseMethodDescriptor yX11_turn.desc).map (fun d => d.parameters.length) = some 3 := ⟨by decide +kernel, by decide +kernel, by decide +kernel⟩
theorem cv_L_54 : CV RL 54 10 yX11_turn cX11_turn 5 (some .int) 3 := ⟨⟨tw_590, tw_70, tw_593, pn_X11_turn⟩, tw_591, tw_592, _, _, rfl⟩
theorem pn_X6_writeTurned : yX6_writeTurned.cls ≠ "java/lang/invoke/MethodHandle" ∧ yX6_writeTurned.cls ≠ "java/lang/invoke/VarHandle" ∧ (parseMethodDescriptor yX6_writeTurned.desc).map (fun d => d.parameters.length) = some 2 := ⟨by decide +kernel, by decide +kernel, by decide +kernel⟩
theorem cv_X11_142 : CV RX11 142 6 yX6_writeTurned cX6_writeTurned 4 none 2 := ⟨⟨tw_594, tw_78, tw_597, pn_X6_writeTurned⟩, tw_595, tw_596, _, _, rfl⟩
theorem cs_X11_146 : CS RX11 146 yJ7_fill_d0a16 cJ7_fill_d0a16 5 none 2 := ⟨⟨tw_598, tw_76, tw_261, pn_J7_fill_d0a16⟩, tw_260⟩
theorem pn_X4_writesSquared : yX4_writesSquared.cls ≠ "java/lang/invoke/MethodHandle" ∧ yX4_writesSquared.cls ≠ "java/lang/invoke/VarHandle" ∧ (parseMethodDescriptor yX4_writesSquared.desc).map (fun d => d.parameters.length) = some 3 := ⟨by decide +kernel, by decide +kernel, by decide +kernel⟩
theorem cs_X11_152 : CS RX11 152 yX4_writesSquared cX4_writesSquared 5 (some .boolean) 3 := ⟨⟨tw_599, tw_72, tw_601, pn_X4_writesSquared⟩, tw_600⟩
theorem kc_X4_53 : Cond.constantLong RX4 53 (536870912) ∈ gT := tw_602
theorem kc_X4_55 : Cond.constantLong RX4 55 (-536870912) ∈ gT := tw_603
theorem pn_X4_easySum : yX4_easySum.cls ≠ "java/lang/invoke/MethodHandle" ∧ yX4_easySum.cls ≠ "java/lang/invoke/VarHandle" ∧ (parseMethodDescriptor yX4_easySum.desc).map (fun d => d.parameters.length) = some 3 := ⟨by decide +kernel, by decide +kernel, by decide +kernel⟩
theorem cs_X4_57 : CS RX4 57 yX4_easySum cX4_easySum 7 (some .long) 3 := ⟨⟨tw_604, tw_72, tw_606, pn_X4_easySum⟩, tw_605⟩
theorem cs_X4_34 : CS RX4 34 yJ9_min_7cf53 cJ9_min_7cf53 2 (some .int) 2 := ⟨⟨tw_607, tw_75, tw_179, pn_J9_min_7cf53⟩, tw_178⟩
theorem kc_X4_65 : Cond.constantLong RX4 65 (2) ∈ gT := tw_608
theorem pn_X4_writesCarefulSum : yX4_writesCarefulSum.cls ≠ "java/lang/invoke/MethodHandle" ∧ yX4_writesCarefulSum.cls ≠ "java/lang/invoke/VarHandle" ∧ (parseMethodDescriptor yX4_writesCarefulSum.desc).map (fun d => d.parameters.length) = some 4 := ⟨by decide +kernel, by decide +kernel, by decide +kernel⟩
theorem cs_X4_61 : CS RX4 61 yX4_writesCarefulSum cX4_writesCarefulSum 12 (some .boolean) 4 := ⟨⟨tw_609, tw_72, tw_611, pn_X4_writesCarefulSum⟩, tw_610⟩
theorem cs_X4_40 : CS RX4 40 yJ9_max_7cf53 cJ9_max_7cf53 2 (some .int) 2 := ⟨⟨tw_612, tw_75, tw_157, pn_J9_max_7cf53⟩, tw_156⟩
theorem pn_X4_productFits : yX4_productFits.cls ≠ "java/lang/invoke/MethodHandle" ∧ yX4_productFits.cls ≠ "java/lang/invoke/VarHandle" ∧ (parseMethodDescriptor yX4_productFits.desc).map (fun d => d.parameters.length) = some 2 := ⟨by decide +kernel, by decide +kernel, by decide +kernel⟩
theorem cs_X4_67 : CS RX4 67 yX4_productFits cX4_productFits 4 (some .boolean) 2 := ⟨⟨tw_613, tw_72, tw_615, pn_X4_productFits⟩, tw_614⟩
theorem kc_X4_77 : Cond.constantLong RX4 77 (-1) ∈ gT := tw_616
theorem kc_X4_81 : Cond.constantLong RX4 81 (-9223372036854775808) ∈ gT := tw_617
theorem pn_X4_differenceFits : yX4_differenceFits.cls ≠ "java/lang/invoke/MethodHandle" ∧ yX4_differenceFits.cls ≠ "java/lang/invoke/VarHandle" ∧ (parseMethodDescriptor yX4_differenceFits.desc).map (fun d => d.parameters.length) = some 2 := ⟨by decide +kernel, by decide +kernel, by decide +kernel⟩
theorem cs_X4_71 : CS RX4 71 yX4_differenceFits cX4_differenceFits 6 (some .boolean) 2 := ⟨⟨tw_618, tw_72, tw_620, pn_X4_differenceFits⟩, tw_619⟩
theorem pn_X4_sumFits : yX4_sumFits.cls ≠ "java/lang/invoke/MethodHandle" ∧ yX4_sumFits.cls ≠ "java/lang/invoke/VarHandle" ∧ (parseMethodDescriptor yX4_sumFits.desc).map (fun d => d.parameters.length) = some 2 := ⟨by decide +kernel, by decide +kernel, by decide +kernel⟩
theorem cs_X4_74 : CS RX4 74 yX4_sumFits cX4_sumFits 6 (some .boolean) 2 := ⟨⟨tw_621, tw_72, tw_623, pn_X4_sumFits⟩, tw_622⟩
theorem pn_X11_cyclotomic : yX11_cyclotomic.cls ≠ "java/lang/invoke/MethodHandle" ∧ yX11_cyclotomic.cls ≠ "java/lang/invoke/VarHandle" ∧ (parseMethodDescriptor yX11_cyclotomic.desc).map (fun d => d.parameters.length) = some 2 := ⟨by decide +kernel, by decide +kernel, by decide +kernel⟩
theorem cv_L_58 : CV RL 58 10 yX11_cyclotomic cX11_cyclotomic 4 (some .int) 2 := ⟨⟨tw_624, tw_70, tw_627, pn_X11_cyclotomic⟩, tw_625, tw_626, _, _, rfl⟩
theorem pn_X0_divisor : yX0_divisor.cls ≠ "java/lang/invoke/MethodHandle" ∧ yX0_divisor.cls ≠ "java/lang/invoke/VarHandle" ∧ (parseMethodDescriptor yX0_divisor.desc).map (fun d => d.parameters.length) = some 1 := ⟨by decide +kernel, by decide +kernel, by decide +kernel⟩
theorem cv_X11_155 : CV RX11 155 0 yX0_divisor cX0_divisor 2 (some (.object "MahlerBox$Poly")) 1 := ⟨⟨tw_628, tw_77, tw_631, pn_X0_divisor⟩, tw_629, tw_630, _, _, rfl⟩
theorem pn_X11_core : yX11_core.cls ≠ "java/lang/invoke/MethodHandle" ∧ yX11_core.cls ≠ "java/lang/invoke/VarHandle" ∧ (parseMethodDescriptor yX11_core.desc).map (fun d => d.parameters.length) = some 2 := ⟨by decide +kernel, by decide +kernel, by decide +kernel⟩
theorem cv_L_63 : CV RL 63 10 yX11_core cX11_core 3 (some .int) 2 := ⟨⟨tw_632, tw_70, tw_635, pn_X11_core⟩, tw_633, tw_634, _, _, rfl⟩
theorem pn_X0_begin : yX0_begin.cls ≠ "java/lang/invoke/MethodHandle" ∧ yX0_begin.cls ≠ "java/lang/invoke/VarHandle" ∧ (parseMethodDescriptor yX0_begin.desc).map (fun d => d.parameters.length) = some 1 := ⟨by decide +kernel, by decide +kernel, by decide +kernel⟩
theorem cv_X11_158 : CV RX11 158 0 yX0_begin cX0_begin 2 none 1 := ⟨⟨tw_636, tw_77, tw_639, pn_X0_begin⟩, tw_637, tw_638, _, _, rfl⟩
theorem cv_X0_46 : CV RX0 46 6 yX6_writeTo cX6_writeTo 3 none 1 := ⟨⟨tw_640, tw_78, tw_579, pn_X6_writeTo⟩, tw_577, tw_578, _, _, rfl⟩
theorem pn_X0_divideAllOut : yX0_divideAllOut.cls ≠ "java/lang/invoke/MethodHandle" ∧ yX0_divideAllOut.cls ≠ "java/lang/invoke/VarHandle" ∧ (parseMethodDescriptor yX0_divideAllOut.desc).map (fun d => d.parameters.length) = some 0 := ⟨by decide +kernel, by decide +kernel, by decide +kernel⟩
theorem cv_X11_162 : CV RX11 162 0 yX0_divideAllOut cX0_divideAllOut 4 none 0 := ⟨⟨tw_641, tw_77, tw_644, pn_X0_divideAllOut⟩, tw_642, tw_643, _, _, rfl⟩
theorem pn_X0_isDividedBy : yX0_isDividedBy.cls ≠ "java/lang/invoke/MethodHandle" ∧ yX0_isDividedBy.cls ≠ "java/lang/invoke/VarHandle" ∧ (parseMethodDescriptor yX0_isDividedBy.desc).map (fun d => d.parameters.length) = some 1 := ⟨by decide +kernel, by decide +kernel, by decide +kernel⟩
theorem cv_X0_79 : CV RX0 79 0 yX0_isDividedBy cX0_isDividedBy 3 (some .boolean) 1 := ⟨⟨tw_645, tw_77, tw_648, pn_X0_isDividedBy⟩, tw_647, tw_7, _, _, rfl⟩
theorem cv_X0_89 : CV RX0 89 0 yX0_divisor cX0_divisor 2 (some (.object "MahlerBox$Poly")) 1 := ⟨⟨tw_649, tw_77, tw_631, pn_X0_divisor⟩, tw_629, tw_630, _, _, rfl⟩
theorem nl_X0_66 : Cond.methodLink RX0 66 ⟨"java/lang/System", "arraycopy", "(Ljava/lang/Object;ILjava/lang/Object;II)V"⟩ ∈ gT := tw_650
theorem cv_X0_93 : CV RX0 93 6 yX6_divides cX6_divides 11 (some .boolean) 3 := ⟨⟨tw_653, tw_78, tw_583, pn_X6_divides⟩, tw_581, tw_582, _, _, rfl⟩
theorem pn_X0_writeCore : yX0_writeCore.cls ≠ "java/lang/invoke/MethodHandle" ∧ yX0_writeCore.cls ≠ "java/lang/invoke/VarHandle" ∧ (parseMethodDescriptor yX0_writeCore.desc).map (fun d => d.parameters.length) = some 1 := ⟨by decide +kernel, by decide +kernel, by decide +kernel⟩
theorem cv_X11_165 : CV RX11 165 0 yX0_writeCore cX0_writeCore 4 none 1 := ⟨⟨tw_654, tw_77, tw_657, pn_X0_writeCore⟩, tw_655, tw_656, _, _, rfl⟩
theorem pn_X11_search : yX11_search.cls ≠ "java/lang/invoke/MethodHandle" ∧ yX11_search.cls ≠ "java/lang/invoke/VarHandle" ∧ (parseMethodDescriptor yX11_search.desc).map (fun d => d.parameters.length) = some 4 := ⟨by decide +kernel, by decide +kernel, by decide +kernel⟩
theorem cv_L_67 : CV RL 67 10 yX11_search cX11_search 8 (some .int) 4 := ⟨⟨tw_658, tw_70, tw_661, pn_X11_search⟩, tw_659, tw_660, _, _, rfl⟩
theorem pn_X11_isLevel : yX11_isLevel.cls ≠ "java/lang/invoke/MethodHandle" ∧ yX11_isLevel.cls ≠ "java/lang/invoke/VarHandle" ∧ (parseMethodDescriptor yX11_isLevel.desc).map (fun d => d.parameters.length) = some 1 := ⟨by decide +kernel, by decide +kernel, by decide +kernel⟩
theorem cs_X11_168 : CS RX11 168 yX11_isLevel cX11_isLevel 1 (some .boolean) 1 := ⟨⟨tw_662, tw_70, tw_664, pn_X11_isLevel⟩, tw_663⟩
theorem pn_X3_boxSize : yX3_boxSize.cls ≠ "java/lang/invoke/MethodHandle" ∧ yX3_boxSize.cls ≠ "java/lang/invoke/VarHandle" ∧ (parseMethodDescriptor yX3_boxSize.desc).map (fun d => d.parameters.length) = some 2 := ⟨by decide +kernel, by decide +kernel, by decide +kernel⟩
theorem cs_X11_171 : CS RX11 171 yX3_boxSize cX3_boxSize 4 (some .int) 2 := ⟨⟨tw_665, tw_79, tw_667, pn_X3_boxSize⟩, tw_666⟩
theorem pn_X3_begin : yX3_begin.cls ≠ "java/lang/invoke/MethodHandle" ∧ yX3_begin.cls ≠ "java/lang/invoke/VarHandle" ∧ (parseMethodDescriptor yX3_begin.desc).map (fun d => d.parameters.length) = some 2 := ⟨by decide +kernel, by decide +kernel, by decide +kernel⟩
theorem cv_X11_174 : CV RX11 174 3 yX3_begin cX3_begin 3 none 2 := ⟨⟨tw_668, tw_79, tw_671, pn_X3_begin⟩, tw_669, tw_670, _, _, rfl⟩
theorem cs_X3_53 : CS RX3 53 yJ9_min_7cf53 cJ9_min_7cf53 2 (some .int) 2 := ⟨⟨tw_672, tw_75, tw_179, pn_J9_min_7cf53⟩, tw_178⟩
theorem cs_X3_59 : CS RX3 59 yJ9_max_7cf53 cJ9_max_7cf53 2 (some .int) 2 := ⟨⟨tw_673, tw_75, tw_157, pn_J9_max_7cf53⟩, tw_156⟩
theorem cs_X3_62 : CS RX3 62 yJ7_fill_d0a16 cJ7_fill_d0a16 5 none 2 := ⟨⟨tw_674, tw_76, tw_261, pn_J7_fill_d0a16⟩, tw_260⟩
theorem cs_X3_68 : CS RX3 68 yJ7_fill_bad5a cJ7_fill_bad5a 6 none 4 := ⟨⟨tw_675, tw_76, tw_182, pn_J7_fill_bad5a⟩, tw_181⟩
theorem pn_X3_putBoth : yX3_putBoth.cls ≠ "java/lang/invoke/MethodHandle" ∧ yX3_putBoth.cls ≠ "java/lang/invoke/VarHandle" ∧ (parseMethodDescriptor yX3_putBoth.desc).map (fun d => d.parameters.length) = some 2 := ⟨by decide +kernel, by decide +kernel, by decide +kernel⟩
theorem cv_X3_71 : CV RX3 71 3 yX3_putBoth cX3_putBoth 4 none 2 := ⟨⟨tw_676, tw_79, tw_679, pn_X3_putBoth⟩, tw_678, tw_8, _, _, rfl⟩
theorem pn_X3_setLimits : yX3_setLimits.cls ≠ "java/lang/invoke/MethodHandle" ∧ yX3_setLimits.cls ≠ "java/lang/invoke/VarHandle" ∧ (parseMethodDescriptor yX3_setLimits.desc).map (fun d => d.parameters.length) = some 3 := ⟨by decide +kernel, by decide +kernel, by decide +kernel⟩
theorem cv_X11_177 : CV RX11 177 3 yX3_setLimits cX3_setLimits 5 none 3 := ⟨⟨tw_680, tw_79, tw_683, pn_X3_setLimits⟩, tw_681, tw_682, _, _, rfl⟩
theorem pn_X2_setLimit : yX2_setLimit.cls ≠ "java/lang/invoke/MethodHandle" ∧ yX2_setLimit.cls ≠ "java/lang/invoke/VarHandle" ∧ (parseMethodDescriptor yX2_setLimit.desc).map (fun d => d.parameters.length) = some 3 := ⟨by decide +kernel, by decide +kernel, by decide +kernel⟩
theorem cv_X3_75 : CV RX3 75 2 yX2_setLimit cX2_setLimit 6 none 3 := ⟨⟨tw_684, tw_73, tw_687, pn_X2_setLimit⟩, tw_685, tw_686, _, _, rfl⟩
theorem pn_X2_powerOf : yX2_powerOf.cls ≠ "java/lang/invoke/MethodHandle" ∧ yX2_powerOf.cls ≠ "java/lang/invoke/VarHandle" ∧ (parseMethodDescriptor yX2_powerOf.desc).map (fun d => d.parameters.length) = some 2 := ⟨by decide +kernel, by decide +kernel, by decide +kernel⟩
theorem cv_X2_110 : CV RX2 110 2 yX2_powerOf cX2_powerOf 7 (some (.object "MahlerBox$Whole")) 2 := ⟨⟨tw_688, tw_73, tw_691, pn_X2_powerOf⟩, tw_690, tw_9, _, _, rfl⟩
theorem kc_X2_114 : Cond.constant RX2 114 (1000000) ∈ gT := tw_692
theorem pn_X10_divide : yX10_divide.cls ≠ "java/lang/invoke/MethodHandle" ∧ yX10_divide.cls ≠ "java/lang/invoke/VarHandle" ∧ (parseMethodDescriptor yX10_divide.desc).map (fun d => d.parameters.length) = some 1 := ⟨by decide +kernel, by decide +kernel, by decide +kernel⟩
theorem cv_X2_82 : CV RX2 82 9 yX10_divide cX10_divide 7 none 1 := ⟨⟨tw_693, tw_74, tw_696, pn_X10_divide⟩, tw_694, tw_695, _, _, rfl⟩
theorem pn_X10_setTo : yX10_setTo.cls ≠ "java/lang/invoke/MethodHandle" ∧ yX10_setTo.cls ≠ "java/lang/invoke/VarHandle" ∧ (parseMethodDescriptor yX10_setTo.desc).map (fun d => d.parameters.length) = some 1 := ⟨by decide +kernel, by decide +kernel, by decide +kernel⟩
theorem cv_X2_115 : CV RX2 115 9 yX10_setTo cX10_setTo 2 none 1 := ⟨⟨tw_697, tw_74, tw_700, pn_X10_setTo⟩, tw_698, tw_699, _, _, rfl⟩
theorem nl_X10_32 : Cond.methodLink RX10 32 ⟨"java/lang/System", "arraycopy", "(Ljava/lang/Object;ILjava/lang/Object;II)V"⟩ ∈ gT := tw_701
theorem pn_X3_isFound : yX3_isFound.cls ≠ "java/lang/invoke/MethodHandle" ∧ yX3_isFound.cls ≠ "java/lang/invoke/VarHandle" ∧ (parseMethodDescriptor yX3_isFound.desc).map (fun d => d.parameters.length) = some 2 := ⟨by decide +kernel, by decide +kernel, by decide +kernel⟩
theorem cv_X11_181 : CV RX11 181 3 yX3_isFound cX3_isFound 4 (some .boolean) 2 := ⟨⟨tw_702, tw_79, tw_705, pn_X3_isFound⟩, tw_703, tw_704, _, _, rfl⟩
theorem pn_X0_beginRow : yX0_beginRow.cls ≠ "java/lang/invoke/MethodHandle" ∧ yX0_beginRow.cls ≠ "java/lang/invoke/VarHandle" ∧ (parseMethodDescriptor yX0_beginRow.desc).map (fun d => d.parameters.length) = some 2 := ⟨by decide +kernel, by decide +kernel, by decide +kernel⟩
theorem cv_X3_81 : CV RX3 81 0 yX0_beginRow cX0_beginRow 3 none 2 := ⟨⟨tw_706, tw_77, tw_709, pn_X0_beginRow⟩, tw_707, tw_708, _, _, rfl⟩
theorem cs_X0_57 : CS RX0 57 yJ9_min_7cf53 cJ9_min_7cf53 2 (some .int) 2 := ⟨⟨tw_710, tw_75, tw_179, pn_J9_min_7cf53⟩, tw_178⟩
theorem cs_X0_63 : CS RX0 63 yJ9_max_7cf53 cJ9_max_7cf53 2 (some .int) 2 := ⟨⟨tw_711, tw_75, tw_157, pn_J9_max_7cf53⟩, tw_156⟩
theorem pn_X0_isOne : yX0_isOne.cls ≠ "java/lang/invoke/MethodHandle" ∧ yX0_isOne.cls ≠ "java/lang/invoke/VarHandle" ∧ (parseMethodDescriptor yX0_isOne.desc).map (fun d => d.parameters.length) = some 0 := ⟨by decide +kernel, by decide +kernel, by decide +kernel⟩
theorem cv_X3_87 : CV RX3 87 0 yX0_isOne cX0_isOne 1 (some .boolean) 0 := ⟨⟨tw_712, tw_77, tw_715, pn_X0_isOne⟩, tw_713, tw_714, _, _, rfl⟩
theorem pn_J9_abs_067f4 : yJ9_abs_067f4.cls ≠ "java/lang/invoke/MethodHandle" ∧ yJ9_abs_067f4.cls ≠ "java/lang/invoke/VarHandle" ∧ (parseMethodDescriptor yJ9_abs_067f4.desc).map (fun d => d.parameters.length) = some 1 := ⟨by decide +kernel, by decide +kernel, by decide +kernel⟩
theorem cs_X0_72 : CS RX0 72 yJ9_abs_067f4 cJ9_abs_067f4 2 (some .long) 1 := ⟨⟨tw_716, tw_75, tw_718, pn_J9_abs_067f4⟩, tw_717⟩
theorem cv_X0_76 : CV RX0 76 0 yX0_divideAllOut cX0_divideAllOut 4 none 0 := ⟨⟨tw_719, tw_77, tw_644, pn_X0_divideAllOut⟩, tw_642, tw_643, _, _, rfl⟩
theorem pn_X4_climbRow : yX4_climbRow.cls ≠ "java/lang/invoke/MethodHandle" ∧ yX4_climbRow.cls ≠ "java/lang/invoke/VarHandle" ∧ (parseMethodDescriptor yX4_climbRow.desc).map (fun d => d.parameters.length) = some 3 := ⟨by decide +kernel, by decide +kernel, by decide +kernel⟩
theorem cv_X3_91 : CV RX3 91 4 yX4_climbRow cX4_climbRow 4 (some .int) 3 := ⟨⟨tw_720, tw_72, tw_723, pn_X4_climbRow⟩, tw_721, tw_722, _, _, rfl⟩
theorem nl_X4_43 : Cond.methodLink RX4 43 ⟨"java/lang/System", "arraycopy", "(Ljava/lang/Object;ILjava/lang/Object;II)V"⟩ ∈ gT := tw_724
theorem pn_X4_climbFromFirst : yX4_climbFromFirst.cls ≠ "java/lang/invoke/MethodHandle" ∧ yX4_climbFromFirst.cls ≠ "java/lang/invoke/VarHandle" ∧ (parseMethodDescriptor yX4_climbFromFirst.desc).map (fun d => d.parameters.length) = some 1 := ⟨by decide +kernel, by decide +kernel, by decide +kernel⟩
theorem cv_X4_30 : CV RX4 30 4 yX4_climbFromFirst cX4_climbFromFirst 2 (some .int) 1 := ⟨⟨tw_725, tw_72, tw_728, pn_X4_climbFromFirst⟩, tw_727, tw_10, _, _, rfl⟩
theorem cs_X4_49 : CS RX4 49 yX4_writesSquared cX4_writesSquared 5 (some .boolean) 3 := ⟨⟨tw_729, tw_72, tw_601, pn_X4_writesSquared⟩, tw_600⟩
theorem pn_X10_setSquares : yX10_setSquares.cls ≠ "java/lang/invoke/MethodHandle" ∧ yX10_setSquares.cls ≠ "java/lang/invoke/VarHandle" ∧ (parseMethodDescriptor yX10_setSquares.desc).map (fun d => d.parameters.length) = some 2 := ⟨by decide +kernel, by decide +kernel, by decide +kernel⟩
theorem cv_X3_101 : CV RX3 101 9 yX10_setSquares cX10_setSquares 12 none 2 := ⟨⟨tw_730, tw_74, tw_733, pn_X10_setSquares⟩, tw_731, tw_732, _, _, rfl⟩
theorem cs_X10_46 : CS RX10 46 yJ7_fill_d0a16 cJ7_fill_d0a16 5 none 2 := ⟨⟨tw_734, tw_76, tw_261, pn_J7_fill_d0a16⟩, tw_260⟩
theorem cs_X10_49 : CS RX10 49 yJ9_abs_067f4 cJ9_abs_067f4 2 (some .long) 1 := ⟨⟨tw_735, tw_75, tw_718, pn_J9_abs_067f4⟩, tw_717⟩
theorem pn_X10_isAbove : yX10_isAbove.cls ≠ "java/lang/invoke/MethodHandle" ∧ yX10_isAbove.cls ≠ "java/lang/invoke/VarHandle" ∧ (parseMethodDescriptor yX10_isAbove.desc).map (fun d => d.parameters.length) = some 1 := ⟨by decide +kernel, by decide +kernel, by decide +kernel⟩
theorem cv_X3_104 : CV RX3 104 9 yX10_isAbove cX10_isAbove 3 (some .boolean) 1 := ⟨⟨tw_736, tw_74, tw_739, pn_X10_isAbove⟩, tw_737, tw_738, _, _, rfl⟩
theorem pn_X3_keep : yX3_keep.cls ≠ "java/lang/invoke/MethodHandle" ∧ yX3_keep.cls ≠ "java/lang/invoke/VarHandle" ∧ (parseMethodDescriptor yX3_keep.desc).map (fun d => d.parameters.length) = some 2 := ⟨by decide +kernel, by decide +kernel, by decide +kernel⟩
theorem cv_X11_185 : CV RX11 185 3 yX3_keep cX3_keep 5 none 2 := ⟨⟨tw_740, tw_79, tw_743, pn_X3_keep⟩, tw_741, tw_742, _, _, rfl⟩
theorem pn_X2_highBy : yX2_highBy.cls ≠ "java/lang/invoke/MethodHandle" ∧ yX2_highBy.cls ≠ "java/lang/invoke/VarHandle" ∧ (parseMethodDescriptor yX2_highBy.desc).map (fun d => d.parameters.length) = some 2 := ⟨by decide +kernel, by decide +kernel, by decide +kernel⟩
theorem cv_X3_111 : CV RX3 111 2 yX2_highBy cX2_highBy 3 (some .int) 2 := ⟨⟨tw_744, tw_73, tw_747, pn_X2_highBy⟩, tw_745, tw_746, _, _, rfl⟩
theorem cv_X2_89 : CV RX2 89 9 yX10_setSquares cX10_setSquares 12 none 2 := ⟨⟨tw_748, tw_74, tw_733, pn_X10_setSquares⟩, tw_731, tw_732, _, _, rfl⟩
theorem pn_X10_setProduct : yX10_setProduct.cls ≠ "java/lang/invoke/MethodHandle" ∧ yX10_setProduct.cls ≠ "java/lang/invoke/VarHandle" ∧ (parseMethodDescriptor yX10_setProduct.desc).map (fun d => d.parameters.length) = some 2 := ⟨by decide +kernel, by decide +kernel, by decide +kernel⟩
theorem cv_X2_78 : CV RX2 78 9 yX10_setProduct cX10_setProduct 9 none 2 := ⟨⟨tw_749, tw_74, tw_752, pn_X10_setProduct⟩, tw_750, tw_751, _, _, rfl⟩
theorem pn_X10_lessOne : yX10_lessOne.cls ≠ "java/lang/invoke/MethodHandle" ∧ yX10_lessOne.cls ≠ "java/lang/invoke/VarHandle" ∧ (parseMethodDescriptor yX10_lessOne.desc).map (fun d => d.parameters.length) = some 0 := ⟨by decide +kernel, by decide +kernel, by decide +kernel⟩
theorem cv_X2_93 : CV RX2 93 9 yX10_lessOne cX10_lessOne 2 none 0 := ⟨⟨tw_753, tw_74, tw_756, pn_X10_lessOne⟩, tw_754, tw_755, _, _, rfl⟩
theorem pn_X2_root : yX2_root.cls ≠ "java/lang/invoke/MethodHandle" ∧ yX2_root.cls ≠ "java/lang/invoke/VarHandle" ∧ (parseMethodDescriptor yX2_root.desc).map (fun d => d.parameters.length) = some 1 := ⟨by decide +kernel, by decide +kernel, by decide +kernel⟩
theorem cv_X2_85 : CV RX2 85 2 yX2_root cX2_root 3 (some .int) 1 := ⟨⟨tw_757, tw_73, tw_760, pn_X2_root⟩, tw_759, tw_11, _, _, rfl⟩
theorem pn_X2_guessRoot : yX2_guessRoot.cls ≠ "java/lang/invoke/MethodHandle" ∧ yX2_guessRoot.cls ≠ "java/lang/invoke/VarHandle" ∧ (parseMethodDescriptor yX2_guessRoot.desc).map (fun d => d.parameters.length) = some 1 := ⟨by decide +kernel, by decide +kernel, by decide +kernel⟩
theorem cv_X2_118 : CV RX2 118 2 yX2_guessRoot cX2_guessRoot 7 (some .int) 1 := ⟨⟨tw_761, tw_73, tw_764, pn_X2_guessRoot⟩, tw_763, tw_12, _, _, rfl⟩
theorem kc_X2_126 : Cond.constantLong RX2 126 (17179869184) ∈ gT := tw_765
theorem kc_X2_132 : Cond.constantLong RX2 132 (1152921504606846976) ∈ gT := tw_766
theorem pn_X2_squareRoot : yX2_squareRoot.cls ≠ "java/lang/invoke/MethodHandle" ∧ yX2_squareRoot.cls ≠ "java/lang/invoke/VarHandle" ∧ (parseMethodDescriptor yX2_squareRoot.desc).map (fun d => d.parameters.length) = some 1 := ⟨by decide +kernel, by decide +kernel, by decide +kernel⟩
theorem cs_X2_134 : CS RX2 134 yX2_squareRoot cX2_squareRoot 7 (some .long) 1 := ⟨⟨tw_767, tw_73, tw_769, pn_X2_squareRoot⟩, tw_768⟩
theorem kc_X2_143 : Cond.constantLong RX2 143 (2147483648) ∈ gT := tw_770
theorem kc_X2_121 : Cond.constant RX2 121 (268435455) ∈ gT := tw_771
theorem kc_X2_137 : Cond.constantLong RX2 137 (268435455) ∈ gT := tw_772
theorem pn_J9_min_f86c9 : yJ9_min_f86c9.cls ≠ "java/lang/invoke/MethodHandle" ∧ yJ9_min_f86c9.cls ≠ "java/lang/invoke/VarHandle" ∧ (parseMethodDescriptor yJ9_min_f86c9.desc).map (fun d => d.parameters.length) = some 2 := ⟨by decide +kernel, by decide +kernel, by decide +kernel⟩
theorem cs_X2_139 : CS RX2 139 yJ9_min_f86c9 cJ9_min_f86c9 4 (some .long) 2 := ⟨⟨tw_773, tw_75, tw_775, pn_J9_min_f86c9⟩, tw_774⟩
theorem cv_X2_122 : CV RX2 122 9 yX10_isAbove cX10_isAbove 3 (some .boolean) 1 := ⟨⟨tw_776, tw_74, tw_739, pn_X10_isAbove⟩, tw_737, tw_738, _, _, rfl⟩
theorem pn_X2_lowBy : yX2_lowBy.cls ≠ "java/lang/invoke/MethodHandle" ∧ yX2_lowBy.cls ≠ "java/lang/invoke/VarHandle" ∧ (parseMethodDescriptor yX2_lowBy.desc).map (fun d => d.parameters.length) = some 2 := ⟨by decide +kernel, by decide +kernel, by decide +kernel⟩
theorem cv_X3_115 : CV RX3 115 2 yX2_lowBy cX2_lowBy 6 (some .int) 2 := ⟨⟨tw_777, tw_73, tw_780, pn_X2_lowBy⟩, tw_778, tw_779, _, _, rfl⟩
theorem pn_X2_greatestShare : yX2_greatestShare.cls ≠ "java/lang/invoke/MethodHandle" ∧ yX2_greatestShare.cls ≠ "java/lang/invoke/VarHandle" ∧ (parseMethodDescriptor yX2_greatestShare.desc).map (fun d => d.parameters.length) = some 2 := ⟨by decide +kernel, by decide +kernel, by decide +kernel⟩
theorem cv_X2_64 : CV RX2 64 2 yX2_greatestShare cX2_greatestShare 16 (some .int) 2 := ⟨⟨tw_781, tw_73, tw_784, pn_X2_greatestShare⟩, tw_783, tw_13, _, _, rfl⟩
theorem cs_X2_68 : CS RX2 68 yJ9_abs_067f4 cJ9_abs_067f4 2 (some .long) 1 := ⟨⟨tw_785, tw_75, tw_718, pn_J9_abs_067f4⟩, tw_717⟩
theorem pn_X10_setSize : yX10_setSize.cls ≠ "java/lang/invoke/MethodHandle" ∧ yX10_setSize.cls ≠ "java/lang/invoke/VarHandle" ∧ (parseMethodDescriptor yX10_setSize.desc).map (fun d => d.parameters.length) = some 1 := ⟨by decide +kernel, by decide +kernel, by decide +kernel⟩
theorem cv_X2_74 : CV RX2 74 9 yX10_setSize cX10_setSize 5 none 1 := ⟨⟨tw_786, tw_74, tw_789, pn_X10_setSize⟩, tw_787, tw_788, _, _, rfl⟩
theorem pn_X3_goOn : yX3_goOn.cls ≠ "java/lang/invoke/MethodHandle" ∧ yX3_goOn.cls ≠ "java/lang/invoke/VarHandle" ∧ (parseMethodDescriptor yX3_goOn.desc).map (fun d => d.parameters.length) = some 0 := ⟨by decide +kernel, by decide +kernel, by decide +kernel⟩
theorem cv_X11_189 : CV RX11 189 3 yX3_goOn cX3_goOn 2 none 0 := ⟨⟨tw_790, tw_79, tw_793, pn_X3_goOn⟩, tw_791, tw_792, _, _, rfl⟩
theorem pn_X3_told : yX3_told.cls ≠ "java/lang/invoke/MethodHandle" ∧ yX3_told.cls ≠ "java/lang/invoke/VarHandle" ∧ (parseMethodDescriptor yX3_told.desc).map (fun d => d.parameters.length) = some 0 := ⟨by decide +kernel, by decide +kernel, by decide +kernel⟩
theorem cv_X11_192 : CV RX11 192 3 yX3_told cX3_told 2 (some (.object "MahlerBox$Found")) 0 := ⟨⟨tw_794, tw_79, tw_797, pn_X3_told⟩, tw_795, tw_796, _, _, rfl⟩
theorem cl_X3_28 : Cond.classLink RX3 28 "MahlerBox$Found" ∈ gT := tw_798
theorem nk_X3_28 : NOK RX3 28 1 [.int 0, .int 0, .int 0, .int 0, .int 0, .null] := ⟨_, _, _, tyX1, rfl, inX1, cl_X3_28, tw_355, tw_82, tyX1_ok, rfl, fun _ _ => rfl, by decide +kernel⟩
theorem pn_J7_copyOf_59c91 : yJ7_copyOf_59c91.cls ≠ "java/lang/invoke/MethodHandle" ∧ yJ7_copyOf_59c91.cls ≠ "java/lang/invoke/VarHandle" ∧ (parseMethodDescriptor yJ7_copyOf_59c91.desc).map (fun d => d.parameters.length) = some 2 := ⟨by decide +kernel, by decide +kernel, by decide +kernel⟩
theorem cs_X3_118 : CS RX3 118 yJ7_copyOf_59c91 cJ7_copyOf_59c91 3 (some (.array .int)) 2 := ⟨⟨tw_799, tw_76, tw_801, pn_J7_copyOf_59c91⟩, tw_800⟩
theorem nl_J7_316 : Cond.methodLink RJ7 316 ⟨"[I", "clone", "()Ljava/lang/Object;"⟩ ∈ gT := tw_802
theorem cl_J7_317 : Cond.classLink RJ7 317 "[I" ∈ gT := tw_808
theorem cs_J7_304 : CS RJ7 304 yJ9_min_7cf53 cJ9_min_7cf53 2 (some .int) 2 := ⟨⟨tw_809, tw_75, tw_179, pn_J9_min_7cf53⟩, tw_178⟩
theorem nl_J7_150 : Cond.methodLink RJ7 150 ⟨"java/lang/System", "arraycopy", "(Ljava/lang/Object;ILjava/lang/Object;II)V"⟩ ∈ gT := tw_810
theorem ci_X3_122 : CI RX3 122 yX1_init cX1_init 6 5 := ⟨⟨tw_811, tw_82, tw_358, pn_X1_init⟩, tw_357, rfl⟩
theorem pn_X7_withFound : yX7_withFound.cls ≠ "java/lang/invoke/MethodHandle" ∧ yX7_withFound.cls ≠ "java/lang/invoke/VarHandle" ∧ (parseMethodDescriptor yX7_withFound.desc).map (fun d => d.parameters.length) = some 1 := ⟨by decide +kernel, by decide +kernel, by decide +kernel⟩
theorem cv_X11_196 : CV RX11 196 7 yX7_withFound cX7_withFound 2 (some (.object "MahlerBox$Shelf")) 1 := ⟨⟨tw_812, tw_81, tw_815, pn_X7_withFound⟩, tw_813, tw_814, _, _, rfl⟩
theorem pn_X11_take : yX11_take.cls ≠ "java/lang/invoke/MethodHandle" ∧ yX11_take.cls ≠ "java/lang/invoke/VarHandle" ∧ (parseMethodDescriptor yX11_take.desc).map (fun d => d.parameters.length) = some 2 := ⟨by decide +kernel, by decide +kernel, by decide +kernel⟩
theorem cv_L_71 : CV RL 71 10 yX11_take cX11_take 3 (some .int) 2 := ⟨⟨tw_816, tw_70, tw_819, pn_X11_take⟩, tw_817, tw_818, _, _, rfl⟩
theorem pn_X1_has : yX1_has.cls ≠ "java/lang/invoke/MethodHandle" ∧ yX1_has.cls ≠ "java/lang/invoke/VarHandle" ∧ (parseMethodDescriptor yX1_has.desc).map (fun d => d.parameters.length) = some 1 := ⟨by decide +kernel, by decide +kernel, by decide +kernel⟩
theorem cv_X11_213 : CV RX11 213 1 yX1_has cX1_has 2 (some .boolean) 1 := ⟨⟨tw_820, tw_82, tw_823, pn_X1_has⟩, tw_821, tw_822, _, _, rfl⟩
theorem pn_X1_writeTo : yX1_writeTo.cls ≠ "java/lang/invoke/MethodHandle" ∧ yX1_writeTo.cls ≠ "java/lang/invoke/VarHandle" ∧ (parseMethodDescriptor yX1_writeTo.desc).map (fun d => d.parameters.length) = some 2 := ⟨by decide +kernel, by decide +kernel, by decide +kernel⟩
theorem cv_X11_216 : CV RX11 216 1 yX1_writeTo cX1_writeTo 4 none 2 := ⟨⟨tw_824, tw_82, tw_827, pn_X1_writeTo⟩, tw_825, tw_826, _, _, rfl⟩
theorem cs_X1_33 : CS RX1 33 yJ7_fill_d0a16 cJ7_fill_d0a16 5 none 2 := ⟨⟨tw_828, tw_76, tw_261, pn_J7_fill_d0a16⟩, tw_260⟩
theorem pn_X1_entry : yX1_entry.cls ≠ "java/lang/invoke/MethodHandle" ∧ yX1_entry.cls ≠ "java/lang/invoke/VarHandle" ∧ (parseMethodDescriptor yX1_entry.desc).map (fun d => d.parameters.length) = some 2 := ⟨by decide +kernel, by decide +kernel, by decide +kernel⟩
theorem cv_X1_39 : CV RX1 39 1 yX1_entry cX1_entry 3 (some .int) 2 := ⟨⟨tw_829, tw_82, tw_832, pn_X1_entry⟩, tw_830, tw_831, _, _, rfl⟩
theorem cv_X1_29 : CV RX1 29 1 yX1_has cX1_has 2 (some .boolean) 1 := ⟨⟨tw_833, tw_82, tw_823, pn_X1_has⟩, tw_821, tw_822, _, _, rfl⟩
theorem pn_X11_undo : yX11_undo.cls ≠ "java/lang/invoke/MethodHandle" ∧ yX11_undo.cls ≠ "java/lang/invoke/VarHandle" ∧ (parseMethodDescriptor yX11_undo.desc).map (fun d => d.parameters.length) = some 0 := ⟨by decide +kernel, by decide +kernel, by decide +kernel⟩
theorem cv_L_75 : CV RL 75 10 yX11_undo cX11_undo 2 (some .int) 0 := ⟨⟨tw_834, tw_70, tw_837, pn_X11_undo⟩, tw_835, tw_836, _, _, rfl⟩
theorem pn_X5_latestKind : yX5_latestKind.cls ≠ "java/lang/invoke/MethodHandle" ∧ yX5_latestKind.cls ≠ "java/lang/invoke/VarHandle" ∧ (parseMethodDescriptor yX5_latestKind.desc).map (fun d => d.parameters.length) = some 0 := ⟨by decide +kernel, by decide +kernel, by decide +kernel⟩
theorem cv_X11_221 : CV RX11 221 5 yX5_latestKind cX5_latestKind 1 (some .int) 0 := ⟨⟨tw_838, tw_80, tw_841, pn_X5_latestKind⟩, tw_839, tw_840, _, _, rfl⟩
theorem pn_X5_drop : yX5_drop.cls ≠ "java/lang/invoke/MethodHandle" ∧ yX5_drop.cls ≠ "java/lang/invoke/VarHandle" ∧ (parseMethodDescriptor yX5_drop.desc).map (fun d => d.parameters.length) = some 1 := ⟨by decide +kernel, by decide +kernel, by decide +kernel⟩
theorem cv_X11_225 : CV RX11 225 5 yX5_drop cX5_drop 3 (some (.object "MahlerBox$Shelf")) 1 := ⟨⟨tw_842, tw_80, tw_845, pn_X5_drop⟩, tw_843, tw_844, _, _, rfl⟩
theorem pn_X11_image : yX11_image.cls ≠ "java/lang/invoke/MethodHandle" ∧ yX11_image.cls ≠ "java/lang/invoke/VarHandle" ∧ (parseMethodDescriptor yX11_image.desc).map (fun d => d.parameters.length) = some 1 := ⟨by decide +kernel, by decide +kernel, by decide +kernel⟩
theorem cv_L_79 : CV RL 79 10 yX11_image cX11_image 2 (some .int) 1 := ⟨⟨tw_846, tw_70, tw_849, pn_X11_image⟩, tw_847, tw_848, _, _, rfl⟩
theorem pn_X7_degrees : yX7_degrees.cls ≠ "java/lang/invoke/MethodHandle" ∧ yX7_degrees.cls ≠ "java/lang/invoke/VarHandle" ∧ (parseMethodDescriptor yX7_degrees.desc).map (fun d => d.parameters.length) = some 0 := ⟨by decide +kernel, by decide +kernel, by decide +kernel⟩
theorem cv_X11_229 : CV RX11 229 7 yX7_degrees cX7_degrees 3 (some .int) 0 := ⟨⟨tw_850, tw_81, tw_853, pn_X7_degrees⟩, tw_851, tw_852, _, _, rfl⟩
theorem pn_X11_back : yX11_back.cls ≠ "java/lang/invoke/MethodHandle" ∧ yX11_back.cls ≠ "java/lang/invoke/VarHandle" ∧ (parseMethodDescriptor yX11_back.desc).map (fun d => d.parameters.length) = some 1 := ⟨by decide +kernel, by decide +kernel, by decide +kernel⟩
theorem cv_L_83 : CV RL 83 10 yX11_back cX11_back 3 (some .int) 1 := ⟨⟨tw_854, tw_70, tw_857, pn_X11_back⟩, tw_855, tw_856, _, _, rfl⟩
theorem pn_X5_forget : yX5_forget.cls ≠ "java/lang/invoke/MethodHandle" ∧ yX5_forget.cls ≠ "java/lang/invoke/VarHandle" ∧ (parseMethodDescriptor yX5_forget.desc).map (fun d => d.parameters.length) = some 0 := ⟨by decide +kernel, by decide +kernel, by decide +kernel⟩
theorem cv_X11_232 : CV RX11 232 5 yX5_forget cX5_forget 2 none 0 := ⟨⟨tw_858, tw_80, tw_861, pn_X5_forget⟩, tw_859, tw_860, _, _, rfl⟩
theorem pn_X11_coefficient : yX11_coefficient.cls ≠ "java/lang/invoke/MethodHandle" ∧ yX11_coefficient.cls ≠ "java/lang/invoke/VarHandle" ∧ (parseMethodDescriptor yX11_coefficient.desc).map (fun d => d.parameters.length) = some 2 := ⟨by decide +kernel, by decide +kernel, by decide +kernel⟩
theorem cv_L_87 : CV RL 87 10 yX11_coefficient cX11_coefficient 3 (some .int) 2 := ⟨⟨tw_862, tw_70, tw_865, pn_X11_coefficient⟩, tw_863, tw_864, _, _, rfl⟩
theorem pn_X11_isPower : yX11_isPower.cls ≠ "java/lang/invoke/MethodHandle" ∧ yX11_isPower.cls ≠ "java/lang/invoke/VarHandle" ∧ (parseMethodDescriptor yX11_isPower.desc).map (fun d => d.parameters.length) = some 1 := ⟨by decide +kernel, by decide +kernel, by decide +kernel⟩
theorem cs_X11_235 : CS RX11 235 yX11_isPower cX11_isPower 1 (some .boolean) 1 := ⟨⟨tw_866, tw_70, tw_868, pn_X11_isPower⟩, tw_867⟩
theorem kc_X11_240 : Cond.constant RX11 240 (-2147483648) ∈ gT := tw_869
theorem pn_X6_ofPower : yX6_ofPower.cls ≠ "java/lang/invoke/MethodHandle" ∧ yX6_ofPower.cls ≠ "java/lang/invoke/VarHandle" ∧ (parseMethodDescriptor yX6_ofPower.desc).map (fun d => d.parameters.length) = some 1 := ⟨by decide +kernel, by decide +kernel, by decide +kernel⟩
theorem cv_X11_241 : CV RX11 241 6 yX6_ofPower cX6_ofPower 2 (some .int) 1 := ⟨⟨tw_870, tw_78, tw_873, pn_X6_ofPower⟩, tw_871, tw_872, _, _, rfl⟩
theorem pn_X11_of : yX11_of.cls ≠ "java/lang/invoke/MethodHandle" ∧ yX11_of.cls ≠ "java/lang/invoke/VarHandle" ∧ (parseMethodDescriptor yX11_of.desc).map (fun d => d.parameters.length) = some 2 := ⟨by decide +kernel, by decide +kernel, by decide +kernel⟩
theorem cv_L_91 : CV RL 91 10 yX11_of cX11_of 4 (some .int) 2 := ⟨⟨tw_874, tw_70, tw_877, pn_X11_of⟩, tw_875, tw_876, _, _, rfl⟩
theorem pn_X6_sizes : yX6_sizes.cls ≠ "java/lang/invoke/MethodHandle" ∧ yX6_sizes.cls ≠ "java/lang/invoke/VarHandle" ∧ (parseMethodDescriptor yX6_sizes.desc).map (fun d => d.parameters.length) = some 0 := ⟨by decide +kernel, by decide +kernel, by decide +kernel⟩
theorem cv_X11_244 : CV RX11 244 6 yX6_sizes cX6_sizes 3 (some .int) 0 := ⟨⟨tw_878, tw_78, tw_881, pn_X6_sizes⟩, tw_879, tw_880, _, _, rfl⟩
theorem cs_X6_42 : CS RX6 42 yJ9_abs_0f7a4 cJ9_abs_0f7a4 1 (some .int) 1 := ⟨⟨tw_882, tw_75, tw_557, pn_J9_abs_0f7a4⟩, tw_556⟩
theorem pn_X6_greatestSize : yX6_greatestSize.cls ≠ "java/lang/invoke/MethodHandle" ∧ yX6_greatestSize.cls ≠ "java/lang/invoke/VarHandle" ∧ (parseMethodDescriptor yX6_greatestSize.desc).map (fun d => d.parameters.length) = some 0 := ⟨by decide +kernel, by decide +kernel, by decide +kernel⟩
theorem cv_X11_247 : CV RX11 247 6 yX6_greatestSize cX6_greatestSize 3 (some .int) 0 := ⟨⟨tw_883, tw_78, tw_886, pn_X6_greatestSize⟩, tw_884, tw_885, _, _, rfl⟩
theorem pn_X6_squares : yX6_squares.cls ≠ "java/lang/invoke/MethodHandle" ∧ yX6_squares.cls ≠ "java/lang/invoke/VarHandle" ∧ (parseMethodDescriptor yX6_squares.desc).map (fun d => d.parameters.length) = some 0 := ⟨by decide +kernel, by decide +kernel, by decide +kernel⟩
theorem cv_X11_250 : CV RX11 250 6 yX6_squares cX6_squares 3 (some .int) 0 := ⟨⟨tw_887, tw_78, tw_890, pn_X6_squares⟩, tw_888, tw_889, _, _, rfl⟩
theorem pn_X6_isReciprocal : yX6_isReciprocal.cls ≠ "java/lang/invoke/MethodHandle" ∧ yX6_isReciprocal.cls ≠ "java/lang/invoke/VarHandle" ∧ (parseMethodDescriptor yX6_isReciprocal.desc).map (fun d => d.parameters.length) = some 0 := ⟨by decide +kernel, by decide +kernel, by decide +kernel⟩
theorem cv_X11_253 : CV RX11 253 6 yX6_isReciprocal cX6_isReciprocal 2 (some .boolean) 0 := ⟨⟨tw_891, tw_78, tw_894, pn_X6_isReciprocal⟩, tw_892, tw_893, _, _, rfl⟩
theorem pn_X11_isMeasureOne : yX11_isMeasureOne.cls ≠ "java/lang/invoke/MethodHandle" ∧ yX11_isMeasureOne.cls ≠ "java/lang/invoke/VarHandle" ∧ (parseMethodDescriptor yX11_isMeasureOne.desc).map (fun d => d.parameters.length) = some 1 := ⟨by decide +kernel, by decide +kernel, by decide +kernel⟩
theorem cv_X11_257 : CV RX11 257 10 yX11_isMeasureOne cX11_isMeasureOne 2 (some .boolean) 1 := ⟨⟨tw_895, tw_70, tw_898, pn_X11_isMeasureOne⟩, tw_897, tw_14, _, _, rfl⟩
theorem cv_X11_360 : CV RX11 360 0 yX0_isOne cX0_isOne 1 (some .boolean) 0 := ⟨⟨tw_899, tw_77, tw_715, pn_X0_isOne⟩, tw_713, tw_714, _, _, rfl⟩
theorem pn_X6_terms : yX6_terms.cls ≠ "java/lang/invoke/MethodHandle" ∧ yX6_terms.cls ≠ "java/lang/invoke/VarHandle" ∧ (parseMethodDescriptor yX6_terms.desc).map (fun d => d.parameters.length) = some 0 := ⟨by decide +kernel, by decide +kernel, by decide +kernel⟩
theorem cv_X11_261 : CV RX11 261 6 yX6_terms cX6_terms 3 (some .int) 0 := ⟨⟨tw_900, tw_78, tw_903, pn_X6_terms⟩, tw_901, tw_902, _, _, rfl⟩
theorem pn_X6_commonDivisor : yX6_commonDivisor.cls ≠ "java/lang/invoke/MethodHandle" ∧ yX6_commonDivisor.cls ≠ "java/lang/invoke/VarHandle" ∧ (parseMethodDescriptor yX6_commonDivisor.desc).map (fun d => d.parameters.length) = some 0 := ⟨by decide +kernel, by decide +kernel, by decide +kernel⟩
theorem cv_X11_264 : CV RX11 264 6 yX6_commonDivisor cX6_commonDivisor 3 (some .int) 0 := ⟨⟨tw_904, tw_78, tw_907, pn_X6_commonDivisor⟩, tw_905, tw_906, _, _, rfl⟩
theorem pn_X6_commonOf : yX6_commonOf.cls ≠ "java/lang/invoke/MethodHandle" ∧ yX6_commonOf.cls ≠ "java/lang/invoke/VarHandle" ∧ (parseMethodDescriptor yX6_commonOf.desc).map (fun d => d.parameters.length) = some 2 := ⟨by decide +kernel, by decide +kernel, by decide +kernel⟩
theorem cs_X6_46 : CS RX6 46 yX6_commonOf cX6_commonOf 6 (some .int) 2 := ⟨⟨tw_908, tw_78, tw_910, pn_X6_commonOf⟩, tw_909⟩
theorem pn_X6_signChanges : yX6_signChanges.cls ≠ "java/lang/invoke/MethodHandle" ∧ yX6_signChanges.cls ≠ "java/lang/invoke/VarHandle" ∧ (parseMethodDescriptor yX6_signChanges.desc).map (fun d => d.parameters.length) = some 0 := ⟨by decide +kernel, by decide +kernel, by decide +kernel⟩
theorem cv_X11_267 : CV RX11 267 6 yX6_signChanges cX6_signChanges 4 (some .int) 0 := ⟨⟨tw_911, tw_78, tw_914, pn_X6_signChanges⟩, tw_912, tw_913, _, _, rfl⟩
theorem pn_X4_climb : yX4_climb.cls ≠ "java/lang/invoke/MethodHandle" ∧ yX4_climb.cls ≠ "java/lang/invoke/VarHandle" ∧ (parseMethodDescriptor yX4_climb.desc).map (fun d => d.parameters.length) = some 2 := ⟨by decide +kernel, by decide +kernel, by decide +kernel⟩
theorem cv_X11_270 : CV RX11 270 4 yX4_climb cX4_climb 3 (some .int) 2 := ⟨⟨tw_915, tw_72, tw_918, pn_X4_climb⟩, tw_916, tw_917, _, _, rfl⟩
theorem cv_X4_23 : CV RX4 23 6 yX6_writeTo cX6_writeTo 3 none 1 := ⟨⟨tw_919, tw_78, tw_579, pn_X6_writeTo⟩, tw_577, tw_578, _, _, rfl⟩
theorem pn_X11_level : yX11_level.cls ≠ "java/lang/invoke/MethodHandle" ∧ yX11_level.cls ≠ "java/lang/invoke/VarHandle" ∧ (parseMethodDescriptor yX11_level.desc).map (fun d => d.parameters.length) = some 3 := ⟨by decide +kernel, by decide +kernel, by decide +kernel⟩
theorem cv_L_95 : CV RL 95 10 yX11_level cX11_level 4 (some .long) 3 := ⟨⟨tw_920, tw_70, tw_923, pn_X11_level⟩, tw_921, tw_922, _, _, rfl⟩
theorem pn_X11_standsOn : yX11_standsOn.cls ≠ "java/lang/invoke/MethodHandle" ∧ yX11_standsOn.cls ≠ "java/lang/invoke/VarHandle" ∧ (parseMethodDescriptor yX11_standsOn.desc).map (fun d => d.parameters.length) = some 2 := ⟨by decide +kernel, by decide +kernel, by decide +kernel⟩
theorem cv_X11_274 : CV RX11 274 10 yX11_standsOn cX11_standsOn 3 (some .boolean) 2 := ⟨⟨tw_924, tw_70, tw_927, pn_X11_standsOn⟩, tw_926, tw_15, _, _, rfl⟩
theorem kc_X11_280 : Cond.constantLong RX11 280 (-9223372036854775808) ∈ gT := tw_928
theorem pn_X11_low : yX11_low.cls ≠ "java/lang/invoke/MethodHandle" ∧ yX11_low.cls ≠ "java/lang/invoke/VarHandle" ∧ (parseMethodDescriptor yX11_low.desc).map (fun d => d.parameters.length) = some 2 := ⟨by decide +kernel, by decide +kernel, by decide +kernel⟩
theorem cv_L_100 : CV RL 100 10 yX11_low cX11_low 3 (some .int) 2 := ⟨⟨tw_929, tw_70, tw_932, pn_X11_low⟩, tw_930, tw_931, _, _, rfl⟩
theorem cv_X11_287 : CV RX11 287 2 yX2_lowBy cX2_lowBy 6 (some .int) 2 := ⟨⟨tw_933, tw_73, tw_780, pn_X2_lowBy⟩, tw_778, tw_779, _, _, rfl⟩
theorem pn_X11_high : yX11_high.cls ≠ "java/lang/invoke/MethodHandle" ∧ yX11_high.cls ≠ "java/lang/invoke/VarHandle" ∧ (parseMethodDescriptor yX11_high.desc).map (fun d => d.parameters.length) = some 2 := ⟨by decide +kernel, by decide +kernel, by decide +kernel⟩
theorem cv_L_104 : CV RL 104 10 yX11_high cX11_high 3 (some .int) 2 := ⟨⟨tw_934, tw_70, tw_937, pn_X11_high⟩, tw_935, tw_936, _, _, rfl⟩
theorem cv_X11_291 : CV RX11 291 2 yX2_highBy cX2_highBy 3 (some .int) 2 := ⟨⟨tw_938, tw_73, tw_747, pn_X2_highBy⟩, tw_745, tw_746, _, _, rfl⟩
theorem pn_X11_enclosed : yX11_enclosed.cls ≠ "java/lang/invoke/MethodHandle" ∧ yX11_enclosed.cls ≠ "java/lang/invoke/VarHandle" ∧ (parseMethodDescriptor yX11_enclosed.desc).map (fun d => d.parameters.length) = some 2 := ⟨by decide +kernel, by decide +kernel, by decide +kernel⟩
theorem cv_L_108 : CV RL 108 10 yX11_enclosed cX11_enclosed 3 (some .int) 2 := ⟨⟨tw_939, tw_70, tw_942, pn_X11_enclosed⟩, tw_940, tw_941, _, _, rfl⟩
theorem pn_X2_findGreatestLow : yX2_findGreatestLow.cls ≠ "java/lang/invoke/MethodHandle" ∧ yX2_findGreatestLow.cls ≠ "java/lang/invoke/VarHandle" ∧ (parseMethodDescriptor yX2_findGreatestLow.desc).map (fun d => d.parameters.length) = some 1 := ⟨by decide +kernel, by decide +kernel, by decide +kernel⟩
theorem cv_X11_294 : CV RX11 294 2 yX2_findGreatestLow cX2_findGreatestLow 4 none 1 := ⟨⟨tw_943, tw_73, tw_946, pn_X2_findGreatestLow⟩, tw_944, tw_945, _, _, rfl⟩
theorem kc_X2_98 : Cond.constant RX2 98 (-2147483648) ∈ gT := tw_947
theorem cv_X2_102 : CV RX2 102 2 yX2_lowBy cX2_lowBy 6 (some .int) 2 := ⟨⟨tw_948, tw_73, tw_780, pn_X2_lowBy⟩, tw_778, tw_779, _, _, rfl⟩
theorem pn_X2_findLeastHigh : yX2_findLeastHigh.cls ≠ "java/lang/invoke/MethodHandle" ∧ yX2_findLeastHigh.cls ≠ "java/lang/invoke/VarHandle" ∧ (parseMethodDescriptor yX2_findLeastHigh.desc).map (fun d => d.parameters.length) = some 1 := ⟨by decide +kernel, by decide +kernel, by decide +kernel⟩
theorem cv_X11_298 : CV RX11 298 2 yX2_findLeastHigh cX2_findLeastHigh 4 none 1 := ⟨⟨tw_949, tw_73, tw_952, pn_X2_findLeastHigh⟩, tw_950, tw_951, _, _, rfl⟩
theorem kc_X2_106 : Cond.constant RX2 106 (2147483647) ∈ gT := tw_953
theorem cv_X2_107 : CV RX2 107 2 yX2_highBy cX2_highBy 3 (some .int) 2 := ⟨⟨tw_954, tw_73, tw_747, pn_X2_highBy⟩, tw_745, tw_746, _, _, rfl⟩
theorem pn_X11_often : yX11_often.cls ≠ "java/lang/invoke/MethodHandle" ∧ yX11_often.cls ≠ "java/lang/invoke/VarHandle" ∧ (parseMethodDescriptor yX11_often.desc).map (fun d => d.parameters.length) = some 2 := ⟨by decide +kernel, by decide +kernel, by decide +kernel⟩
theorem cv_L_112 : CV RL 112 10 yX11_often cX11_often 3 (some .int) 2 := ⟨⟨tw_955, tw_70, tw_958, pn_X11_often⟩, tw_956, tw_957, _, _, rfl⟩
theorem pn_X0_divideOut : yX0_divideOut.cls ≠ "java/lang/invoke/MethodHandle" ∧ yX0_divideOut.cls ≠ "java/lang/invoke/VarHandle" ∧ (parseMethodDescriptor yX0_divideOut.desc).map (fun d => d.parameters.length) = some 1 := ⟨by decide +kernel, by decide +kernel, by decide +kernel⟩
theorem cv_X11_307 : CV RX11 307 0 yX0_divideOut cX0_divideOut 3 (some .int) 1 := ⟨⟨tw_959, tw_77, tw_962, pn_X0_divideOut⟩, tw_960, tw_961, _, _, rfl⟩
theorem pn_X11_value : yX11_value.cls ≠ "java/lang/invoke/MethodHandle" ∧ yX11_value.cls ≠ "java/lang/invoke/VarHandle" ∧ (parseMethodDescriptor yX11_value.desc).map (fun d => d.parameters.length) = some 2 := ⟨by decide +kernel, by decide +kernel, by decide +kernel⟩
theorem cv_L_116 : CV RL 116 10 yX11_value cX11_value 3 (some .long) 2 := ⟨⟨tw_963, tw_70, tw_966, pn_X11_value⟩, tw_964, tw_965, _, _, rfl⟩
theorem pn_X6_valueAt : yX6_valueAt.cls ≠ "java/lang/invoke/MethodHandle" ∧ yX6_valueAt.cls ≠ "java/lang/invoke/VarHandle" ∧ (parseMethodDescriptor yX6_valueAt.desc).map (fun d => d.parameters.length) = some 1 := ⟨by decide +kernel, by decide +kernel, by decide +kernel⟩
theorem cv_X11_310 : CV RX11 310 6 yX6_valueAt cX6_valueAt 7 (some .long) 1 := ⟨⟨tw_967, tw_78, tw_970, pn_X6_valueAt⟩, tw_968, tw_969, _, _, rfl⟩
theorem cs_X6_49 : CS RX6 49 yX4_productFits cX4_productFits 4 (some .boolean) 2 := ⟨⟨tw_971, tw_72, tw_615, pn_X4_productFits⟩, tw_614⟩
theorem cs_X6_55 : CS RX6 55 yX4_sumFits cX4_sumFits 6 (some .boolean) 2 := ⟨⟨tw_972, tw_72, tw_623, pn_X4_sumFits⟩, tw_622⟩
theorem kc_X6_60 : Cond.constantLong RX6 60 (-9223372036854775808) ∈ gT := tw_973
theorem pn_X11_roots : yX11_roots.cls ≠ "java/lang/invoke/MethodHandle" ∧ yX11_roots.cls ≠ "java/lang/invoke/VarHandle" ∧ (parseMethodDescriptor yX11_roots.desc).map (fun d => d.parameters.length) = some 2 := ⟨by decide +kernel, by decide +kernel, by decide +kernel⟩
theorem cv_L_121 : CV RL 121 10 yX11_roots cX11_roots 8 (some .int) 2 := ⟨⟨tw_974, tw_70, tw_977, pn_X11_roots⟩, tw_975, tw_976, _, _, rfl⟩
theorem pn_X6_isZeroAt : yX6_isZeroAt.cls ≠ "java/lang/invoke/MethodHandle" ∧ yX6_isZeroAt.cls ≠ "java/lang/invoke/VarHandle" ∧ (parseMethodDescriptor yX6_isZeroAt.desc).map (fun d => d.parameters.length) = some 1 := ⟨by decide +kernel, by decide +kernel, by decide +kernel⟩
theorem cv_X11_314 : CV RX11 314 6 yX6_isZeroAt cX6_isZeroAt 5 (some .boolean) 1 := ⟨⟨tw_978, tw_78, tw_981, pn_X6_isZeroAt⟩, tw_979, tw_980, _, _, rfl⟩
theorem kc_X6_62 : Cond.constantLong RX6 62 (129987) ∈ gT := tw_982
theorem kc_X6_64 : Cond.constantLong RX6 64 (-129987) ∈ gT := tw_983
theorem pn_X11_compare : yX11_compare.cls ≠ "java/lang/invoke/MethodHandle" ∧ yX11_compare.cls ≠ "java/lang/invoke/VarHandle" ∧ (parseMethodDescriptor yX11_compare.desc).map (fun d => d.parameters.length) = some 3 := ⟨by decide +kernel, by decide +kernel, by decide +kernel⟩
theorem cv_L_125 : CV RL 125 10 yX11_compare cX11_compare 10 (some .int) 3 := ⟨⟨tw_984, tw_70, tw_987, pn_X11_compare⟩, tw_985, tw_986, _, _, rfl⟩
theorem pn_X11_surely : yX11_surely.cls ≠ "java/lang/invoke/MethodHandle" ∧ yX11_surely.cls ≠ "java/lang/invoke/VarHandle" ∧ (parseMethodDescriptor yX11_surely.desc).map (fun d => d.parameters.length) = some 3 := ⟨by decide +kernel, by decide +kernel, by decide +kernel⟩
theorem cv_L_129 : CV RL 129 10 yX11_surely cX11_surely 5 (some .int) 3 := ⟨⟨tw_988, tw_70, tw_991, pn_X11_surely⟩, tw_989, tw_990, _, _, rfl⟩
theorem kc_X11_317 : Cond.constant RX11 317 (99999999) ∈ gT := tw_992
theorem pn_X11_least : yX11_least.cls ≠ "java/lang/invoke/MethodHandle" ∧ yX11_least.cls ≠ "java/lang/invoke/VarHandle" ∧ (parseMethodDescriptor yX11_least.desc).map (fun d => d.parameters.length) = some 1 := ⟨by decide +kernel, by decide +kernel, by decide +kernel⟩
theorem cv_L_133 : CV RL 133 10 yX11_least cX11_least 5 (some .int) 1 := ⟨⟨tw_993, tw_70, tw_996, pn_X11_least⟩, tw_994, tw_995, _, _, rfl⟩
theorem kc_X11_318 : Cond.constant RX11 318 (2147483647) ∈ gT := tw_997
theorem cs_X11_319 : CS RX11 319 yJ9_min_7cf53 cJ9_min_7cf53 2 (some .int) 2 := ⟨⟨tw_998, tw_75, tw_179, pn_J9_min_7cf53⟩, tw_178⟩
theorem pn_X11_found : yX11_found.cls ≠ "java/lang/invoke/MethodHandle" ∧ yX11_found.cls ≠ "java/lang/invoke/VarHandle" ∧ (parseMethodDescriptor yX11_found.desc).map (fun d => d.parameters.length) = some 2 := ⟨by decide +kernel, by decide +kernel, by decide +kernel⟩
theorem cv_L_137 : CV RL 137 10 yX11_found cX11_found 4 (some .int) 2 := ⟨⟨tw_999, tw_70, tw_1002, pn_X11_found⟩, tw_1000, tw_1001, _, _, rfl⟩
theorem cv_X11_325 : CV RX11 325 1 yX1_entry cX1_entry 3 (some .int) 2 := ⟨⟨tw_1003, tw_82, tw_832, pn_X1_entry⟩, tw_830, tw_831, _, _, rfl⟩
theorem pn_X11_smallest : yX11_smallest.cls ≠ "java/lang/invoke/MethodHandle" ∧ yX11_smallest.cls ≠ "java/lang/invoke/VarHandle" ∧ (parseMethodDescriptor yX11_smallest.desc).map (fun d => d.parameters.length) = some 1 := ⟨by decide +kernel, by decide +kernel, by decide +kernel⟩
theorem cv_L_141 : CV RL 141 10 yX11_smallest cX11_smallest 4 (some .int) 1 := ⟨⟨tw_1004, tw_70, tw_1007, pn_X11_smallest⟩, tw_1005, tw_1006, _, _, rfl⟩
theorem pn_X1_firstLeast : yX1_firstLeast.cls ≠ "java/lang/invoke/MethodHandle" ∧ yX1_firstLeast.cls ≠ "java/lang/invoke/VarHandle" ∧ (parseMethodDescriptor yX1_firstLeast.desc).map (fun d => d.parameters.length) = some 0 := ⟨by decide +kernel, by decide +kernel, by decide +kernel⟩
theorem cv_X11_331 : CV RX11 331 1 yX1_firstLeast cX1_firstLeast 3 (some .int) 0 := ⟨⟨tw_1008, tw_82, tw_1011, pn_X1_firstLeast⟩, tw_1009, tw_1010, _, _, rfl⟩
theorem pn_X1_howMany : yX1_howMany.cls ≠ "java/lang/invoke/MethodHandle" ∧ yX1_howMany.cls ≠ "java/lang/invoke/VarHandle" ∧ (parseMethodDescriptor yX1_howMany.desc).map (fun d => d.parameters.length) = some 1 := ⟨by decide +kernel, by decide +kernel, by decide +kernel⟩
theorem cv_X11_334 : CV RX11 334 1 yX1_howMany cX1_howMany 4 (some .int) 1 := ⟨⟨tw_1012, tw_82, tw_1015, pn_X1_howMany⟩, tw_1013, tw_1014, _, _, rfl⟩
theorem pn_X11_count : yX11_count.cls ≠ "java/lang/invoke/MethodHandle" ∧ yX11_count.cls ≠ "java/lang/invoke/VarHandle" ∧ (parseMethodDescriptor yX11_count.desc).map (fun d => d.parameters.length) = some 1 := ⟨by decide +kernel, by decide +kernel, by decide +kernel⟩
theorem cv_L_145 : CV RL 145 10 yX11_count cX11_count 2 (some .int) 1 := ⟨⟨tw_1016, tw_70, tw_1019, pn_X11_count⟩, tw_1017, tw_1018, _, _, rfl⟩
theorem pn_X11_status : yX11_status.cls ≠ "java/lang/invoke/MethodHandle" ∧ yX11_status.cls ≠ "java/lang/invoke/VarHandle" ∧ (parseMethodDescriptor yX11_status.desc).map (fun d => d.parameters.length) = some 0 := ⟨by decide +kernel, by decide +kernel, by decide +kernel⟩
theorem cv_L_149 : CV RL 149 10 yX11_status cX11_status 1 (some .int) 0 := ⟨⟨tw_1020, tw_70, tw_1023, pn_X11_status⟩, tw_1021, tw_1022, _, _, rfl⟩
theorem cl_L_10 : Cond.classLink RL 10 "MahlerBoxModel" ∈ gT := tw_1024
theorem nk_L_10 : NOK RL 10 11 [.int 0, .int 0, .null, .null, .null, .null, .int 0, .null, .null, .null, .int 0, .null, .int 0, .null, .null, .null, .null, .int 0, .int 0, .int 0, .null, .null, .null, .null, .null, .int 0, .int 0, .int 0, .int 0, .null, .null, .null, .null] := ⟨_, _, _, tyX12, rfl, inX12, cl_L_10, tw_1025, tw_83, tyX12_ok, rfl, fun _ _ => rfl, by decide +kernel⟩
theorem pn_X12_init : yX12_init.cls ≠ "java/lang/invoke/MethodHandle" ∧ yX12_init.cls ≠ "java/lang/invoke/VarHandle" ∧ (parseMethodDescriptor yX12_init.desc).map (fun d => d.parameters.length) = some 0 := ⟨by decide +kernel, by decide +kernel, by decide +kernel⟩
theorem ci_L_12 : CI RL 12 yX12_init cX12_init 2 0 := ⟨⟨tw_1026, tw_83, tw_1028, pn_X12_init⟩, tw_1027, rfl⟩
theorem ol_X12_1 : Cond.methodLink RX12 1 Lib.objectInit ∈ gT := tw_1029
theorem pn_X12_layCyclotomic : yX12_layCyclotomic.cls ≠ "java/lang/invoke/MethodHandle" ∧ yX12_layCyclotomic.cls ≠ "java/lang/invoke/VarHandle" ∧ (parseMethodDescriptor yX12_layCyclotomic.desc).map (fun d => d.parameters.length) = some 0 := ⟨by decide +kernel, by decide +kernel, by decide +kernel⟩
theorem cv_X12_80 : CV RX12 80 11 yX12_layCyclotomic cX12_layCyclotomic 4 none 0 := ⟨⟨tw_1030, tw_83, tw_1033, pn_X12_layCyclotomic⟩, tw_1032, tw_16, _, _, rfl⟩
theorem pn_X12_common : yX12_common.cls ≠ "java/lang/invoke/MethodHandle" ∧ yX12_common.cls ≠ "java/lang/invoke/VarHandle" ∧ (parseMethodDescriptor yX12_common.desc).map (fun d => d.parameters.length) = some 2 := ⟨by decide +kernel, by decide +kernel, by decide +kernel⟩
theorem cs_X12_152 : CS RX12 152 yX12_common cX12_common 5 (some .int) 2 := ⟨⟨tw_1034, tw_83, tw_1036, pn_X12_common⟩, tw_1035⟩
theorem pn_X12_empty : yX12_empty.cls ≠ "java/lang/invoke/MethodHandle" ∧ yX12_empty.cls ≠ "java/lang/invoke/VarHandle" ∧ (parseMethodDescriptor yX12_empty.desc).map (fun d => d.parameters.length) = some 0 := ⟨by decide +kernel, by decide +kernel, by decide +kernel⟩
theorem cv_X12_116 : CV RX12 116 11 yX12_empty cX12_empty 2 none 0 := ⟨⟨tw_1037, tw_83, tw_1040, pn_X12_empty⟩, tw_1039, tw_17, _, _, rfl⟩
theorem kc_X12_155 : Cond.constantLong RX12 155 (-1) ∈ gT := tw_1041
theorem pn_X12_takeCircle : yX12_takeCircle.cls ≠ "java/lang/invoke/MethodHandle" ∧ yX12_takeCircle.cls ≠ "java/lang/invoke/VarHandle" ∧ (parseMethodDescriptor yX12_takeCircle.desc).map (fun d => d.parameters.length) = some 1 := ⟨by decide +kernel, by decide +kernel, by decide +kernel⟩
theorem cv_X12_157 : CV RX12 157 11 yX12_takeCircle cX12_takeCircle 3 none 1 := ⟨⟨tw_1042, tw_83, tw_1045, pn_X12_takeCircle⟩, tw_1044, tw_18, _, _, rfl⟩
theorem pn_X12_divides : yX12_divides.cls ≠ "java/lang/invoke/MethodHandle" ∧ yX12_divides.cls ≠ "java/lang/invoke/VarHandle" ∧ (parseMethodDescriptor yX12_divides.desc).map (fun d => d.parameters.length) = some 0 := ⟨by decide +kernel, by decide +kernel, by decide +kernel⟩
theorem cv_X12_160 : CV RX12 160 11 yX12_divides cX12_divides 7 (some .boolean) 0 := ⟨⟨tw_1046, tw_83, tw_1049, pn_X12_divides⟩, tw_1048, tw_19, _, _, rfl⟩
theorem pn_X12_size : yX12_size.cls ≠ "java/lang/invoke/MethodHandle" ∧ yX12_size.cls ≠ "java/lang/invoke/VarHandle" ∧ (parseMethodDescriptor yX12_size.desc).map (fun d => d.parameters.length) = some 1 := ⟨by decide +kernel, by decide +kernel, by decide +kernel⟩
theorem cs_X12_146 : CS RX12 146 yX12_size cX12_size 2 (some .long) 1 := ⟨⟨tw_1050, tw_83, tw_1052, pn_X12_size⟩, tw_1051⟩
theorem kc_X12_150 : Cond.constantLong RX12 150 (1000000000000) ∈ gT := tw_1053
theorem pn_X12_takeQuotient : yX12_takeQuotient.cls ≠ "java/lang/invoke/MethodHandle" ∧ yX12_takeQuotient.cls ≠ "java/lang/invoke/VarHandle" ∧ (parseMethodDescriptor yX12_takeQuotient.desc).map (fun d => d.parameters.length) = some 0 := ⟨by decide +kernel, by decide +kernel, by decide +kernel⟩
theorem cv_X12_163 : CV RX12 163 11 yX12_takeQuotient cX12_takeQuotient 2 none 0 := ⟨⟨tw_1054, tw_83, tw_1057, pn_X12_takeQuotient⟩, tw_1056, tw_20, _, _, rfl⟩
theorem pn_X12_find : yX12_find.cls ≠ "java/lang/invoke/MethodHandle" ∧ yX12_find.cls ≠ "java/lang/invoke/VarHandle" ∧ (parseMethodDescriptor yX12_find.desc).map (fun d => d.parameters.length) = some 0 := ⟨by decide +kernel, by decide +kernel, by decide +kernel⟩
theorem cv_X12_132 : CV RX12 132 11 yX12_find cX12_find 2 none 0 := ⟨⟨tw_1058, tw_83, tw_1061, pn_X12_find⟩, tw_1060, tw_21, _, _, rfl⟩
theorem fk_X12_83 : FOK RX12 83 11 0 false (.int) := ⟨_, _, _, tyX12, rfl, inX12, by decide, tw_1062, tyX12_ok, nmX12, rfl, rfl⟩
theorem fk_X12_86 : FOK RX12 86 11 1 false (.int) := ⟨_, _, _, tyX12, rfl, inX12, by decide, tw_1063, tyX12_ok, nmX12, rfl, rfl⟩
theorem fk_X12_7 : FOK RX12 7 11 2 true (.array .int) := ⟨_, _, _, tyX12, rfl, inX12, by decide, tw_1064, tyX12_ok, nmX12, rfl, rfl⟩
theorem fk_X12_13 : FOK RX12 13 11 3 true (.array .int) := ⟨_, _, _, tyX12, rfl, inX12, by decide, tw_1065, tyX12_ok, nmX12, rfl, rfl⟩
theorem fk_X12_16 : FOK RX12 16 11 4 true (.array .int) := ⟨_, _, _, tyX12, rfl, inX12, by decide, tw_1066, tyX12_ok, nmX12, rfl, rfl⟩
theorem fk_X12_19 : FOK RX12 19 11 5 true (.array .int) := ⟨_, _, _, tyX12, rfl, inX12, by decide, tw_1067, tyX12_ok, nmX12, rfl, rfl⟩
theorem fk_X12_89 : FOK RX12 89 11 6 false (.int) := ⟨_, _, _, tyX12, rfl, inX12, by decide, tw_1068, tyX12_ok, nmX12, rfl, rfl⟩
theorem fk_X12_22 : FOK RX12 22 11 7 true (.array .int) := ⟨_, _, _, tyX12, rfl, inX12, by decide, tw_1069, tyX12_ok, nmX12, rfl, rfl⟩
theorem fk_X12_25 : FOK RX12 25 11 8 true (.array .boolean) := ⟨_, _, _, tyX12, rfl, inX12, by decide, tw_1070, tyX12_ok, nmX12, rfl, rfl⟩
theorem fk_X12_29 : FOK RX12 29 11 9 true (.array .long) := ⟨_, _, _, tyX12, rfl, inX12, by decide, tw_1071, tyX12_ok, nmX12, rfl, rfl⟩
theorem fk_X12_113 : FOK RX12 113 11 10 false (.int) := ⟨_, _, _, tyX12, rfl, inX12, by decide, tw_1072, tyX12_ok, nmX12, rfl, rfl⟩
theorem fk_X12_33 : FOK RX12 33 11 11 true (.array .long) := ⟨_, _, _, tyX12, rfl, inX12, by decide, tw_1073, tyX12_ok, nmX12, rfl, rfl⟩
theorem fk_X12_143 : FOK RX12 143 11 12 false (.int) := ⟨_, _, _, tyX12, rfl, inX12, by decide, tw_1074, tyX12_ok, nmX12, rfl, rfl⟩
theorem fk_X12_36 : FOK RX12 36 11 13 true (.array .long) := ⟨_, _, _, tyX12, rfl, inX12, by decide, tw_1075, tyX12_ok, nmX12, rfl, rfl⟩
theorem fk_X12_39 : FOK RX12 39 11 14 true (.array .long) := ⟨_, _, _, tyX12, rfl, inX12, by decide, tw_1076, tyX12_ok, nmX12, rfl, rfl⟩
theorem fk_X12_42 : FOK RX12 42 11 15 true (.array .int) := ⟨_, _, _, tyX12, rfl, inX12, by decide, tw_1077, tyX12_ok, nmX12, rfl, rfl⟩
theorem fk_X12_45 : FOK RX12 45 11 16 true (.array .long) := ⟨_, _, _, tyX12, rfl, inX12, by decide, tw_1078, tyX12_ok, nmX12, rfl, rfl⟩
theorem fk_X12_183 : FOK RX12 183 11 17 false (.int) := ⟨_, _, _, tyX12, rfl, inX12, by decide, tw_1079, tyX12_ok, nmX12, rfl, rfl⟩
theorem fk_X12_196 : FOK RX12 196 11 18 false (.int) := ⟨_, _, _, tyX12, rfl, inX12, by decide, tw_1080, tyX12_ok, nmX12, rfl, rfl⟩
theorem fk_X12_179 : FOK RX12 179 11 19 false (.boolean) := ⟨_, _, _, tyX12, rfl, inX12, by decide, tw_1081, tyX12_ok, nmX12, rfl, rfl⟩
theorem fk_X12_48 : FOK RX12 48 11 20 true (.array .long) := ⟨_, _, _, tyX12, rfl, inX12, by decide, tw_1082, tyX12_ok, nmX12, rfl, rfl⟩
theorem fk_X12_51 : FOK RX12 51 11 21 true (.array .int) := ⟨_, _, _, tyX12, rfl, inX12, by decide, tw_1083, tyX12_ok, nmX12, rfl, rfl⟩
theorem fk_X12_54 : FOK RX12 54 11 22 true (.array .long) := ⟨_, _, _, tyX12, rfl, inX12, by decide, tw_1084, tyX12_ok, nmX12, rfl, rfl⟩
theorem fk_X12_57 : FOK RX12 57 11 23 true (.array .int) := ⟨_, _, _, tyX12, rfl, inX12, by decide, tw_1085, tyX12_ok, nmX12, rfl, rfl⟩
theorem fk_X12_60 : FOK RX12 60 11 24 true (.array .byte) := ⟨_, _, _, tyX12, rfl, inX12, by decide, tw_1086, tyX12_ok, nmX12, rfl, rfl⟩
theorem fk_X12_249 : FOK RX12 249 11 25 false (.int) := ⟨_, _, _, tyX12, rfl, inX12, by decide, tw_1087, tyX12_ok, nmX12, rfl, rfl⟩
theorem fk_X12_64 : FOK RX12 64 11 26 false (.int) := ⟨_, _, _, tyX12, rfl, inX12, by decide, tw_1088, tyX12_ok, nmX12, rfl, rfl⟩
theorem fk_X12_255 : FOK RX12 255 11 27 false (.int) := ⟨_, _, _, tyX12, rfl, inX12, by decide, tw_1089, tyX12_ok, nmX12, rfl, rfl⟩
theorem fk_X12_262 : FOK RX12 262 11 28 false (.boolean) := ⟨_, _, _, tyX12, rfl, inX12, by decide, tw_1090, tyX12_ok, nmX12, rfl, rfl⟩
theorem fk_X12_68 : FOK RX12 68 11 29 true (.array .int) := ⟨_, _, _, tyX12, rfl, inX12, by decide, tw_1091, tyX12_ok, nmX12, rfl, rfl⟩
theorem fk_X12_71 : FOK RX12 71 11 30 true (.array .int) := ⟨_, _, _, tyX12, rfl, inX12, by decide, tw_1092, tyX12_ok, nmX12, rfl, rfl⟩
theorem fk_X12_74 : FOK RX12 74 11 31 true (.array .int) := ⟨_, _, _, tyX12, rfl, inX12, by decide, tw_1093, tyX12_ok, nmX12, rfl, rfl⟩
theorem fk_X12_77 : FOK RX12 77 11 32 true (.array .int) := ⟨_, _, _, tyX12, rfl, inX12, by decide, tw_1094, tyX12_ok, nmX12, rfl, rfl⟩
theorem pn_X12_undo : yX12_undo.cls ≠ "java/lang/invoke/MethodHandle" ∧ yX12_undo.cls ≠ "java/lang/invoke/VarHandle" ∧ (parseMethodDescriptor yX12_undo.desc).map (fun d => d.parameters.length) = some 0 := ⟨by decide +kernel, by decide +kernel, by decide +kernel⟩
theorem cv_L_78 : CV RL 78 11 yX12_undo cX12_undo 1 (some .int) 0 := ⟨⟨tw_1163, tw_83, tw_1166, pn_X12_undo⟩, tw_1164, tw_1165, _, _, rfl⟩
theorem pn_X12_refuse : yX12_refuse.cls ≠ "java/lang/invoke/MethodHandle" ∧ yX12_refuse.cls ≠ "java/lang/invoke/VarHandle" ∧ (parseMethodDescriptor yX12_refuse.desc).map (fun d => d.parameters.length) = some 1 := ⟨by decide +kernel, by decide +kernel, by decide +kernel⟩
theorem cv_X12_96 : CV RX12 96 11 yX12_refuse cX12_refuse 2 (some .int) 1 := ⟨⟨tw_1167, tw_83, tw_1170, pn_X12_refuse⟩, tw_1169, tw_22, _, _, rfl⟩
theorem pn_X12_copy : yX12_copy.cls ≠ "java/lang/invoke/MethodHandle" ∧ yX12_copy.cls ≠ "java/lang/invoke/VarHandle" ∧ (parseMethodDescriptor yX12_copy.desc).map (fun d => d.parameters.length) = some 4 := ⟨by decide +kernel, by decide +kernel, by decide +kernel⟩
theorem cs_X12_92 : CS RX12 92 yX12_copy cX12_copy 5 none 4 := ⟨⟨tw_1171, tw_83, tw_1173, pn_X12_copy⟩, tw_1172⟩
theorem pn_X12_tell : yX12_tell.cls ≠ "java/lang/invoke/MethodHandle" ∧ yX12_tell.cls ≠ "java/lang/invoke/VarHandle" ∧ (parseMethodDescriptor yX12_tell.desc).map (fun d => d.parameters.length) = some 1 := ⟨by decide +kernel, by decide +kernel, by decide +kernel⟩
theorem cv_X12_100 : CV RX12 100 11 yX12_tell cX12_tell 2 (some .int) 1 := ⟨⟨tw_1174, tw_83, tw_1177, pn_X12_tell⟩, tw_1176, tw_23, _, _, rfl⟩
theorem pn_X12_image : yX12_image.cls ≠ "java/lang/invoke/MethodHandle" ∧ yX12_image.cls ≠ "java/lang/invoke/VarHandle" ∧ (parseMethodDescriptor yX12_image.desc).map (fun d => d.parameters.length) = some 1 := ⟨by decide +kernel, by decide +kernel, by decide +kernel⟩
theorem cv_L_82 : CV RL 82 11 yX12_image cX12_image 2 (some .int) 1 := ⟨⟨tw_1178, tw_83, tw_1181, pn_X12_image⟩, tw_1179, tw_1180, _, _, rfl⟩
theorem pn_X12_in : yX12_in.cls ≠ "java/lang/invoke/MethodHandle" ∧ yX12_in.cls ≠ "java/lang/invoke/VarHandle" ∧ (parseMethodDescriptor yX12_in.desc).map (fun d => d.parameters.length) = some 3 := ⟨by decide +kernel, by decide +kernel, by decide +kernel⟩
theorem cs_X12_103 : CS RX12 103 yX12_in cX12_in 6 (some .boolean) 3 := ⟨⟨tw_1182, tw_83, tw_1184, pn_X12_in⟩, tw_1183⟩
theorem pn_X12_degrees : yX12_degrees.cls ≠ "java/lang/invoke/MethodHandle" ∧ yX12_degrees.cls ≠ "java/lang/invoke/VarHandle" ∧ (parseMethodDescriptor yX12_degrees.desc).map (fun d => d.parameters.length) = some 0 := ⟨by decide +kernel, by decide +kernel, by decide +kernel⟩
theorem cv_X12_107 : CV RX12 107 11 yX12_degrees cX12_degrees 3 (some .int) 0 := ⟨⟨tw_1185, tw_83, tw_1188, pn_X12_degrees⟩, tw_1187, tw_24, _, _, rfl⟩
theorem pn_X12_back : yX12_back.cls ≠ "java/lang/invoke/MethodHandle" ∧ yX12_back.cls ≠ "java/lang/invoke/VarHandle" ∧ (parseMethodDescriptor yX12_back.desc).map (fun d => d.parameters.length) = some 1 := ⟨by decide +kernel, by decide +kernel, by decide +kernel⟩
theorem cv_L_86 : CV RL 86 11 yX12_back cX12_back 2 (some .int) 1 := ⟨⟨tw_1189, tw_83, tw_1192, pn_X12_back⟩, tw_1190, tw_1191, _, _, rfl⟩
theorem pn_X12_feed : yX12_feed.cls ≠ "java/lang/invoke/MethodHandle" ∧ yX12_feed.cls ≠ "java/lang/invoke/VarHandle" ∧ (parseMethodDescriptor yX12_feed.desc).map (fun d => d.parameters.length) = some 5 := ⟨by decide +kernel, by decide +kernel, by decide +kernel⟩
theorem cv_L_17 : CV RL 17 11 yX12_feed cX12_feed 6 (some .int) 5 := ⟨⟨tw_1193, tw_83, tw_1196, pn_X12_feed⟩, tw_1194, tw_1195, _, _, rfl⟩
theorem pn_X12_comes : yX12_comes.cls ≠ "java/lang/invoke/MethodHandle" ∧ yX12_comes.cls ≠ "java/lang/invoke/VarHandle" ∧ (parseMethodDescriptor yX12_comes.desc).map (fun d => d.parameters.length) = some 1 := ⟨by decide +kernel, by decide +kernel, by decide +kernel⟩
theorem cv_X12_252 : CV RX12 252 11 yX12_comes cX12_comes 3 none 1 := ⟨⟨tw_1197, tw_83, tw_1200, pn_X12_comes⟩, tw_1199, tw_25, _, _, rfl⟩
theorem pn_X12_end : yX12_end.cls ≠ "java/lang/invoke/MethodHandle" ∧ yX12_end.cls ≠ "java/lang/invoke/VarHandle" ∧ (parseMethodDescriptor yX12_end.desc).map (fun d => d.parameters.length) = some 1 := ⟨by decide +kernel, by decide +kernel, by decide +kernel⟩
theorem cv_L_22 : CV RL 22 11 yX12_end cX12_end 2 (some .int) 1 := ⟨⟨tw_1201, tw_83, tw_1204, pn_X12_end⟩, tw_1202, tw_1203, _, _, rfl⟩
theorem pn_X12_tape : yX12_tape.cls ≠ "java/lang/invoke/MethodHandle" ∧ yX12_tape.cls ≠ "java/lang/invoke/VarHandle" ∧ (parseMethodDescriptor yX12_tape.desc).map (fun d => d.parameters.length) = some 1 := ⟨by decide +kernel, by decide +kernel, by decide +kernel⟩
theorem cv_L_26 : CV RL 26 11 yX12_tape cX12_tape 2 (some .int) 1 := ⟨⟨tw_1205, tw_83, tw_1208, pn_X12_tape⟩, tw_1206, tw_1207, _, _, rfl⟩
theorem pn_X12_read : yX12_read.cls ≠ "java/lang/invoke/MethodHandle" ∧ yX12_read.cls ≠ "java/lang/invoke/VarHandle" ∧ (parseMethodDescriptor yX12_read.desc).map (fun d => d.parameters.length) = some 1 := ⟨by decide +kernel, by decide +kernel, by decide +kernel⟩
theorem cv_L_30 : CV RL 30 11 yX12_read cX12_read 4 (some .int) 1 := ⟨⟨tw_1209, tw_83, tw_1212, pn_X12_read⟩, tw_1210, tw_1211, _, _, rfl⟩
theorem pn_X12_isStore : yX12_isStore.cls ≠ "java/lang/invoke/MethodHandle" ∧ yX12_isStore.cls ≠ "java/lang/invoke/VarHandle" ∧ (parseMethodDescriptor yX12_isStore.desc).map (fun d => d.parameters.length) = some 1 := ⟨by decide +kernel, by decide +kernel, by decide +kernel⟩
theorem cs_X12_277 : CS RX12 277 yX12_isStore cX12_isStore 1 (some .boolean) 1 := ⟨⟨tw_1213, tw_83, tw_1215, pn_X12_isStore⟩, tw_1214⟩
theorem kc_X12_111 : Cond.constantLong RX12 111 (7) ∈ gT := tw_1216
theorem pn_X12_sign : yX12_sign.cls ≠ "java/lang/invoke/MethodHandle" ∧ yX12_sign.cls ≠ "java/lang/invoke/VarHandle" ∧ (parseMethodDescriptor yX12_sign.desc).map (fun d => d.parameters.length) = some 0 := ⟨by decide +kernel, by decide +kernel, by decide +kernel⟩
theorem cv_X12_265 : CV RX12 265 11 yX12_sign cX12_sign 1 (some .int) 0 := ⟨⟨tw_1217, tw_83, tw_1220, pn_X12_sign⟩, tw_1219, tw_26, _, _, rfl⟩
theorem pn_X12_isSign : yX12_isSign.cls ≠ "java/lang/invoke/MethodHandle" ∧ yX12_isSign.cls ≠ "java/lang/invoke/VarHandle" ∧ (parseMethodDescriptor yX12_isSign.desc).map (fun d => d.parameters.length) = some 1 := ⟨by decide +kernel, by decide +kernel, by decide +kernel⟩
theorem cs_X12_280 : CS RX12 280 yX12_isSign cX12_isSign 1 (some .boolean) 1 := ⟨⟨tw_1221, tw_83, tw_1223, pn_X12_isSign⟩, tw_1222⟩
theorem pn_X12_term : yX12_term.cls ≠ "java/lang/invoke/MethodHandle" ∧ yX12_term.cls ≠ "java/lang/invoke/VarHandle" ∧ (parseMethodDescriptor yX12_term.desc).map (fun d => d.parameters.length) = some 1 := ⟨by decide +kernel, by decide +kernel, by decide +kernel⟩
theorem cv_X12_283 : CV RX12 283 11 yX12_term cX12_term 5 none 1 := ⟨⟨tw_1224, tw_83, tw_1227, pn_X12_term⟩, tw_1226, tw_27, _, _, rfl⟩
theorem pn_X12_isDigit : yX12_isDigit.cls ≠ "java/lang/invoke/MethodHandle" ∧ yX12_isDigit.cls ≠ "java/lang/invoke/VarHandle" ∧ (parseMethodDescriptor yX12_isDigit.desc).map (fun d => d.parameters.length) = some 1 := ⟨by decide +kernel, by decide +kernel, by decide +kernel⟩
theorem cs_X12_268 : CS RX12 268 yX12_isDigit cX12_isDigit 1 (some .boolean) 1 := ⟨⟨tw_1228, tw_83, tw_1230, pn_X12_isDigit⟩, tw_1229⟩
theorem kc_X12_258 : Cond.constantLong RX12 258 (48) ∈ gT := tw_1231
theorem kc_X12_260 : Cond.constantLong RX12 260 (57) ∈ gT := tw_1232
theorem pn_X12_number : yX12_number.cls ≠ "java/lang/invoke/MethodHandle" ∧ yX12_number.cls ≠ "java/lang/invoke/VarHandle" ∧ (parseMethodDescriptor yX12_number.desc).map (fun d => d.parameters.length) = some 1 := ⟨by decide +kernel, by decide +kernel, by decide +kernel⟩
theorem cv_X12_274 : CV RX12 274 11 yX12_number cX12_number 4 (some .int) 1 := ⟨⟨tw_1233, tw_83, tw_1236, pn_X12_number⟩, tw_1235, tw_28, _, _, rfl⟩
theorem pn_X12_wrong : yX12_wrong.cls ≠ "java/lang/invoke/MethodHandle" ∧ yX12_wrong.cls ≠ "java/lang/invoke/VarHandle" ∧ (parseMethodDescriptor yX12_wrong.desc).map (fun d => d.parameters.length) = some 1 := ⟨by decide +kernel, by decide +kernel, by decide +kernel⟩
theorem cv_X12_271 : CV RX12 271 11 yX12_wrong cX12_wrong 2 (some .int) 1 := ⟨⟨tw_1237, tw_83, tw_1240, pn_X12_wrong⟩, tw_1239, tw_29, _, _, rfl⟩
theorem pn_X12_isFit : yX12_isFit.cls ≠ "java/lang/invoke/MethodHandle" ∧ yX12_isFit.cls ≠ "java/lang/invoke/VarHandle" ∧ (parseMethodDescriptor yX12_isFit.desc).map (fun d => d.parameters.length) = some 0 := ⟨by decide +kernel, by decide +kernel, by decide +kernel⟩
theorem cv_X12_135 : CV RX12 135 11 yX12_isFit cX12_isFit 3 (some .boolean) 0 := ⟨⟨tw_1241, tw_83, tw_1244, pn_X12_isFit⟩, tw_1243, tw_30, _, _, rfl⟩
theorem kc_X12_126 : Cond.constantLong RX12 126 (12) ∈ gT := tw_1245
theorem kc_X12_128 : Cond.constantLong RX12 128 (-9999) ∈ gT := tw_1246
theorem kc_X12_130 : Cond.constantLong RX12 130 (9999) ∈ gT := tw_1247
theorem pn_X12_put : yX12_put.cls ≠ "java/lang/invoke/MethodHandle" ∧ yX12_put.cls ≠ "java/lang/invoke/VarHandle" ∧ (parseMethodDescriptor yX12_put.desc).map (fun d => d.parameters.length) = some 2 := ⟨by decide +kernel, by decide +kernel, by decide +kernel⟩
theorem cv_X12_286 : CV RX12 286 11 yX12_put cX12_put 4 (some .int) 2 := ⟨⟨tw_1248, tw_83, tw_1251, pn_X12_put⟩, tw_1250, tw_31, _, _, rfl⟩
theorem pn_X12_remember : yX12_remember.cls ≠ "java/lang/invoke/MethodHandle" ∧ yX12_remember.cls ≠ "java/lang/invoke/VarHandle" ∧ (parseMethodDescriptor yX12_remember.desc).map (fun d => d.parameters.length) = some 1 := ⟨by decide +kernel, by decide +kernel, by decide +kernel⟩
theorem cv_X12_139 : CV RX12 139 11 yX12_remember cX12_remember 3 none 1 := ⟨⟨tw_1252, tw_83, tw_1255, pn_X12_remember⟩, tw_1254, tw_32, _, _, rfl⟩
theorem pn_X12_fault : yX12_fault.cls ≠ "java/lang/invoke/MethodHandle" ∧ yX12_fault.cls ≠ "java/lang/invoke/VarHandle" ∧ (parseMethodDescriptor yX12_fault.desc).map (fun d => d.parameters.length) = some 0 := ⟨by decide +kernel, by decide +kernel, by decide +kernel⟩
theorem cv_L_35 : CV RL 35 11 yX12_fault cX12_fault 1 (some .int) 0 := ⟨⟨tw_1256, tw_83, tw_1259, pn_X12_fault⟩, tw_1257, tw_1258, _, _, rfl⟩
theorem pn_X12_listing : yX12_listing.cls ≠ "java/lang/invoke/MethodHandle" ∧ yX12_listing.cls ≠ "java/lang/invoke/VarHandle" ∧ (parseMethodDescriptor yX12_listing.desc).map (fun d => d.parameters.length) = some 1 := ⟨by decide +kernel, by decide +kernel, by decide +kernel⟩
theorem cv_L_39 : CV RL 39 11 yX12_listing cX12_listing 4 (some .int) 1 := ⟨⟨tw_1260, tw_83, tw_1263, pn_X12_listing⟩, tw_1261, tw_1262, _, _, rfl⟩
theorem pn_X12_degreeOf : yX12_degreeOf.cls ≠ "java/lang/invoke/MethodHandle" ∧ yX12_degreeOf.cls ≠ "java/lang/invoke/VarHandle" ∧ (parseMethodDescriptor yX12_degreeOf.desc).map (fun d => d.parameters.length) = some 1 := ⟨by decide +kernel, by decide +kernel, by decide +kernel⟩
theorem cv_X12_119 : CV RX12 119 11 yX12_degreeOf cX12_degreeOf 2 (some .int) 1 := ⟨⟨tw_1264, tw_83, tw_1267, pn_X12_degreeOf⟩, tw_1266, tw_33, _, _, rfl⟩
theorem pn_X12_at : yX12_at.cls ≠ "java/lang/invoke/MethodHandle" ∧ yX12_at.cls ≠ "java/lang/invoke/VarHandle" ∧ (parseMethodDescriptor yX12_at.desc).map (fun d => d.parameters.length) = some 2 := ⟨by decide +kernel, by decide +kernel, by decide +kernel⟩
theorem cv_X12_122 : CV RX12 122 11 yX12_at cX12_at 3 (some .int) 2 := ⟨⟨tw_1268, tw_83, tw_1271, pn_X12_at⟩, tw_1270, tw_34, _, _, rfl⟩
theorem pn_X12_write : yX12_write.cls ≠ "java/lang/invoke/MethodHandle" ∧ yX12_write.cls ≠ "java/lang/invoke/VarHandle" ∧ (parseMethodDescriptor yX12_write.desc).map (fun d => d.parameters.length) = some 1 := ⟨by decide +kernel, by decide +kernel, by decide +kernel⟩
theorem cv_X12_289 : CV RX12 289 11 yX12_write cX12_write 2 none 1 := ⟨⟨tw_1272, tw_83, tw_1275, pn_X12_write⟩, tw_1274, tw_35, _, _, rfl⟩
theorem pn_X12_writeNumber : yX12_writeNumber.cls ≠ "java/lang/invoke/MethodHandle" ∧ yX12_writeNumber.cls ≠ "java/lang/invoke/VarHandle" ∧ (parseMethodDescriptor yX12_writeNumber.desc).map (fun d => d.parameters.length) = some 1 := ⟨by decide +kernel, by decide +kernel, by decide +kernel⟩
theorem cv_X12_292 : CV RX12 292 11 yX12_writeNumber cX12_writeNumber 4 none 1 := ⟨⟨tw_1276, tw_83, tw_1279, pn_X12_writeNumber⟩, tw_1278, tw_36, _, _, rfl⟩
theorem pn_X12_times_ : yX12_times_.cls ≠ "java/lang/invoke/MethodHandle" ∧ yX12_times_.cls ≠ "java/lang/invoke/VarHandle" ∧ (parseMethodDescriptor yX12_times_.desc).map (fun d => d.parameters.length) = some 3 := ⟨by decide +kernel, by decide +kernel, by decide +kernel⟩
theorem cv_L_44 : CV RL 44 11 yX12_times_ cX12_times_ 6 (some .int) 3 := ⟨⟨tw_1280, tw_83, tw_1283, pn_X12_times_⟩, tw_1281, tw_1282, _, _, rfl⟩
theorem pn_X12_by : yX12_by.cls ≠ "java/lang/invoke/MethodHandle" ∧ yX12_by.cls ≠ "java/lang/invoke/VarHandle" ∧ (parseMethodDescriptor yX12_by.desc).map (fun d => d.parameters.length) = some 3 := ⟨by decide +kernel, by decide +kernel, by decide +kernel⟩
theorem cv_L_48 : CV RL 48 11 yX12_by cX12_by 4 (some .int) 3 := ⟨⟨tw_1284, tw_83, tw_1287, pn_X12_by⟩, tw_1285, tw_1286, _, _, rfl⟩
theorem pn_X12_take : yX12_take.cls ≠ "java/lang/invoke/MethodHandle" ∧ yX12_take.cls ≠ "java/lang/invoke/VarHandle" ∧ (parseMethodDescriptor yX12_take.desc).map (fun d => d.parameters.length) = some 1 := ⟨by decide +kernel, by decide +kernel, by decide +kernel⟩
theorem cv_X12_295 : CV RX12 295 11 yX12_take cX12_take 3 none 1 := ⟨⟨tw_1288, tw_83, tw_1291, pn_X12_take⟩, tw_1290, tw_37, _, _, rfl⟩
theorem pn_X12_takeDivisor : yX12_takeDivisor.cls ≠ "java/lang/invoke/MethodHandle" ∧ yX12_takeDivisor.cls ≠ "java/lang/invoke/VarHandle" ∧ (parseMethodDescriptor yX12_takeDivisor.desc).map (fun d => d.parameters.length) = some 1 := ⟨by decide +kernel, by decide +kernel, by decide +kernel⟩
theorem cv_X12_298 : CV RX12 298 11 yX12_takeDivisor cX12_takeDivisor 3 none 1 := ⟨⟨tw_1292, tw_83, tw_1295, pn_X12_takeDivisor⟩, tw_1294, tw_38, _, _, rfl⟩
theorem pn_X12_plus_ : yX12_plus_.cls ≠ "java/lang/invoke/MethodHandle" ∧ yX12_plus_.cls ≠ "java/lang/invoke/VarHandle" ∧ (parseMethodDescriptor yX12_plus_.desc).map (fun d => d.parameters.length) = some 4 := ⟨by decide +kernel, by decide +kernel, by decide +kernel⟩
theorem cv_L_53 : CV RL 53 11 yX12_plus_ cX12_plus_ 6 (some .int) 4 := ⟨⟨tw_1296, tw_83, tw_1299, pn_X12_plus_⟩, tw_1297, tw_1298, _, _, rfl⟩
theorem pn_X12_turn : yX12_turn.cls ≠ "java/lang/invoke/MethodHandle" ∧ yX12_turn.cls ≠ "java/lang/invoke/VarHandle" ∧ (parseMethodDescriptor yX12_turn.desc).map (fun d => d.parameters.length) = some 3 := ⟨by decide +kernel, by decide +kernel, by decide +kernel⟩
theorem cv_L_57 : CV RL 57 11 yX12_turn cX12_turn 7 (some .int) 3 := ⟨⟨tw_1300, tw_83, tw_1303, pn_X12_turn⟩, tw_1301, tw_1302, _, _, rfl⟩
theorem kc_X12_301 : Cond.constantLong RX12 301 (5) ∈ gT := tw_1304
theorem pn_X12_layLevels : yX12_layLevels.cls ≠ "java/lang/invoke/MethodHandle" ∧ yX12_layLevels.cls ≠ "java/lang/invoke/VarHandle" ∧ (parseMethodDescriptor yX12_layLevels.desc).map (fun d => d.parameters.length) = some 0 := ⟨by decide +kernel, by decide +kernel, by decide +kernel⟩
theorem cv_X12_303 : CV RX12 303 11 yX12_layLevels cX12_layLevels 3 none 0 := ⟨⟨tw_1305, tw_83, tw_1308, pn_X12_layLevels⟩, tw_1307, tw_39, _, _, rfl⟩
theorem pn_X12_squares : yX12_squares.cls ≠ "java/lang/invoke/MethodHandle" ∧ yX12_squares.cls ≠ "java/lang/invoke/VarHandle" ∧ (parseMethodDescriptor yX12_squares.desc).map (fun d => d.parameters.length) = some 1 := ⟨by decide +kernel, by decide +kernel, by decide +kernel⟩
theorem cv_X12_199 : CV RX12 199 11 yX12_squares cX12_squares 10 none 1 := ⟨⟨tw_1309, tw_83, tw_1312, pn_X12_squares⟩, tw_1311, tw_40, _, _, rfl⟩
theorem pn_X12_times : yX12_times.cls ≠ "java/lang/invoke/MethodHandle" ∧ yX12_times.cls ≠ "java/lang/invoke/VarHandle" ∧ (parseMethodDescriptor yX12_times.desc).map (fun d => d.parameters.length) = some 2 := ⟨by decide +kernel, by decide +kernel, by decide +kernel⟩
theorem cv_X12_186 : CV RX12 186 11 yX12_times cX12_times 8 (some .long) 2 := ⟨⟨tw_1313, tw_83, tw_1316, pn_X12_times⟩, tw_1315, tw_41, _, _, rfl⟩
theorem kc_X12_177 : Cond.constantLong RX12 177 (-9223372036854775808) ∈ gT := tw_1317
theorem pn_X12_plus : yX12_plus.cls ≠ "java/lang/invoke/MethodHandle" ∧ yX12_plus.cls ≠ "java/lang/invoke/VarHandle" ∧ (parseMethodDescriptor yX12_plus.desc).map (fun d => d.parameters.length) = some 2 := ⟨by decide +kernel, by decide +kernel, by decide +kernel⟩
theorem cv_X12_190 : CV RX12 190 11 yX12_plus cX12_plus 7 (some .long) 2 := ⟨⟨tw_1318, tw_83, tw_1321, pn_X12_plus⟩, tw_1320, tw_42, _, _, rfl⟩
theorem pn_X12_minus : yX12_minus.cls ≠ "java/lang/invoke/MethodHandle" ∧ yX12_minus.cls ≠ "java/lang/invoke/VarHandle" ∧ (parseMethodDescriptor yX12_minus.desc).map (fun d => d.parameters.length) = some 2 := ⟨by decide +kernel, by decide +kernel, by decide +kernel⟩
theorem cv_X12_193 : CV RX12 193 11 yX12_minus cX12_minus 7 (some .long) 2 := ⟨⟨tw_1322, tw_83, tw_1325, pn_X12_minus⟩, tw_1324, tw_43, _, _, rfl⟩
theorem pn_X12_cyclotomic : yX12_cyclotomic.cls ≠ "java/lang/invoke/MethodHandle" ∧ yX12_cyclotomic.cls ≠ "java/lang/invoke/VarHandle" ∧ (parseMethodDescriptor yX12_cyclotomic.desc).map (fun d => d.parameters.length) = some 2 := ⟨by decide +kernel, by decide +kernel, by decide +kernel⟩
theorem cv_L_62 : CV RL 62 11 yX12_cyclotomic cX12_cyclotomic 4 (some .int) 2 := ⟨⟨tw_1326, tw_83, tw_1329, pn_X12_cyclotomic⟩, tw_1327, tw_1328, _, _, rfl⟩
theorem pn_X12_isCircle : yX12_isCircle.cls ≠ "java/lang/invoke/MethodHandle" ∧ yX12_isCircle.cls ≠ "java/lang/invoke/VarHandle" ∧ (parseMethodDescriptor yX12_isCircle.desc).map (fun d => d.parameters.length) = some 1 := ⟨by decide +kernel, by decide +kernel, by decide +kernel⟩
theorem cv_X12_168 : CV RX12 168 11 yX12_isCircle cX12_isCircle 2 (some .boolean) 1 := ⟨⟨tw_1330, tw_83, tw_1333, pn_X12_isCircle⟩, tw_1332, tw_44, _, _, rfl⟩
theorem kc_X12_166 : Cond.constantLong RX12 166 (42) ∈ gT := tw_1334
theorem pn_X12_core : yX12_core.cls ≠ "java/lang/invoke/MethodHandle" ∧ yX12_core.cls ≠ "java/lang/invoke/VarHandle" ∧ (parseMethodDescriptor yX12_core.desc).map (fun d => d.parameters.length) = some 2 := ⟨by decide +kernel, by decide +kernel, by decide +kernel⟩
theorem cv_L_66 : CV RL 66 11 yX12_core cX12_core 3 (some .int) 2 := ⟨⟨tw_1335, tw_83, tw_1338, pn_X12_core⟩, tw_1336, tw_1337, _, _, rfl⟩
theorem pn_X12_cores : yX12_cores.cls ≠ "java/lang/invoke/MethodHandle" ∧ yX12_cores.cls ≠ "java/lang/invoke/VarHandle" ∧ (parseMethodDescriptor yX12_cores.desc).map (fun d => d.parameters.length) = some 0 := ⟨by decide +kernel, by decide +kernel, by decide +kernel⟩
theorem cv_X12_172 : CV RX12 172 11 yX12_cores cX12_cores 2 none 0 := ⟨⟨tw_1339, tw_83, tw_1342, pn_X12_cores⟩, tw_1341, tw_45, _, _, rfl⟩
theorem pn_X12_search : yX12_search.cls ≠ "java/lang/invoke/MethodHandle" ∧ yX12_search.cls ≠ "java/lang/invoke/VarHandle" ∧ (parseMethodDescriptor yX12_search.desc).map (fun d => d.parameters.length) = some 4 := ⟨by decide +kernel, by decide +kernel, by decide +kernel⟩
theorem cv_L_70 : CV RL 70 11 yX12_search cX12_search 7 (some .int) 4 := ⟨⟨tw_1343, tw_83, tw_1346, pn_X12_search⟩, tw_1344, tw_1345, _, _, rfl⟩
theorem kc_X12_318 : Cond.constantLong RX12 318 (2) ∈ gT := tw_1347
theorem kc_X12_320 : Cond.constantLong RX12 320 (10) ∈ gT := tw_1348
theorem kc_X12_322 : Cond.constantLong RX12 322 (3) ∈ gT := tw_1349
theorem kc_X12_324 : Cond.constantLong RX12 324 (6) ∈ gT := tw_1350
theorem kc_X12_212 : Cond.constantLong RX12 212 (1000) ∈ gT := tw_1351
theorem pn_X12_layBox : yX12_layBox.cls ≠ "java/lang/invoke/MethodHandle" ∧ yX12_layBox.cls ≠ "java/lang/invoke/VarHandle" ∧ (parseMethodDescriptor yX12_layBox.desc).map (fun d => d.parameters.length) = some 3 := ⟨by decide +kernel, by decide +kernel, by decide +kernel⟩
theorem cv_X12_326 : CV RX12 326 11 yX12_layBox cX12_layBox 6 none 3 := ⟨⟨tw_1352, tw_83, tw_1355, pn_X12_layBox⟩, tw_1354, tw_46, _, _, rfl⟩
theorem pn_X12_looks : yX12_looks.cls ≠ "java/lang/invoke/MethodHandle" ∧ yX12_looks.cls ≠ "java/lang/invoke/VarHandle" ∧ (parseMethodDescriptor yX12_looks.desc).map (fun d => d.parameters.length) = some 3 := ⟨by decide +kernel, by decide +kernel, by decide +kernel⟩
theorem cv_X12_329 : CV RX12 329 11 yX12_looks cX12_looks 7 none 3 := ⟨⟨tw_1356, tw_83, tw_1359, pn_X12_looks⟩, tw_1358, tw_47, _, _, rfl⟩
theorem pn_X12_takeBox : yX12_takeBox.cls ≠ "java/lang/invoke/MethodHandle" ∧ yX12_takeBox.cls ≠ "java/lang/invoke/VarHandle" ∧ (parseMethodDescriptor yX12_takeBox.desc).map (fun d => d.parameters.length) = some 1 := ⟨by decide +kernel, by decide +kernel, by decide +kernel⟩
theorem cv_X12_306 : CV RX12 306 11 yX12_takeBox cX12_takeBox 3 none 1 := ⟨⟨tw_1360, tw_83, tw_1363, pn_X12_takeBox⟩, tw_1362, tw_48, _, _, rfl⟩
theorem pn_X12_isOne : yX12_isOne.cls ≠ "java/lang/invoke/MethodHandle" ∧ yX12_isOne.cls ≠ "java/lang/invoke/VarHandle" ∧ (parseMethodDescriptor yX12_isOne.desc).map (fun d => d.parameters.length) = some 0 := ⟨by decide +kernel, by decide +kernel, by decide +kernel⟩
theorem cv_X12_309 : CV RX12 309 11 yX12_isOne cX12_isOne 1 (some .boolean) 0 := ⟨⟨tw_1364, tw_83, tw_1367, pn_X12_isOne⟩, tw_1366, tw_49, _, _, rfl⟩
theorem pn_X12_laySquares : yX12_laySquares.cls ≠ "java/lang/invoke/MethodHandle" ∧ yX12_laySquares.cls ≠ "java/lang/invoke/VarHandle" ∧ (parseMethodDescriptor yX12_laySquares.desc).map (fun d => d.parameters.length) = some 1 := ⟨by decide +kernel, by decide +kernel, by decide +kernel⟩
theorem cv_X12_243 : CV RX12 243 11 yX12_laySquares cX12_laySquares 3 none 1 := ⟨⟨tw_1368, tw_83, tw_1371, pn_X12_laySquares⟩, tw_1370, tw_50, _, _, rfl⟩
theorem pn_X12_layLong : yX12_layLong.cls ≠ "java/lang/invoke/MethodHandle" ∧ yX12_layLong.cls ≠ "java/lang/invoke/VarHandle" ∧ (parseMethodDescriptor yX12_layLong.desc).map (fun d => d.parameters.length) = some 2 := ⟨by decide +kernel, by decide +kernel, by decide +kernel⟩
theorem cv_X12_228 : CV RX12 228 11 yX12_layLong cX12_layLong 4 none 2 := ⟨⟨tw_1372, tw_83, tw_1375, pn_X12_layLong⟩, tw_1374, tw_51, _, _, rfl⟩
theorem kc_X12_234 : Cond.constantLong RX12 234 (128) ∈ gT := tw_1376
theorem pn_X12_tellNumber : yX12_tellNumber.cls ≠ "java/lang/invoke/MethodHandle" ∧ yX12_tellNumber.cls ≠ "java/lang/invoke/VarHandle" ∧ (parseMethodDescriptor yX12_tellNumber.desc).map (fun d => d.parameters.length) = some 2 := ⟨by decide +kernel, by decide +kernel, by decide +kernel⟩
theorem cv_X12_214 : CV RX12 214 11 yX12_tellNumber cX12_tellNumber 7 none 2 := ⟨⟨tw_1377, tw_83, tw_1380, pn_X12_tellNumber⟩, tw_1379, tw_52, _, _, rfl⟩
theorem kc_X12_202 : Cond.constantLong RX12 202 (268435455) ∈ gT := tw_1381
theorem pn_X12_copyNumber : yX12_copyNumber.cls ≠ "java/lang/invoke/MethodHandle" ∧ yX12_copyNumber.cls ≠ "java/lang/invoke/VarHandle" ∧ (parseMethodDescriptor yX12_copyNumber.desc).map (fun d => d.parameters.length) = some 2 := ⟨by decide +kernel, by decide +kernel, by decide +kernel⟩
theorem cv_X12_208 : CV RX12 208 11 yX12_copyNumber cX12_copyNumber 4 none 2 := ⟨⟨tw_1382, tw_83, tw_1385, pn_X12_copyNumber⟩, tw_1384, tw_53, _, _, rfl⟩
theorem pn_X12_product : yX12_product.cls ≠ "java/lang/invoke/MethodHandle" ∧ yX12_product.cls ≠ "java/lang/invoke/VarHandle" ∧ (parseMethodDescriptor yX12_product.desc).map (fun d => d.parameters.length) = some 3 := ⟨by decide +kernel, by decide +kernel, by decide +kernel⟩
theorem cv_X12_204 : CV RX12 204 11 yX12_product cX12_product 12 none 3 := ⟨⟨tw_1386, tw_83, tw_1389, pn_X12_product⟩, tw_1388, tw_54, _, _, rfl⟩
theorem pn_X12_add : yX12_add.cls ≠ "java/lang/invoke/MethodHandle" ∧ yX12_add.cls ≠ "java/lang/invoke/VarHandle" ∧ (parseMethodDescriptor yX12_add.desc).map (fun d => d.parameters.length) = some 2 := ⟨by decide +kernel, by decide +kernel, by decide +kernel⟩
theorem cv_X12_236 : CV RX12 236 11 yX12_add cX12_add 11 none 2 := ⟨⟨tw_1390, tw_83, tw_1393, pn_X12_add⟩, tw_1392, tw_55, _, _, rfl⟩
theorem pn_X12_takeThousand : yX12_takeThousand.cls ≠ "java/lang/invoke/MethodHandle" ∧ yX12_takeThousand.cls ≠ "java/lang/invoke/VarHandle" ∧ (parseMethodDescriptor yX12_takeThousand.desc).map (fun d => d.parameters.length) = some 2 := ⟨by decide +kernel, by decide +kernel, by decide +kernel⟩
theorem cv_X12_225 : CV RX12 225 11 yX12_takeThousand cX12_takeThousand 4 none 2 := ⟨⟨tw_1394, tw_83, tw_1397, pn_X12_takeThousand⟩, tw_1396, tw_56, _, _, rfl⟩
theorem pn_X12_raise : yX12_raise.cls ≠ "java/lang/invoke/MethodHandle" ∧ yX12_raise.cls ≠ "java/lang/invoke/VarHandle" ∧ (parseMethodDescriptor yX12_raise.desc).map (fun d => d.parameters.length) = some 2 := ⟨by decide +kernel, by decide +kernel, by decide +kernel⟩
theorem cv_X12_218 : CV RX12 218 11 yX12_raise cX12_raise 4 none 2 := ⟨⟨tw_1398, tw_83, tw_1401, pn_X12_raise⟩, tw_1400, tw_57, _, _, rfl⟩
theorem pn_X12_isHigh : yX12_isHigh.cls ≠ "java/lang/invoke/MethodHandle" ∧ yX12_isHigh.cls ≠ "java/lang/invoke/VarHandle" ∧ (parseMethodDescriptor yX12_isHigh.desc).map (fun d => d.parameters.length) = some 2 := ⟨by decide +kernel, by decide +kernel, by decide +kernel⟩
theorem cv_X12_246 : CV RX12 246 11 yX12_isHigh cX12_isHigh 3 (some .boolean) 2 := ⟨⟨tw_1402, tw_83, tw_1405, pn_X12_isHigh⟩, tw_1404, tw_58, _, _, rfl⟩
theorem pn_X12_compareNumbers : yX12_compareNumbers.cls ≠ "java/lang/invoke/MethodHandle" ∧ yX12_compareNumbers.cls ≠ "java/lang/invoke/VarHandle" ∧ (parseMethodDescriptor yX12_compareNumbers.desc).map (fun d => d.parameters.length) = some 2 := ⟨by decide +kernel, by decide +kernel, by decide +kernel⟩
theorem cv_X12_231 : CV RX12 231 11 yX12_compareNumbers cX12_compareNumbers 6 (some .int) 2 := ⟨⟨tw_1406, tw_83, tw_1409, pn_X12_compareNumbers⟩, tw_1408, tw_59, _, _, rfl⟩
theorem pn_X12_highOf : yX12_highOf.cls ≠ "java/lang/invoke/MethodHandle" ∧ yX12_highOf.cls ≠ "java/lang/invoke/VarHandle" ∧ (parseMethodDescriptor yX12_highOf.desc).map (fun d => d.parameters.length) = some 1 := ⟨by decide +kernel, by decide +kernel, by decide +kernel⟩
theorem cv_X12_312 : CV RX12 312 11 yX12_highOf cX12_highOf 5 (some .int) 1 := ⟨⟨tw_1410, tw_83, tw_1413, pn_X12_highOf⟩, tw_1412, tw_60, _, _, rfl⟩
theorem pn_X12_lowOf : yX12_lowOf.cls ≠ "java/lang/invoke/MethodHandle" ∧ yX12_lowOf.cls ≠ "java/lang/invoke/VarHandle" ∧ (parseMethodDescriptor yX12_lowOf.desc).map (fun d => d.parameters.length) = some 1 := ⟨by decide +kernel, by decide +kernel, by decide +kernel⟩
theorem cv_X12_315 : CV RX12 315 11 yX12_lowOf cX12_lowOf 5 (some .int) 1 := ⟨⟨tw_1414, tw_83, tw_1417, pn_X12_lowOf⟩, tw_1416, tw_61, _, _, rfl⟩
theorem pn_X12_isLow : yX12_isLow.cls ≠ "java/lang/invoke/MethodHandle" ∧ yX12_isLow.cls ≠ "java/lang/invoke/VarHandle" ∧ (parseMethodDescriptor yX12_isLow.desc).map (fun d => d.parameters.length) = some 2 := ⟨by decide +kernel, by decide +kernel, by decide +kernel⟩
theorem cv_X12_239 : CV RX12 239 11 yX12_isLow cX12_isLow 7 (some .boolean) 2 := ⟨⟨tw_1418, tw_83, tw_1421, pn_X12_isLow⟩, tw_1420, tw_62, _, _, rfl⟩
theorem pn_X12_choose : yX12_choose.cls ≠ "java/lang/invoke/MethodHandle" ∧ yX12_choose.cls ≠ "java/lang/invoke/VarHandle" ∧ (parseMethodDescriptor yX12_choose.desc).map (fun d => d.parameters.length) = some 2 := ⟨by decide +kernel, by decide +kernel, by decide +kernel⟩
theorem cs_X12_221 : CS RX12 221 yX12_choose cX12_choose 5 (some .long) 2 := ⟨⟨tw_1422, tw_83, tw_1424, pn_X12_choose⟩, tw_1423⟩
theorem pn_X12_take_ : yX12_take_.cls ≠ "java/lang/invoke/MethodHandle" ∧ yX12_take_.cls ≠ "java/lang/invoke/VarHandle" ∧ (parseMethodDescriptor yX12_take_.desc).map (fun d => d.parameters.length) = some 2 := ⟨by decide +kernel, by decide +kernel, by decide +kernel⟩
theorem cv_L_74 : CV RL 74 11 yX12_take_ cX12_take_ 4 (some .int) 2 := ⟨⟨tw_1425, tw_83, tw_1428, pn_X12_take_⟩, tw_1426, tw_1427, _, _, rfl⟩
theorem pn_X12_isFound : yX12_isFound.cls ≠ "java/lang/invoke/MethodHandle" ∧ yX12_isFound.cls ≠ "java/lang/invoke/VarHandle" ∧ (parseMethodDescriptor yX12_isFound.desc).map (fun d => d.parameters.length) = some 1 := ⟨by decide +kernel, by decide +kernel, by decide +kernel⟩
theorem cv_X12_332 : CV RX12 332 11 yX12_isFound cX12_isFound 2 (some .boolean) 1 := ⟨⟨tw_1429, tw_83, tw_1432, pn_X12_isFound⟩, tw_1431, tw_63, _, _, rfl⟩
theorem pn_X12_coefficient : yX12_coefficient.cls ≠ "java/lang/invoke/MethodHandle" ∧ yX12_coefficient.cls ≠ "java/lang/invoke/VarHandle" ∧ (parseMethodDescriptor yX12_coefficient.desc).map (fun d => d.parameters.length) = some 2 := ⟨by decide +kernel, by decide +kernel, by decide +kernel⟩
theorem cv_L_90 : CV RL 90 11 yX12_coefficient cX12_coefficient 3 (some .int) 2 := ⟨⟨tw_1433, tw_83, tw_1436, pn_X12_coefficient⟩, tw_1434, tw_1435, _, _, rfl⟩
theorem kc_X12_337 : Cond.constant RX12 337 (-2147483648) ∈ gT := tw_1437
theorem pn_X12_of : yX12_of.cls ≠ "java/lang/invoke/MethodHandle" ∧ yX12_of.cls ≠ "java/lang/invoke/VarHandle" ∧ (parseMethodDescriptor yX12_of.desc).map (fun d => d.parameters.length) = some 2 := ⟨by decide +kernel, by decide +kernel, by decide +kernel⟩
theorem cv_L_94 : CV RL 94 11 yX12_of cX12_of 3 (some .int) 2 := ⟨⟨tw_1438, tw_83, tw_1441, pn_X12_of⟩, tw_1439, tw_1440, _, _, rfl⟩
theorem kc_X12_338 : Cond.constantLong RX12 338 (9) ∈ gT := tw_1442
theorem pn_X12_isReciprocal : yX12_isReciprocal.cls ≠ "java/lang/invoke/MethodHandle" ∧ yX12_isReciprocal.cls ≠ "java/lang/invoke/VarHandle" ∧ (parseMethodDescriptor yX12_isReciprocal.desc).map (fun d => d.parameters.length) = some 1 := ⟨by decide +kernel, by decide +kernel, by decide +kernel⟩
theorem cv_X12_340 : CV RX12 340 11 yX12_isReciprocal cX12_isReciprocal 4 (some .boolean) 1 := ⟨⟨tw_1443, tw_83, tw_1446, pn_X12_isReciprocal⟩, tw_1445, tw_64, _, _, rfl⟩
theorem pn_X12_sum : yX12_sum.cls ≠ "java/lang/invoke/MethodHandle" ∧ yX12_sum.cls ≠ "java/lang/invoke/VarHandle" ∧ (parseMethodDescriptor yX12_sum.desc).map (fun d => d.parameters.length) = some 2 := ⟨by decide +kernel, by decide +kernel, by decide +kernel⟩
theorem cv_X12_343 : CV RX12 343 11 yX12_sum cX12_sum 13 (some .int) 2 := ⟨⟨tw_1447, tw_83, tw_1450, pn_X12_sum⟩, tw_1449, tw_65, _, _, rfl⟩
theorem pn_X12_level : yX12_level.cls ≠ "java/lang/invoke/MethodHandle" ∧ yX12_level.cls ≠ "java/lang/invoke/VarHandle" ∧ (parseMethodDescriptor yX12_level.desc).map (fun d => d.parameters.length) = some 3 := ⟨by decide +kernel, by decide +kernel, by decide +kernel⟩
theorem cv_L_99 : CV RL 99 11 yX12_level cX12_level 4 (some .long) 3 := ⟨⟨tw_1451, tw_83, tw_1454, pn_X12_level⟩, tw_1452, tw_1453, _, _, rfl⟩
theorem pn_X12_hasLevel : yX12_hasLevel.cls ≠ "java/lang/invoke/MethodHandle" ∧ yX12_hasLevel.cls ≠ "java/lang/invoke/VarHandle" ∧ (parseMethodDescriptor yX12_hasLevel.desc).map (fun d => d.parameters.length) = some 2 := ⟨by decide +kernel, by decide +kernel, by decide +kernel⟩
theorem cv_X12_346 : CV RX12 346 11 yX12_hasLevel cX12_hasLevel 3 (some .boolean) 2 := ⟨⟨tw_1455, tw_83, tw_1458, pn_X12_hasLevel⟩, tw_1457, tw_66, _, _, rfl⟩
theorem pn_X12_low : yX12_low.cls ≠ "java/lang/invoke/MethodHandle" ∧ yX12_low.cls ≠ "java/lang/invoke/VarHandle" ∧ (parseMethodDescriptor yX12_low.desc).map (fun d => d.parameters.length) = some 2 := ⟨by decide +kernel, by decide +kernel, by decide +kernel⟩
theorem cv_L_103 : CV RL 103 11 yX12_low cX12_low 3 (some .int) 2 := ⟨⟨tw_1459, tw_83, tw_1462, pn_X12_low⟩, tw_1460, tw_1461, _, _, rfl⟩
theorem pn_X12_high : yX12_high.cls ≠ "java/lang/invoke/MethodHandle" ∧ yX12_high.cls ≠ "java/lang/invoke/VarHandle" ∧ (parseMethodDescriptor yX12_high.desc).map (fun d => d.parameters.length) = some 2 := ⟨by decide +kernel, by decide +kernel, by decide +kernel⟩
theorem cv_L_107 : CV RL 107 11 yX12_high cX12_high 3 (some .int) 2 := ⟨⟨tw_1463, tw_83, tw_1466, pn_X12_high⟩, tw_1464, tw_1465, _, _, rfl⟩
theorem pn_X12_enclosed : yX12_enclosed.cls ≠ "java/lang/invoke/MethodHandle" ∧ yX12_enclosed.cls ≠ "java/lang/invoke/VarHandle" ∧ (parseMethodDescriptor yX12_enclosed.desc).map (fun d => d.parameters.length) = some 2 := ⟨by decide +kernel, by decide +kernel, by decide +kernel⟩
theorem cv_L_111 : CV RL 111 11 yX12_enclosed cX12_enclosed 3 (some .int) 2 := ⟨⟨tw_1467, tw_83, tw_1470, pn_X12_enclosed⟩, tw_1468, tw_1469, _, _, rfl⟩
theorem pn_X12_layBounds : yX12_layBounds.cls ≠ "java/lang/invoke/MethodHandle" ∧ yX12_layBounds.cls ≠ "java/lang/invoke/VarHandle" ∧ (parseMethodDescriptor yX12_layBounds.desc).map (fun d => d.parameters.length) = some 1 := ⟨by decide +kernel, by decide +kernel, by decide +kernel⟩
theorem cv_X12_349 : CV RX12 349 11 yX12_layBounds cX12_layBounds 5 none 1 := ⟨⟨tw_1471, tw_83, tw_1474, pn_X12_layBounds⟩, tw_1473, tw_67, _, _, rfl⟩
theorem pn_X12_often : yX12_often.cls ≠ "java/lang/invoke/MethodHandle" ∧ yX12_often.cls ≠ "java/lang/invoke/VarHandle" ∧ (parseMethodDescriptor yX12_often.desc).map (fun d => d.parameters.length) = some 2 := ⟨by decide +kernel, by decide +kernel, by decide +kernel⟩
theorem cv_L_115 : CV RL 115 11 yX12_often cX12_often 4 (some .int) 2 := ⟨⟨tw_1475, tw_83, tw_1478, pn_X12_often⟩, tw_1476, tw_1477, _, _, rfl⟩
theorem pn_X12_value : yX12_value.cls ≠ "java/lang/invoke/MethodHandle" ∧ yX12_value.cls ≠ "java/lang/invoke/VarHandle" ∧ (parseMethodDescriptor yX12_value.desc).map (fun d => d.parameters.length) = some 2 := ⟨by decide +kernel, by decide +kernel, by decide +kernel⟩
theorem cv_L_120 : CV RL 120 11 yX12_value cX12_value 6 (some .long) 2 := ⟨⟨tw_1479, tw_83, tw_1482, pn_X12_value⟩, tw_1480, tw_1481, _, _, rfl⟩
theorem kc_X12_352 : Cond.constantLong RX12 352 (-50) ∈ gT := tw_1483
theorem kc_X12_354 : Cond.constantLong RX12 354 (50) ∈ gT := tw_1484
theorem pn_X12_roots : yX12_roots.cls ≠ "java/lang/invoke/MethodHandle" ∧ yX12_roots.cls ≠ "java/lang/invoke/VarHandle" ∧ (parseMethodDescriptor yX12_roots.desc).map (fun d => d.parameters.length) = some 2 := ⟨by decide +kernel, by decide +kernel, by decide +kernel⟩
theorem cv_L_124 : CV RL 124 11 yX12_roots cX12_roots 7 (some .int) 2 := ⟨⟨tw_1485, tw_83, tw_1488, pn_X12_roots⟩, tw_1486, tw_1487, _, _, rfl⟩
theorem cv_X12_356 : CV RX12 356 11 yX12_value cX12_value 6 (some .long) 2 := ⟨⟨tw_1489, tw_83, tw_1482, pn_X12_value⟩, tw_1480, tw_1481, _, _, rfl⟩
theorem pn_X12_compare : yX12_compare.cls ≠ "java/lang/invoke/MethodHandle" ∧ yX12_compare.cls ≠ "java/lang/invoke/VarHandle" ∧ (parseMethodDescriptor yX12_compare.desc).map (fun d => d.parameters.length) = some 3 := ⟨by decide +kernel, by decide +kernel, by decide +kernel⟩
theorem cv_L_128 : CV RL 128 11 yX12_compare cX12_compare 4 (some .int) 3 := ⟨⟨tw_1490, tw_83, tw_1493, pn_X12_compare⟩, tw_1491, tw_1492, _, _, rfl⟩
theorem pn_X12_by_ : yX12_by_.cls ≠ "java/lang/invoke/MethodHandle" ∧ yX12_by_.cls ≠ "java/lang/invoke/VarHandle" ∧ (parseMethodDescriptor yX12_by_.desc).map (fun d => d.parameters.length) = some 3 := ⟨by decide +kernel, by decide +kernel, by decide +kernel⟩
theorem cv_X12_359 : CV RX12 359 11 yX12_by_ cX12_by_ 5 (some .int) 3 := ⟨⟨tw_1494, tw_83, tw_1497, pn_X12_by_⟩, tw_1496, tw_68, _, _, rfl⟩
theorem pn_X12_surely : yX12_surely.cls ≠ "java/lang/invoke/MethodHandle" ∧ yX12_surely.cls ≠ "java/lang/invoke/VarHandle" ∧ (parseMethodDescriptor yX12_surely.desc).map (fun d => d.parameters.length) = some 3 := ⟨by decide +kernel, by decide +kernel, by decide +kernel⟩
theorem cv_L_132 : CV RL 132 11 yX12_surely cX12_surely 4 (some .int) 3 := ⟨⟨tw_1498, tw_83, tw_1501, pn_X12_surely⟩, tw_1499, tw_1500, _, _, rfl⟩
theorem kc_X12_363 : Cond.constantLong RX12 363 (99999999) ∈ gT := tw_1502
theorem pn_X12_least : yX12_least.cls ≠ "java/lang/invoke/MethodHandle" ∧ yX12_least.cls ≠ "java/lang/invoke/VarHandle" ∧ (parseMethodDescriptor yX12_least.desc).map (fun d => d.parameters.length) = some 1 := ⟨by decide +kernel, by decide +kernel, by decide +kernel⟩
theorem cv_L_136 : CV RL 136 11 yX12_least cX12_least 6 (some .int) 1 := ⟨⟨tw_1503, tw_83, tw_1506, pn_X12_least⟩, tw_1504, tw_1505, _, _, rfl⟩
theorem kc_X12_365 : Cond.constantLong RX12 365 (255) ∈ gT := tw_1507
theorem pn_X12_found : yX12_found.cls ≠ "java/lang/invoke/MethodHandle" ∧ yX12_found.cls ≠ "java/lang/invoke/VarHandle" ∧ (parseMethodDescriptor yX12_found.desc).map (fun d => d.parameters.length) = some 2 := ⟨by decide +kernel, by decide +kernel, by decide +kernel⟩
theorem cv_L_140 : CV RL 140 11 yX12_found cX12_found 4 (some .int) 2 := ⟨⟨tw_1508, tw_83, tw_1511, pn_X12_found⟩, tw_1509, tw_1510, _, _, rfl⟩
theorem kc_X12_367 : Cond.constantLong RX12 367 (13) ∈ gT := tw_1512
theorem kc_X12_369 : Cond.constantLong RX12 369 (15) ∈ gT := tw_1513
theorem pn_X12_smallest : yX12_smallest.cls ≠ "java/lang/invoke/MethodHandle" ∧ yX12_smallest.cls ≠ "java/lang/invoke/VarHandle" ∧ (parseMethodDescriptor yX12_smallest.desc).map (fun d => d.parameters.length) = some 1 := ⟨by decide +kernel, by decide +kernel, by decide +kernel⟩
theorem cv_L_144 : CV RL 144 11 yX12_smallest cX12_smallest 6 (some .int) 1 := ⟨⟨tw_1514, tw_83, tw_1517, pn_X12_smallest⟩, tw_1515, tw_1516, _, _, rfl⟩
theorem pn_X12_count : yX12_count.cls ≠ "java/lang/invoke/MethodHandle" ∧ yX12_count.cls ≠ "java/lang/invoke/VarHandle" ∧ (parseMethodDescriptor yX12_count.desc).map (fun d => d.parameters.length) = some 1 := ⟨by decide +kernel, by decide +kernel, by decide +kernel⟩
theorem cv_L_148 : CV RL 148 11 yX12_count cX12_count 2 (some .int) 1 := ⟨⟨tw_1518, tw_83, tw_1521, pn_X12_count⟩, tw_1519, tw_1520, _, _, rfl⟩
theorem pn_X12_status : yX12_status.cls ≠ "java/lang/invoke/MethodHandle" ∧ yX12_status.cls ≠ "java/lang/invoke/VarHandle" ∧ (parseMethodDescriptor yX12_status.desc).map (fun d => d.parameters.length) = some 0 := ⟨by decide +kernel, by decide +kernel, by decide +kernel⟩
theorem cv_L_152 : CV RL 152 11 yX12_status cX12_status 1 (some .int) 0 := ⟨⟨tw_1522, tw_83, tw_1525, pn_X12_status⟩, tw_1523, tw_1524, _, _, rfl⟩
