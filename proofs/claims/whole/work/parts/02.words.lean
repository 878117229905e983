def wl : List Cond := lw_tbl.filter goodWord
theorem wl_in : ∀ w ∈ wl, w ∈ lw_tbl := fun w h => (List.mem_filter.mp h).1
theorem wl_good : ∀ w ∈ wl, (w.onTables && w.keeps) = true ∨ ∃ ty, w = .arrayClass ty := fun w h => good_of_word (List.mem_filter.mp h).2
theorem wl_of {w : Cond} {i : Nat} (h : tables_1[i]? = some w) (g : goodWord w = true) : w ∈ wl := List.mem_filter.mpr ⟨List.mem_append_right _ (List.mem_of_getElem? h), g⟩
theorem wl_sel {w : Cond} {i : Nat} (h : (k2_sels lw_privs)[i]? = some w) (g : goodWord w = true) : w ∈ wl := List.mem_filter.mpr ⟨List.mem_append_left _ (List.mem_of_getElem? h), g⟩
theorem tb_0 : Cond.initialized RL ∈ wl := wl_of (i := 0) (by decide +kernel) rfl
theorem tb_1 : Cond.initialized RX9 ∈ wl := wl_of (i := 1) (by decide +kernel) rfl
theorem tb_2 : Cond.initialized RX5 ∈ wl := wl_of (i := 2) (by decide +kernel) rfl
theorem tb_3 : Cond.initialized RX7 ∈ wl := wl_of (i := 3) (by decide +kernel) rfl
theorem tb_4 : Cond.initialized RX6 ∈ wl := wl_of (i := 4) (by decide +kernel) rfl
theorem tb_5 : Cond.initialized RX3 ∈ wl := wl_of (i := 5) (by decide +kernel) rfl
theorem tb_6 : Cond.initialized RX10 ∈ wl := wl_of (i := 6) (by decide +kernel) rfl
theorem tb_7 : Cond.initialized RX8 ∈ wl := wl_of (i := 7) (by decide +kernel) rfl
theorem tb_8 : Cond.initialized RX4 ∈ wl := wl_of (i := 8) (by decide +kernel) rfl
theorem tb_9 : Cond.initialized RX0 ∈ wl := wl_of (i := 9) (by decide +kernel) rfl
theorem tb_10 : Cond.initialized RX1 ∈ wl := wl_of (i := 10) (by decide +kernel) rfl
theorem tb_11 : Cond.initialized RX2 ∈ wl := wl_of (i := 11) (by decide +kernel) rfl
theorem tb_12 : Cond.classLink RL 7 RX9 ∈ wl := wl_of (i := 12) (by decide +kernel) rfl
theorem tb_13 : Cond.instantiable RX9 10 ∈ wl := wl_of (i := 13) (by decide +kernel) rfl
theorem tb_14 : Cond.methodLink RL 9 yX9_init ∈ wl := wl_of (i := 14) (by decide +kernel) rfl
theorem tb_15 : Cond.instanceMethod yX9_init ∈ wl := wl_of (i := 15) (by decide +kernel) rfl
theorem tb_16 : Cond.code yX9_init cX9_init 2 (none : Option FieldType) ∈ wl := wl_of (i := 16) (by decide +kernel) rfl
theorem tb_17 : Cond.methodLink RX9 1 objectInit ∈ wl := wl_of (i := 17) (by decide +kernel) rfl
theorem tb_18 : Cond.instanceMethod objectInit ∈ wl := wl_of (i := 18) (by decide +kernel) rfl
theorem tb_19 : Cond.code objectInit object_method_1_code 1 (none : Option FieldType) ∈ wl := wl_of (i := 19) (by decide +kernel) rfl
theorem tb_20 : Cond.classLink RX9 9 RX8 ∈ wl := wl_of (i := 20) (by decide +kernel) rfl
theorem tb_22 : Cond.classLink RX9 15 RX7 ∈ wl := wl_of (i := 22) (by decide +kernel) rfl
theorem tb_24 : Cond.classLink RX9 21 RX6 ∈ wl := wl_of (i := 24) (by decide +kernel) rfl
theorem tb_26 : Cond.classLink RX9 27 RX3 ∈ wl := wl_of (i := 26) (by decide +kernel) rfl
theorem tb_28 : Cond.instantiable RX7 2 ∈ wl := wl_of (i := 28) (by decide +kernel) rfl
theorem tb_29 : Cond.methodLink RX9 54 yX7_init ∈ wl := wl_of (i := 29) (by decide +kernel) rfl
theorem tb_30 : Cond.instanceMethod yX7_init ∈ wl := wl_of (i := 30) (by decide +kernel) rfl
theorem tb_31 : Cond.code yX7_init cX7_init 2 (none : Option FieldType) ∈ wl := wl_of (i := 31) (by decide +kernel) rfl
theorem tb_33 : Cond.instanceMethod yX5_init ∈ wl := wl_of (i := 33) (by decide +kernel) rfl
theorem tb_34 : Cond.code yX5_init cX5_init 1 (none : Option FieldType) ∈ wl := wl_of (i := 34) (by decide +kernel) rfl
theorem tb_35 : Cond.methodLink RX5 1 objectInit ∈ wl := wl_of (i := 35) (by decide +kernel) rfl
theorem tb_36 : Cond.fieldLink RX7 7 "ToolRoom$Row" "numbers" "[I" ∈ wl := wl_of (i := 36) (by decide +kernel) rfl
theorem tb_37 : Cond.fieldLink RX9 120 "ToolRoom$Row" "numbers" "[I" ∈ wl := wl_of (i := 37) (by decide +kernel) rfl
theorem tb_38 : Cond.fieldLink RX5 9 "ToolRoom$Holder" "size" "I" ∈ wl := wl_of (i := 38) (by decide +kernel) rfl
theorem tb_39 : Cond.fieldLink RX3 23 "ToolRoom$Grid" "size" "I" ∈ wl := wl_of (i := 39) (by decide +kernel) rfl
theorem tb_40 : Cond.sameField "ToolRoom$Grid" "ToolRoom$Holder" "size" "I" ∈ wl := wl_of (i := 40) (by decide +kernel) rfl
theorem tb_41 : Cond.fieldLink RX7 13 "ToolRoom$Row" "size" "I" ∈ wl := wl_of (i := 41) (by decide +kernel) rfl
theorem tb_42 : Cond.sameField "ToolRoom$Row" "ToolRoom$Holder" "size" "I" ∈ wl := wl_of (i := 42) (by decide +kernel) rfl
theorem tb_43 : Cond.fieldLink RX6 21 "ToolRoom$Rack" "size" "I" ∈ wl := wl_of (i := 43) (by decide +kernel) rfl
theorem tb_44 : Cond.sameField "ToolRoom$Rack" "ToolRoom$Holder" "size" "I" ∈ wl := wl_of (i := 44) (by decide +kernel) rfl
theorem tb_45 : Cond.fieldLink RX9 149 "ToolRoom$Holder" "size" "I" ∈ wl := wl_of (i := 45) (by decide +kernel) rfl
theorem tb_46 : Cond.laysFinal "ToolRoom$Row" "ToolRoom$Row" "numbers" "[I" ∈ wl := wl_of (i := 46) (by decide +kernel) rfl
theorem tb_48 : Cond.lays "ToolRoom$Row" "ToolRoom$Holder" "size" "I" ∈ wl := wl_of (i := 48) (by decide +kernel) rfl
theorem tb_50 : Cond.superclass RX7 RX5 ∈ wl := wl_of (i := 50) (by decide +kernel) rfl
theorem tb_51 : Cond.arrayClass FieldType.boolean ∈ wl := wl_of (i := 51) (by decide +kernel) rfl
theorem tb_52 : Cond.arrayClass FieldType.int ∈ wl := wl_of (i := 52) (by decide +kernel) rfl
theorem tb_53 : Cond.instantiable RX6 3 ∈ wl := wl_of (i := 53) (by decide +kernel) rfl
theorem tb_55 : Cond.instanceMethod yX6_init ∈ wl := wl_of (i := 55) (by decide +kernel) rfl
theorem tb_56 : Cond.code yX6_init cX6_init 1 (none : Option FieldType) ∈ wl := wl_of (i := 56) (by decide +kernel) rfl
theorem tb_58 : Cond.classLink RX6 9 RX8 ∈ wl := wl_of (i := 58) (by decide +kernel) rfl
theorem tb_59 : Cond.fieldLink RX6 11 "ToolRoom$Rack" "places" "[LToolRoom$Tool;" ∈ wl := wl_of (i := 59) (by decide +kernel) rfl
theorem tb_60 : Cond.fieldLink RX9 162 "ToolRoom$Rack" "places" "[LToolRoom$Tool;" ∈ wl := wl_of (i := 60) (by decide +kernel) rfl
theorem tb_61 : Cond.fieldLink RX6 17 "ToolRoom$Rack" "sort" "I" ∈ wl := wl_of (i := 61) (by decide +kernel) rfl
theorem tb_62 : Cond.fieldLink RX9 155 "ToolRoom$Rack" "sort" "I" ∈ wl := wl_of (i := 62) (by decide +kernel) rfl
theorem tb_63 : Cond.laysFinal "ToolRoom$Rack" "ToolRoom$Rack" "places" "[LToolRoom$Tool;" ∈ wl := wl_of (i := 63) (by decide +kernel) rfl
theorem tb_65 : Cond.lays "ToolRoom$Rack" "ToolRoom$Rack" "sort" "I" ∈ wl := wl_of (i := 65) (by decide +kernel) rfl
theorem tb_67 : Cond.lays "ToolRoom$Rack" "ToolRoom$Holder" "size" "I" ∈ wl := wl_of (i := 67) (by decide +kernel) rfl
theorem tb_68 : Cond.superclass RX6 RX5 ∈ wl := wl_of (i := 68) (by decide +kernel) rfl
theorem tb_69 : Cond.instantiable RX3 2 ∈ wl := wl_of (i := 69) (by decide +kernel) rfl
theorem tb_70 : Cond.methodLink RX9 58 yX3_init ∈ wl := wl_of (i := 70) (by decide +kernel) rfl
theorem tb_71 : Cond.instanceMethod yX3_init ∈ wl := wl_of (i := 71) (by decide +kernel) rfl
theorem tb_72 : Cond.code yX3_init cX3_init 2 (none : Option FieldType) ∈ wl := wl_of (i := 72) (by decide +kernel) rfl
theorem tb_74 : Cond.classLink RX3 9 RX7 ∈ wl := wl_of (i := 74) (by decide +kernel) rfl
theorem tb_75 : Cond.methodLink RX3 17 yX7_init ∈ wl := wl_of (i := 75) (by decide +kernel) rfl
theorem tb_76 : Cond.fieldLink RX3 11 "ToolRoom$Grid" "rows" "[LToolRoom$Row;" ∈ wl := wl_of (i := 76) (by decide +kernel) rfl
theorem tb_77 : Cond.fieldLink RX9 166 "ToolRoom$Grid" "rows" "[LToolRoom$Row;" ∈ wl := wl_of (i := 77) (by decide +kernel) rfl
theorem tb_78 : Cond.laysFinal "ToolRoom$Grid" "ToolRoom$Grid" "rows" "[LToolRoom$Row;" ∈ wl := wl_of (i := 78) (by decide +kernel) rfl
theorem tb_80 : Cond.lays "ToolRoom$Grid" "ToolRoom$Holder" "size" "I" ∈ wl := wl_of (i := 80) (by decide +kernel) rfl
theorem tb_81 : Cond.superclass RX3 RX5 ∈ wl := wl_of (i := 81) (by decide +kernel) rfl
theorem tb_82 : Cond.fieldLink RX9 11 "ToolRoom" "hooks" "[LToolRoom$Tool;" ∈ wl := wl_of (i := 82) (by decide +kernel) rfl
theorem tb_83 : Cond.fieldLink RX9 17 "ToolRoom" "trays" "[LToolRoom$Row;" ∈ wl := wl_of (i := 83) (by decide +kernel) rfl
theorem tb_84 : Cond.fieldLink RX9 23 "ToolRoom" "racks" "[LToolRoom$Rack;" ∈ wl := wl_of (i := 84) (by decide +kernel) rfl
theorem tb_85 : Cond.fieldLink RX9 29 "ToolRoom" "grids" "[LToolRoom$Grid;" ∈ wl := wl_of (i := 85) (by decide +kernel) rfl
theorem tb_86 : Cond.fieldLink RX9 33 "ToolRoom" "alarmIsThere" "[Z" ∈ wl := wl_of (i := 86) (by decide +kernel) rfl
theorem tb_87 : Cond.fieldLink RX9 37 "ToolRoom" "alarmNumbers" "[I" ∈ wl := wl_of (i := 87) (by decide +kernel) rfl
theorem tb_88 : Cond.fieldLink RX9 41 "ToolRoom" "met" "[I" ∈ wl := wl_of (i := 88) (by decide +kernel) rfl
theorem tb_89 : Cond.fieldLink RX9 44 "ToolRoom" "latest" "I" ∈ wl := wl_of (i := 89) (by decide +kernel) rfl
theorem tb_90 : Cond.fieldLink RX9 48 "ToolRoom" "uses" "I" ∈ wl := wl_of (i := 90) (by decide +kernel) rfl
theorem tb_91 : Cond.fieldLink RX9 51 "ToolRoom" "reason" "I" ∈ wl := wl_of (i := 91) (by decide +kernel) rfl
theorem tb_92 : Cond.laysFinal "ToolRoom" "ToolRoom" "hooks" "[LToolRoom$Tool;" ∈ wl := wl_of (i := 92) (by decide +kernel) rfl
theorem tb_94 : Cond.laysFinal "ToolRoom" "ToolRoom" "trays" "[LToolRoom$Row;" ∈ wl := wl_of (i := 94) (by decide +kernel) rfl
theorem tb_96 : Cond.laysFinal "ToolRoom" "ToolRoom" "racks" "[LToolRoom$Rack;" ∈ wl := wl_of (i := 96) (by decide +kernel) rfl
theorem tb_98 : Cond.laysFinal "ToolRoom" "ToolRoom" "grids" "[LToolRoom$Grid;" ∈ wl := wl_of (i := 98) (by decide +kernel) rfl
theorem tb_100 : Cond.laysFinal "ToolRoom" "ToolRoom" "alarmIsThere" "[Z" ∈ wl := wl_of (i := 100) (by decide +kernel) rfl
theorem tb_102 : Cond.laysFinal "ToolRoom" "ToolRoom" "alarmNumbers" "[I" ∈ wl := wl_of (i := 102) (by decide +kernel) rfl
theorem tb_104 : Cond.laysFinal "ToolRoom" "ToolRoom" "met" "[I" ∈ wl := wl_of (i := 104) (by decide +kernel) rfl
theorem tb_106 : Cond.lays "ToolRoom" "ToolRoom" "latest" "I" ∈ wl := wl_of (i := 106) (by decide +kernel) rfl
theorem tb_108 : Cond.lays "ToolRoom" "ToolRoom" "uses" "I" ∈ wl := wl_of (i := 108) (by decide +kernel) rfl
theorem tb_110 : Cond.lays "ToolRoom" "ToolRoom" "reason" "I" ∈ wl := wl_of (i := 110) (by decide +kernel) rfl
theorem tb_112 : Cond.superclass RX9 "java/lang/Object" ∈ wl := wl_of (i := 112) (by decide +kernel) rfl
theorem tb_113 : Cond.methodLink RL 13 yX9_tool ∈ wl := wl_of (i := 113) (by decide +kernel) rfl
theorem tb_114 : Cond.instanceMethod yX9_tool ∈ wl := wl_of (i := 114) (by decide +kernel) rfl
theorem tb_115 : Cond.selects RX9 yX9_tool yX9_tool ∈ wl := wl_of (i := 115) (by decide +kernel) rfl
theorem tb_116 : Cond.code yX9_tool cX9_tool 4 (some .int) ∈ wl := wl_of (i := 116) (by decide +kernel) rfl
theorem tb_117 : Cond.methodLink RX9 59 yX9_isWithin ∈ wl := wl_of (i := 117) (by decide +kernel) rfl
theorem tb_118 : Cond.static yX9_isWithin ∈ wl := wl_of (i := 118) (by decide +kernel) rfl
theorem tb_119 : Cond.code yX9_isWithin cX9_isWithin 2 (some .boolean) ∈ wl := wl_of (i := 119) (by decide +kernel) rfl
theorem tb_120 : Cond.methodLink RX9 63 yX9_refuse ∈ wl := wl_of (i := 120) (by decide +kernel) rfl
theorem tb_122 : Cond.instanceMethod yX9_refuse ∈ wl := wl_of (i := 122) (by decide +kernel) rfl
theorem tb_123 : Cond.code yX9_refuse cX9_refuse 2 (some .int) ∈ wl := wl_of (i := 123) (by decide +kernel) rfl
theorem tb_124 : Cond.methodLink RX9 67 yX9_newTool ∈ wl := wl_of (i := 124) (by decide +kernel) rfl
theorem tb_125 : Cond.static yX9_newTool ∈ wl := wl_of (i := 125) (by decide +kernel) rfl
theorem tb_126 : Cond.code yX9_newTool cX9_newTool 1 (some (FieldType.object "ToolRoom$Tool")) ∈ wl := wl_of (i := 126) (by decide +kernel) rfl
theorem tb_127 : Cond.classLink RX9 123 RX4 ∈ wl := wl_of (i := 127) (by decide +kernel) rfl
theorem tb_128 : Cond.instantiable RX4 3 ∈ wl := wl_of (i := 128) (by decide +kernel) rfl
theorem tb_130 : Cond.instanceMethod yX4_init ∈ wl := wl_of (i := 130) (by decide +kernel) rfl
theorem tb_131 : Cond.code yX4_init cX4_init 1 (none : Option FieldType) ∈ wl := wl_of (i := 131) (by decide +kernel) rfl
theorem tb_133 : Cond.instanceMethod yX8_init ∈ wl := wl_of (i := 133) (by decide +kernel) rfl
theorem tb_134 : Cond.code yX8_init cX8_init 1 (none : Option FieldType) ∈ wl := wl_of (i := 134) (by decide +kernel) rfl
theorem tb_135 : Cond.methodLink RX8 1 objectInit ∈ wl := wl_of (i := 135) (by decide +kernel) rfl
theorem tb_136 : Cond.fieldLink RX8 7 "ToolRoom$Tool" "wear" "I" ∈ wl := wl_of (i := 136) (by decide +kernel) rfl
theorem tb_137 : Cond.fieldLink RX4 9 "ToolRoom$Hammer" "wear" "I" ∈ wl := wl_of (i := 137) (by decide +kernel) rfl
theorem tb_138 : Cond.sameField "ToolRoom$Hammer" "ToolRoom$Tool" "wear" "I" ∈ wl := wl_of (i := 138) (by decide +kernel) rfl
theorem tb_139 : Cond.fieldLink RX2 9 "ToolRoom$Gauge" "wear" "I" ∈ wl := wl_of (i := 139) (by decide +kernel) rfl
theorem tb_140 : Cond.sameField "ToolRoom$Gauge" "ToolRoom$Tool" "wear" "I" ∈ wl := wl_of (i := 140) (by decide +kernel) rfl
theorem tb_141 : Cond.fieldLink RX0 15 "ToolRoom$Blade" "wear" "I" ∈ wl := wl_of (i := 141) (by decide +kernel) rfl
theorem tb_142 : Cond.sameField "ToolRoom$Blade" "ToolRoom$Tool" "wear" "I" ∈ wl := wl_of (i := 142) (by decide +kernel) rfl
theorem tb_143 : Cond.fieldLink RX9 94 "ToolRoom$Tool" "wear" "I" ∈ wl := wl_of (i := 143) (by decide +kernel) rfl
theorem tb_144 : Cond.fieldLink RX8 13 "ToolRoom$Tool" "hasCard" "Z" ∈ wl := wl_of (i := 144) (by decide +kernel) rfl
theorem tb_145 : Cond.fieldLink RX9 81 "ToolRoom$Tool" "hasCard" "Z" ∈ wl := wl_of (i := 145) (by decide +kernel) rfl
theorem tb_146 : Cond.fieldLink RX8 17 "ToolRoom$Tool" "name" "I" ∈ wl := wl_of (i := 146) (by decide +kernel) rfl
theorem tb_147 : Cond.fieldLink RX9 85 "ToolRoom$Tool" "name" "I" ∈ wl := wl_of (i := 147) (by decide +kernel) rfl
theorem tb_148 : Cond.lays "ToolRoom$Hammer" "ToolRoom$Tool" "wear" "I" ∈ wl := wl_of (i := 148) (by decide +kernel) rfl
theorem tb_150 : Cond.lays "ToolRoom$Hammer" "ToolRoom$Tool" "hasCard" "Z" ∈ wl := wl_of (i := 150) (by decide +kernel) rfl
theorem tb_152 : Cond.lays "ToolRoom$Hammer" "ToolRoom$Tool" "name" "I" ∈ wl := wl_of (i := 152) (by decide +kernel) rfl
theorem tb_154 : Cond.superclass RX4 RX8 ∈ wl := wl_of (i := 154) (by decide +kernel) rfl
theorem tb_155 : Cond.classLink RX9 104 RX0 ∈ wl := wl_of (i := 155) (by decide +kernel) rfl
theorem tb_156 : Cond.instantiable RX0 4 ∈ wl := wl_of (i := 156) (by decide +kernel) rfl
theorem tb_158 : Cond.instanceMethod yX0_init ∈ wl := wl_of (i := 158) (by decide +kernel) rfl
theorem tb_159 : Cond.code yX0_init cX0_init 1 (none : Option FieldType) ∈ wl := wl_of (i := 159) (by decide +kernel) rfl
theorem tb_161 : Cond.fieldLink RX0 9 "ToolRoom$Blade" "edge" "I" ∈ wl := wl_of (i := 161) (by decide +kernel) rfl
theorem tb_162 : Cond.fieldLink RX1 13 "ToolRoom$FileBlade" "edge" "I" ∈ wl := wl_of (i := 162) (by decide +kernel) rfl
theorem tb_163 : Cond.sameField "ToolRoom$FileBlade" "ToolRoom$Blade" "edge" "I" ∈ wl := wl_of (i := 163) (by decide +kernel) rfl
theorem tb_164 : Cond.fieldLink RX9 106 "ToolRoom$Blade" "edge" "I" ∈ wl := wl_of (i := 164) (by decide +kernel) rfl
theorem tb_165 : Cond.lays "ToolRoom$Blade" "ToolRoom$Blade" "edge" "I" ∈ wl := wl_of (i := 165) (by decide +kernel) rfl
theorem tb_167 : Cond.lays "ToolRoom$Blade" "ToolRoom$Tool" "wear" "I" ∈ wl := wl_of (i := 167) (by decide +kernel) rfl
theorem tb_168 : Cond.lays "ToolRoom$Blade" "ToolRoom$Tool" "hasCard" "Z" ∈ wl := wl_of (i := 168) (by decide +kernel) rfl
theorem tb_169 : Cond.lays "ToolRoom$Blade" "ToolRoom$Tool" "name" "I" ∈ wl := wl_of (i := 169) (by decide +kernel) rfl
theorem tb_170 : Cond.superclass RX0 RX8 ∈ wl := wl_of (i := 170) (by decide +kernel) rfl
theorem tb_171 : Cond.classLink RX9 127 RX1 ∈ wl := wl_of (i := 171) (by decide +kernel) rfl
theorem tb_172 : Cond.instantiable RX1 4 ∈ wl := wl_of (i := 172) (by decide +kernel) rfl
theorem tb_174 : Cond.instanceMethod yX1_init ∈ wl := wl_of (i := 174) (by decide +kernel) rfl
theorem tb_175 : Cond.code yX1_init cX1_init 1 (none : Option FieldType) ∈ wl := wl_of (i := 175) (by decide +kernel) rfl
theorem tb_177 : Cond.lays "ToolRoom$FileBlade" "ToolRoom$Blade" "edge" "I" ∈ wl := wl_of (i := 177) (by decide +kernel) rfl
theorem tb_178 : Cond.lays "ToolRoom$FileBlade" "ToolRoom$Tool" "wear" "I" ∈ wl := wl_of (i := 178) (by decide +kernel) rfl
theorem tb_179 : Cond.lays "ToolRoom$FileBlade" "ToolRoom$Tool" "hasCard" "Z" ∈ wl := wl_of (i := 179) (by decide +kernel) rfl
theorem tb_180 : Cond.lays "ToolRoom$FileBlade" "ToolRoom$Tool" "name" "I" ∈ wl := wl_of (i := 180) (by decide +kernel) rfl
theorem tb_181 : Cond.superclass RX1 RX0 ∈ wl := wl_of (i := 181) (by decide +kernel) rfl
theorem tb_182 : Cond.classLink RX9 130 RX2 ∈ wl := wl_of (i := 182) (by decide +kernel) rfl
theorem tb_183 : Cond.instantiable RX2 3 ∈ wl := wl_of (i := 183) (by decide +kernel) rfl
theorem tb_185 : Cond.instanceMethod yX2_init ∈ wl := wl_of (i := 185) (by decide +kernel) rfl
theorem tb_186 : Cond.code yX2_init cX2_init 1 (none : Option FieldType) ∈ wl := wl_of (i := 186) (by decide +kernel) rfl
theorem tb_188 : Cond.lays "ToolRoom$Gauge" "ToolRoom$Tool" "wear" "I" ∈ wl := wl_of (i := 188) (by decide +kernel) rfl
theorem tb_189 : Cond.lays "ToolRoom$Gauge" "ToolRoom$Tool" "hasCard" "Z" ∈ wl := wl_of (i := 189) (by decide +kernel) rfl
theorem tb_190 : Cond.lays "ToolRoom$Gauge" "ToolRoom$Tool" "name" "I" ∈ wl := wl_of (i := 190) (by decide +kernel) rfl
theorem tb_191 : Cond.superclass RX2 RX8 ∈ wl := wl_of (i := 191) (by decide +kernel) rfl
theorem tb_192 : Cond.methodLink RX9 71 yX9_done ∈ wl := wl_of (i := 192) (by decide +kernel) rfl
theorem tb_194 : Cond.instanceMethod yX9_done ∈ wl := wl_of (i := 194) (by decide +kernel) rfl
theorem tb_195 : Cond.code yX9_done cX9_done 2 (some .int) ∈ wl := wl_of (i := 195) (by decide +kernel) rfl
theorem tb_196 : Cond.methodLink RL 18 yX9_hang ∈ wl := wl_of (i := 196) (by decide +kernel) rfl
theorem tb_197 : Cond.instanceMethod yX9_hang ∈ wl := wl_of (i := 197) (by decide +kernel) rfl
theorem tb_198 : Cond.selects RX9 yX9_hang yX9_hang ∈ wl := wl_of (i := 198) (by decide +kernel) rfl
theorem tb_199 : Cond.code yX9_hang cX9_hang 3 (some .int) ∈ wl := wl_of (i := 199) (by decide +kernel) rfl
theorem tb_200 : Cond.methodLink RL 22 yX9_unhang ∈ wl := wl_of (i := 200) (by decide +kernel) rfl
theorem tb_201 : Cond.instanceMethod yX9_unhang ∈ wl := wl_of (i := 201) (by decide +kernel) rfl
theorem tb_202 : Cond.selects RX9 yX9_unhang yX9_unhang ∈ wl := wl_of (i := 202) (by decide +kernel) rfl
theorem tb_203 : Cond.code yX9_unhang cX9_unhang 3 (some .int) ∈ wl := wl_of (i := 203) (by decide +kernel) rfl
theorem tb_204 : Cond.methodLink RL 27 yX9_kind ∈ wl := wl_of (i := 204) (by decide +kernel) rfl
theorem tb_205 : Cond.instanceMethod yX9_kind ∈ wl := wl_of (i := 205) (by decide +kernel) rfl
theorem tb_206 : Cond.selects RX9 yX9_kind yX9_kind ∈ wl := wl_of (i := 206) (by decide +kernel) rfl
theorem tb_207 : Cond.code yX9_kind cX9_kind 3 (some .int) ∈ wl := wl_of (i := 207) (by decide +kernel) rfl
theorem tb_208 : Cond.methodLink RX9 74 (⟨"ToolRoom$Tool", "kindNumber", "()I"⟩ : MethodName) ∈ wl := wl_of (i := 208) (by decide +kernel) rfl
theorem tb_210 : Cond.sameMethod "ToolRoom$Tool" "ToolRoom$Tool" "kindNumber" "()I" ∈ wl := wl_of (i := 210) (by decide +kernel) rfl
theorem tb_211 : Cond.selects RX0 (⟨"ToolRoom$Tool", "kindNumber", "()I"⟩ : MethodName) yX0_kindNumber ∈ wl := wl_of (i := 211) (by decide +kernel) rfl
theorem tb_212 : Cond.instanceMethod yX0_kindNumber ∈ wl := wl_of (i := 212) (by decide +kernel) rfl
theorem tb_213 : Cond.code yX0_kindNumber cX0_kindNumber 1 (some .int) ∈ wl := wl_of (i := 213) (by decide +kernel) rfl
theorem tb_214 : Cond.selects RX1 (⟨"ToolRoom$Tool", "kindNumber", "()I"⟩ : MethodName) yX1_kindNumber ∈ wl := wl_of (i := 214) (by decide +kernel) rfl
theorem tb_215 : Cond.instanceMethod yX1_kindNumber ∈ wl := wl_of (i := 215) (by decide +kernel) rfl
theorem tb_216 : Cond.code yX1_kindNumber cX1_kindNumber 1 (some .int) ∈ wl := wl_of (i := 216) (by decide +kernel) rfl
theorem tb_217 : Cond.selects RX2 (⟨"ToolRoom$Tool", "kindNumber", "()I"⟩ : MethodName) yX2_kindNumber ∈ wl := wl_of (i := 217) (by decide +kernel) rfl
theorem tb_218 : Cond.instanceMethod yX2_kindNumber ∈ wl := wl_of (i := 218) (by decide +kernel) rfl
theorem tb_219 : Cond.code yX2_kindNumber cX2_kindNumber 1 (some .int) ∈ wl := wl_of (i := 219) (by decide +kernel) rfl
theorem tb_220 : Cond.selects RX4 (⟨"ToolRoom$Tool", "kindNumber", "()I"⟩ : MethodName) yX4_kindNumber ∈ wl := wl_of (i := 220) (by decide +kernel) rfl
theorem tb_221 : Cond.instanceMethod yX4_kindNumber ∈ wl := wl_of (i := 221) (by decide +kernel) rfl
theorem tb_222 : Cond.code yX4_kindNumber cX4_kindNumber 1 (some .int) ∈ wl := wl_of (i := 222) (by decide +kernel) rfl
theorem tb_223 : Cond.methodLink RL 31 yX9_card ∈ wl := wl_of (i := 223) (by decide +kernel) rfl
theorem tb_224 : Cond.instanceMethod yX9_card ∈ wl := wl_of (i := 224) (by decide +kernel) rfl
theorem tb_225 : Cond.selects RX9 yX9_card yX9_card ∈ wl := wl_of (i := 225) (by decide +kernel) rfl
theorem tb_226 : Cond.code yX9_card cX9_card 4 (some .int) ∈ wl := wl_of (i := 226) (by decide +kernel) rfl
theorem tb_227 : Cond.methodLink RX9 78 yX9_fail ∈ wl := wl_of (i := 227) (by decide +kernel) rfl
theorem tb_229 : Cond.instanceMethod yX9_fail ∈ wl := wl_of (i := 229) (by decide +kernel) rfl
theorem tb_230 : Cond.code yX9_fail cX9_fail 2 (some .int) ∈ wl := wl_of (i := 230) (by decide +kernel) rfl
theorem tb_231 : Cond.methodLink RL 35 yX9_uncard ∈ wl := wl_of (i := 231) (by decide +kernel) rfl
theorem tb_232 : Cond.instanceMethod yX9_uncard ∈ wl := wl_of (i := 232) (by decide +kernel) rfl
theorem tb_233 : Cond.selects RX9 yX9_uncard yX9_uncard ∈ wl := wl_of (i := 233) (by decide +kernel) rfl
theorem tb_234 : Cond.code yX9_uncard cX9_uncard 3 (some .int) ∈ wl := wl_of (i := 234) (by decide +kernel) rfl
theorem tb_235 : Cond.methodLink RL 39 yX9_rename ∈ wl := wl_of (i := 235) (by decide +kernel) rfl
theorem tb_236 : Cond.instanceMethod yX9_rename ∈ wl := wl_of (i := 236) (by decide +kernel) rfl
theorem tb_237 : Cond.selects RX9 yX9_rename yX9_rename ∈ wl := wl_of (i := 237) (by decide +kernel) rfl
theorem tb_238 : Cond.code yX9_rename cX9_rename 4 (some .int) ∈ wl := wl_of (i := 238) (by decide +kernel) rfl
theorem tb_239 : Cond.methodLink RL 43 yX9_of ∈ wl := wl_of (i := 239) (by decide +kernel) rfl
theorem tb_240 : Cond.instanceMethod yX9_of ∈ wl := wl_of (i := 240) (by decide +kernel) rfl
theorem tb_241 : Cond.selects RX9 yX9_of yX9_of ∈ wl := wl_of (i := 241) (by decide +kernel) rfl
theorem tb_242 : Cond.code yX9_of cX9_of 4 (some .int) ∈ wl := wl_of (i := 242) (by decide +kernel) rfl
theorem tb_243 : Cond.methodLink RX9 88 yX9_refuseWithZero ∈ wl := wl_of (i := 243) (by decide +kernel) rfl
theorem tb_245 : Cond.instanceMethod yX9_refuseWithZero ∈ wl := wl_of (i := 245) (by decide +kernel) rfl
theorem tb_246 : Cond.code yX9_refuseWithZero cX9_refuseWithZero 2 (some .int) ∈ wl := wl_of (i := 246) (by decide +kernel) rfl
theorem tb_247 : Cond.methodLink RX9 91 yX9_failWithZero ∈ wl := wl_of (i := 247) (by decide +kernel) rfl
theorem tb_249 : Cond.instanceMethod yX9_failWithZero ∈ wl := wl_of (i := 249) (by decide +kernel) rfl
theorem tb_250 : Cond.code yX9_failWithZero cX9_failWithZero 2 (some .int) ∈ wl := wl_of (i := 250) (by decide +kernel) rfl
theorem tb_251 : Cond.methodLink RX9 97 (⟨"ToolRoom$Tool", "weight", "()I"⟩ : MethodName) ∈ wl := wl_of (i := 251) (by decide +kernel) rfl
theorem tb_253 : Cond.sameMethod "ToolRoom$Tool" "ToolRoom$Tool" "weight" "()I" ∈ wl := wl_of (i := 253) (by decide +kernel) rfl
theorem tb_254 : Cond.selects RX0 (⟨"ToolRoom$Tool", "weight", "()I"⟩ : MethodName) yX0_weight ∈ wl := wl_of (i := 254) (by decide +kernel) rfl
theorem tb_255 : Cond.instanceMethod yX0_weight ∈ wl := wl_of (i := 255) (by decide +kernel) rfl
theorem tb_256 : Cond.code yX0_weight cX0_weight 1 (some .int) ∈ wl := wl_of (i := 256) (by decide +kernel) rfl
theorem tb_257 : Cond.selects RX1 (⟨"ToolRoom$Tool", "weight", "()I"⟩ : MethodName) yX1_weight ∈ wl := wl_of (i := 257) (by decide +kernel) rfl
theorem tb_258 : Cond.instanceMethod yX1_weight ∈ wl := wl_of (i := 258) (by decide +kernel) rfl
theorem tb_259 : Cond.code yX1_weight cX1_weight 1 (some .int) ∈ wl := wl_of (i := 259) (by decide +kernel) rfl
theorem tb_260 : Cond.selects RX2 (⟨"ToolRoom$Tool", "weight", "()I"⟩ : MethodName) yX2_weight ∈ wl := wl_of (i := 260) (by decide +kernel) rfl
theorem tb_261 : Cond.instanceMethod yX2_weight ∈ wl := wl_of (i := 261) (by decide +kernel) rfl
theorem tb_262 : Cond.code yX2_weight cX2_weight 1 (some .int) ∈ wl := wl_of (i := 262) (by decide +kernel) rfl
theorem tb_263 : Cond.selects RX4 (⟨"ToolRoom$Tool", "weight", "()I"⟩ : MethodName) yX4_weight ∈ wl := wl_of (i := 263) (by decide +kernel) rfl
theorem tb_264 : Cond.instanceMethod yX4_weight ∈ wl := wl_of (i := 264) (by decide +kernel) rfl
theorem tb_265 : Cond.code yX4_weight cX4_weight 1 (some .int) ∈ wl := wl_of (i := 265) (by decide +kernel) rfl
theorem tb_266 : Cond.methodLink RX9 100 yX9_edgeOf ∈ wl := wl_of (i := 266) (by decide +kernel) rfl
theorem tb_268 : Cond.instanceMethod yX9_edgeOf ∈ wl := wl_of (i := 268) (by decide +kernel) rfl
theorem tb_269 : Cond.code yX9_edgeOf cX9_edgeOf 3 (some .int) ∈ wl := wl_of (i := 269) (by decide +kernel) rfl
theorem tb_270 : Cond.methodLink RL 47 yX9_hone ∈ wl := wl_of (i := 270) (by decide +kernel) rfl
theorem tb_271 : Cond.instanceMethod yX9_hone ∈ wl := wl_of (i := 271) (by decide +kernel) rfl
theorem tb_272 : Cond.selects RX9 yX9_hone yX9_hone ∈ wl := wl_of (i := 272) (by decide +kernel) rfl
theorem tb_273 : Cond.code yX9_hone cX9_hone 5 (some .int) ∈ wl := wl_of (i := 273) (by decide +kernel) rfl
theorem tb_274 : Cond.methodLink RL 51 yX9_use ∈ wl := wl_of (i := 274) (by decide +kernel) rfl
theorem tb_275 : Cond.instanceMethod yX9_use ∈ wl := wl_of (i := 275) (by decide +kernel) rfl
theorem tb_276 : Cond.selects RX9 yX9_use yX9_use ∈ wl := wl_of (i := 276) (by decide +kernel) rfl
theorem tb_277 : Cond.code yX9_use cX9_use 4 (some .int) ∈ wl := wl_of (i := 277) (by decide +kernel) rfl
theorem tb_278 : Cond.methodLink RX9 109 (⟨"ToolRoom$Tool", "work", "(I)I"⟩ : MethodName) ∈ wl := wl_of (i := 278) (by decide +kernel) rfl
theorem tb_280 : Cond.sameMethod "ToolRoom$Tool" "ToolRoom$Tool" "work" "(I)I" ∈ wl := wl_of (i := 280) (by decide +kernel) rfl
theorem tb_281 : Cond.selects RX0 (⟨"ToolRoom$Tool", "work", "(I)I"⟩ : MethodName) yX0_work ∈ wl := wl_of (i := 281) (by decide +kernel) rfl
theorem tb_282 : Cond.instanceMethod yX0_work ∈ wl := wl_of (i := 282) (by decide +kernel) rfl
theorem tb_283 : Cond.code yX0_work cX0_work 2 (some .int) ∈ wl := wl_of (i := 283) (by decide +kernel) rfl
theorem tb_284 : Cond.selects RX1 (⟨"ToolRoom$Tool", "work", "(I)I"⟩ : MethodName) yX1_work ∈ wl := wl_of (i := 284) (by decide +kernel) rfl
theorem tb_285 : Cond.instanceMethod yX1_work ∈ wl := wl_of (i := 285) (by decide +kernel) rfl
theorem tb_286 : Cond.code yX1_work cX1_work 3 (some .int) ∈ wl := wl_of (i := 286) (by decide +kernel) rfl
theorem tb_287 : Cond.methodLink RX1 9 yX0_work ∈ wl := wl_of (i := 287) (by decide +kernel) rfl
theorem tb_288 : Cond.selects RX2 (⟨"ToolRoom$Tool", "work", "(I)I"⟩ : MethodName) yX2_work ∈ wl := wl_of (i := 288) (by decide +kernel) rfl
theorem tb_289 : Cond.instanceMethod yX2_work ∈ wl := wl_of (i := 289) (by decide +kernel) rfl
theorem tb_290 : Cond.code yX2_work cX2_work 3 (some .int) ∈ wl := wl_of (i := 290) (by decide +kernel) rfl
theorem tb_291 : Cond.selects RX4 (⟨"ToolRoom$Tool", "work", "(I)I"⟩ : MethodName) yX4_work ∈ wl := wl_of (i := 291) (by decide +kernel) rfl
theorem tb_292 : Cond.instanceMethod yX4_work ∈ wl := wl_of (i := 292) (by decide +kernel) rfl
theorem tb_293 : Cond.code yX4_work cX4_work 2 (some .int) ∈ wl := wl_of (i := 293) (by decide +kernel) rfl
theorem tb_294 : Cond.methodLink RL 55 yX9_shift ∈ wl := wl_of (i := 294) (by decide +kernel) rfl
theorem tb_295 : Cond.instanceMethod yX9_shift ∈ wl := wl_of (i := 295) (by decide +kernel) rfl
theorem tb_296 : Cond.selects RX9 yX9_shift yX9_shift ∈ wl := wl_of (i := 296) (by decide +kernel) rfl
theorem tb_297 : Cond.code yX9_shift cX9_shift 8 (some .int) ∈ wl := wl_of (i := 297) (by decide +kernel) rfl
theorem tb_298 : Cond.methodLink RX9 112 yX9_shiftOnce ∈ wl := wl_of (i := 298) (by decide +kernel) rfl
theorem tb_300 : Cond.instanceMethod yX9_shiftOnce ∈ wl := wl_of (i := 300) (by decide +kernel) rfl
theorem tb_301 : Cond.code yX9_shiftOnce cX9_shiftOnce 8 (some .int) ∈ wl := wl_of (i := 301) (by decide +kernel) rfl
theorem tb_302 : Cond.methodLink RX9 116 yX9_failureAt ∈ wl := wl_of (i := 302) (by decide +kernel) rfl
theorem tb_303 : Cond.static yX9_failureAt ∈ wl := wl_of (i := 303) (by decide +kernel) rfl
theorem tb_304 : Cond.code yX9_failureAt cX9_failureAt 2 (some .int) ∈ wl := wl_of (i := 304) (by decide +kernel) rfl
theorem tb_305 : Cond.methodLink RX9 146 yX5_isMissing ∈ wl := wl_of (i := 305) (by decide +kernel) rfl
theorem tb_306 : Cond.instanceMethod yX5_isMissing ∈ wl := wl_of (i := 306) (by decide +kernel) rfl
theorem tb_307 : Cond.sameMethod "ToolRoom$Holder" "ToolRoom$Holder" "isMissing" "()Z" ∈ wl := wl_of (i := 307) (by decide +kernel) rfl
theorem tb_308 : Cond.selects RX3 yX5_isMissing yX5_isMissing ∈ wl := wl_of (i := 308) (by decide +kernel) rfl
theorem tb_309 : Cond.selects RX6 yX5_isMissing yX5_isMissing ∈ wl := wl_of (i := 309) (by decide +kernel) rfl
theorem tb_310 : Cond.selects RX7 yX5_isMissing yX5_isMissing ∈ wl := wl_of (i := 310) (by decide +kernel) rfl
theorem tb_311 : Cond.code yX5_isMissing cX5_isMissing 1 (some .boolean) ∈ wl := wl_of (i := 311) (by decide +kernel) rfl
theorem tb_312 : Cond.methodLink RL 60 yX9_tray ∈ wl := wl_of (i := 312) (by decide +kernel) rfl
theorem tb_313 : Cond.instanceMethod yX9_tray ∈ wl := wl_of (i := 313) (by decide +kernel) rfl
theorem tb_314 : Cond.selects RX9 yX9_tray yX9_tray ∈ wl := wl_of (i := 314) (by decide +kernel) rfl
theorem tb_315 : Cond.code yX9_tray cX9_tray 3 (some .int) ∈ wl := wl_of (i := 315) (by decide +kernel) rfl
theorem tb_316 : Cond.methodLink RX9 133 yX7_renew ∈ wl := wl_of (i := 316) (by decide +kernel) rfl
theorem tb_317 : Cond.instanceMethod yX7_renew ∈ wl := wl_of (i := 317) (by decide +kernel) rfl
theorem tb_318 : Cond.selects RX7 yX7_renew yX7_renew ∈ wl := wl_of (i := 318) (by decide +kernel) rfl
theorem tb_319 : Cond.code yX7_renew cX7_renew 3 (none : Option FieldType) ∈ wl := wl_of (i := 319) (by decide +kernel) rfl
theorem tb_320 : Cond.methodLink RL 64 yX9_lose ∈ wl := wl_of (i := 320) (by decide +kernel) rfl
theorem tb_321 : Cond.instanceMethod yX9_lose ∈ wl := wl_of (i := 321) (by decide +kernel) rfl
theorem tb_322 : Cond.selects RX9 yX9_lose yX9_lose ∈ wl := wl_of (i := 322) (by decide +kernel) rfl
theorem tb_323 : Cond.code yX9_lose cX9_lose 4 (some .int) ∈ wl := wl_of (i := 323) (by decide +kernel) rfl
theorem tb_324 : Cond.methodLink RX9 136 yX9_holderOrNull ∈ wl := wl_of (i := 324) (by decide +kernel) rfl
theorem tb_326 : Cond.instanceMethod yX9_holderOrNull ∈ wl := wl_of (i := 326) (by decide +kernel) rfl
theorem tb_327 : Cond.code yX9_holderOrNull cX9_holderOrNull 3 (some (FieldType.object "ToolRoom$Holder")) ∈ wl := wl_of (i := 327) (by decide +kernel) rfl
theorem tb_328 : Cond.methodLink RX9 140 yX5_vanish ∈ wl := wl_of (i := 328) (by decide +kernel) rfl
theorem tb_329 : Cond.instanceMethod yX5_vanish ∈ wl := wl_of (i := 329) (by decide +kernel) rfl
theorem tb_330 : Cond.sameMethod "ToolRoom$Holder" "ToolRoom$Holder" "vanish" "()Z" ∈ wl := wl_of (i := 330) (by decide +kernel) rfl
theorem tb_331 : Cond.selects RX3 yX5_vanish yX5_vanish ∈ wl := wl_of (i := 331) (by decide +kernel) rfl
theorem tb_332 : Cond.selects RX6 yX5_vanish yX5_vanish ∈ wl := wl_of (i := 332) (by decide +kernel) rfl
theorem tb_333 : Cond.selects RX7 yX5_vanish yX5_vanish ∈ wl := wl_of (i := 333) (by decide +kernel) rfl
theorem tb_334 : Cond.code yX5_vanish cX5_vanish 2 (some .boolean) ∈ wl := wl_of (i := 334) (by decide +kernel) rfl
theorem tb_335 : Cond.methodLink RX5 13 yX5_isMissing ∈ wl := wl_of (i := 335) (by decide +kernel) rfl
theorem tb_336 : Cond.methodLink RL 68 yX9_put ∈ wl := wl_of (i := 336) (by decide +kernel) rfl
theorem tb_337 : Cond.instanceMethod yX9_put ∈ wl := wl_of (i := 337) (by decide +kernel) rfl
theorem tb_338 : Cond.selects RX9 yX9_put yX9_put ∈ wl := wl_of (i := 338) (by decide +kernel) rfl
theorem tb_339 : Cond.code yX9_put cX9_put 6 (some .int) ∈ wl := wl_of (i := 339) (by decide +kernel) rfl
theorem tb_340 : Cond.methodLink RL 73 yX9_get ∈ wl := wl_of (i := 340) (by decide +kernel) rfl
theorem tb_341 : Cond.instanceMethod yX9_get ∈ wl := wl_of (i := 341) (by decide +kernel) rfl
theorem tb_342 : Cond.selects RX9 yX9_get yX9_get ∈ wl := wl_of (i := 342) (by decide +kernel) rfl
theorem tb_343 : Cond.code yX9_get cX9_get 5 (some .int) ∈ wl := wl_of (i := 343) (by decide +kernel) rfl
theorem tb_344 : Cond.methodLink RL 77 yX9_length ∈ wl := wl_of (i := 344) (by decide +kernel) rfl
theorem tb_345 : Cond.instanceMethod yX9_length ∈ wl := wl_of (i := 345) (by decide +kernel) rfl
theorem tb_346 : Cond.selects RX9 yX9_length yX9_length ∈ wl := wl_of (i := 346) (by decide +kernel) rfl
theorem tb_347 : Cond.code yX9_length cX9_length 4 (some .int) ∈ wl := wl_of (i := 347) (by decide +kernel) rfl
theorem tb_348 : Cond.methodLink RL 81 yX9_rack ∈ wl := wl_of (i := 348) (by decide +kernel) rfl
theorem tb_349 : Cond.instanceMethod yX9_rack ∈ wl := wl_of (i := 349) (by decide +kernel) rfl
theorem tb_350 : Cond.selects RX9 yX9_rack yX9_rack ∈ wl := wl_of (i := 350) (by decide +kernel) rfl
theorem tb_351 : Cond.code yX9_rack cX9_rack 4 (some .int) ∈ wl := wl_of (i := 351) (by decide +kernel) rfl
theorem tb_352 : Cond.methodLink RX9 152 yX6_renew ∈ wl := wl_of (i := 352) (by decide +kernel) rfl
theorem tb_353 : Cond.instanceMethod yX6_renew ∈ wl := wl_of (i := 353) (by decide +kernel) rfl
theorem tb_354 : Cond.selects RX6 yX6_renew yX6_renew ∈ wl := wl_of (i := 354) (by decide +kernel) rfl
theorem tb_355 : Cond.code yX6_renew cX6_renew 4 (none : Option FieldType) ∈ wl := wl_of (i := 355) (by decide +kernel) rfl
theorem tb_356 : Cond.methodLink RL 85 yX9_lay ∈ wl := wl_of (i := 356) (by decide +kernel) rfl
theorem tb_357 : Cond.instanceMethod yX9_lay ∈ wl := wl_of (i := 357) (by decide +kernel) rfl
theorem tb_358 : Cond.selects RX9 yX9_lay yX9_lay ∈ wl := wl_of (i := 358) (by decide +kernel) rfl
theorem tb_359 : Cond.code yX9_lay cX9_lay 7 (some .int) ∈ wl := wl_of (i := 359) (by decide +kernel) rfl
theorem tb_360 : Cond.methodLink RX9 158 yX9_isOfSort ∈ wl := wl_of (i := 360) (by decide +kernel) rfl
theorem tb_361 : Cond.static yX9_isOfSort ∈ wl := wl_of (i := 361) (by decide +kernel) rfl
theorem tb_362 : Cond.code yX9_isOfSort cX9_isOfSort 2 (some .boolean) ∈ wl := wl_of (i := 362) (by decide +kernel) rfl
theorem tb_363 : Cond.methodLink RL 89 yX9_fetch ∈ wl := wl_of (i := 363) (by decide +kernel) rfl
theorem tb_364 : Cond.instanceMethod yX9_fetch ∈ wl := wl_of (i := 364) (by decide +kernel) rfl
theorem tb_365 : Cond.selects RX9 yX9_fetch yX9_fetch ∈ wl := wl_of (i := 365) (by decide +kernel) rfl
theorem tb_366 : Cond.code yX9_fetch cX9_fetch 8 (some .int) ∈ wl := wl_of (i := 366) (by decide +kernel) rfl
theorem tb_367 : Cond.methodLink RL 93 yX9_grid ∈ wl := wl_of (i := 367) (by decide +kernel) rfl
theorem tb_368 : Cond.instanceMethod yX9_grid ∈ wl := wl_of (i := 368) (by decide +kernel) rfl
theorem tb_369 : Cond.selects RX9 yX9_grid yX9_grid ∈ wl := wl_of (i := 369) (by decide +kernel) rfl
theorem tb_370 : Cond.code yX9_grid cX9_grid 4 (some .int) ∈ wl := wl_of (i := 370) (by decide +kernel) rfl
theorem tb_371 : Cond.methodLink RX9 165 yX3_renew ∈ wl := wl_of (i := 371) (by decide +kernel) rfl
theorem tb_372 : Cond.instanceMethod yX3_renew ∈ wl := wl_of (i := 372) (by decide +kernel) rfl
theorem tb_373 : Cond.selects RX3 yX3_renew yX3_renew ∈ wl := wl_of (i := 373) (by decide +kernel) rfl
theorem tb_374 : Cond.code yX3_renew cX3_renew 4 (none : Option FieldType) ∈ wl := wl_of (i := 374) (by decide +kernel) rfl
theorem tb_375 : Cond.methodLink RX3 20 yX7_renew ∈ wl := wl_of (i := 375) (by decide +kernel) rfl
theorem tb_376 : Cond.methodLink RL 97 yX9_strike ∈ wl := wl_of (i := 376) (by decide +kernel) rfl
theorem tb_377 : Cond.instanceMethod yX9_strike ∈ wl := wl_of (i := 377) (by decide +kernel) rfl
theorem tb_378 : Cond.selects RX9 yX9_strike yX9_strike ∈ wl := wl_of (i := 378) (by decide +kernel) rfl
theorem tb_379 : Cond.code yX9_strike cX9_strike 5 (some .int) ∈ wl := wl_of (i := 379) (by decide +kernel) rfl
theorem tb_380 : Cond.methodLink RX9 169 (⟨"ToolRoom$Row", "vanish", "()Z"⟩ : MethodName) ∈ wl := wl_of (i := 380) (by decide +kernel) rfl
theorem tb_381 : Cond.sameMethod "ToolRoom$Row" "ToolRoom$Holder" "vanish" "()Z" ∈ wl := wl_of (i := 381) (by decide +kernel) rfl
theorem tb_383 : Cond.selects RX7 (⟨"ToolRoom$Row", "vanish", "()Z"⟩ : MethodName) yX5_vanish ∈ wl := wl_of (i := 383) (by decide +kernel) rfl
theorem tb_384 : Cond.methodLink RL 101 yX9_mark ∈ wl := wl_of (i := 384) (by decide +kernel) rfl
theorem tb_385 : Cond.instanceMethod yX9_mark ∈ wl := wl_of (i := 385) (by decide +kernel) rfl
theorem tb_386 : Cond.selects RX9 yX9_mark yX9_mark ∈ wl := wl_of (i := 386) (by decide +kernel) rfl
theorem tb_387 : Cond.code yX9_mark cX9_mark 7 (some .int) ∈ wl := wl_of (i := 387) (by decide +kernel) rfl
theorem tb_388 : Cond.methodLink RX9 170 yX9_failureAtCell ∈ wl := wl_of (i := 388) (by decide +kernel) rfl
theorem tb_389 : Cond.static yX9_failureAtCell ∈ wl := wl_of (i := 389) (by decide +kernel) rfl
theorem tb_390 : Cond.code yX9_failureAtCell cX9_failureAtCell 4 (some .int) ∈ wl := wl_of (i := 390) (by decide +kernel) rfl
theorem tb_391 : Cond.methodLink RL 105 yX9_cell ∈ wl := wl_of (i := 391) (by decide +kernel) rfl
theorem tb_392 : Cond.instanceMethod yX9_cell ∈ wl := wl_of (i := 392) (by decide +kernel) rfl
theorem tb_393 : Cond.selects RX9 yX9_cell yX9_cell ∈ wl := wl_of (i := 393) (by decide +kernel) rfl
theorem tb_394 : Cond.code yX9_cell cX9_cell 6 (some .int) ∈ wl := wl_of (i := 394) (by decide +kernel) rfl
theorem tb_395 : Cond.methodLink RL 109 yX9_alarm ∈ wl := wl_of (i := 395) (by decide +kernel) rfl
theorem tb_396 : Cond.instanceMethod yX9_alarm ∈ wl := wl_of (i := 396) (by decide +kernel) rfl
theorem tb_397 : Cond.selects RX9 yX9_alarm yX9_alarm ∈ wl := wl_of (i := 397) (by decide +kernel) rfl
theorem tb_398 : Cond.code yX9_alarm cX9_alarm 4 (some .int) ∈ wl := wl_of (i := 398) (by decide +kernel) rfl
theorem tb_399 : Cond.methodLink RL 113 yX9_calm ∈ wl := wl_of (i := 399) (by decide +kernel) rfl
theorem tb_400 : Cond.instanceMethod yX9_calm ∈ wl := wl_of (i := 400) (by decide +kernel) rfl
theorem tb_401 : Cond.selects RX9 yX9_calm yX9_calm ∈ wl := wl_of (i := 401) (by decide +kernel) rfl
theorem tb_402 : Cond.code yX9_calm cX9_calm 3 (some .int) ∈ wl := wl_of (i := 402) (by decide +kernel) rfl
theorem tb_403 : Cond.methodLink RL 117 yX9_let ∈ wl := wl_of (i := 403) (by decide +kernel) rfl
theorem tb_404 : Cond.instanceMethod yX9_let ∈ wl := wl_of (i := 404) (by decide +kernel) rfl
theorem tb_405 : Cond.selects RX9 yX9_let yX9_let ∈ wl := wl_of (i := 405) (by decide +kernel) rfl
theorem tb_406 : Cond.code yX9_let cX9_let 3 (some .int) ∈ wl := wl_of (i := 406) (by decide +kernel) rfl
theorem tb_407 : Cond.methodLink RL 121 yX9_why ∈ wl := wl_of (i := 407) (by decide +kernel) rfl
theorem tb_408 : Cond.instanceMethod yX9_why ∈ wl := wl_of (i := 408) (by decide +kernel) rfl
theorem tb_409 : Cond.selects RX9 yX9_why yX9_why ∈ wl := wl_of (i := 409) (by decide +kernel) rfl
theorem tb_410 : Cond.code yX9_why cX9_why 1 (some .int) ∈ wl := wl_of (i := 410) (by decide +kernel) rfl
theorem tb_411 : Cond.methodLink RL 126 yX9_count ∈ wl := wl_of (i := 411) (by decide +kernel) rfl
theorem tb_412 : Cond.instanceMethod yX9_count ∈ wl := wl_of (i := 412) (by decide +kernel) rfl
theorem tb_413 : Cond.selects RX9 yX9_count yX9_count ∈ wl := wl_of (i := 413) (by decide +kernel) rfl
theorem tb_414 : Cond.code yX9_count cX9_count 2 (some .int) ∈ wl := wl_of (i := 414) (by decide +kernel) rfl
theorem tb_415 : Cond.classLink RL 10 RX10 ∈ wl := wl_of (i := 415) (by decide +kernel) rfl
theorem tb_416 : Cond.instantiable RX10 21 ∈ wl := wl_of (i := 416) (by decide +kernel) rfl
theorem tb_417 : Cond.methodLink RL 12 yX10_init ∈ wl := wl_of (i := 417) (by decide +kernel) rfl
theorem tb_418 : Cond.instanceMethod yX10_init ∈ wl := wl_of (i := 418) (by decide +kernel) rfl
theorem tb_419 : Cond.code yX10_init cX10_init 2 (none : Option FieldType) ∈ wl := wl_of (i := 419) (by decide +kernel) rfl
theorem tb_420 : Cond.methodLink RX10 1 objectInit ∈ wl := wl_of (i := 420) (by decide +kernel) rfl
theorem tb_421 : Cond.fieldLink RX10 7 "ToolRoomModel" "hooks" "[I" ∈ wl := wl_of (i := 421) (by decide +kernel) rfl
theorem tb_422 : Cond.fieldLink RX10 77 "ToolRoomModel" "tools" "I" ∈ wl := wl_of (i := 422) (by decide +kernel) rfl
theorem tb_423 : Cond.fieldLink RX10 13 "ToolRoomModel" "kinds" "[I" ∈ wl := wl_of (i := 423) (by decide +kernel) rfl
theorem tb_424 : Cond.fieldLink RX10 16 "ToolRoomModel" "wears" "[I" ∈ wl := wl_of (i := 424) (by decide +kernel) rfl
theorem tb_425 : Cond.fieldLink RX10 19 "ToolRoomModel" "edges" "[I" ∈ wl := wl_of (i := 425) (by decide +kernel) rfl
theorem tb_426 : Cond.fieldLink RX10 22 "ToolRoomModel" "carded" "[Z" ∈ wl := wl_of (i := 426) (by decide +kernel) rfl
theorem tb_427 : Cond.fieldLink RX10 26 "ToolRoomModel" "names" "[I" ∈ wl := wl_of (i := 427) (by decide +kernel) rfl
theorem tb_428 : Cond.fieldLink RX10 29 "ToolRoomModel" "traySize" "[I" ∈ wl := wl_of (i := 428) (by decide +kernel) rfl
theorem tb_429 : Cond.fieldLink RX10 32 "ToolRoomModel" "trays" "[I" ∈ wl := wl_of (i := 429) (by decide +kernel) rfl
theorem tb_430 : Cond.fieldLink RX10 35 "ToolRoomModel" "rackSize" "[I" ∈ wl := wl_of (i := 430) (by decide +kernel) rfl
theorem tb_431 : Cond.fieldLink RX10 38 "ToolRoomModel" "rackSort" "[I" ∈ wl := wl_of (i := 431) (by decide +kernel) rfl
theorem tb_432 : Cond.fieldLink RX10 41 "ToolRoomModel" "racks" "[I" ∈ wl := wl_of (i := 432) (by decide +kernel) rfl
theorem tb_433 : Cond.fieldLink RX10 44 "ToolRoomModel" "gridSize" "[I" ∈ wl := wl_of (i := 433) (by decide +kernel) rfl
theorem tb_434 : Cond.fieldLink RX10 47 "ToolRoomModel" "rowSize" "[I" ∈ wl := wl_of (i := 434) (by decide +kernel) rfl
theorem tb_435 : Cond.fieldLink RX10 50 "ToolRoomModel" "cells" "[I" ∈ wl := wl_of (i := 435) (by decide +kernel) rfl
theorem tb_436 : Cond.fieldLink RX10 53 "ToolRoomModel" "isAlarm" "[Z" ∈ wl := wl_of (i := 436) (by decide +kernel) rfl
theorem tb_437 : Cond.fieldLink RX10 56 "ToolRoomModel" "numbers" "[I" ∈ wl := wl_of (i := 437) (by decide +kernel) rfl
theorem tb_438 : Cond.fieldLink RX10 62 "ToolRoomModel" "why" "I" ∈ wl := wl_of (i := 438) (by decide +kernel) rfl
theorem tb_439 : Cond.fieldLink RX10 66 "ToolRoomModel" "latest" "I" ∈ wl := wl_of (i := 439) (by decide +kernel) rfl
theorem tb_440 : Cond.fieldLink RX10 59 "ToolRoomModel" "met" "[I" ∈ wl := wl_of (i := 440) (by decide +kernel) rfl
theorem tb_441 : Cond.fieldLink RX10 93 "ToolRoomModel" "uses" "I" ∈ wl := wl_of (i := 441) (by decide +kernel) rfl
theorem tb_442 : Cond.laysFinal "ToolRoomModel" "ToolRoomModel" "hooks" "[I" ∈ wl := wl_of (i := 442) (by decide +kernel) rfl
theorem tb_444 : Cond.lays "ToolRoomModel" "ToolRoomModel" "tools" "I" ∈ wl := wl_of (i := 444) (by decide +kernel) rfl
theorem tb_446 : Cond.laysFinal "ToolRoomModel" "ToolRoomModel" "kinds" "[I" ∈ wl := wl_of (i := 446) (by decide +kernel) rfl
theorem tb_448 : Cond.laysFinal "ToolRoomModel" "ToolRoomModel" "wears" "[I" ∈ wl := wl_of (i := 448) (by decide +kernel) rfl
theorem tb_450 : Cond.laysFinal "ToolRoomModel" "ToolRoomModel" "edges" "[I" ∈ wl := wl_of (i := 450) (by decide +kernel) rfl
theorem tb_452 : Cond.laysFinal "ToolRoomModel" "ToolRoomModel" "carded" "[Z" ∈ wl := wl_of (i := 452) (by decide +kernel) rfl
theorem tb_454 : Cond.laysFinal "ToolRoomModel" "ToolRoomModel" "names" "[I" ∈ wl := wl_of (i := 454) (by decide +kernel) rfl
theorem tb_456 : Cond.laysFinal "ToolRoomModel" "ToolRoomModel" "traySize" "[I" ∈ wl := wl_of (i := 456) (by decide +kernel) rfl
theorem tb_458 : Cond.laysFinal "ToolRoomModel" "ToolRoomModel" "trays" "[I" ∈ wl := wl_of (i := 458) (by decide +kernel) rfl
theorem tb_460 : Cond.laysFinal "ToolRoomModel" "ToolRoomModel" "rackSize" "[I" ∈ wl := wl_of (i := 460) (by decide +kernel) rfl
theorem tb_462 : Cond.laysFinal "ToolRoomModel" "ToolRoomModel" "rackSort" "[I" ∈ wl := wl_of (i := 462) (by decide +kernel) rfl
theorem tb_464 : Cond.laysFinal "ToolRoomModel" "ToolRoomModel" "racks" "[I" ∈ wl := wl_of (i := 464) (by decide +kernel) rfl
theorem tb_466 : Cond.laysFinal "ToolRoomModel" "ToolRoomModel" "gridSize" "[I" ∈ wl := wl_of (i := 466) (by decide +kernel) rfl
theorem tb_468 : Cond.laysFinal "ToolRoomModel" "ToolRoomModel" "rowSize" "[I" ∈ wl := wl_of (i := 468) (by decide +kernel) rfl
theorem tb_470 : Cond.laysFinal "ToolRoomModel" "ToolRoomModel" "cells" "[I" ∈ wl := wl_of (i := 470) (by decide +kernel) rfl
theorem tb_472 : Cond.laysFinal "ToolRoomModel" "ToolRoomModel" "isAlarm" "[Z" ∈ wl := wl_of (i := 472) (by decide +kernel) rfl
theorem tb_474 : Cond.laysFinal "ToolRoomModel" "ToolRoomModel" "numbers" "[I" ∈ wl := wl_of (i := 474) (by decide +kernel) rfl
theorem tb_476 : Cond.lays "ToolRoomModel" "ToolRoomModel" "why" "I" ∈ wl := wl_of (i := 476) (by decide +kernel) rfl
theorem tb_478 : Cond.lays "ToolRoomModel" "ToolRoomModel" "latest" "I" ∈ wl := wl_of (i := 478) (by decide +kernel) rfl
theorem tb_480 : Cond.laysFinal "ToolRoomModel" "ToolRoomModel" "met" "[I" ∈ wl := wl_of (i := 480) (by decide +kernel) rfl
theorem tb_482 : Cond.lays "ToolRoomModel" "ToolRoomModel" "uses" "I" ∈ wl := wl_of (i := 482) (by decide +kernel) rfl
theorem tb_484 : Cond.superclass RX10 "java/lang/Object" ∈ wl := wl_of (i := 484) (by decide +kernel) rfl
theorem tb_485 : Cond.methodLink RL 17 yX10_tool ∈ wl := wl_of (i := 485) (by decide +kernel) rfl
theorem tb_486 : Cond.instanceMethod yX10_tool ∈ wl := wl_of (i := 486) (by decide +kernel) rfl
theorem tb_487 : Cond.selects RX10 yX10_tool yX10_tool ∈ wl := wl_of (i := 487) (by decide +kernel) rfl
theorem tb_488 : Cond.code yX10_tool cX10_tool 4 (some .int) ∈ wl := wl_of (i := 488) (by decide +kernel) rfl
theorem tb_489 : Cond.methodLink RX10 69 yX10_in ∈ wl := wl_of (i := 489) (by decide +kernel) rfl
theorem tb_490 : Cond.static yX10_in ∈ wl := wl_of (i := 490) (by decide +kernel) rfl
theorem tb_491 : Cond.code yX10_in cX10_in 3 (some .boolean) ∈ wl := wl_of (i := 491) (by decide +kernel) rfl
theorem tb_492 : Cond.methodLink RX10 73 yX10_refuses ∈ wl := wl_of (i := 492) (by decide +kernel) rfl
theorem tb_494 : Cond.instanceMethod yX10_refuses ∈ wl := wl_of (i := 494) (by decide +kernel) rfl
theorem tb_495 : Cond.code yX10_refuses cX10_refuses 2 (some .int) ∈ wl := wl_of (i := 495) (by decide +kernel) rfl
theorem tb_496 : Cond.methodLink RX10 80 yX10_says ∈ wl := wl_of (i := 496) (by decide +kernel) rfl
theorem tb_498 : Cond.instanceMethod yX10_says ∈ wl := wl_of (i := 498) (by decide +kernel) rfl
theorem tb_499 : Cond.code yX10_says cX10_says 2 (some .int) ∈ wl := wl_of (i := 499) (by decide +kernel) rfl
theorem tb_500 : Cond.methodLink RL 21 yX10_hang ∈ wl := wl_of (i := 500) (by decide +kernel) rfl
theorem tb_501 : Cond.instanceMethod yX10_hang ∈ wl := wl_of (i := 501) (by decide +kernel) rfl
theorem tb_502 : Cond.selects RX10 yX10_hang yX10_hang ∈ wl := wl_of (i := 502) (by decide +kernel) rfl
theorem tb_503 : Cond.code yX10_hang cX10_hang 3 (some .int) ∈ wl := wl_of (i := 503) (by decide +kernel) rfl
theorem tb_504 : Cond.methodLink RL 26 yX10_unhang ∈ wl := wl_of (i := 504) (by decide +kernel) rfl
theorem tb_505 : Cond.instanceMethod yX10_unhang ∈ wl := wl_of (i := 505) (by decide +kernel) rfl
theorem tb_506 : Cond.selects RX10 yX10_unhang yX10_unhang ∈ wl := wl_of (i := 506) (by decide +kernel) rfl
theorem tb_507 : Cond.code yX10_unhang cX10_unhang 3 (some .int) ∈ wl := wl_of (i := 507) (by decide +kernel) rfl
theorem tb_508 : Cond.methodLink RL 30 yX10_kind ∈ wl := wl_of (i := 508) (by decide +kernel) rfl
theorem tb_509 : Cond.instanceMethod yX10_kind ∈ wl := wl_of (i := 509) (by decide +kernel) rfl
theorem tb_510 : Cond.selects RX10 yX10_kind yX10_kind ∈ wl := wl_of (i := 510) (by decide +kernel) rfl
theorem tb_511 : Cond.code yX10_kind cX10_kind 2 (some .int) ∈ wl := wl_of (i := 511) (by decide +kernel) rfl
theorem tb_512 : Cond.methodLink RL 34 yX10_card ∈ wl := wl_of (i := 512) (by decide +kernel) rfl
theorem tb_513 : Cond.instanceMethod yX10_card ∈ wl := wl_of (i := 513) (by decide +kernel) rfl
theorem tb_514 : Cond.selects RX10 yX10_card yX10_card ∈ wl := wl_of (i := 514) (by decide +kernel) rfl
theorem tb_515 : Cond.code yX10_card cX10_card 3 (some .int) ∈ wl := wl_of (i := 515) (by decide +kernel) rfl
theorem tb_516 : Cond.methodLink RX10 83 yX10_fails ∈ wl := wl_of (i := 516) (by decide +kernel) rfl
theorem tb_518 : Cond.instanceMethod yX10_fails ∈ wl := wl_of (i := 518) (by decide +kernel) rfl
theorem tb_519 : Cond.code yX10_fails cX10_fails 2 (some .int) ∈ wl := wl_of (i := 519) (by decide +kernel) rfl
theorem tb_520 : Cond.methodLink RL 38 yX10_uncard ∈ wl := wl_of (i := 520) (by decide +kernel) rfl
theorem tb_521 : Cond.instanceMethod yX10_uncard ∈ wl := wl_of (i := 521) (by decide +kernel) rfl
theorem tb_522 : Cond.selects RX10 yX10_uncard yX10_uncard ∈ wl := wl_of (i := 522) (by decide +kernel) rfl
theorem tb_523 : Cond.code yX10_uncard cX10_uncard 2 (some .int) ∈ wl := wl_of (i := 523) (by decide +kernel) rfl
theorem tb_524 : Cond.methodLink RL 42 yX10_rename ∈ wl := wl_of (i := 524) (by decide +kernel) rfl
theorem tb_525 : Cond.instanceMethod yX10_rename ∈ wl := wl_of (i := 525) (by decide +kernel) rfl
theorem tb_526 : Cond.selects RX10 yX10_rename yX10_rename ∈ wl := wl_of (i := 526) (by decide +kernel) rfl
theorem tb_527 : Cond.code yX10_rename cX10_rename 3 (some .int) ∈ wl := wl_of (i := 527) (by decide +kernel) rfl
theorem tb_528 : Cond.methodLink RL 46 yX10_of ∈ wl := wl_of (i := 528) (by decide +kernel) rfl
theorem tb_529 : Cond.instanceMethod yX10_of ∈ wl := wl_of (i := 529) (by decide +kernel) rfl
theorem tb_530 : Cond.selects RX10 yX10_of yX10_of ∈ wl := wl_of (i := 530) (by decide +kernel) rfl
theorem tb_531 : Cond.code yX10_of cX10_of 5 (some .int) ∈ wl := wl_of (i := 531) (by decide +kernel) rfl
theorem tb_532 : Cond.methodLink RX10 86 yX10_isBlade ∈ wl := wl_of (i := 532) (by decide +kernel) rfl
theorem tb_533 : Cond.static yX10_isBlade ∈ wl := wl_of (i := 533) (by decide +kernel) rfl
theorem tb_534 : Cond.code yX10_isBlade cX10_isBlade 1 (some .boolean) ∈ wl := wl_of (i := 534) (by decide +kernel) rfl
theorem tb_535 : Cond.methodLink RX10 90 yX10_weight ∈ wl := wl_of (i := 535) (by decide +kernel) rfl
theorem tb_537 : Cond.instanceMethod yX10_weight ∈ wl := wl_of (i := 537) (by decide +kernel) rfl
theorem tb_538 : Cond.code yX10_weight cX10_weight 2 (some .int) ∈ wl := wl_of (i := 538) (by decide +kernel) rfl
theorem tb_539 : Cond.methodLink RL 50 yX10_hone ∈ wl := wl_of (i := 539) (by decide +kernel) rfl
theorem tb_540 : Cond.instanceMethod yX10_hone ∈ wl := wl_of (i := 540) (by decide +kernel) rfl
theorem tb_541 : Cond.selects RX10 yX10_hone yX10_hone ∈ wl := wl_of (i := 541) (by decide +kernel) rfl
theorem tb_542 : Cond.code yX10_hone cX10_hone 4 (some .int) ∈ wl := wl_of (i := 542) (by decide +kernel) rfl
theorem tb_543 : Cond.methodLink RL 54 yX10_use ∈ wl := wl_of (i := 543) (by decide +kernel) rfl
theorem tb_544 : Cond.instanceMethod yX10_use ∈ wl := wl_of (i := 544) (by decide +kernel) rfl
theorem tb_545 : Cond.selects RX10 yX10_use yX10_use ∈ wl := wl_of (i := 545) (by decide +kernel) rfl
theorem tb_546 : Cond.code yX10_use cX10_use 4 (some .int) ∈ wl := wl_of (i := 546) (by decide +kernel) rfl
theorem tb_547 : Cond.methodLink RX10 96 yX10_used ∈ wl := wl_of (i := 547) (by decide +kernel) rfl
theorem tb_549 : Cond.instanceMethod yX10_used ∈ wl := wl_of (i := 549) (by decide +kernel) rfl
theorem tb_550 : Cond.code yX10_used cX10_used 4 (some .int) ∈ wl := wl_of (i := 550) (by decide +kernel) rfl
theorem tb_551 : Cond.methodLink RL 59 yX10_shift ∈ wl := wl_of (i := 551) (by decide +kernel) rfl
theorem tb_552 : Cond.instanceMethod yX10_shift ∈ wl := wl_of (i := 552) (by decide +kernel) rfl
theorem tb_553 : Cond.selects RX10 yX10_shift yX10_shift ∈ wl := wl_of (i := 553) (by decide +kernel) rfl
theorem tb_554 : Cond.code yX10_shift cX10_shift 7 (some .int) ∈ wl := wl_of (i := 554) (by decide +kernel) rfl
theorem tb_555 : Cond.methodLink RL 63 yX10_tray ∈ wl := wl_of (i := 555) (by decide +kernel) rfl
theorem tb_556 : Cond.instanceMethod yX10_tray ∈ wl := wl_of (i := 556) (by decide +kernel) rfl
theorem tb_557 : Cond.selects RX10 yX10_tray yX10_tray ∈ wl := wl_of (i := 557) (by decide +kernel) rfl
theorem tb_558 : Cond.code yX10_tray cX10_tray 4 (some .int) ∈ wl := wl_of (i := 558) (by decide +kernel) rfl
theorem tb_559 : Cond.methodLink RL 67 yX10_lose ∈ wl := wl_of (i := 559) (by decide +kernel) rfl
theorem tb_560 : Cond.instanceMethod yX10_lose ∈ wl := wl_of (i := 560) (by decide +kernel) rfl
theorem tb_561 : Cond.selects RX10 yX10_lose yX10_lose ∈ wl := wl_of (i := 561) (by decide +kernel) rfl
theorem tb_562 : Cond.code yX10_lose cX10_lose 4 (some .int) ∈ wl := wl_of (i := 562) (by decide +kernel) rfl
theorem tb_563 : Cond.methodLink RX10 100 yX10_isThing ∈ wl := wl_of (i := 563) (by decide +kernel) rfl
theorem tb_564 : Cond.static yX10_isThing ∈ wl := wl_of (i := 564) (by decide +kernel) rfl
theorem tb_565 : Cond.code yX10_isThing cX10_isThing 2 (some .boolean) ∈ wl := wl_of (i := 565) (by decide +kernel) rfl
theorem tb_566 : Cond.methodLink RX10 104 yX10_sizeOf ∈ wl := wl_of (i := 566) (by decide +kernel) rfl
theorem tb_568 : Cond.instanceMethod yX10_sizeOf ∈ wl := wl_of (i := 568) (by decide +kernel) rfl
theorem tb_569 : Cond.code yX10_sizeOf cX10_sizeOf 3 (some .int) ∈ wl := wl_of (i := 569) (by decide +kernel) rfl
theorem tb_570 : Cond.methodLink RL 72 yX10_put ∈ wl := wl_of (i := 570) (by decide +kernel) rfl
theorem tb_571 : Cond.instanceMethod yX10_put ∈ wl := wl_of (i := 571) (by decide +kernel) rfl
theorem tb_572 : Cond.selects RX10 yX10_put yX10_put ∈ wl := wl_of (i := 572) (by decide +kernel) rfl
theorem tb_573 : Cond.code yX10_put cX10_put 5 (some .int) ∈ wl := wl_of (i := 573) (by decide +kernel) rfl
theorem tb_574 : Cond.methodLink RX10 107 yX10_lacks ∈ wl := wl_of (i := 574) (by decide +kernel) rfl
theorem tb_575 : Cond.static yX10_lacks ∈ wl := wl_of (i := 575) (by decide +kernel) rfl
theorem tb_576 : Cond.code yX10_lacks cX10_lacks 2 (some .int) ∈ wl := wl_of (i := 576) (by decide +kernel) rfl
theorem tb_577 : Cond.methodLink RL 76 yX10_get ∈ wl := wl_of (i := 577) (by decide +kernel) rfl
theorem tb_578 : Cond.instanceMethod yX10_get ∈ wl := wl_of (i := 578) (by decide +kernel) rfl
theorem tb_579 : Cond.selects RX10 yX10_get yX10_get ∈ wl := wl_of (i := 579) (by decide +kernel) rfl
theorem tb_580 : Cond.code yX10_get cX10_get 4 (some .int) ∈ wl := wl_of (i := 580) (by decide +kernel) rfl
theorem tb_581 : Cond.methodLink RL 80 yX10_length ∈ wl := wl_of (i := 581) (by decide +kernel) rfl
theorem tb_582 : Cond.instanceMethod yX10_length ∈ wl := wl_of (i := 582) (by decide +kernel) rfl
theorem tb_583 : Cond.selects RX10 yX10_length yX10_length ∈ wl := wl_of (i := 583) (by decide +kernel) rfl
theorem tb_584 : Cond.code yX10_length cX10_length 3 (some .int) ∈ wl := wl_of (i := 584) (by decide +kernel) rfl
theorem tb_585 : Cond.methodLink RL 84 yX10_rack ∈ wl := wl_of (i := 585) (by decide +kernel) rfl
theorem tb_586 : Cond.instanceMethod yX10_rack ∈ wl := wl_of (i := 586) (by decide +kernel) rfl
theorem tb_587 : Cond.selects RX10 yX10_rack yX10_rack ∈ wl := wl_of (i := 587) (by decide +kernel) rfl
theorem tb_588 : Cond.code yX10_rack cX10_rack 5 (some .int) ∈ wl := wl_of (i := 588) (by decide +kernel) rfl
theorem tb_589 : Cond.methodLink RL 88 yX10_lay ∈ wl := wl_of (i := 589) (by decide +kernel) rfl
theorem tb_590 : Cond.instanceMethod yX10_lay ∈ wl := wl_of (i := 590) (by decide +kernel) rfl
theorem tb_591 : Cond.selects RX10 yX10_lay yX10_lay ∈ wl := wl_of (i := 591) (by decide +kernel) rfl
theorem tb_592 : Cond.code yX10_lay cX10_lay 5 (some .int) ∈ wl := wl_of (i := 592) (by decide +kernel) rfl
theorem tb_593 : Cond.methodLink RX10 110 yX10_isOf ∈ wl := wl_of (i := 593) (by decide +kernel) rfl
theorem tb_595 : Cond.instanceMethod yX10_isOf ∈ wl := wl_of (i := 595) (by decide +kernel) rfl
theorem tb_596 : Cond.code yX10_isOf cX10_isOf 3 (some .boolean) ∈ wl := wl_of (i := 596) (by decide +kernel) rfl
theorem tb_597 : Cond.methodLink RL 92 yX10_fetch ∈ wl := wl_of (i := 597) (by decide +kernel) rfl
theorem tb_598 : Cond.instanceMethod yX10_fetch ∈ wl := wl_of (i := 598) (by decide +kernel) rfl
theorem tb_599 : Cond.selects RX10 yX10_fetch yX10_fetch ∈ wl := wl_of (i := 599) (by decide +kernel) rfl
theorem tb_600 : Cond.code yX10_fetch cX10_fetch 6 (some .int) ∈ wl := wl_of (i := 600) (by decide +kernel) rfl
theorem tb_601 : Cond.methodLink RL 96 yX10_grid ∈ wl := wl_of (i := 601) (by decide +kernel) rfl
theorem tb_602 : Cond.instanceMethod yX10_grid ∈ wl := wl_of (i := 602) (by decide +kernel) rfl
theorem tb_603 : Cond.selects RX10 yX10_grid yX10_grid ∈ wl := wl_of (i := 603) (by decide +kernel) rfl
theorem tb_604 : Cond.code yX10_grid cX10_grid 6 (some .int) ∈ wl := wl_of (i := 604) (by decide +kernel) rfl
theorem tb_605 : Cond.methodLink RL 100 yX10_strike ∈ wl := wl_of (i := 605) (by decide +kernel) rfl
theorem tb_606 : Cond.instanceMethod yX10_strike ∈ wl := wl_of (i := 606) (by decide +kernel) rfl
theorem tb_607 : Cond.selects RX10 yX10_strike yX10_strike ∈ wl := wl_of (i := 607) (by decide +kernel) rfl
theorem tb_608 : Cond.code yX10_strike cX10_strike 5 (some .int) ∈ wl := wl_of (i := 608) (by decide +kernel) rfl
theorem tb_609 : Cond.methodLink RL 104 yX10_mark ∈ wl := wl_of (i := 609) (by decide +kernel) rfl
theorem tb_610 : Cond.instanceMethod yX10_mark ∈ wl := wl_of (i := 610) (by decide +kernel) rfl
theorem tb_611 : Cond.selects RX10 yX10_mark yX10_mark ∈ wl := wl_of (i := 611) (by decide +kernel) rfl
theorem tb_612 : Cond.code yX10_mark cX10_mark 6 (some .int) ∈ wl := wl_of (i := 612) (by decide +kernel) rfl
theorem tb_613 : Cond.methodLink RX10 113 yX10_lacksCell ∈ wl := wl_of (i := 613) (by decide +kernel) rfl
theorem tb_615 : Cond.instanceMethod yX10_lacksCell ∈ wl := wl_of (i := 615) (by decide +kernel) rfl
theorem tb_616 : Cond.code yX10_lacksCell cX10_lacksCell 5 (some .int) ∈ wl := wl_of (i := 616) (by decide +kernel) rfl
theorem tb_617 : Cond.methodLink RL 108 yX10_cell ∈ wl := wl_of (i := 617) (by decide +kernel) rfl
theorem tb_618 : Cond.instanceMethod yX10_cell ∈ wl := wl_of (i := 618) (by decide +kernel) rfl
theorem tb_619 : Cond.selects RX10 yX10_cell yX10_cell ∈ wl := wl_of (i := 619) (by decide +kernel) rfl
theorem tb_620 : Cond.code yX10_cell cX10_cell 5 (some .int) ∈ wl := wl_of (i := 620) (by decide +kernel) rfl
theorem tb_621 : Cond.methodLink RL 112 yX10_alarm ∈ wl := wl_of (i := 621) (by decide +kernel) rfl
theorem tb_622 : Cond.instanceMethod yX10_alarm ∈ wl := wl_of (i := 622) (by decide +kernel) rfl
theorem tb_623 : Cond.selects RX10 yX10_alarm yX10_alarm ∈ wl := wl_of (i := 623) (by decide +kernel) rfl
theorem tb_624 : Cond.code yX10_alarm cX10_alarm 4 (some .int) ∈ wl := wl_of (i := 624) (by decide +kernel) rfl
theorem tb_625 : Cond.methodLink RL 116 yX10_calm ∈ wl := wl_of (i := 625) (by decide +kernel) rfl
theorem tb_626 : Cond.instanceMethod yX10_calm ∈ wl := wl_of (i := 626) (by decide +kernel) rfl
theorem tb_627 : Cond.selects RX10 yX10_calm yX10_calm ∈ wl := wl_of (i := 627) (by decide +kernel) rfl
theorem tb_628 : Cond.code yX10_calm cX10_calm 3 (some .int) ∈ wl := wl_of (i := 628) (by decide +kernel) rfl
theorem tb_629 : Cond.methodLink RL 120 yX10_let ∈ wl := wl_of (i := 629) (by decide +kernel) rfl
theorem tb_630 : Cond.instanceMethod yX10_let ∈ wl := wl_of (i := 630) (by decide +kernel) rfl
theorem tb_631 : Cond.selects RX10 yX10_let yX10_let ∈ wl := wl_of (i := 631) (by decide +kernel) rfl
theorem tb_632 : Cond.code yX10_let cX10_let 3 (some .int) ∈ wl := wl_of (i := 632) (by decide +kernel) rfl
theorem tb_633 : Cond.methodLink RL 125 yX10_why ∈ wl := wl_of (i := 633) (by decide +kernel) rfl
theorem tb_634 : Cond.instanceMethod yX10_why ∈ wl := wl_of (i := 634) (by decide +kernel) rfl
theorem tb_635 : Cond.selects RX10 yX10_why yX10_why ∈ wl := wl_of (i := 635) (by decide +kernel) rfl
theorem tb_636 : Cond.code yX10_why cX10_why 1 (some .int) ∈ wl := wl_of (i := 636) (by decide +kernel) rfl
theorem tb_637 : Cond.methodLink RL 129 yX10_count ∈ wl := wl_of (i := 637) (by decide +kernel) rfl
theorem tb_638 : Cond.instanceMethod yX10_count ∈ wl := wl_of (i := 638) (by decide +kernel) rfl
theorem tb_639 : Cond.selects RX10 yX10_count yX10_count ∈ wl := wl_of (i := 639) (by decide +kernel) rfl
theorem tb_640 : Cond.code yX10_count cX10_count 2 (some .int) ∈ wl := wl_of (i := 640) (by decide +kernel) rfl
theorem tb_641 : Cond.sameMethod "ToolRoom$Blade" "ToolRoom$Blade" "work" "(I)I" ∈ wl := wl_of (i := 641) (by decide +kernel) rfl
theorem tp_0 : Cond.selects RX9 yX9_refuse yX9_refuse ∈ wl := wl_sel (i := 0) (by decide +kernel) rfl
theorem tp_1 : Cond.selects RX9 yX9_done yX9_done ∈ wl := wl_sel (i := 1) (by decide +kernel) rfl
theorem tp_2 : Cond.selects RX9 yX9_fail yX9_fail ∈ wl := wl_sel (i := 2) (by decide +kernel) rfl
theorem tp_3 : Cond.selects RX9 yX9_refuseWithZero yX9_refuseWithZero ∈ wl := wl_sel (i := 3) (by decide +kernel) rfl
theorem tp_4 : Cond.selects RX9 yX9_failWithZero yX9_failWithZero ∈ wl := wl_sel (i := 4) (by decide +kernel) rfl
theorem tp_5 : Cond.selects RX9 yX9_edgeOf yX9_edgeOf ∈ wl := wl_sel (i := 5) (by decide +kernel) rfl
theorem tp_6 : Cond.selects RX9 yX9_shiftOnce yX9_shiftOnce ∈ wl := wl_sel (i := 6) (by decide +kernel) rfl
theorem tp_7 : Cond.selects RX9 yX9_holderOrNull yX9_holderOrNull ∈ wl := wl_sel (i := 7) (by decide +kernel) rfl
theorem tp_8 : Cond.selects RX10 yX10_refuses yX10_refuses ∈ wl := wl_sel (i := 8) (by decide +kernel) rfl
theorem tp_9 : Cond.selects RX10 yX10_says yX10_says ∈ wl := wl_sel (i := 9) (by decide +kernel) rfl
theorem tp_10 : Cond.selects RX10 yX10_fails yX10_fails ∈ wl := wl_sel (i := 10) (by decide +kernel) rfl
theorem tp_11 : Cond.selects RX10 yX10_weight yX10_weight ∈ wl := wl_sel (i := 11) (by decide +kernel) rfl
theorem tp_12 : Cond.selects RX10 yX10_used yX10_used ∈ wl := wl_sel (i := 12) (by decide +kernel) rfl
theorem tp_13 : Cond.selects RX10 yX10_sizeOf yX10_sizeOf ∈ wl := wl_sel (i := 13) (by decide +kernel) rfl
theorem tp_14 : Cond.selects RX10 yX10_isOf yX10_isOf ∈ wl := wl_sel (i := 14) (by decide +kernel) rfl
theorem tp_15 : Cond.selects RX10 yX10_lacksCell yX10_lacksCell ∈ wl := wl_sel (i := 15) (by decide +kernel) rfl
theorem inX0 : ∀ w ∈ wsX00, w ∈ wl := fun w hw => by
  obtain ⟨k, hk, rfl⟩ := List.mem_map.mp hw
  have hk := List.mem_range.mp hk
  match k, hk with
  | 0, _ => exact tb_167
  | 1, _ => exact tb_168
  | 2, _ => exact tb_169
  | 3, _ => exact tb_165
  | k + 4, h => exact absurd h (by omega)
theorem inX1 : ∀ w ∈ wsX10, w ∈ wl := fun w hw => by
  obtain ⟨k, hk, rfl⟩ := List.mem_map.mp hw
  have hk := List.mem_range.mp hk
  match k, hk with
  | 0, _ => exact tb_177
  | 1, _ => exact tb_178
  | 2, _ => exact tb_179
  | 3, _ => exact tb_180
  | k + 4, h => exact absurd h (by omega)
theorem inX2 : ∀ w ∈ wsX20, w ∈ wl := fun w hw => by
  obtain ⟨k, hk, rfl⟩ := List.mem_map.mp hw
  have hk := List.mem_range.mp hk
  match k, hk with
  | 0, _ => exact tb_188
  | 1, _ => exact tb_189
  | 2, _ => exact tb_190
  | k + 3, h => exact absurd h (by omega)
theorem inX3 : ∀ w ∈ wsX30, w ∈ wl := fun w hw => by
  obtain ⟨k, hk, rfl⟩ := List.mem_map.mp hw
  have hk := List.mem_range.mp hk
  match k, hk with
  | 0, _ => exact tb_80
  | 1, _ => exact tb_78
  | k + 2, h => exact absurd h (by omega)
theorem inX4 : ∀ w ∈ wsX40, w ∈ wl := fun w hw => by
  obtain ⟨k, hk, rfl⟩ := List.mem_map.mp hw
  have hk := List.mem_range.mp hk
  match k, hk with
  | 0, _ => exact tb_148
  | 1, _ => exact tb_150
  | 2, _ => exact tb_152
  | k + 3, h => exact absurd h (by omega)
theorem inX6 : ∀ w ∈ wsX60, w ∈ wl := fun w hw => by
  obtain ⟨k, hk, rfl⟩ := List.mem_map.mp hw
  have hk := List.mem_range.mp hk
  match k, hk with
  | 0, _ => exact tb_67
  | 1, _ => exact tb_63
  | 2, _ => exact tb_65
  | k + 3, h => exact absurd h (by omega)
theorem inX7 : ∀ w ∈ wsX70, w ∈ wl := fun w hw => by
  obtain ⟨k, hk, rfl⟩ := List.mem_map.mp hw
  have hk := List.mem_range.mp hk
  match k, hk with
  | 0, _ => exact tb_48
  | 1, _ => exact tb_46
  | k + 2, h => exact absurd h (by omega)
theorem inX9 : ∀ w ∈ wsX90, w ∈ wl := fun w hw => by
  obtain ⟨k, hk, rfl⟩ := List.mem_map.mp hw
  have hk := List.mem_range.mp hk
  match k, hk with
  | 0, _ => exact tb_92
  | 1, _ => exact tb_94
  | 2, _ => exact tb_96
  | 3, _ => exact tb_98
  | 4, _ => exact tb_100
  | 5, _ => exact tb_102
  | 6, _ => exact tb_104
  | 7, _ => exact tb_106
  | 8, _ => exact tb_108
  | 9, _ => exact tb_110
  | k + 10, h => exact absurd h (by omega)
theorem inX10 : ∀ w ∈ wsX100, w ∈ wl := fun w hw => by
  obtain ⟨k, hk, rfl⟩ := List.mem_map.mp hw
  have hk := List.mem_range.mp hk
  match k, hk with
  | 0, _ => exact tb_442
  | 1, _ => exact tb_444
  | 2, _ => exact tb_446
  | 3, _ => exact tb_448
  | 4, _ => exact tb_450
  | 5, _ => exact tb_452
  | 6, _ => exact tb_454
  | 7, _ => exact tb_456
  | 8, _ => exact tb_458
  | 9, _ => exact tb_460
  | 10, _ => exact tb_462
  | 11, _ => exact tb_464
  | 12, _ => exact tb_466
  | 13, _ => exact tb_468
  | 14, _ => exact tb_470
  | 15, _ => exact tb_472
  | 16, _ => exact tb_474
  | 17, _ => exact tb_476
  | 18, _ => exact tb_478
  | 19, _ => exact tb_480
  | 20, _ => exact tb_482
  | k + 21, h => exact absurd h (by omega)
