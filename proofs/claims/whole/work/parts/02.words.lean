theorem tb_1 {w : Cond} (h : w ∈ tables_1_1) : w ∈ lw_tbl := List.mem_append_right _ (List.mem_append_left _ h)
theorem tb_2 {w : Cond} (h : w ∈ tables_1_2) : w ∈ lw_tbl := List.mem_append_right _ (List.mem_append_right _ (List.mem_append_left _ h))
theorem tb_3 {w : Cond} (h : w ∈ tables_1_3) : w ∈ lw_tbl := List.mem_append_right _ (List.mem_append_right _ (List.mem_append_right _ (List.mem_append_left _ h)))
theorem tb_4 {w : Cond} (h : w ∈ tables_1_4) : w ∈ lw_tbl := List.mem_append_right _ (List.mem_append_right _ (List.mem_append_right _ (List.mem_append_right _ (List.mem_append_left _ h))))
theorem tb_5 {w : Cond} (h : w ∈ tables_1_5) : w ∈ lw_tbl := List.mem_append_right _ (List.mem_append_right _ (List.mem_append_right _ (List.mem_append_right _ (List.mem_append_right _ (List.mem_append_left _ h)))))
theorem tb_6 {w : Cond} (h : w ∈ tables_1_6) : w ∈ lw_tbl := List.mem_append_right _ (List.mem_append_right _ (List.mem_append_right _ (List.mem_append_right _ (List.mem_append_right _ (List.mem_append_right _ (List.mem_append_left _ h))))))
theorem tb_7 {w : Cond} (h : w ∈ tables_1_7) : w ∈ lw_tbl := List.mem_append_right _ (List.mem_append_right _ (List.mem_append_right _ (List.mem_append_right _ (List.mem_append_right _ (List.mem_append_right _ (List.mem_append_right _ (List.mem_append_left _ h)))))))
theorem tb_8 {w : Cond} (h : w ∈ tables_1_8) : w ∈ lw_tbl := List.mem_append_right _ (List.mem_append_right _ (List.mem_append_right _ (List.mem_append_right _ (List.mem_append_right _ (List.mem_append_right _ (List.mem_append_right _ (List.mem_append_right _ (List.mem_append_left _ h))))))))
theorem tb_9 {w : Cond} (h : w ∈ tables_1_9) : w ∈ lw_tbl := List.mem_append_right _ (List.mem_append_right _ (List.mem_append_right _ (List.mem_append_right _ (List.mem_append_right _ (List.mem_append_right _ (List.mem_append_right _ (List.mem_append_right _ (List.mem_append_right _ (List.mem_append_left _ h)))))))))
theorem tb_10 {w : Cond} (h : w ∈ tables_1_10) : w ∈ lw_tbl := List.mem_append_right _ (List.mem_append_right _ (List.mem_append_right _ (List.mem_append_right _ (List.mem_append_right _ (List.mem_append_right _ (List.mem_append_right _ (List.mem_append_right _ (List.mem_append_right _ (List.mem_append_right _ (h))))))))))
theorem wd_at (i : Nat) {w : Cond} (h : lw_tbl[i]? = some w) : w ∈ lw_tbl := List.mem_of_getElem? h
set_option maxRecDepth 100000 in
theorem wd_100 : (Jvm.Cond.initialized "FigureHouseLaw") ∈ lw_tbl := tb_1 (List.mem_of_getElem? (i := 0) rfl)
set_option maxRecDepth 100000 in
theorem wd_101 : (Jvm.Cond.initialized "FigureHouse") ∈ lw_tbl := tb_1 (List.mem_of_getElem? (i := 1) rfl)
set_option maxRecDepth 100000 in
theorem wd_102 : (Jvm.Cond.initialized "java/util/Arrays") ∈ lw_tbl := tb_1 (List.mem_of_getElem? (i := 2) rfl)
set_option maxRecDepth 100000 in
theorem wd_103 : (Jvm.Cond.initialized "FigureHouse$Text") ∈ lw_tbl := tb_1 (List.mem_of_getElem? (i := 3) rfl)
set_option maxRecDepth 100000 in
theorem wd_104 : (Jvm.Cond.initialized "java/lang/Math") ∈ lw_tbl := tb_1 (List.mem_of_getElem? (i := 4) rfl)
set_option maxRecDepth 100000 in
theorem wd_105 : (Jvm.Cond.initialized "FigureHouse$Reader") ∈ lw_tbl := tb_1 (List.mem_of_getElem? (i := 5) rfl)
set_option maxRecDepth 100000 in
theorem wd_106 : (Jvm.Cond.initialized "FigureHouse$Figures") ∈ lw_tbl := tb_1 (List.mem_of_getElem? (i := 6) rfl)
set_option maxRecDepth 100000 in
theorem wd_107 : (Jvm.Cond.initialized "FigureHouse$Search") ∈ lw_tbl := tb_1 (List.mem_of_getElem? (i := 7) rfl)
set_option maxRecDepth 100000 in
theorem wd_108 : (Jvm.Cond.initialized "FigureHouse$Planner") ∈ lw_tbl := tb_1 (List.mem_of_getElem? (i := 8) rfl)
set_option maxRecDepth 100000 in
theorem wd_109 : (Jvm.Cond.initialized "java/util/AbstractCollection") ∈ lw_tbl := tb_1 (List.mem_of_getElem? (i := 9) rfl)
set_option maxRecDepth 100000 in
theorem wd_110 : (Jvm.Cond.initialized "java/util/AbstractList") ∈ lw_tbl := tb_1 (List.mem_of_getElem? (i := 10) rfl)
set_option maxRecDepth 100000 in
theorem wd_111 : (Jvm.Cond.initialized "java/util/ArrayList") ∈ lw_tbl := tb_1 (List.mem_of_getElem? (i := 11) rfl)
set_option maxRecDepth 100000 in
theorem wd_112 : (Jvm.Cond.initialized "FigureHouseModel") ∈ lw_tbl := tb_1 (List.mem_of_getElem? (i := 12) rfl)
set_option maxRecDepth 100000 in
theorem wd_113 : (Jvm.Cond.initialized "FigureHouse$Curve") ∈ lw_tbl := tb_1 (List.mem_of_getElem? (i := 13) rfl)
set_option maxRecDepth 100000 in
theorem wd_114 : (Jvm.Cond.initialized "jdk/internal/util/ArraysSupport") ∈ lw_tbl := tb_1 (List.mem_of_getElem? (i := 14) rfl)
set_option maxRecDepth 100000 in
theorem wd_115 : (Jvm.Cond.initialized "java/lang/System") ∈ lw_tbl := tb_1 (List.mem_of_getElem? (i := 15) rfl)
set_option maxRecDepth 100000 in
theorem wd_116 : (Jvm.Cond.initialized "java/util/Objects") ∈ lw_tbl := tb_1 (List.mem_of_getElem? (i := 16) rfl)
set_option maxRecDepth 100000 in
theorem wd_117 : (Jvm.Cond.initialized "jdk/internal/util/Preconditions") ∈ lw_tbl := tb_1 (List.mem_of_getElem? (i := 17) rfl)
set_option maxRecDepth 100000 in
theorem wd_118 : (Jvm.Cond.initialized "java/lang/Throwable") ∈ lw_tbl := tb_1 (List.mem_of_getElem? (i := 18) rfl)
set_option maxRecDepth 100000 in
theorem wd_119 : (Jvm.Cond.initialized "java/lang/Exception") ∈ lw_tbl := tb_1 (List.mem_of_getElem? (i := 19) rfl)
set_option maxRecDepth 100000 in
theorem wd_120 : (Jvm.Cond.initialized "java/lang/RuntimeException") ∈ lw_tbl := tb_1 (List.mem_of_getElem? (i := 20) rfl)
set_option maxRecDepth 100000 in
theorem wd_121 : (Jvm.Cond.initialized "java/util/NoSuchElementException") ∈ lw_tbl := tb_1 (List.mem_of_getElem? (i := 21) rfl)
set_option maxRecDepth 100000 in
theorem wd_122 : (Jvm.Cond.initialized "FigureHouse$Page") ∈ lw_tbl := tb_1 (List.mem_of_getElem? (i := 22) rfl)
set_option maxRecDepth 100000 in
theorem wd_123 : (Jvm.Cond.initialized "FigureHouse$Slip") ∈ lw_tbl := tb_1 (List.mem_of_getElem? (i := 23) rfl)
set_option maxRecDepth 100000 in
theorem wd_124 : (Jvm.Cond.initialized "FigureHouse$Table") ∈ lw_tbl := tb_1 (List.mem_of_getElem? (i := 24) rfl)
set_option maxRecDepth 100000 in
theorem wd_125 : (Jvm.Cond.initialized "FigureHouse$Erratum") ∈ lw_tbl := tb_1 (List.mem_of_getElem? (i := 25) rfl)
set_option maxRecDepth 100000 in
theorem wd_126 : (Jvm.Cond.initialized "FigureHouse$Sheet") ∈ lw_tbl := tb_1 (List.mem_of_getElem? (i := 26) rfl)
set_option maxRecDepth 100000 in
theorem wd_127 : (Jvm.Cond.classLink "FigureHouseLaw" (8 : Nat) "FigureHouse") ∈ lw_tbl := tb_1 (List.mem_of_getElem? (i := 27) rfl)
set_option maxRecDepth 100000 in
theorem wd_128 : (Jvm.Cond.instantiable "FigureHouse" (20 : Nat)) ∈ lw_tbl := tb_1 (List.mem_of_getElem? (i := 28) rfl)
set_option maxRecDepth 100000 in
theorem wd_129 : (Jvm.Cond.methodLink "FigureHouseLaw" (39 : Nat) ({ cls := "FigureHouse", name := "<init>", desc := "()V" } : Jvm.MethodName)) ∈ lw_tbl := tb_1 (List.mem_of_getElem? (i := 29) rfl)
set_option maxRecDepth 100000 in
theorem wd_130 : (Jvm.Cond.instanceMethod ({ cls := "FigureHouse", name := "<init>", desc := "()V" } : Jvm.MethodName)) ∈ lw_tbl := tb_1 (List.mem_of_getElem? (i := 30) rfl)
set_option maxRecDepth 100000 in
theorem wd_132 : (Jvm.Cond.methodLink "FigureHouse" (1 : Nat) ({ cls := "java/lang/Object", name := "<init>", desc := "()V" } : Jvm.MethodName)) ∈ lw_tbl := tb_1 (List.mem_of_getElem? (i := 32) rfl)
set_option maxRecDepth 100000 in
theorem wd_133 : (Jvm.Cond.instanceMethod ({ cls := "java/lang/Object", name := "<init>", desc := "()V" } : Jvm.MethodName)) ∈ lw_tbl := tb_1 (List.mem_of_getElem? (i := 33) rfl)
theorem wd_objcode : Cond.code objectInit ⟨#[0xb1]⟩ 1 none ∈ lw_tbl := tb_1 (List.mem_of_getElem? (i := 34) rfl)
set_option maxRecDepth 100000 in
theorem wd_135 : (Jvm.Cond.methodLink "FigureHouse" (32 : Nat) ({ cls := "java/util/Arrays", name := "fill", desc := "([II)V" } : Jvm.MethodName)) ∈ lw_tbl := tb_1 (List.mem_of_getElem? (i := 35) rfl)
set_option maxRecDepth 100000 in
theorem wd_136 : (Jvm.Cond.static ({ cls := "java/util/Arrays", name := "fill", desc := "([II)V" } : Jvm.MethodName)) ∈ lw_tbl := tb_1 (List.mem_of_getElem? (i := 36) rfl)
set_option maxRecDepth 100000 in
theorem wd_138 : (Jvm.Cond.classLink "FigureHouse" (38 : Nat) "FigureHouse$Text") ∈ lw_tbl := tb_1 (List.mem_of_getElem? (i := 38) rfl)
set_option maxRecDepth 100000 in
theorem wd_139 : (Jvm.Cond.instantiable "FigureHouse$Text" (2 : Nat)) ∈ lw_tbl := tb_1 (List.mem_of_getElem? (i := 39) rfl)
set_option maxRecDepth 100000 in
theorem wd_140 : (Jvm.Cond.methodLink "FigureHouse" (40 : Nat) ({ cls := "FigureHouse$Text", name := "<init>", desc := "(I)V" } : Jvm.MethodName)) ∈ lw_tbl := tb_1 (List.mem_of_getElem? (i := 40) rfl)
set_option maxRecDepth 100000 in
theorem wd_141 : (Jvm.Cond.instanceMethod ({ cls := "FigureHouse$Text", name := "<init>", desc := "(I)V" } : Jvm.MethodName)) ∈ lw_tbl := tb_1 (List.mem_of_getElem? (i := 41) rfl)
set_option maxRecDepth 100000 in
theorem wd_143 : (Jvm.Cond.methodLink "FigureHouse$Text" (1 : Nat) ({ cls := "java/lang/Object", name := "<init>", desc := "()V" } : Jvm.MethodName)) ∈ lw_tbl := tb_1 (List.mem_of_getElem? (i := 43) rfl)
set_option maxRecDepth 100000 in
theorem wd_144 : (Jvm.Cond.methodLink "FigureHouse$Text" (7 : Nat) ({ cls := "java/lang/Math", name := "max", desc := "(II)I" } : Jvm.MethodName)) ∈ lw_tbl := tb_1 (List.mem_of_getElem? (i := 44) rfl)
set_option maxRecDepth 100000 in
theorem wd_145 : (Jvm.Cond.static ({ cls := "java/lang/Math", name := "max", desc := "(II)I" } : Jvm.MethodName)) ∈ lw_tbl := tb_1 (List.mem_of_getElem? (i := 45) rfl)
set_option maxRecDepth 100000 in
theorem wd_147 : (Jvm.Cond.fieldLink "FigureHouse$Text" (13 : Nat) "FigureHouse$Text" "bytes" "[I") ∈ lw_tbl := tb_1 (List.mem_of_getElem? (i := 47) rfl)
set_option maxRecDepth 100000 in
theorem wd_148 : (Jvm.Cond.fieldLink "FigureHouse$Reader" (71 : Nat) "FigureHouse$Text" "bytes" "[I") ∈ lw_tbl := tb_1 (List.mem_of_getElem? (i := 48) rfl)
set_option maxRecDepth 100000 in
theorem wd_149 : (Jvm.Cond.fieldLink "FigureHouse$Text" (19 : Nat) "FigureHouse$Text" "length" "I") ∈ lw_tbl := tb_1 (List.mem_of_getElem? (i := 49) rfl)
set_option maxRecDepth 100000 in
theorem wd_150 : (Jvm.Cond.fieldLink "FigureHouse$Reader" (24 : Nat) "FigureHouse$Text" "length" "I") ∈ lw_tbl := tb_1 (List.mem_of_getElem? (i := 50) rfl)
set_option maxRecDepth 100000 in
theorem wd_151 : (Jvm.Cond.fieldLink "FigureHouse" (152 : Nat) "FigureHouse$Text" "length" "I") ∈ lw_tbl := tb_1 (List.mem_of_getElem? (i := 51) rfl)
set_option maxRecDepth 100000 in
theorem wd_157 : (Jvm.Cond.arrayClass Jvm.ClassFile.FieldType.int) ∈ lw_tbl := tb_1 (List.mem_of_getElem? (i := 57) rfl)
set_option maxRecDepth 100000 in
theorem wd_158 : (Jvm.Cond.classLink "FigureHouse" (47 : Nat) "FigureHouse$Reader") ∈ lw_tbl := tb_1 (List.mem_of_getElem? (i := 58) rfl)
set_option maxRecDepth 100000 in
theorem wd_159 : (Jvm.Cond.instantiable "FigureHouse$Reader" (7 : Nat)) ∈ lw_tbl := tb_1 (List.mem_of_getElem? (i := 59) rfl)
set_option maxRecDepth 100000 in
theorem wd_160 : (Jvm.Cond.methodLink "FigureHouse" (49 : Nat) ({ cls := "FigureHouse$Reader", name := "<init>", desc := "()V" } : Jvm.MethodName)) ∈ lw_tbl := tb_1 (List.mem_of_getElem? (i := 60) rfl)
set_option maxRecDepth 100000 in
theorem wd_161 : (Jvm.Cond.instanceMethod ({ cls := "FigureHouse$Reader", name := "<init>", desc := "()V" } : Jvm.MethodName)) ∈ lw_tbl := tb_1 (List.mem_of_getElem? (i := 61) rfl)
set_option maxRecDepth 100000 in
theorem wd_163 : (Jvm.Cond.methodLink "FigureHouse$Reader" (3 : Nat) ({ cls := "java/lang/Object", name := "<init>", desc := "()V" } : Jvm.MethodName)) ∈ lw_tbl := tb_1 (List.mem_of_getElem? (i := 63) rfl)
set_option maxRecDepth 100000 in
theorem wd_164 : (Jvm.Cond.classLink "FigureHouse$Reader" (9 : Nat) "FigureHouse$Text") ∈ lw_tbl := tb_1 (List.mem_of_getElem? (i := 64) rfl)
set_option maxRecDepth 100000 in
theorem wd_165 : (Jvm.Cond.methodLink "FigureHouse$Reader" (11 : Nat) ({ cls := "FigureHouse$Text", name := "<init>", desc := "(I)V" } : Jvm.MethodName)) ∈ lw_tbl := tb_1 (List.mem_of_getElem? (i := 65) rfl)
set_option maxRecDepth 100000 in
theorem wd_166 : (Jvm.Cond.methodLink "FigureHouse$Reader" (20 : Nat) ({ cls := "FigureHouse$Reader", name := "open", desc := "(LFigureHouse$Text;)V" } : Jvm.MethodName)) ∈ lw_tbl := tb_1 (List.mem_of_getElem? (i := 66) rfl)
set_option maxRecDepth 100000 in
theorem wd_168 : (Jvm.Cond.instanceMethod ({ cls := "FigureHouse$Reader", name := "open", desc := "(LFigureHouse$Text;)V" } : Jvm.MethodName)) ∈ lw_tbl := tb_1 (List.mem_of_getElem? (i := 68) rfl)
set_option maxRecDepth 100000 in
theorem wd_170 : (Jvm.Cond.fieldLink "FigureHouse$Reader" (14 : Nat) "FigureHouse$Reader" "text" "LFigureHouse$Text;") ∈ lw_tbl := tb_1 (List.mem_of_getElem? (i := 70) rfl)
set_option maxRecDepth 100000 in
theorem wd_171 : (Jvm.Cond.fieldLink "FigureHouse$Reader" (39 : Nat) "FigureHouse$Reader" "at" "I") ∈ lw_tbl := tb_1 (List.mem_of_getElem? (i := 71) rfl)
set_option maxRecDepth 100000 in
theorem wd_172 : (Jvm.Cond.fieldLink "FigureHouse$Reader" (52 : Nat) "FigureHouse$Reader" "refusedAt" "I") ∈ lw_tbl := tb_1 (List.mem_of_getElem? (i := 72) rfl)
set_option maxRecDepth 100000 in
theorem wd_173 : (Jvm.Cond.fieldLink "FigureHouse$Reader" (55 : Nat) "FigureHouse$Reader" "n" "J") ∈ lw_tbl := tb_1 (List.mem_of_getElem? (i := 73) rfl)
set_option maxRecDepth 100000 in
theorem wd_174 : (Jvm.Cond.fieldLink "FigureHouse$Reader" (59 : Nat) "FigureHouse$Reader" "b" "J") ∈ lw_tbl := tb_1 (List.mem_of_getElem? (i := 74) rfl)
set_option maxRecDepth 100000 in
theorem wd_175 : (Jvm.Cond.fieldLink "FigureHouse$Reader" (62 : Nat) "FigureHouse$Reader" "x" "J") ∈ lw_tbl := tb_1 (List.mem_of_getElem? (i := 75) rfl)
set_option maxRecDepth 100000 in
theorem wd_176 : (Jvm.Cond.fieldLink "FigureHouse$Reader" (65 : Nat) "FigureHouse$Reader" "sumRead" "J") ∈ lw_tbl := tb_1 (List.mem_of_getElem? (i := 76) rfl)
set_option maxRecDepth 100000 in
theorem wd_192 : (Jvm.Cond.classLink "FigureHouse" (54 : Nat) "FigureHouse$Figures") ∈ lw_tbl := tb_1 (List.mem_of_getElem? (i := 92) rfl)
set_option maxRecDepth 100000 in
theorem wd_193 : (Jvm.Cond.instantiable "FigureHouse$Figures" (3 : Nat)) ∈ lw_tbl := tb_1 (List.mem_of_getElem? (i := 93) rfl)
set_option maxRecDepth 100000 in
theorem wd_194 : (Jvm.Cond.methodLink "FigureHouse" (56 : Nat) ({ cls := "FigureHouse$Figures", name := "<init>", desc := "()V" } : Jvm.MethodName)) ∈ lw_tbl := tb_1 (List.mem_of_getElem? (i := 94) rfl)
set_option maxRecDepth 100000 in
theorem wd_195 : (Jvm.Cond.instanceMethod ({ cls := "FigureHouse$Figures", name := "<init>", desc := "()V" } : Jvm.MethodName)) ∈ lw_tbl := tb_1 (List.mem_of_getElem? (i := 95) rfl)
set_option maxRecDepth 100000 in
theorem wd_197 : (Jvm.Cond.methodLink "FigureHouse$Figures" (3 : Nat) ({ cls := "java/lang/Object", name := "<init>", desc := "()V" } : Jvm.MethodName)) ∈ lw_tbl := tb_1 (List.mem_of_getElem? (i := 97) rfl)
set_option maxRecDepth 100000 in
theorem wd_198 : (Jvm.Cond.fieldLink "FigureHouse$Figures" (9 : Nat) "FigureHouse$Figures" "numbers" "[J") ∈ lw_tbl := tb_1 (List.mem_of_getElem? (i := 98) rfl)
set_option maxRecDepth 100000 in
theorem wd_199 : (Jvm.Cond.fieldLink "FigureHouse" (205 : Nat) "FigureHouse$Figures" "numbers" "[J") ∈ lw_tbl := tb_1 (List.mem_of_getElem? (i := 99) rfl)
set_option maxRecDepth 100000 in
theorem wd_200 : (Jvm.Cond.fieldLink "FigureHouse$Figures" (15 : Nat) "FigureHouse$Figures" "columns" "[J") ∈ lw_tbl := tb_1 (List.mem_of_getElem? (i := 100) rfl)
set_option maxRecDepth 100000 in
theorem wd_201 : (Jvm.Cond.fieldLink "FigureHouse" (241 : Nat) "FigureHouse$Figures" "columns" "[J") ∈ lw_tbl := tb_1 (List.mem_of_getElem? (i := 101) rfl)
set_option maxRecDepth 100000 in
theorem wd_202 : (Jvm.Cond.fieldLink "FigureHouse$Figures" (18 : Nat) "FigureHouse$Figures" "off" "[J") ∈ lw_tbl := tb_1 (List.mem_of_getElem? (i := 102) rfl)
set_option maxRecDepth 100000 in
theorem wd_210 : (Jvm.Cond.arrayClass Jvm.ClassFile.FieldType.long) ∈ lw_tbl := tb_1 (List.mem_of_getElem? (i := 110) rfl)
set_option maxRecDepth 100000 in
theorem wd_211 : (Jvm.Cond.classLink "FigureHouse" (61 : Nat) "FigureHouse$Search") ∈ lw_tbl := tb_1 (List.mem_of_getElem? (i := 111) rfl)
set_option maxRecDepth 100000 in
theorem wd_212 : (Jvm.Cond.instantiable "FigureHouse$Search" (11 : Nat)) ∈ lw_tbl := tb_1 (List.mem_of_getElem? (i := 112) rfl)
set_option maxRecDepth 100000 in
theorem wd_213 : (Jvm.Cond.methodLink "FigureHouse" (63 : Nat) ({ cls := "FigureHouse$Search", name := "<init>", desc := "()V" } : Jvm.MethodName)) ∈ lw_tbl := tb_1 (List.mem_of_getElem? (i := 113) rfl)
set_option maxRecDepth 100000 in
theorem wd_214 : (Jvm.Cond.instanceMethod ({ cls := "FigureHouse$Search", name := "<init>", desc := "()V" } : Jvm.MethodName)) ∈ lw_tbl := tb_1 (List.mem_of_getElem? (i := 114) rfl)
set_option maxRecDepth 100000 in
theorem wd_216 : (Jvm.Cond.methodLink "FigureHouse$Search" (3 : Nat) ({ cls := "java/lang/Object", name := "<init>", desc := "()V" } : Jvm.MethodName)) ∈ lw_tbl := tb_1 (List.mem_of_getElem? (i := 116) rfl)
set_option maxRecDepth 100000 in
theorem wd_217 : (Jvm.Cond.fieldLink "FigureHouse$Search" (9 : Nat) "FigureHouse$Search" "rest" "[J") ∈ lw_tbl := tb_1 (List.mem_of_getElem? (i := 117) rfl)
set_option maxRecDepth 100000 in
theorem wd_218 : (Jvm.Cond.fieldLink "FigureHouse$Search" (15 : Nat) "FigureHouse$Search" "lines" "[I") ∈ lw_tbl := tb_1 (List.mem_of_getElem? (i := 118) rfl)
set_option maxRecDepth 100000 in
theorem wd_219 : (Jvm.Cond.fieldLink "FigureHouse$Search" (19 : Nat) "FigureHouse$Search" "columns" "[I") ∈ lw_tbl := tb_1 (List.mem_of_getElem? (i := 119) rfl)
set_option maxRecDepth 100000 in
theorem wd_220 : (Jvm.Cond.fieldLink "FigureHouse$Search" (22 : Nat) "FigureHouse$Search" "amounts" "[J") ∈ lw_tbl := tb_1 (List.mem_of_getElem? (i := 120) rfl)
set_option maxRecDepth 100000 in
theorem wd_221 : (Jvm.Cond.fieldLink "FigureHouse$Search" (25 : Nat) "FigureHouse$Search" "firstLines" "[I") ∈ lw_tbl := tb_1 (List.mem_of_getElem? (i := 121) rfl)
set_option maxRecDepth 100000 in
theorem wd_222 : (Jvm.Cond.fieldLink "FigureHouse" (347 : Nat) "FigureHouse$Search" "firstLines" "[I") ∈ lw_tbl := tb_1 (List.mem_of_getElem? (i := 122) rfl)
set_option maxRecDepth 100000 in
theorem wd_223 : (Jvm.Cond.fieldLink "FigureHouse$Search" (28 : Nat) "FigureHouse$Search" "firstColumns" "[I") ∈ lw_tbl := tb_1 (List.mem_of_getElem? (i := 123) rfl)
set_option maxRecDepth 100000 in
theorem wd_224 : (Jvm.Cond.fieldLink "FigureHouse" (350 : Nat) "FigureHouse$Search" "firstColumns" "[I") ∈ lw_tbl := tb_1 (List.mem_of_getElem? (i := 124) rfl)
set_option maxRecDepth 100000 in
theorem wd_225 : (Jvm.Cond.fieldLink "FigureHouse$Search" (31 : Nat) "FigureHouse$Search" "firstAmounts" "[J") ∈ lw_tbl := tb_1 (List.mem_of_getElem? (i := 125) rfl)
set_option maxRecDepth 100000 in
theorem wd_226 : (Jvm.Cond.fieldLink "FigureHouse" (353 : Nat) "FigureHouse$Search" "firstAmounts" "[J") ∈ lw_tbl := tb_1 (List.mem_of_getElem? (i := 126) rfl)
set_option maxRecDepth 100000 in
theorem wd_227 : (Jvm.Cond.fieldLink "FigureHouse$Search" (45 : Nat) "FigureHouse$Search" "end" "I") ∈ lw_tbl := tb_1 (List.mem_of_getElem? (i := 127) rfl)
set_option maxRecDepth 100000 in
theorem wd_228 : (Jvm.Cond.fieldLink "FigureHouse$Search" (40 : Nat) "FigureHouse$Search" "order" "I") ∈ lw_tbl := tb_1 (List.mem_of_getElem? (i := 128) rfl)
set_option maxRecDepth 100000 in
theorem wd_229 : (Jvm.Cond.fieldLink "FigureHouse$Search" (48 : Nat) "FigureHouse$Search" "fewest" "I") ∈ lw_tbl := tb_1 (List.mem_of_getElem? (i := 129) rfl)
set_option maxRecDepth 100000 in
theorem wd_230 : (Jvm.Cond.fieldLink "FigureHouse" (339 : Nat) "FigureHouse$Search" "fewest" "I") ∈ lw_tbl := tb_1 (List.mem_of_getElem? (i := 130) rfl)
set_option maxRecDepth 100000 in
theorem wd_231 : (Jvm.Cond.fieldLink "FigureHouse$Search" (51 : Nat) "FigureHouse$Search" "sets" "I") ∈ lw_tbl := tb_1 (List.mem_of_getElem? (i := 131) rfl)
set_option maxRecDepth 100000 in
theorem wd_232 : (Jvm.Cond.fieldLink "FigureHouse" (342 : Nat) "FigureHouse$Search" "sets" "I") ∈ lw_tbl := tb_1 (List.mem_of_getElem? (i := 132) rfl)
set_option maxRecDepth 100000 in
theorem wd_256 : (Jvm.Cond.classLink "FigureHouse" (68 : Nat) "FigureHouse$Planner") ∈ lw_tbl := tb_1 (List.mem_of_getElem? (i := 156) rfl)
set_option maxRecDepth 100000 in
theorem wd_257 : (Jvm.Cond.instantiable "FigureHouse$Planner" (11 : Nat)) ∈ lw_tbl := tb_1 (List.mem_of_getElem? (i := 157) rfl)
set_option maxRecDepth 100000 in
theorem wd_258 : (Jvm.Cond.methodLink "FigureHouse" (70 : Nat) ({ cls := "FigureHouse$Planner", name := "<init>", desc := "()V" } : Jvm.MethodName)) ∈ lw_tbl := tb_1 (List.mem_of_getElem? (i := 158) rfl)
set_option maxRecDepth 100000 in
theorem wd_259 : (Jvm.Cond.instanceMethod ({ cls := "FigureHouse$Planner", name := "<init>", desc := "()V" } : Jvm.MethodName)) ∈ lw_tbl := tb_1 (List.mem_of_getElem? (i := 159) rfl)
set_option maxRecDepth 100000 in
theorem wd_261 : (Jvm.Cond.methodLink "FigureHouse$Planner" (3 : Nat) ({ cls := "java/lang/Object", name := "<init>", desc := "()V" } : Jvm.MethodName)) ∈ lw_tbl := tb_1 (List.mem_of_getElem? (i := 161) rfl)
set_option maxRecDepth 100000 in
theorem wd_262 : (Jvm.Cond.fieldLink "FigureHouse$Planner" (9 : Nat) "FigureHouse$Planner" "right" "[J") ∈ lw_tbl := tb_1 (List.mem_of_getElem? (i := 162) rfl)
set_option maxRecDepth 100000 in
theorem wd_263 : (Jvm.Cond.fieldLink "FigureHouse$Planner" (15 : Nat) "FigureHouse$Planner" "near" "[J") ∈ lw_tbl := tb_1 (List.mem_of_getElem? (i := 163) rfl)
set_option maxRecDepth 100000 in
theorem wd_264 : (Jvm.Cond.fieldLink "FigureHouse$Planner" (18 : Nat) "FigureHouse$Planner" "reach" "[I") ∈ lw_tbl := tb_1 (List.mem_of_getElem? (i := 164) rfl)
set_option maxRecDepth 100000 in
theorem wd_265 : (Jvm.Cond.fieldLink "FigureHouse$Planner" (22 : Nat) "FigureHouse$Planner" "row" "[J") ∈ lw_tbl := tb_1 (List.mem_of_getElem? (i := 165) rfl)
set_option maxRecDepth 100000 in
theorem wd_266 : (Jvm.Cond.fieldLink "FigureHouse$Planner" (31 : Nat) "FigureHouse$Planner" "lines" "I") ∈ lw_tbl := tb_1 (List.mem_of_getElem? (i := 166) rfl)
set_option maxRecDepth 100000 in
theorem wd_267 : (Jvm.Cond.fieldLink "FigureHouse$Planner" (35 : Nat) "FigureHouse$Planner" "places" "I") ∈ lw_tbl := tb_1 (List.mem_of_getElem? (i := 167) rfl)
set_option maxRecDepth 100000 in
theorem wd_268 : (Jvm.Cond.fieldLink "FigureHouse$Planner" (38 : Nat) "FigureHouse$Planner" "halves" "I") ∈ lw_tbl := tb_1 (List.mem_of_getElem? (i := 168) rfl)
set_option maxRecDepth 100000 in
theorem wd_269 : (Jvm.Cond.fieldLink "FigureHouse$Planner" (55 : Nat) "FigureHouse$Planner" "bestHours" "I") ∈ lw_tbl := tb_1 (List.mem_of_getElem? (i := 169) rfl)
set_option maxRecDepth 100000 in
theorem wd_270 : (Jvm.Cond.fieldLink "FigureHouse" (454 : Nat) "FigureHouse$Planner" "bestHours" "I") ∈ lw_tbl := tb_1 (List.mem_of_getElem? (i := 170) rfl)
set_option maxRecDepth 100000 in
theorem wd_271 : (Jvm.Cond.fieldLink "FigureHouse$Planner" (71 : Nat) "FigureHouse$Planner" "bestOrder" "I") ∈ lw_tbl := tb_1 (List.mem_of_getElem? (i := 171) rfl)
set_option maxRecDepth 100000 in
theorem wd_272 : (Jvm.Cond.fieldLink "FigureHouse" (457 : Nat) "FigureHouse$Planner" "bestOrder" "I") ∈ lw_tbl := tb_1 (List.mem_of_getElem? (i := 172) rfl)
set_option maxRecDepth 100000 in
theorem wd_273 : (Jvm.Cond.fieldLink "FigureHouse$Planner" (74 : Nat) "FigureHouse$Planner" "bestCarried" "I") ∈ lw_tbl := tb_1 (List.mem_of_getElem? (i := 173) rfl)
set_option maxRecDepth 100000 in
theorem wd_274 : (Jvm.Cond.fieldLink "FigureHouse" (460 : Nat) "FigureHouse$Planner" "bestCarried" "I") ∈ lw_tbl := tb_1 (List.mem_of_getElem? (i := 174) rfl)
set_option maxRecDepth 100000 in
theorem wd_275 : (Jvm.Cond.fieldLink "FigureHouse$Planner" (77 : Nat) "FigureHouse$Planner" "bestSpan" "I") ∈ lw_tbl := tb_1 (List.mem_of_getElem? (i := 175) rfl)
set_option maxRecDepth 100000 in
theorem wd_276 : (Jvm.Cond.fieldLink "FigureHouse" (463 : Nat) "FigureHouse$Planner" "bestSpan" "I") ∈ lw_tbl := tb_1 (List.mem_of_getElem? (i := 176) rfl)
set_option maxRecDepth 100000 in
theorem wd_300 : (Jvm.Cond.classLink "FigureHouse" (75 : Nat) "java/util/ArrayList") ∈ lw_tbl := tb_1 (List.mem_of_getElem? (i := 200) rfl)
set_option maxRecDepth 100000 in
theorem wd_301 : (Jvm.Cond.instantiable "java/util/ArrayList" (3 : Nat)) ∈ lw_tbl := tb_1 (List.mem_of_getElem? (i := 201) rfl)
set_option maxRecDepth 100000 in
theorem wd_302 : (Jvm.Cond.methodLink "FigureHouse" (77 : Nat) ({ cls := "java/util/ArrayList", name := "<init>", desc := "()V" } : Jvm.MethodName)) ∈ lw_tbl := tb_1 (List.mem_of_getElem? (i := 202) rfl)
set_option maxRecDepth 100000 in
theorem wd_303 : (Jvm.Cond.instanceMethod ({ cls := "java/util/ArrayList", name := "<init>", desc := "()V" } : Jvm.MethodName)) ∈ lw_tbl := tb_1 (List.mem_of_getElem? (i := 203) rfl)
set_option maxRecDepth 100000 in
theorem wd_305 : (Jvm.Cond.methodLink "java/util/ArrayList" (1 : Nat) ({ cls := "java/util/AbstractList", name := "<init>", desc := "()V" } : Jvm.MethodName)) ∈ lw_tbl := tb_1 (List.mem_of_getElem? (i := 205) rfl)
set_option maxRecDepth 100000 in
theorem wd_306 : (Jvm.Cond.instanceMethod ({ cls := "java/util/AbstractList", name := "<init>", desc := "()V" } : Jvm.MethodName)) ∈ lw_tbl := tb_1 (List.mem_of_getElem? (i := 206) rfl)
set_option maxRecDepth 100000 in
theorem wd_308 : (Jvm.Cond.methodLink "java/util/AbstractList" (1 : Nat) ({ cls := "java/util/AbstractCollection", name := "<init>", desc := "()V" } : Jvm.MethodName)) ∈ lw_tbl := tb_1 (List.mem_of_getElem? (i := 208) rfl)
set_option maxRecDepth 100000 in
theorem wd_309 : (Jvm.Cond.instanceMethod ({ cls := "java/util/AbstractCollection", name := "<init>", desc := "()V" } : Jvm.MethodName)) ∈ lw_tbl := tb_1 (List.mem_of_getElem? (i := 209) rfl)
set_option maxRecDepth 100000 in
theorem wd_311 : (Jvm.Cond.methodLink "java/util/AbstractCollection" (1 : Nat) ({ cls := "java/lang/Object", name := "<init>", desc := "()V" } : Jvm.MethodName)) ∈ lw_tbl := tb_1 (List.mem_of_getElem? (i := 211) rfl)
set_option maxRecDepth 100000 in
theorem wd_312 : (Jvm.Cond.fieldLink "java/util/ArrayList" (39 : Nat) "java/util/ArrayList" "DEFAULTCAPACITY_EMPTY_ELEMENTDATA" "[Ljava/lang/Object;") ∈ lw_tbl := tb_1 (List.mem_of_getElem? (i := 212) rfl)
set_option maxRecDepth 100000 in
theorem wd_314 : (Jvm.Cond.fieldLink "java/util/ArrayList" (9 : Nat) "java/util/ArrayList" "elementData" "[Ljava/lang/Object;") ∈ lw_tbl := tb_1 (List.mem_of_getElem? (i := 214) rfl)
set_option maxRecDepth 100000 in
theorem wd_315 : (Jvm.Cond.fieldLink "java/util/ArrayList" (48 : Nat) "java/util/ArrayList" "size" "I") ∈ lw_tbl := tb_1 (List.mem_of_getElem? (i := 215) rfl)
set_option maxRecDepth 100000 in
theorem wd_316 : (Jvm.Cond.fieldLink "java/util/AbstractList" (7 : Nat) "java/util/AbstractList" "modCount" "I") ∈ lw_tbl := tb_1 (List.mem_of_getElem? (i := 216) rfl)
set_option maxRecDepth 100000 in
theorem wd_317 : (Jvm.Cond.fieldLink "java/util/ArrayList" (63 : Nat) "java/util/ArrayList" "modCount" "I") ∈ lw_tbl := tb_1 (List.mem_of_getElem? (i := 217) rfl)
set_option maxRecDepth 100000 in
theorem wd_326 : (Jvm.Cond.fieldLink "FigureHouse" (7 : Nat) "FigureHouse" "now" "I") ∈ lw_tbl := tb_1 (List.mem_of_getElem? (i := 226) rfl)
set_option maxRecDepth 100000 in
theorem wd_327 : (Jvm.Cond.fieldLink "FigureHouse" (13 : Nat) "FigureHouse" "toldAs" "I") ∈ lw_tbl := tb_1 (List.mem_of_getElem? (i := 227) rfl)
set_option maxRecDepth 100000 in
theorem wd_328 : (Jvm.Cond.fieldLink "FigureHouse" (16 : Nat) "FigureHouse" "driftUnits" "I") ∈ lw_tbl := tb_1 (List.mem_of_getElem? (i := 228) rfl)
set_option maxRecDepth 100000 in
theorem wd_329 : (Jvm.Cond.fieldLink "FigureHouse" (19 : Nat) "FigureHouse" "pivotHours" "I") ∈ lw_tbl := tb_1 (List.mem_of_getElem? (i := 229) rfl)
set_option maxRecDepth 100000 in
theorem wd_330 : (Jvm.Cond.fieldLink "FigureHouse" (22 : Nat) "FigureHouse" "pressSlips" "I") ∈ lw_tbl := tb_1 (List.mem_of_getElem? (i := 230) rfl)
set_option maxRecDepth 100000 in
theorem wd_331 : (Jvm.Cond.fieldLink "FigureHouse" (25 : Nat) "FigureHouse" "doublings" "I") ∈ lw_tbl := tb_1 (List.mem_of_getElem? (i := 231) rfl)
set_option maxRecDepth 100000 in
theorem wd_332 : (Jvm.Cond.fieldLink "FigureHouse" (28 : Nat) "FigureHouse" "leftUnseen" "[I") ∈ lw_tbl := tb_1 (List.mem_of_getElem? (i := 232) rfl)
set_option maxRecDepth 100000 in
theorem wd_333 : (Jvm.Cond.fieldLink "FigureHouse" (43 : Nat) "FigureHouse" "tape" "LFigureHouse$Text;") ∈ lw_tbl := tb_1 (List.mem_of_getElem? (i := 233) rfl)
set_option maxRecDepth 100000 in
theorem wd_334 : (Jvm.Cond.fieldLink "FigureHouse" (50 : Nat) "FigureHouse" "reader" "LFigureHouse$Reader;") ∈ lw_tbl := tb_1 (List.mem_of_getElem? (i := 234) rfl)
set_option maxRecDepth 100000 in
theorem wd_335 : (Jvm.Cond.fieldLink "FigureHouse" (57 : Nat) "FigureHouse" "figures" "LFigureHouse$Figures;") ∈ lw_tbl := tb_1 (List.mem_of_getElem? (i := 235) rfl)
set_option maxRecDepth 100000 in
theorem wd_336 : (Jvm.Cond.fieldLink "FigureHouse" (64 : Nat) "FigureHouse" "search" "LFigureHouse$Search;") ∈ lw_tbl := tb_1 (List.mem_of_getElem? (i := 236) rfl)
set_option maxRecDepth 100000 in
theorem wd_337 : (Jvm.Cond.fieldLink "FigureHouse" (71 : Nat) "FigureHouse" "planner" "LFigureHouse$Planner;") ∈ lw_tbl := tb_1 (List.mem_of_getElem? (i := 237) rfl)
set_option maxRecDepth 100000 in
theorem wd_338 : (Jvm.Cond.fieldLink "FigureHouse" (78 : Nat) "FigureHouse" "curves" "Ljava/util/ArrayList;") ∈ lw_tbl := tb_1 (List.mem_of_getElem? (i := 238) rfl)
set_option maxRecDepth 100000 in
theorem wd_339 : (Jvm.Cond.fieldLink "FigureHouse" (82 : Nat) "FigureHouse" "plans" "Ljava/util/ArrayList;") ∈ lw_tbl := tb_1 (List.mem_of_getElem? (i := 239) rfl)
set_option maxRecDepth 100000 in
theorem wd_340 : (Jvm.Cond.fieldLink "FigureHouse" (85 : Nat) "FigureHouse" "pages" "Ljava/util/ArrayList;") ∈ lw_tbl := tb_2 (List.mem_of_getElem? (i := 0) rfl)
set_option maxRecDepth 100000 in
theorem wd_341 : (Jvm.Cond.fieldLink "FigureHouse" (88 : Nat) "FigureHouse" "slips" "Ljava/util/ArrayList;") ∈ lw_tbl := tb_2 (List.mem_of_getElem? (i := 1) rfl)
set_option maxRecDepth 100000 in
theorem wd_342 : (Jvm.Cond.fieldLink "FigureHouse" (91 : Nat) "FigureHouse" "copies" "Ljava/util/ArrayList;") ∈ lw_tbl := tb_2 (List.mem_of_getElem? (i := 2) rfl)
set_option maxRecDepth 100000 in
theorem wd_343 : (Jvm.Cond.fieldLink "FigureHouse" (94 : Nat) "FigureHouse" "others" "Ljava/util/ArrayList;") ∈ lw_tbl := tb_2 (List.mem_of_getElem? (i := 3) rfl)
set_option maxRecDepth 100000 in
theorem wd_344 : (Jvm.Cond.fieldLink "FigureHouse" (97 : Nat) "FigureHouse" "errata" "Ljava/util/ArrayList;") ∈ lw_tbl := tb_2 (List.mem_of_getElem? (i := 4) rfl)
set_option maxRecDepth 100000 in
theorem wd_345 : (Jvm.Cond.fieldLink "FigureHouse" (100 : Nat) "FigureHouse" "sheets" "Ljava/util/ArrayList;") ∈ lw_tbl := tb_2 (List.mem_of_getElem? (i := 5) rfl)
set_option maxRecDepth 100000 in
theorem wd_387 : (Jvm.Cond.methodLink "FigureHouseLaw" (43 : Nat) ({ cls := "FigureHouse", name := "days", desc := "(I)I" } : Jvm.MethodName)) ∈ lw_tbl := tb_2 (List.mem_of_getElem? (i := 47) rfl)
set_option maxRecDepth 100000 in
theorem wd_388 : (Jvm.Cond.instanceMethod ({ cls := "FigureHouse", name := "days", desc := "(I)I" } : Jvm.MethodName)) ∈ lw_tbl := tb_2 (List.mem_of_getElem? (i := 48) rfl)
set_option maxRecDepth 100000 in
theorem wd_389 : (Jvm.Cond.selects "FigureHouse" ({ cls := "FigureHouse", name := "days", desc := "(I)I" } : Jvm.MethodName) ({ cls := "FigureHouse", name := "days", desc := "(I)I" } : Jvm.MethodName)) ∈ lw_tbl := tb_2 (List.mem_of_getElem? (i := 49) rfl)
set_option maxRecDepth 100000 in
theorem wd_391 : (Jvm.Cond.methodLink "FigureHouse" (103 : Nat) ({ cls := "FigureHouse", name := "within", desc := "(III)Z" } : Jvm.MethodName)) ∈ lw_tbl := tb_2 (List.mem_of_getElem? (i := 51) rfl)
set_option maxRecDepth 100000 in
theorem wd_392 : (Jvm.Cond.static ({ cls := "FigureHouse", name := "within", desc := "(III)Z" } : Jvm.MethodName)) ∈ lw_tbl := tb_2 (List.mem_of_getElem? (i := 52) rfl)
set_option maxRecDepth 100000 in
theorem wd_394 : (Jvm.Cond.methodLink "FigureHouseLaw" (48 : Nat) ({ cls := "FigureHouse", name := "as", desc := "(I)Z" } : Jvm.MethodName)) ∈ lw_tbl := tb_2 (List.mem_of_getElem? (i := 54) rfl)
set_option maxRecDepth 100000 in
theorem wd_395 : (Jvm.Cond.instanceMethod ({ cls := "FigureHouse", name := "as", desc := "(I)Z" } : Jvm.MethodName)) ∈ lw_tbl := tb_2 (List.mem_of_getElem? (i := 55) rfl)
set_option maxRecDepth 100000 in
theorem wd_396 : (Jvm.Cond.selects "FigureHouse" ({ cls := "FigureHouse", name := "as", desc := "(I)Z" } : Jvm.MethodName) ({ cls := "FigureHouse", name := "as", desc := "(I)Z" } : Jvm.MethodName)) ∈ lw_tbl := tb_2 (List.mem_of_getElem? (i := 56) rfl)
set_option maxRecDepth 100000 in
theorem wd_398 : (Jvm.Cond.methodLink "FigureHouse" (107 : Nat) ({ cls := "FigureHouse", name := "isDay", desc := "(I)Z" } : Jvm.MethodName)) ∈ lw_tbl := tb_2 (List.mem_of_getElem? (i := 58) rfl)
set_option maxRecDepth 100000 in
theorem wd_400 : (Jvm.Cond.instanceMethod ({ cls := "FigureHouse", name := "isDay", desc := "(I)Z" } : Jvm.MethodName)) ∈ lw_tbl := tb_2 (List.mem_of_getElem? (i := 60) rfl)
set_option maxRecDepth 100000 in
theorem wd_402 : (Jvm.Cond.methodLink "FigureHouseLaw" (53 : Nat) ({ cls := "FigureHouse", name := "known", desc := "()I" } : Jvm.MethodName)) ∈ lw_tbl := tb_2 (List.mem_of_getElem? (i := 62) rfl)
set_option maxRecDepth 100000 in
theorem wd_403 : (Jvm.Cond.instanceMethod ({ cls := "FigureHouse", name := "known", desc := "()I" } : Jvm.MethodName)) ∈ lw_tbl := tb_2 (List.mem_of_getElem? (i := 63) rfl)
set_option maxRecDepth 100000 in
theorem wd_404 : (Jvm.Cond.selects "FigureHouse" ({ cls := "FigureHouse", name := "known", desc := "()I" } : Jvm.MethodName) ({ cls := "FigureHouse", name := "known", desc := "()I" } : Jvm.MethodName)) ∈ lw_tbl := tb_2 (List.mem_of_getElem? (i := 64) rfl)
set_option maxRecDepth 100000 in
theorem wd_406 : (Jvm.Cond.methodLink "FigureHouseLaw" (58 : Nat) ({ cls := "FigureHouse", name := "function", desc := "(III)I" } : Jvm.MethodName)) ∈ lw_tbl := tb_2 (List.mem_of_getElem? (i := 66) rfl)
set_option maxRecDepth 100000 in
theorem wd_407 : (Jvm.Cond.instanceMethod ({ cls := "FigureHouse", name := "function", desc := "(III)I" } : Jvm.MethodName)) ∈ lw_tbl := tb_2 (List.mem_of_getElem? (i := 67) rfl)
set_option maxRecDepth 100000 in
theorem wd_408 : (Jvm.Cond.selects "FigureHouse" ({ cls := "FigureHouse", name := "function", desc := "(III)I" } : Jvm.MethodName) ({ cls := "FigureHouse", name := "function", desc := "(III)I" } : Jvm.MethodName)) ∈ lw_tbl := tb_2 (List.mem_of_getElem? (i := 68) rfl)
set_option maxRecDepth 100000 in
theorem wd_410 : (Jvm.Cond.methodLink "FigureHouse" (111 : Nat) ({ cls := "java/util/ArrayList", name := "size", desc := "()I" } : Jvm.MethodName)) ∈ lw_tbl := tb_2 (List.mem_of_getElem? (i := 70) rfl)
set_option maxRecDepth 100000 in
theorem wd_411 : (Jvm.Cond.instanceMethod ({ cls := "java/util/ArrayList", name := "size", desc := "()I" } : Jvm.MethodName)) ∈ lw_tbl := tb_2 (List.mem_of_getElem? (i := 71) rfl)
set_option maxRecDepth 100000 in
theorem wd_412 : (Jvm.Cond.selects "java/util/ArrayList" ({ cls := "java/util/ArrayList", name := "size", desc := "()I" } : Jvm.MethodName) ({ cls := "java/util/ArrayList", name := "size", desc := "()I" } : Jvm.MethodName)) ∈ lw_tbl := tb_2 (List.mem_of_getElem? (i := 72) rfl)
set_option maxRecDepth 100000 in
theorem wd_414 : (Jvm.Cond.classLink "FigureHouse" (115 : Nat) "FigureHouse$Curve") ∈ lw_tbl := tb_2 (List.mem_of_getElem? (i := 74) rfl)
set_option maxRecDepth 100000 in
theorem wd_415 : (Jvm.Cond.instantiable "FigureHouse$Curve" (3 : Nat)) ∈ lw_tbl := tb_2 (List.mem_of_getElem? (i := 75) rfl)
set_option maxRecDepth 100000 in
theorem wd_416 : (Jvm.Cond.methodLink "FigureHouse" (117 : Nat) ({ cls := "FigureHouse$Curve", name := "<init>", desc := "(III)V" } : Jvm.MethodName)) ∈ lw_tbl := tb_2 (List.mem_of_getElem? (i := 76) rfl)
set_option maxRecDepth 100000 in
theorem wd_417 : (Jvm.Cond.instanceMethod ({ cls := "FigureHouse$Curve", name := "<init>", desc := "(III)V" } : Jvm.MethodName)) ∈ lw_tbl := tb_2 (List.mem_of_getElem? (i := 77) rfl)
set_option maxRecDepth 100000 in
theorem wd_419 : (Jvm.Cond.methodLink "FigureHouse$Curve" (3 : Nat) ({ cls := "java/lang/Object", name := "<init>", desc := "()V" } : Jvm.MethodName)) ∈ lw_tbl := tb_2 (List.mem_of_getElem? (i := 79) rfl)
set_option maxRecDepth 100000 in
theorem wd_420 : (Jvm.Cond.fieldLink "FigureHouse$Curve" (9 : Nat) "FigureHouse$Curve" "sort" "I") ∈ lw_tbl := tb_2 (List.mem_of_getElem? (i := 80) rfl)
set_option maxRecDepth 100000 in
theorem wd_421 : (Jvm.Cond.fieldLink "FigureHouse$Curve" (15 : Nat) "FigureHouse$Curve" "a" "I") ∈ lw_tbl := tb_2 (List.mem_of_getElem? (i := 81) rfl)
set_option maxRecDepth 100000 in
theorem wd_422 : (Jvm.Cond.fieldLink "FigureHouse$Curve" (18 : Nat) "FigureHouse$Curve" "b" "I") ∈ lw_tbl := tb_2 (List.mem_of_getElem? (i := 82) rfl)
set_option maxRecDepth 100000 in
theorem wd_430 : (Jvm.Cond.methodLink "FigureHouse" (120 : Nat) ({ cls := "java/util/ArrayList", name := "add", desc := "(Ljava/lang/Object;)Z" } : Jvm.MethodName)) ∈ lw_tbl := tb_2 (List.mem_of_getElem? (i := 90) rfl)
set_option maxRecDepth 100000 in
theorem wd_431 : (Jvm.Cond.instanceMethod ({ cls := "java/util/ArrayList", name := "add", desc := "(Ljava/lang/Object;)Z" } : Jvm.MethodName)) ∈ lw_tbl := tb_2 (List.mem_of_getElem? (i := 91) rfl)
set_option maxRecDepth 100000 in
theorem wd_432 : (Jvm.Cond.selects "java/util/ArrayList" ({ cls := "java/util/ArrayList", name := "add", desc := "(Ljava/lang/Object;)Z" } : Jvm.MethodName) ({ cls := "java/util/ArrayList", name := "add", desc := "(Ljava/lang/Object;)Z" } : Jvm.MethodName)) ∈ lw_tbl := tb_2 (List.mem_of_getElem? (i := 92) rfl)
set_option maxRecDepth 100000 in
theorem wd_434 : (Jvm.Cond.methodLink "java/util/ArrayList" (131 : Nat) ({ cls := "java/util/ArrayList", name := "add", desc := "(Ljava/lang/Object;[Ljava/lang/Object;I)V" } : Jvm.MethodName)) ∈ lw_tbl := tb_2 (List.mem_of_getElem? (i := 94) rfl)
set_option maxRecDepth 100000 in
theorem wd_436 : (Jvm.Cond.instanceMethod ({ cls := "java/util/ArrayList", name := "add", desc := "(Ljava/lang/Object;[Ljava/lang/Object;I)V" } : Jvm.MethodName)) ∈ lw_tbl := tb_2 (List.mem_of_getElem? (i := 96) rfl)
set_option maxRecDepth 100000 in
theorem wd_438 : (Jvm.Cond.methodLink "java/util/ArrayList" (129 : Nat) ({ cls := "java/util/ArrayList", name := "grow", desc := "()[Ljava/lang/Object;" } : Jvm.MethodName)) ∈ lw_tbl := tb_2 (List.mem_of_getElem? (i := 98) rfl)
set_option maxRecDepth 100000 in
theorem wd_440 : (Jvm.Cond.instanceMethod ({ cls := "java/util/ArrayList", name := "grow", desc := "()[Ljava/lang/Object;" } : Jvm.MethodName)) ∈ lw_tbl := tb_2 (List.mem_of_getElem? (i := 100) rfl)
set_option maxRecDepth 100000 in
theorem wd_442 : (Jvm.Cond.methodLink "java/util/ArrayList" (69 : Nat) ({ cls := "java/util/ArrayList", name := "grow", desc := "(I)[Ljava/lang/Object;" } : Jvm.MethodName)) ∈ lw_tbl := tb_2 (List.mem_of_getElem? (i := 102) rfl)
set_option maxRecDepth 100000 in
theorem wd_444 : (Jvm.Cond.instanceMethod ({ cls := "java/util/ArrayList", name := "grow", desc := "(I)[Ljava/lang/Object;" } : Jvm.MethodName)) ∈ lw_tbl := tb_2 (List.mem_of_getElem? (i := 104) rfl)
set_option maxRecDepth 100000 in
theorem wd_446 : (Jvm.Cond.methodLink "java/util/ArrayList" (73 : Nat) ({ cls := "jdk/internal/util/ArraysSupport", name := "newLength", desc := "(III)I" } : Jvm.MethodName)) ∈ lw_tbl := tb_2 (List.mem_of_getElem? (i := 106) rfl)
set_option maxRecDepth 100000 in
theorem wd_447 : (Jvm.Cond.static ({ cls := "jdk/internal/util/ArraysSupport", name := "newLength", desc := "(III)I" } : Jvm.MethodName)) ∈ lw_tbl := tb_2 (List.mem_of_getElem? (i := 107) rfl)
set_option maxRecDepth 100000 in
theorem wd_449 : (Jvm.Cond.methodLink "jdk/internal/util/ArraysSupport" (194 : Nat) ({ cls := "java/lang/Math", name := "max", desc := "(II)I" } : Jvm.MethodName)) ∈ lw_tbl := tb_2 (List.mem_of_getElem? (i := 109) rfl)
set_option maxRecDepth 100000 in
theorem wd_450 : (Jvm.Cond.constant "jdk/internal/util/ArraysSupport" (200 : Nat) (2147483639 : Int32)) ∈ lw_tbl := tb_2 (List.mem_of_getElem? (i := 110) rfl)
set_option maxRecDepth 100000 in
theorem wd_451 : (Jvm.Cond.methodLink "jdk/internal/util/ArraysSupport" (201 : Nat) ({ cls := "jdk/internal/util/ArraysSupport", name := "hugeLength", desc := "(II)I" } : Jvm.MethodName)) ∈ lw_tbl := tb_2 (List.mem_of_getElem? (i := 111) rfl)
set_option maxRecDepth 100000 in
theorem wd_452 : (Jvm.Cond.static ({ cls := "jdk/internal/util/ArraysSupport", name := "hugeLength", desc := "(II)I" } : Jvm.MethodName)) ∈ lw_tbl := tb_2 (List.mem_of_getElem? (i := 112) rfl)
set_option maxRecDepth 100000 in
theorem wd_454 : (Jvm.Cond.methodLink "java/util/ArrayList" (66 : Nat) ({ cls := "java/util/Arrays", name := "copyOf", desc := "([Ljava/lang/Object;I)[Ljava/lang/Object;" } : Jvm.MethodName)) ∈ lw_tbl := tb_2 (List.mem_of_getElem? (i := 114) rfl)
set_option maxRecDepth 100000 in
theorem wd_455 : (Jvm.Cond.static ({ cls := "java/util/Arrays", name := "copyOf", desc := "([Ljava/lang/Object;I)[Ljava/lang/Object;" } : Jvm.MethodName)) ∈ lw_tbl := tb_2 (List.mem_of_getElem? (i := 115) rfl)
set_option maxRecDepth 100000 in
theorem wd_457 : (Jvm.Cond.methodLink "java/util/Arrays" (86 : Nat) ({ cls := "java/lang/Object", name := "getClass", desc := "()Ljava/lang/Class;" } : Jvm.MethodName)) ∈ lw_tbl := tb_2 (List.mem_of_getElem? (i := 117) rfl)
set_option maxRecDepth 100000 in
theorem wd_458 : (Jvm.Cond.instanceMethod ({ cls := "java/lang/Object", name := "getClass", desc := "()Ljava/lang/Class;" } : Jvm.MethodName)) ∈ lw_tbl := tb_2 (List.mem_of_getElem? (i := 118) rfl)
set_option maxRecDepth 100000 in
theorem wd_460 : (Jvm.Cond.selects "FigureHouse" ({ cls := "java/lang/Object", name := "getClass", desc := "()Ljava/lang/Class;" } : Jvm.MethodName) ({ cls := "java/lang/Object", name := "getClass", desc := "()Ljava/lang/Class;" } : Jvm.MethodName)) ∈ lw_tbl := tb_2 (List.mem_of_getElem? (i := 120) rfl)
set_option maxRecDepth 100000 in
theorem wd_461 : (Jvm.Cond.selects "FigureHouse$Curve" ({ cls := "java/lang/Object", name := "getClass", desc := "()Ljava/lang/Class;" } : Jvm.MethodName) ({ cls := "java/lang/Object", name := "getClass", desc := "()Ljava/lang/Class;" } : Jvm.MethodName)) ∈ lw_tbl := tb_2 (List.mem_of_getElem? (i := 121) rfl)
set_option maxRecDepth 100000 in
theorem wd_462 : (Jvm.Cond.selects "FigureHouse$Erratum" ({ cls := "java/lang/Object", name := "getClass", desc := "()Ljava/lang/Class;" } : Jvm.MethodName) ({ cls := "java/lang/Object", name := "getClass", desc := "()Ljava/lang/Class;" } : Jvm.MethodName)) ∈ lw_tbl := tb_2 (List.mem_of_getElem? (i := 122) rfl)
set_option maxRecDepth 100000 in
theorem wd_463 : (Jvm.Cond.selects "FigureHouse$Figures" ({ cls := "java/lang/Object", name := "getClass", desc := "()Ljava/lang/Class;" } : Jvm.MethodName) ({ cls := "java/lang/Object", name := "getClass", desc := "()Ljava/lang/Class;" } : Jvm.MethodName)) ∈ lw_tbl := tb_2 (List.mem_of_getElem? (i := 123) rfl)
set_option maxRecDepth 100000 in
theorem wd_464 : (Jvm.Cond.selects "FigureHouse$Page" ({ cls := "java/lang/Object", name := "getClass", desc := "()Ljava/lang/Class;" } : Jvm.MethodName) ({ cls := "java/lang/Object", name := "getClass", desc := "()Ljava/lang/Class;" } : Jvm.MethodName)) ∈ lw_tbl := tb_2 (List.mem_of_getElem? (i := 124) rfl)
set_option maxRecDepth 100000 in
theorem wd_465 : (Jvm.Cond.selects "FigureHouse$Planner" ({ cls := "java/lang/Object", name := "getClass", desc := "()Ljava/lang/Class;" } : Jvm.MethodName) ({ cls := "java/lang/Object", name := "getClass", desc := "()Ljava/lang/Class;" } : Jvm.MethodName)) ∈ lw_tbl := tb_2 (List.mem_of_getElem? (i := 125) rfl)
set_option maxRecDepth 100000 in
theorem wd_466 : (Jvm.Cond.selects "FigureHouse$Reader" ({ cls := "java/lang/Object", name := "getClass", desc := "()Ljava/lang/Class;" } : Jvm.MethodName) ({ cls := "java/lang/Object", name := "getClass", desc := "()Ljava/lang/Class;" } : Jvm.MethodName)) ∈ lw_tbl := tb_2 (List.mem_of_getElem? (i := 126) rfl)
set_option maxRecDepth 100000 in
theorem wd_467 : (Jvm.Cond.selects "FigureHouse$Search" ({ cls := "java/lang/Object", name := "getClass", desc := "()Ljava/lang/Class;" } : Jvm.MethodName) ({ cls := "java/lang/Object", name := "getClass", desc := "()Ljava/lang/Class;" } : Jvm.MethodName)) ∈ lw_tbl := tb_2 (List.mem_of_getElem? (i := 127) rfl)
set_option maxRecDepth 100000 in
theorem wd_468 : (Jvm.Cond.selects "FigureHouse$Sheet" ({ cls := "java/lang/Object", name := "getClass", desc := "()Ljava/lang/Class;" } : Jvm.MethodName) ({ cls := "java/lang/Object", name := "getClass", desc := "()Ljava/lang/Class;" } : Jvm.MethodName)) ∈ lw_tbl := tb_2 (List.mem_of_getElem? (i := 128) rfl)
set_option maxRecDepth 100000 in
theorem wd_469 : (Jvm.Cond.selects "FigureHouse$Slip" ({ cls := "java/lang/Object", name := "getClass", desc := "()Ljava/lang/Class;" } : Jvm.MethodName) ({ cls := "java/lang/Object", name := "getClass", desc := "()Ljava/lang/Class;" } : Jvm.MethodName)) ∈ lw_tbl := tb_2 (List.mem_of_getElem? (i := 129) rfl)
set_option maxRecDepth 100000 in
theorem wd_470 : (Jvm.Cond.selects "FigureHouse$Table" ({ cls := "java/lang/Object", name := "getClass", desc := "()Ljava/lang/Class;" } : Jvm.MethodName) ({ cls := "java/lang/Object", name := "getClass", desc := "()Ljava/lang/Class;" } : Jvm.MethodName)) ∈ lw_tbl := tb_2 (List.mem_of_getElem? (i := 130) rfl)
set_option maxRecDepth 100000 in
theorem wd_471 : (Jvm.Cond.selects "FigureHouse$Text" ({ cls := "java/lang/Object", name := "getClass", desc := "()Ljava/lang/Class;" } : Jvm.MethodName) ({ cls := "java/lang/Object", name := "getClass", desc := "()Ljava/lang/Class;" } : Jvm.MethodName)) ∈ lw_tbl := tb_2 (List.mem_of_getElem? (i := 131) rfl)
set_option maxRecDepth 100000 in
theorem wd_472 : (Jvm.Cond.selects "FigureHouseModel" ({ cls := "java/lang/Object", name := "getClass", desc := "()Ljava/lang/Class;" } : Jvm.MethodName) ({ cls := "java/lang/Object", name := "getClass", desc := "()Ljava/lang/Class;" } : Jvm.MethodName)) ∈ lw_tbl := tb_2 (List.mem_of_getElem? (i := 132) rfl)
set_option maxRecDepth 100000 in
theorem wd_473 : (Jvm.Cond.selects "java/util/ArrayList" ({ cls := "java/lang/Object", name := "getClass", desc := "()Ljava/lang/Class;" } : Jvm.MethodName) ({ cls := "java/lang/Object", name := "getClass", desc := "()Ljava/lang/Class;" } : Jvm.MethodName)) ∈ lw_tbl := tb_2 (List.mem_of_getElem? (i := 133) rfl)
set_option maxRecDepth 100000 in
theorem wd_474 : (Jvm.Cond.selects "java/util/NoSuchElementException" ({ cls := "java/lang/Object", name := "getClass", desc := "()Ljava/lang/Class;" } : Jvm.MethodName) ({ cls := "java/lang/Object", name := "getClass", desc := "()Ljava/lang/Class;" } : Jvm.MethodName)) ∈ lw_tbl := tb_2 (List.mem_of_getElem? (i := 134) rfl)
set_option maxRecDepth 100000 in
theorem wd_476 : (Jvm.Cond.methodLink "java/util/Arrays" (300 : Nat) ({ cls := "java/util/Arrays", name := "copyOf", desc := "([Ljava/lang/Object;ILjava/lang/Class;)[Ljava/lang/Object;" } : Jvm.MethodName)) ∈ lw_tbl := tb_2 (List.mem_of_getElem? (i := 136) rfl)
set_option maxRecDepth 100000 in
theorem wd_477 : (Jvm.Cond.static ({ cls := "java/util/Arrays", name := "copyOf", desc := "([Ljava/lang/Object;ILjava/lang/Class;)[Ljava/lang/Object;" } : Jvm.MethodName)) ∈ lw_tbl := tb_2 (List.mem_of_getElem? (i := 137) rfl)
set_option maxRecDepth 100000 in
theorem wd_479 : (Jvm.Cond.classLink "java/util/Arrays" (110 : Nat) "[Ljava/lang/Object;") ∈ lw_tbl := tb_2 (List.mem_of_getElem? (i := 139) rfl)
set_option maxRecDepth 100000 in
theorem wd_481 : (Jvm.Cond.classLink "java/util/Arrays" (2 : Nat) "java/lang/Object") ∈ lw_tbl := tb_2 (List.mem_of_getElem? (i := 141) rfl)
set_option maxRecDepth 100000 in
theorem wd_482 : (Jvm.Cond.methodLink "java/util/Arrays" (304 : Nat) ({ cls := "java/lang/Math", name := "min", desc := "(II)I" } : Jvm.MethodName)) ∈ lw_tbl := tb_2 (List.mem_of_getElem? (i := 142) rfl)
set_option maxRecDepth 100000 in
theorem wd_483 : (Jvm.Cond.static ({ cls := "java/lang/Math", name := "min", desc := "(II)I" } : Jvm.MethodName)) ∈ lw_tbl := tb_2 (List.mem_of_getElem? (i := 143) rfl)
set_option maxRecDepth 100000 in
theorem wd_485 : (Jvm.Cond.methodLink "java/util/Arrays" (150 : Nat) ({ cls := "java/lang/System", name := "arraycopy", desc := "(Ljava/lang/Object;ILjava/lang/Object;II)V" } : Jvm.MethodName)) ∈ lw_tbl := tb_2 (List.mem_of_getElem? (i := 145) rfl)
set_option maxRecDepth 100000 in
theorem wd_486 : (Jvm.Cond.static ({ cls := "java/lang/System", name := "arraycopy", desc := "(Ljava/lang/Object;ILjava/lang/Object;II)V" } : Jvm.MethodName)) ∈ lw_tbl := tb_2 (List.mem_of_getElem? (i := 146) rfl)
set_option maxRecDepth 100000 in
theorem wd_488 : (Jvm.Cond.methodLink "java/util/ArrayList" (79 : Nat) ({ cls := "java/lang/Math", name := "max", desc := "(II)I" } : Jvm.MethodName)) ∈ lw_tbl := tb_2 (List.mem_of_getElem? (i := 148) rfl)
set_option maxRecDepth 100000 in
theorem wd_489 : (Jvm.Cond.classLink "java/util/ArrayList" (7 : Nat) "java/lang/Object") ∈ lw_tbl := tb_2 (List.mem_of_getElem? (i := 149) rfl)
set_option maxRecDepth 100000 in
theorem wd_490 : (Jvm.Cond.methodLink "FigureHouseLaw" (63 : Nat) ({ cls := "FigureHouse", name := "exact", desc := "(III)J" } : Jvm.MethodName)) ∈ lw_tbl := tb_2 (List.mem_of_getElem? (i := 150) rfl)
set_option maxRecDepth 100000 in
theorem wd_491 : (Jvm.Cond.instanceMethod ({ cls := "FigureHouse", name := "exact", desc := "(III)J" } : Jvm.MethodName)) ∈ lw_tbl := tb_2 (List.mem_of_getElem? (i := 151) rfl)
set_option maxRecDepth 100000 in
theorem wd_492 : (Jvm.Cond.selects "FigureHouse" ({ cls := "FigureHouse", name := "exact", desc := "(III)J" } : Jvm.MethodName) ({ cls := "FigureHouse", name := "exact", desc := "(III)J" } : Jvm.MethodName)) ∈ lw_tbl := tb_2 (List.mem_of_getElem? (i := 152) rfl)
set_option maxRecDepth 100000 in
theorem wd_494 : (Jvm.Cond.methodLink "FigureHouse" (124 : Nat) ({ cls := "FigureHouse", name := "curveAt", desc := "(III)LFigureHouse$Curve;" } : Jvm.MethodName)) ∈ lw_tbl := tb_2 (List.mem_of_getElem? (i := 154) rfl)
set_option maxRecDepth 100000 in
theorem wd_496 : (Jvm.Cond.instanceMethod ({ cls := "FigureHouse", name := "curveAt", desc := "(III)LFigureHouse$Curve;" } : Jvm.MethodName)) ∈ lw_tbl := tb_2 (List.mem_of_getElem? (i := 156) rfl)
set_option maxRecDepth 100000 in
theorem wd_498 : (Jvm.Cond.methodLink "FigureHouse" (190 : Nat) ({ cls := "java/util/ArrayList", name := "get", desc := "(I)Ljava/lang/Object;" } : Jvm.MethodName)) ∈ lw_tbl := tb_2 (List.mem_of_getElem? (i := 158) rfl)
set_option maxRecDepth 100000 in
theorem wd_499 : (Jvm.Cond.instanceMethod ({ cls := "java/util/ArrayList", name := "get", desc := "(I)Ljava/lang/Object;" } : Jvm.MethodName)) ∈ lw_tbl := tb_2 (List.mem_of_getElem? (i := 159) rfl)
set_option maxRecDepth 100000 in
theorem wd_500 : (Jvm.Cond.selects "java/util/ArrayList" ({ cls := "java/util/ArrayList", name := "get", desc := "(I)Ljava/lang/Object;" } : Jvm.MethodName) ({ cls := "java/util/ArrayList", name := "get", desc := "(I)Ljava/lang/Object;" } : Jvm.MethodName)) ∈ lw_tbl := tb_2 (List.mem_of_getElem? (i := 160) rfl)
set_option maxRecDepth 100000 in
theorem wd_502 : (Jvm.Cond.methodLink "java/util/ArrayList" (118 : Nat) ({ cls := "java/util/Objects", name := "checkIndex", desc := "(II)I" } : Jvm.MethodName)) ∈ lw_tbl := tb_2 (List.mem_of_getElem? (i := 162) rfl)
set_option maxRecDepth 100000 in
theorem wd_503 : (Jvm.Cond.static ({ cls := "java/util/Objects", name := "checkIndex", desc := "(II)I" } : Jvm.MethodName)) ∈ lw_tbl := tb_2 (List.mem_of_getElem? (i := 163) rfl)
set_option maxRecDepth 100000 in
theorem wd_505 : (Jvm.Cond.methodLink "java/util/Objects" (105 : Nat) ({ cls := "jdk/internal/util/Preconditions", name := "checkIndex", desc := "(IILjava/util/function/BiFunction;)I" } : Jvm.MethodName)) ∈ lw_tbl := tb_2 (List.mem_of_getElem? (i := 165) rfl)
set_option maxRecDepth 100000 in
theorem wd_506 : (Jvm.Cond.static ({ cls := "jdk/internal/util/Preconditions", name := "checkIndex", desc := "(IILjava/util/function/BiFunction;)I" } : Jvm.MethodName)) ∈ lw_tbl := tb_2 (List.mem_of_getElem? (i := 166) rfl)
set_option maxRecDepth 100000 in
theorem wd_508 : (Jvm.Cond.methodLink "java/util/ArrayList" (123 : Nat) ({ cls := "java/util/ArrayList", name := "elementData", desc := "(I)Ljava/lang/Object;" } : Jvm.MethodName)) ∈ lw_tbl := tb_2 (List.mem_of_getElem? (i := 168) rfl)
set_option maxRecDepth 100000 in
theorem wd_509 : (Jvm.Cond.instanceMethod ({ cls := "java/util/ArrayList", name := "elementData", desc := "(I)Ljava/lang/Object;" } : Jvm.MethodName)) ∈ lw_tbl := tb_2 (List.mem_of_getElem? (i := 169) rfl)
set_option maxRecDepth 100000 in
theorem wd_510 : (Jvm.Cond.selects "java/util/ArrayList" ({ cls := "java/util/ArrayList", name := "elementData", desc := "(I)Ljava/lang/Object;" } : Jvm.MethodName) ({ cls := "java/util/ArrayList", name := "elementData", desc := "(I)Ljava/lang/Object;" } : Jvm.MethodName)) ∈ lw_tbl := tb_2 (List.mem_of_getElem? (i := 170) rfl)
set_option maxRecDepth 100000 in
theorem wd_512 : (Jvm.Cond.constantLong "FigureHouse" (128 : Nat) (-1 : Int64)) ∈ lw_tbl := tb_2 (List.mem_of_getElem? (i := 172) rfl)
set_option maxRecDepth 100000 in
theorem wd_513 : (Jvm.Cond.methodLink "FigureHouse" (130 : Nat) ({ cls := "FigureHouse$Curve", name := "quartersAt", desc := "(I)J" } : Jvm.MethodName)) ∈ lw_tbl := tb_2 (List.mem_of_getElem? (i := 173) rfl)
set_option maxRecDepth 100000 in
theorem wd_514 : (Jvm.Cond.instanceMethod ({ cls := "FigureHouse$Curve", name := "quartersAt", desc := "(I)J" } : Jvm.MethodName)) ∈ lw_tbl := tb_2 (List.mem_of_getElem? (i := 174) rfl)
set_option maxRecDepth 100000 in
theorem wd_515 : (Jvm.Cond.selects "FigureHouse$Curve" ({ cls := "FigureHouse$Curve", name := "quartersAt", desc := "(I)J" } : Jvm.MethodName) ({ cls := "FigureHouse$Curve", name := "quartersAt", desc := "(I)J" } : Jvm.MethodName)) ∈ lw_tbl := tb_2 (List.mem_of_getElem? (i := 175) rfl)
set_option maxRecDepth 100000 in
theorem wd_517 : (Jvm.Cond.constantLong "FigureHouse$Curve" (21 : Nat) (4 : Int64)) ∈ lw_tbl := tb_2 (List.mem_of_getElem? (i := 177) rfl)
set_option maxRecDepth 100000 in
theorem wd_518 : (Jvm.Cond.methodLinkNest "FigureHouse$Curve" (23 : Nat) ({ cls := "FigureHouse", name := "ten", desc := "(I)J" } : Jvm.MethodName) "FigureHouse") ∈ lw_tbl := tb_2 (List.mem_of_getElem? (i := 178) rfl)
set_option maxRecDepth 100000 in
theorem wd_519 : (Jvm.Cond.static ({ cls := "FigureHouse", name := "ten", desc := "(I)J" } : Jvm.MethodName)) ∈ lw_tbl := tb_2 (List.mem_of_getElem? (i := 179) rfl)
set_option maxRecDepth 100000 in
theorem wd_521 : (Jvm.Cond.fieldLink "FigureHouse" (492 : Nat) "FigureHouse" "TENS" "[J") ∈ lw_tbl := tb_2 (List.mem_of_getElem? (i := 181) rfl)
set_option maxRecDepth 100000 in
theorem wd_523 : (Jvm.Cond.methodLinkNest "FigureHouse$Curve" (27 : Nat) ({ cls := "FigureHouse", name := "rootOf", desc := "(J)J" } : Jvm.MethodName) "FigureHouse") ∈ lw_tbl := tb_2 (List.mem_of_getElem? (i := 183) rfl)
set_option maxRecDepth 100000 in
theorem wd_524 : (Jvm.Cond.static ({ cls := "FigureHouse", name := "rootOf", desc := "(J)J" } : Jvm.MethodName)) ∈ lw_tbl := tb_2 (List.mem_of_getElem? (i := 184) rfl)
set_option maxRecDepth 100000 in
theorem wd_526 : (Jvm.Cond.constantLong "FigureHouse$Curve" (31 : Nat) (2 : Int64)) ∈ lw_tbl := tb_2 (List.mem_of_getElem? (i := 186) rfl)
set_option maxRecDepth 100000 in
theorem wd_527 : (Jvm.Cond.constantLong "FigureHouse$Curve" (33 : Nat) (7 : Int64)) ∈ lw_tbl := tb_2 (List.mem_of_getElem? (i := 187) rfl)
set_option maxRecDepth 100000 in
theorem wd_528 : (Jvm.Cond.methodLink "FigureHouse" (134 : Nat) ({ cls := "FigureHouse", name := "unitOf", desc := "(I)J" } : Jvm.MethodName)) ∈ lw_tbl := tb_2 (List.mem_of_getElem? (i := 188) rfl)
set_option maxRecDepth 100000 in
theorem wd_529 : (Jvm.Cond.static ({ cls := "FigureHouse", name := "unitOf", desc := "(I)J" } : Jvm.MethodName)) ∈ lw_tbl := tb_2 (List.mem_of_getElem? (i := 189) rfl)
set_option maxRecDepth 100000 in
theorem wd_531 : (Jvm.Cond.constantLong "FigureHouse" (495 : Nat) (4 : Int64)) ∈ lw_tbl := tb_2 (List.mem_of_getElem? (i := 191) rfl)
set_option maxRecDepth 100000 in
theorem wd_532 : (Jvm.Cond.methodLink "FigureHouse" (306 : Nat) ({ cls := "FigureHouse", name := "ten", desc := "(I)J" } : Jvm.MethodName)) ∈ lw_tbl := tb_2 (List.mem_of_getElem? (i := 192) rfl)
set_option maxRecDepth 100000 in
theorem wd_533 : (Jvm.Cond.methodLink "FigureHouse" (137 : Nat) ({ cls := "FigureHouse", name := "wholeBy", desc := "(JJ)J" } : Jvm.MethodName)) ∈ lw_tbl := tb_2 (List.mem_of_getElem? (i := 193) rfl)
set_option maxRecDepth 100000 in
theorem wd_534 : (Jvm.Cond.static ({ cls := "FigureHouse", name := "wholeBy", desc := "(JJ)J" } : Jvm.MethodName)) ∈ lw_tbl := tb_2 (List.mem_of_getElem? (i := 194) rfl)
set_option maxRecDepth 100000 in
theorem wd_536 : (Jvm.Cond.methodLink "FigureHouse" (497 : Nat) ({ cls := "java/lang/Math", name := "floorDiv", desc := "(JJ)J" } : Jvm.MethodName)) ∈ lw_tbl := tb_2 (List.mem_of_getElem? (i := 196) rfl)
set_option maxRecDepth 100000 in
theorem wd_537 : (Jvm.Cond.static ({ cls := "java/lang/Math", name := "floorDiv", desc := "(JJ)J" } : Jvm.MethodName)) ∈ lw_tbl := tb_2 (List.mem_of_getElem? (i := 197) rfl)
set_option maxRecDepth 100000 in
theorem wd_539 : (Jvm.Cond.methodLink "FigureHouseLaw" (67 : Nat) ({ cls := "FigureHouse", name := "whole", desc := "(III)I" } : Jvm.MethodName)) ∈ lw_tbl := tb_2 (List.mem_of_getElem? (i := 199) rfl)
set_option maxRecDepth 100000 in
theorem wd_540 : (Jvm.Cond.instanceMethod ({ cls := "FigureHouse", name := "whole", desc := "(III)I" } : Jvm.MethodName)) ∈ lw_tbl := tb_2 (List.mem_of_getElem? (i := 200) rfl)
set_option maxRecDepth 100000 in
theorem wd_541 : (Jvm.Cond.selects "FigureHouse" ({ cls := "FigureHouse", name := "whole", desc := "(III)I" } : Jvm.MethodName) ({ cls := "FigureHouse", name := "whole", desc := "(III)I" } : Jvm.MethodName)) ∈ lw_tbl := tb_2 (List.mem_of_getElem? (i := 201) rfl)
set_option maxRecDepth 100000 in
theorem wd_543 : (Jvm.Cond.methodLink "FigureHouse" (141 : Nat) ({ cls := "FigureHouse", name := "restBy", desc := "(JJ)J" } : Jvm.MethodName)) ∈ lw_tbl := tb_2 (List.mem_of_getElem? (i := 203) rfl)
set_option maxRecDepth 100000 in
theorem wd_544 : (Jvm.Cond.static ({ cls := "FigureHouse", name := "restBy", desc := "(JJ)J" } : Jvm.MethodName)) ∈ lw_tbl := tb_2 (List.mem_of_getElem? (i := 204) rfl)
set_option maxRecDepth 100000 in
theorem wd_546 : (Jvm.Cond.methodLink "FigureHouse" (500 : Nat) ({ cls := "java/lang/Math", name := "floorMod", desc := "(JJ)J" } : Jvm.MethodName)) ∈ lw_tbl := tb_2 (List.mem_of_getElem? (i := 206) rfl)
set_option maxRecDepth 100000 in
theorem wd_547 : (Jvm.Cond.static ({ cls := "java/lang/Math", name := "floorMod", desc := "(JJ)J" } : Jvm.MethodName)) ∈ lw_tbl := tb_2 (List.mem_of_getElem? (i := 207) rfl)
set_option maxRecDepth 100000 in
theorem wd_549 : (Jvm.Cond.methodLink "FigureHouseLaw" (71 : Nat) ({ cls := "FigureHouse", name := "nearest", desc := "(III)J" } : Jvm.MethodName)) ∈ lw_tbl := tb_2 (List.mem_of_getElem? (i := 209) rfl)
set_option maxRecDepth 100000 in
theorem wd_550 : (Jvm.Cond.instanceMethod ({ cls := "FigureHouse", name := "nearest", desc := "(III)J" } : Jvm.MethodName)) ∈ lw_tbl := tb_2 (List.mem_of_getElem? (i := 210) rfl)
set_option maxRecDepth 100000 in
theorem wd_551 : (Jvm.Cond.selects "FigureHouse" ({ cls := "FigureHouse", name := "nearest", desc := "(III)J" } : Jvm.MethodName) ({ cls := "FigureHouse", name := "nearest", desc := "(III)J" } : Jvm.MethodName)) ∈ lw_tbl := tb_2 (List.mem_of_getElem? (i := 211) rfl)
set_option maxRecDepth 100000 in
theorem wd_553 : (Jvm.Cond.methodLink "FigureHouse" (144 : Nat) ({ cls := "FigureHouse", name := "rounded", desc := "(JJI)J" } : Jvm.MethodName)) ∈ lw_tbl := tb_2 (List.mem_of_getElem? (i := 213) rfl)
set_option maxRecDepth 100000 in
theorem wd_554 : (Jvm.Cond.static ({ cls := "FigureHouse", name := "rounded", desc := "(JJI)J" } : Jvm.MethodName)) ∈ lw_tbl := tb_2 (List.mem_of_getElem? (i := 214) rfl)
set_option maxRecDepth 100000 in
theorem wd_556 : (Jvm.Cond.constantLong "FigureHouse" (309 : Nat) (2 : Int64)) ∈ lw_tbl := tb_2 (List.mem_of_getElem? (i := 216) rfl)
set_option maxRecDepth 100000 in
theorem wd_557 : (Jvm.Cond.methodLink "FigureHouseLaw" (75 : Nat) ({ cls := "FigureHouse", name := "feed", desc := "(IIIII)I" } : Jvm.MethodName)) ∈ lw_tbl := tb_2 (List.mem_of_getElem? (i := 217) rfl)
set_option maxRecDepth 100000 in
theorem wd_558 : (Jvm.Cond.instanceMethod ({ cls := "FigureHouse", name := "feed", desc := "(IIIII)I" } : Jvm.MethodName)) ∈ lw_tbl := tb_2 (List.mem_of_getElem? (i := 218) rfl)
set_option maxRecDepth 100000 in
theorem wd_559 : (Jvm.Cond.selects "FigureHouse" ({ cls := "FigureHouse", name := "feed", desc := "(IIIII)I" } : Jvm.MethodName) ({ cls := "FigureHouse", name := "feed", desc := "(IIIII)I" } : Jvm.MethodName)) ∈ lw_tbl := tb_2 (List.mem_of_getElem? (i := 219) rfl)
set_option maxRecDepth 100000 in
theorem wd_561 : (Jvm.Cond.methodLink "FigureHouse" (148 : Nat) ({ cls := "FigureHouse", name := "bytesIn", desc := "(I)I" } : Jvm.MethodName)) ∈ lw_tbl := tb_2 (List.mem_of_getElem? (i := 221) rfl)
set_option maxRecDepth 100000 in
theorem wd_562 : (Jvm.Cond.static ({ cls := "FigureHouse", name := "bytesIn", desc := "(I)I" } : Jvm.MethodName)) ∈ lw_tbl := tb_2 (List.mem_of_getElem? (i := 222) rfl)
set_option maxRecDepth 100000 in
theorem wd_564 : (Jvm.Cond.methodLink "FigureHouse" (155 : Nat) ({ cls := "FigureHouse$Text", name := "addBytes", desc := "(I)V" } : Jvm.MethodName)) ∈ lw_tbl := tb_2 (List.mem_of_getElem? (i := 224) rfl)
set_option maxRecDepth 100000 in
theorem wd_565 : (Jvm.Cond.instanceMethod ({ cls := "FigureHouse$Text", name := "addBytes", desc := "(I)V" } : Jvm.MethodName)) ∈ lw_tbl := tb_2 (List.mem_of_getElem? (i := 225) rfl)
set_option maxRecDepth 100000 in
theorem wd_566 : (Jvm.Cond.selects "FigureHouse$Text" ({ cls := "FigureHouse$Text", name := "addBytes", desc := "(I)V" } : Jvm.MethodName) ({ cls := "FigureHouse$Text", name := "addBytes", desc := "(I)V" } : Jvm.MethodName)) ∈ lw_tbl := tb_2 (List.mem_of_getElem? (i := 226) rfl)
set_option maxRecDepth 100000 in
theorem wd_568 : (Jvm.Cond.methodLink "FigureHouseLaw" (79 : Nat) ({ cls := "FigureHouse", name := "end", desc := "(I)Z" } : Jvm.MethodName)) ∈ lw_tbl := tb_2 (List.mem_of_getElem? (i := 228) rfl)
set_option maxRecDepth 100000 in
theorem wd_569 : (Jvm.Cond.instanceMethod ({ cls := "FigureHouse", name := "end", desc := "(I)Z" } : Jvm.MethodName)) ∈ lw_tbl := tb_2 (List.mem_of_getElem? (i := 229) rfl)
set_option maxRecDepth 100000 in
theorem wd_570 : (Jvm.Cond.selects "FigureHouse" ({ cls := "FigureHouse", name := "end", desc := "(I)Z" } : Jvm.MethodName) ({ cls := "FigureHouse", name := "end", desc := "(I)Z" } : Jvm.MethodName)) ∈ lw_tbl := tb_2 (List.mem_of_getElem? (i := 230) rfl)
set_option maxRecDepth 100000 in
theorem wd_572 : (Jvm.Cond.methodLink "FigureHouseLaw" (83 : Nat) ({ cls := "FigureHouse", name := "fault", desc := "()I" } : Jvm.MethodName)) ∈ lw_tbl := tb_2 (List.mem_of_getElem? (i := 232) rfl)
set_option maxRecDepth 100000 in
theorem wd_573 : (Jvm.Cond.instanceMethod ({ cls := "FigureHouse", name := "fault", desc := "()I" } : Jvm.MethodName)) ∈ lw_tbl := tb_2 (List.mem_of_getElem? (i := 233) rfl)
set_option maxRecDepth 100000 in
theorem wd_574 : (Jvm.Cond.selects "FigureHouse" ({ cls := "FigureHouse", name := "fault", desc := "()I" } : Jvm.MethodName) ({ cls := "FigureHouse", name := "fault", desc := "()I" } : Jvm.MethodName)) ∈ lw_tbl := tb_2 (List.mem_of_getElem? (i := 234) rfl)
set_option maxRecDepth 100000 in
theorem wd_576 : (Jvm.Cond.methodLink "FigureHouse" (158 : Nat) ({ cls := "FigureHouse$Reader", name := "faultIn", desc := "(LFigureHouse$Text;)I" } : Jvm.MethodName)) ∈ lw_tbl := tb_2 (List.mem_of_getElem? (i := 236) rfl)
set_option maxRecDepth 100000 in
theorem wd_577 : (Jvm.Cond.instanceMethod ({ cls := "FigureHouse$Reader", name := "faultIn", desc := "(LFigureHouse$Text;)I" } : Jvm.MethodName)) ∈ lw_tbl := tb_2 (List.mem_of_getElem? (i := 237) rfl)
set_option maxRecDepth 100000 in
theorem wd_578 : (Jvm.Cond.selects "FigureHouse$Reader" ({ cls := "FigureHouse$Reader", name := "faultIn", desc := "(LFigureHouse$Text;)I" } : Jvm.MethodName) ({ cls := "FigureHouse$Reader", name := "faultIn", desc := "(LFigureHouse$Text;)I" } : Jvm.MethodName)) ∈ lw_tbl := tb_2 (List.mem_of_getElem? (i := 238) rfl)
set_option maxRecDepth 100000 in
theorem wd_580 : (Jvm.Cond.methodLink "FigureHouse$Reader" (28 : Nat) ({ cls := "FigureHouse$Reader", name := "nextSign", desc := "()I" } : Jvm.MethodName)) ∈ lw_tbl := tb_3 (List.mem_of_getElem? (i := 0) rfl)
set_option maxRecDepth 100000 in
theorem wd_582 : (Jvm.Cond.instanceMethod ({ cls := "FigureHouse$Reader", name := "nextSign", desc := "()I" } : Jvm.MethodName)) ∈ lw_tbl := tb_3 (List.mem_of_getElem? (i := 2) rfl)
set_option maxRecDepth 100000 in
theorem wd_584 : (Jvm.Cond.methodLinkNest "FigureHouse$Reader" (32 : Nat) ({ cls := "FigureHouse", name := "isLabel", desc := "(I)Z" } : Jvm.MethodName) "FigureHouse") ∈ lw_tbl := tb_3 (List.mem_of_getElem? (i := 4) rfl)
set_option maxRecDepth 100000 in
theorem wd_585 : (Jvm.Cond.static ({ cls := "FigureHouse", name := "isLabel", desc := "(I)Z" } : Jvm.MethodName)) ∈ lw_tbl := tb_3 (List.mem_of_getElem? (i := 5) rfl)
set_option maxRecDepth 100000 in
theorem wd_587 : (Jvm.Cond.methodLink "FigureHouse$Reader" (36 : Nat) ({ cls := "FigureHouse$Reader", name := "refuse", desc := "()V" } : Jvm.MethodName)) ∈ lw_tbl := tb_3 (List.mem_of_getElem? (i := 7) rfl)
set_option maxRecDepth 100000 in
theorem wd_589 : (Jvm.Cond.instanceMethod ({ cls := "FigureHouse$Reader", name := "refuse", desc := "()V" } : Jvm.MethodName)) ∈ lw_tbl := tb_3 (List.mem_of_getElem? (i := 9) rfl)
set_option maxRecDepth 100000 in
theorem wd_591 : (Jvm.Cond.methodLink "FigureHouse$Reader" (42 : Nat) ({ cls := "FigureHouse$Reader", name := "demand", desc := "(I)V" } : Jvm.MethodName)) ∈ lw_tbl := tb_3 (List.mem_of_getElem? (i := 11) rfl)
set_option maxRecDepth 100000 in
theorem wd_593 : (Jvm.Cond.instanceMethod ({ cls := "FigureHouse$Reader", name := "demand", desc := "(I)V" } : Jvm.MethodName)) ∈ lw_tbl := tb_3 (List.mem_of_getElem? (i := 13) rfl)
set_option maxRecDepth 100000 in
theorem wd_595 : (Jvm.Cond.methodLink "FigureHouse$Reader" (45 : Nat) ({ cls := "FigureHouse$Reader", name := "readsClause", desc := "()Z" } : Jvm.MethodName)) ∈ lw_tbl := tb_3 (List.mem_of_getElem? (i := 15) rfl)
set_option maxRecDepth 100000 in
theorem wd_597 : (Jvm.Cond.instanceMethod ({ cls := "FigureHouse$Reader", name := "readsClause", desc := "()Z" } : Jvm.MethodName)) ∈ lw_tbl := tb_3 (List.mem_of_getElem? (i := 17) rfl)
set_option maxRecDepth 100000 in
theorem wd_599 : (Jvm.Cond.methodLink "FigureHouse$Reader" (75 : Nat) ({ cls := "FigureHouse$Reader", name := "opensUnit", desc := "(I)Z" } : Jvm.MethodName)) ∈ lw_tbl := tb_3 (List.mem_of_getElem? (i := 19) rfl)
set_option maxRecDepth 100000 in
theorem wd_600 : (Jvm.Cond.static ({ cls := "FigureHouse$Reader", name := "opensUnit", desc := "(I)Z" } : Jvm.MethodName)) ∈ lw_tbl := tb_3 (List.mem_of_getElem? (i := 20) rfl)
set_option maxRecDepth 100000 in
theorem wd_602 : (Jvm.Cond.methodLink "FigureHouse$Reader" (78 : Nat) ({ cls := "FigureHouse$Reader", name := "sum", desc := "(I)J" } : Jvm.MethodName)) ∈ lw_tbl := tb_3 (List.mem_of_getElem? (i := 22) rfl)
set_option maxRecDepth 100000 in
theorem wd_604 : (Jvm.Cond.instanceMethod ({ cls := "FigureHouse$Reader", name := "sum", desc := "(I)J" } : Jvm.MethodName)) ∈ lw_tbl := tb_3 (List.mem_of_getElem? (i := 24) rfl)
set_option maxRecDepth 100000 in
theorem wd_606 : (Jvm.Cond.methodLink "FigureHouse$Reader" (104 : Nat) ({ cls := "FigureHouse$Reader", name := "term", desc := "(I)J" } : Jvm.MethodName)) ∈ lw_tbl := tb_3 (List.mem_of_getElem? (i := 26) rfl)
set_option maxRecDepth 100000 in
theorem wd_608 : (Jvm.Cond.instanceMethod ({ cls := "FigureHouse$Reader", name := "term", desc := "(I)J" } : Jvm.MethodName)) ∈ lw_tbl := tb_3 (List.mem_of_getElem? (i := 28) rfl)
set_option maxRecDepth 100000 in
theorem wd_610 : (Jvm.Cond.methodLink "FigureHouse$Reader" (111 : Nat) ({ cls := "FigureHouse$Reader", name := "atom", desc := "(I)J" } : Jvm.MethodName)) ∈ lw_tbl := tb_3 (List.mem_of_getElem? (i := 30) rfl)
set_option maxRecDepth 100000 in
theorem wd_612 : (Jvm.Cond.instanceMethod ({ cls := "FigureHouse$Reader", name := "atom", desc := "(I)J" } : Jvm.MethodName)) ∈ lw_tbl := tb_3 (List.mem_of_getElem? (i := 32) rfl)
set_option maxRecDepth 100000 in
theorem wd_614 : (Jvm.Cond.methodLink "FigureHouse$Reader" (121 : Nat) ({ cls := "FigureHouse$Reader", name := "isDigit", desc := "(I)Z" } : Jvm.MethodName)) ∈ lw_tbl := tb_3 (List.mem_of_getElem? (i := 34) rfl)
set_option maxRecDepth 100000 in
theorem wd_615 : (Jvm.Cond.static ({ cls := "FigureHouse$Reader", name := "isDigit", desc := "(I)Z" } : Jvm.MethodName)) ∈ lw_tbl := tb_3 (List.mem_of_getElem? (i := 35) rfl)
set_option maxRecDepth 100000 in
theorem wd_617 : (Jvm.Cond.methodLink "FigureHouse$Reader" (124 : Nat) ({ cls := "FigureHouse$Reader", name := "number", desc := "()J" } : Jvm.MethodName)) ∈ lw_tbl := tb_3 (List.mem_of_getElem? (i := 37) rfl)
set_option maxRecDepth 100000 in
theorem wd_619 : (Jvm.Cond.instanceMethod ({ cls := "FigureHouse$Reader", name := "number", desc := "()J" } : Jvm.MethodName)) ∈ lw_tbl := tb_3 (List.mem_of_getElem? (i := 39) rfl)
set_option maxRecDepth 100000 in
theorem wd_621 : (Jvm.Cond.constantLong "FigureHouse$Reader" (128 : Nat) (10 : Int64)) ∈ lw_tbl := tb_3 (List.mem_of_getElem? (i := 41) rfl)
set_option maxRecDepth 100000 in
theorem wd_622 : (Jvm.Cond.methodLink "FigureHouse$Reader" (49 : Nat) ({ cls := "FigureHouse$Reader", name := "accepts", desc := "(I)Z" } : Jvm.MethodName)) ∈ lw_tbl := tb_3 (List.mem_of_getElem? (i := 42) rfl)
set_option maxRecDepth 100000 in
theorem wd_624 : (Jvm.Cond.instanceMethod ({ cls := "FigureHouse$Reader", name := "accepts", desc := "(I)Z" } : Jvm.MethodName)) ∈ lw_tbl := tb_3 (List.mem_of_getElem? (i := 44) rfl)
set_option maxRecDepth 100000 in
theorem wd_626 : (Jvm.Cond.methodLink "FigureHouse$Reader" (107 : Nat) ({ cls := "FigureHouse$Reader", name := "cut", desc := "(J)J" } : Jvm.MethodName)) ∈ lw_tbl := tb_3 (List.mem_of_getElem? (i := 46) rfl)
set_option maxRecDepth 100000 in
theorem wd_627 : (Jvm.Cond.static ({ cls := "FigureHouse$Reader", name := "cut", desc := "(J)J" } : Jvm.MethodName)) ∈ lw_tbl := tb_3 (List.mem_of_getElem? (i := 47) rfl)
set_option maxRecDepth 100000 in
theorem wd_629 : (Jvm.Cond.constantLong "FigureHouse$Reader" (130 : Nat) (-1000000 : Int64)) ∈ lw_tbl := tb_3 (List.mem_of_getElem? (i := 49) rfl)
set_option maxRecDepth 100000 in
theorem wd_630 : (Jvm.Cond.constantLong "FigureHouse$Reader" (132 : Nat) (1000000 : Int64)) ∈ lw_tbl := tb_3 (List.mem_of_getElem? (i := 50) rfl)
set_option maxRecDepth 100000 in
theorem wd_631 : (Jvm.Cond.methodLink "FigureHouse$Reader" (134 : Nat) ({ cls := "java/lang/Math", name := "min", desc := "(JJ)J" } : Jvm.MethodName)) ∈ lw_tbl := tb_3 (List.mem_of_getElem? (i := 51) rfl)
set_option maxRecDepth 100000 in
theorem wd_632 : (Jvm.Cond.static ({ cls := "java/lang/Math", name := "min", desc := "(JJ)J" } : Jvm.MethodName)) ∈ lw_tbl := tb_3 (List.mem_of_getElem? (i := 52) rfl)
set_option maxRecDepth 100000 in
theorem wd_634 : (Jvm.Cond.methodLink "FigureHouse$Reader" (139 : Nat) ({ cls := "java/lang/Math", name := "max", desc := "(JJ)J" } : Jvm.MethodName)) ∈ lw_tbl := tb_3 (List.mem_of_getElem? (i := 54) rfl)
set_option maxRecDepth 100000 in
theorem wd_635 : (Jvm.Cond.static ({ cls := "java/lang/Math", name := "max", desc := "(JJ)J" } : Jvm.MethodName)) ∈ lw_tbl := tb_3 (List.mem_of_getElem? (i := 55) rfl)
set_option maxRecDepth 100000 in
theorem wd_637 : (Jvm.Cond.methodLink "FigureHouse$Reader" (114 : Nat) ({ cls := "FigureHouse$Reader", name := "quotient", desc := "(JJ)J" } : Jvm.MethodName)) ∈ lw_tbl := tb_3 (List.mem_of_getElem? (i := 57) rfl)
set_option maxRecDepth 100000 in
theorem wd_638 : (Jvm.Cond.static ({ cls := "FigureHouse$Reader", name := "quotient", desc := "(JJ)J" } : Jvm.MethodName)) ∈ lw_tbl := tb_3 (List.mem_of_getElem? (i := 58) rfl)
set_option maxRecDepth 100000 in
theorem wd_640 : (Jvm.Cond.methodLink "FigureHouse$Reader" (118 : Nat) ({ cls := "FigureHouse$Reader", name := "remainder", desc := "(JJ)J" } : Jvm.MethodName)) ∈ lw_tbl := tb_3 (List.mem_of_getElem? (i := 60) rfl)
set_option maxRecDepth 100000 in
theorem wd_641 : (Jvm.Cond.static ({ cls := "FigureHouse$Reader", name := "remainder", desc := "(JJ)J" } : Jvm.MethodName)) ∈ lw_tbl := tb_3 (List.mem_of_getElem? (i := 61) rfl)
set_option maxRecDepth 100000 in
theorem wd_643 : (Jvm.Cond.methodLink "FigureHouse$Reader" (82 : Nat) ({ cls := "FigureHouse$Reader", name := "compares", desc := "(I)Z" } : Jvm.MethodName)) ∈ lw_tbl := tb_3 (List.mem_of_getElem? (i := 63) rfl)
set_option maxRecDepth 100000 in
theorem wd_644 : (Jvm.Cond.static ({ cls := "FigureHouse$Reader", name := "compares", desc := "(I)Z" } : Jvm.MethodName)) ∈ lw_tbl := tb_3 (List.mem_of_getElem? (i := 64) rfl)
set_option maxRecDepth 100000 in
theorem wd_646 : (Jvm.Cond.methodLink "FigureHouse$Reader" (85 : Nat) ({ cls := "FigureHouse$Reader", name := "condition", desc := "(I)Z" } : Jvm.MethodName)) ∈ lw_tbl := tb_3 (List.mem_of_getElem? (i := 66) rfl)
set_option maxRecDepth 100000 in
theorem wd_648 : (Jvm.Cond.instanceMethod ({ cls := "FigureHouse$Reader", name := "condition", desc := "(I)Z" } : Jvm.MethodName)) ∈ lw_tbl := tb_3 (List.mem_of_getElem? (i := 68) rfl)
set_option maxRecDepth 100000 in
theorem wd_650 : (Jvm.Cond.methodLink "FigureHouse$Reader" (88 : Nat) ({ cls := "FigureHouse$Reader", name := "unit", desc := "(I)Z" } : Jvm.MethodName)) ∈ lw_tbl := tb_3 (List.mem_of_getElem? (i := 70) rfl)
set_option maxRecDepth 100000 in
theorem wd_652 : (Jvm.Cond.instanceMethod ({ cls := "FigureHouse$Reader", name := "unit", desc := "(I)Z" } : Jvm.MethodName)) ∈ lw_tbl := tb_3 (List.mem_of_getElem? (i := 72) rfl)
set_option maxRecDepth 100000 in
theorem wd_654 : (Jvm.Cond.methodLink "FigureHouse$Reader" (91 : Nat) ({ cls := "FigureHouse$Reader", name := "demandComparing", desc := "()I" } : Jvm.MethodName)) ∈ lw_tbl := tb_3 (List.mem_of_getElem? (i := 74) rfl)
set_option maxRecDepth 100000 in
theorem wd_656 : (Jvm.Cond.instanceMethod ({ cls := "FigureHouse$Reader", name := "demandComparing", desc := "()I" } : Jvm.MethodName)) ∈ lw_tbl := tb_3 (List.mem_of_getElem? (i := 76) rfl)
set_option maxRecDepth 100000 in
theorem wd_658 : (Jvm.Cond.methodLink "FigureHouse$Reader" (94 : Nat) ({ cls := "FigureHouse$Reader", name := "compared", desc := "(JIJ)Z" } : Jvm.MethodName)) ∈ lw_tbl := tb_3 (List.mem_of_getElem? (i := 78) rfl)
set_option maxRecDepth 100000 in
theorem wd_659 : (Jvm.Cond.static ({ cls := "FigureHouse$Reader", name := "compared", desc := "(JIJ)Z" } : Jvm.MethodName)) ∈ lw_tbl := tb_3 (List.mem_of_getElem? (i := 79) rfl)
set_option maxRecDepth 100000 in
theorem wd_661 : (Jvm.Cond.methodLink "FigureHouse$Reader" (98 : Nat) ({ cls := "FigureHouse$Reader", name := "negated", desc := "(I)Z" } : Jvm.MethodName)) ∈ lw_tbl := tb_3 (List.mem_of_getElem? (i := 81) rfl)
set_option maxRecDepth 100000 in
theorem wd_663 : (Jvm.Cond.instanceMethod ({ cls := "FigureHouse$Reader", name := "negated", desc := "(I)Z" } : Jvm.MethodName)) ∈ lw_tbl := tb_3 (List.mem_of_getElem? (i := 83) rfl)
set_option maxRecDepth 100000 in
theorem wd_665 : (Jvm.Cond.methodLink "FigureHouse$Reader" (101 : Nat) ({ cls := "FigureHouse$Reader", name := "parenthesised", desc := "(I)Z" } : Jvm.MethodName)) ∈ lw_tbl := tb_3 (List.mem_of_getElem? (i := 85) rfl)
set_option maxRecDepth 100000 in
theorem wd_667 : (Jvm.Cond.instanceMethod ({ cls := "FigureHouse$Reader", name := "parenthesised", desc := "(I)Z" } : Jvm.MethodName)) ∈ lw_tbl := tb_3 (List.mem_of_getElem? (i := 87) rfl)
set_option maxRecDepth 100000 in
theorem wd_669 : (Jvm.Cond.methodLink "FigureHouseLaw" (87 : Nat) ({ cls := "FigureHouse", name := "plan", desc := "()I" } : Jvm.MethodName)) ∈ lw_tbl := tb_3 (List.mem_of_getElem? (i := 89) rfl)
set_option maxRecDepth 100000 in
theorem wd_670 : (Jvm.Cond.instanceMethod ({ cls := "FigureHouse", name := "plan", desc := "()I" } : Jvm.MethodName)) ∈ lw_tbl := tb_3 (List.mem_of_getElem? (i := 90) rfl)
set_option maxRecDepth 100000 in
theorem wd_671 : (Jvm.Cond.selects "FigureHouse" ({ cls := "FigureHouse", name := "plan", desc := "()I" } : Jvm.MethodName) ({ cls := "FigureHouse", name := "plan", desc := "()I" } : Jvm.MethodName)) ∈ lw_tbl := tb_3 (List.mem_of_getElem? (i := 91) rfl)
set_option maxRecDepth 100000 in
theorem wd_673 : (Jvm.Cond.methodLink "FigureHouse" (162 : Nat) ({ cls := "FigureHouse$Text", name := "twin", desc := "()LFigureHouse$Text;" } : Jvm.MethodName)) ∈ lw_tbl := tb_3 (List.mem_of_getElem? (i := 93) rfl)
set_option maxRecDepth 100000 in
theorem wd_674 : (Jvm.Cond.instanceMethod ({ cls := "FigureHouse$Text", name := "twin", desc := "()LFigureHouse$Text;" } : Jvm.MethodName)) ∈ lw_tbl := tb_3 (List.mem_of_getElem? (i := 94) rfl)
set_option maxRecDepth 100000 in
theorem wd_675 : (Jvm.Cond.selects "FigureHouse$Text" ({ cls := "FigureHouse$Text", name := "twin", desc := "()LFigureHouse$Text;" } : Jvm.MethodName) ({ cls := "FigureHouse$Text", name := "twin", desc := "()LFigureHouse$Text;" } : Jvm.MethodName)) ∈ lw_tbl := tb_3 (List.mem_of_getElem? (i := 95) rfl)
set_option maxRecDepth 100000 in
theorem wd_677 : (Jvm.Cond.classLink "FigureHouse$Text" (14 : Nat) "FigureHouse$Text") ∈ lw_tbl := tb_3 (List.mem_of_getElem? (i := 97) rfl)
set_option maxRecDepth 100000 in
theorem wd_678 : (Jvm.Cond.methodLink "FigureHouse$Text" (23 : Nat) ({ cls := "FigureHouse$Text", name := "<init>", desc := "(I)V" } : Jvm.MethodName)) ∈ lw_tbl := tb_3 (List.mem_of_getElem? (i := 98) rfl)
set_option maxRecDepth 100000 in
theorem wd_679 : (Jvm.Cond.methodLink "FigureHouse$Text" (26 : Nat) ({ cls := "java/lang/System", name := "arraycopy", desc := "(Ljava/lang/Object;ILjava/lang/Object;II)V" } : Jvm.MethodName)) ∈ lw_tbl := tb_3 (List.mem_of_getElem? (i := 99) rfl)
set_option maxRecDepth 100000 in
theorem wd_680 : (Jvm.Cond.methodLink "FigureHouseLaw" (100 : Nat) ({ cls := "FigureHouse", name := "page", desc := "(IIII)I" } : Jvm.MethodName)) ∈ lw_tbl := tb_3 (List.mem_of_getElem? (i := 100) rfl)
set_option maxRecDepth 100000 in
theorem wd_681 : (Jvm.Cond.instanceMethod ({ cls := "FigureHouse", name := "page", desc := "(IIII)I" } : Jvm.MethodName)) ∈ lw_tbl := tb_3 (List.mem_of_getElem? (i := 101) rfl)
set_option maxRecDepth 100000 in
theorem wd_682 : (Jvm.Cond.selects "FigureHouse" ({ cls := "FigureHouse", name := "page", desc := "(IIII)I" } : Jvm.MethodName) ({ cls := "FigureHouse", name := "page", desc := "(IIII)I" } : Jvm.MethodName)) ∈ lw_tbl := tb_3 (List.mem_of_getElem? (i := 102) rfl)
set_option maxRecDepth 100000 in
theorem wd_684 : (Jvm.Cond.methodLink "FigureHouse" (166 : Nat) ({ cls := "FigureHouse", name := "planAt", desc := "(I)LFigureHouse$Text;" } : Jvm.MethodName)) ∈ lw_tbl := tb_3 (List.mem_of_getElem? (i := 104) rfl)
set_option maxRecDepth 100000 in
theorem wd_686 : (Jvm.Cond.instanceMethod ({ cls := "FigureHouse", name := "planAt", desc := "(I)LFigureHouse$Text;" } : Jvm.MethodName)) ∈ lw_tbl := tb_3 (List.mem_of_getElem? (i := 106) rfl)
set_option maxRecDepth 100000 in
theorem wd_688 : (Jvm.Cond.classLink "FigureHouse" (180 : Nat) "FigureHouse$Page") ∈ lw_tbl := tb_3 (List.mem_of_getElem? (i := 108) rfl)
set_option maxRecDepth 100000 in
theorem wd_689 : (Jvm.Cond.instantiable "FigureHouse$Page" (19 : Nat)) ∈ lw_tbl := tb_3 (List.mem_of_getElem? (i := 109) rfl)
set_option maxRecDepth 100000 in
theorem wd_690 : (Jvm.Cond.methodLink "FigureHouse" (182 : Nat) ({ cls := "FigureHouse$Page", name := "<init>", desc := "(III)V" } : Jvm.MethodName)) ∈ lw_tbl := tb_3 (List.mem_of_getElem? (i := 110) rfl)
set_option maxRecDepth 100000 in
theorem wd_691 : (Jvm.Cond.instanceMethod ({ cls := "FigureHouse$Page", name := "<init>", desc := "(III)V" } : Jvm.MethodName)) ∈ lw_tbl := tb_3 (List.mem_of_getElem? (i := 111) rfl)
set_option maxRecDepth 100000 in
theorem wd_693 : (Jvm.Cond.methodLink "FigureHouse$Page" (3 : Nat) ({ cls := "java/lang/Object", name := "<init>", desc := "()V" } : Jvm.MethodName)) ∈ lw_tbl := tb_3 (List.mem_of_getElem? (i := 113) rfl)
set_option maxRecDepth 100000 in
theorem wd_694 : (Jvm.Cond.fieldLink "FigureHouse$Page" (9 : Nat) "FigureHouse$Page" "function" "I") ∈ lw_tbl := tb_3 (List.mem_of_getElem? (i := 114) rfl)
set_option maxRecDepth 100000 in
theorem wd_695 : (Jvm.Cond.fieldLink "FigureHouse$Page" (15 : Nat) "FigureHouse$Page" "first" "I") ∈ lw_tbl := tb_3 (List.mem_of_getElem? (i := 115) rfl)
set_option maxRecDepth 100000 in
theorem wd_696 : (Jvm.Cond.fieldLink "FigureHouse$Page" (18 : Nat) "FigureHouse$Page" "lines" "I") ∈ lw_tbl := tb_3 (List.mem_of_getElem? (i := 116) rfl)
set_option maxRecDepth 100000 in
theorem wd_697 : (Jvm.Cond.fieldLink "FigureHouse" (294 : Nat) "FigureHouse$Page" "lines" "I") ∈ lw_tbl := tb_3 (List.mem_of_getElem? (i := 117) rfl)
set_option maxRecDepth 100000 in
theorem wd_698 : (Jvm.Cond.fieldLink "FigureHouse$Page" (59 : Nat) "FigureHouse$Page" "interval" "I") ∈ lw_tbl := tb_3 (List.mem_of_getElem? (i := 118) rfl)
set_option maxRecDepth 100000 in
theorem wd_699 : (Jvm.Cond.fieldLink "FigureHouse$Search" (34 : Nat) "FigureHouse$Page" "order" "I") ∈ lw_tbl := tb_3 (List.mem_of_getElem? (i := 119) rfl)
set_option maxRecDepth 100000 in
theorem wd_700 : (Jvm.Cond.fieldLink "FigureHouse$Page" (62 : Nat) "FigureHouse$Page" "order" "I") ∈ lw_tbl := tb_3 (List.mem_of_getElem? (i := 120) rfl)
set_option maxRecDepth 100000 in
theorem wd_701 : (Jvm.Cond.fieldLink "FigureHouse$Figures" (54 : Nat) "FigureHouse$Page" "order" "I") ∈ lw_tbl := tb_3 (List.mem_of_getElem? (i := 121) rfl)
set_option maxRecDepth 100000 in
theorem wd_702 : (Jvm.Cond.fieldLink "FigureHouse" (269 : Nat) "FigureHouse$Page" "order" "I") ∈ lw_tbl := tb_3 (List.mem_of_getElem? (i := 122) rfl)
set_option maxRecDepth 100000 in
theorem wd_703 : (Jvm.Cond.fieldLink "FigureHouse$Page" (65 : Nat) "FigureHouse$Page" "places" "I") ∈ lw_tbl := tb_3 (List.mem_of_getElem? (i := 123) rfl)
set_option maxRecDepth 100000 in
theorem wd_704 : (Jvm.Cond.fieldLink "FigureHouse$Page" (68 : Nat) "FigureHouse$Page" "carried" "I") ∈ lw_tbl := tb_3 (List.mem_of_getElem? (i := 124) rfl)
set_option maxRecDepth 100000 in
theorem wd_705 : (Jvm.Cond.fieldLink "FigureHouse$Figures" (66 : Nat) "FigureHouse$Page" "carried" "I") ∈ lw_tbl := tb_3 (List.mem_of_getElem? (i := 125) rfl)
set_option maxRecDepth 100000 in
theorem wd_706 : (Jvm.Cond.fieldLink "FigureHouse" (303 : Nat) "FigureHouse$Page" "carried" "I") ∈ lw_tbl := tb_3 (List.mem_of_getElem? (i := 126) rfl)
set_option maxRecDepth 100000 in
theorem wd_707 : (Jvm.Cond.fieldLink "FigureHouse$Page" (71 : Nat) "FigureHouse$Page" "span" "I") ∈ lw_tbl := tb_3 (List.mem_of_getElem? (i := 127) rfl)
set_option maxRecDepth 100000 in
theorem wd_708 : (Jvm.Cond.fieldLink "FigureHouse$Page" (74 : Nat) "FigureHouse$Page" "halves" "I") ∈ lw_tbl := tb_3 (List.mem_of_getElem? (i := 128) rfl)
set_option maxRecDepth 100000 in
theorem wd_709 : (Jvm.Cond.fieldLink "FigureHouse$Figures" (73 : Nat) "FigureHouse$Page" "halves" "I") ∈ lw_tbl := tb_3 (List.mem_of_getElem? (i := 129) rfl)
set_option maxRecDepth 100000 in
theorem wd_710 : (Jvm.Cond.fieldLink "FigureHouse$Page" (21 : Nat) "FigureHouse$Page" "hands" "[I") ∈ lw_tbl := tb_3 (List.mem_of_getElem? (i := 130) rfl)
set_option maxRecDepth 100000 in
theorem wd_711 : (Jvm.Cond.fieldLink "FigureHouse" (359 : Nat) "FigureHouse$Page" "hands" "[I") ∈ lw_tbl := tb_3 (List.mem_of_getElem? (i := 131) rfl)
set_option maxRecDepth 100000 in
theorem wd_712 : (Jvm.Cond.fieldLink "FigureHouse$Page" (25 : Nat) "FigureHouse$Page" "seers" "[I") ∈ lw_tbl := tb_3 (List.mem_of_getElem? (i := 132) rfl)
set_option maxRecDepth 100000 in
theorem wd_713 : (Jvm.Cond.fieldLink "FigureHouse" (362 : Nat) "FigureHouse$Page" "seers" "[I") ∈ lw_tbl := tb_3 (List.mem_of_getElem? (i := 133) rfl)
set_option maxRecDepth 100000 in
theorem wd_714 : (Jvm.Cond.fieldLink "FigureHouse$Page" (28 : Nat) "FigureHouse$Page" "checks" "[I") ∈ lw_tbl := tb_3 (List.mem_of_getElem? (i := 134) rfl)
set_option maxRecDepth 100000 in
theorem wd_715 : (Jvm.Cond.fieldLink "FigureHouse$Figures" (106 : Nat) "FigureHouse$Page" "checks" "[I") ∈ lw_tbl := tb_3 (List.mem_of_getElem? (i := 135) rfl)
set_option maxRecDepth 100000 in
theorem wd_716 : (Jvm.Cond.fieldLink "FigureHouse$Page" (31 : Nat) "FigureHouse$Page" "limits" "[I") ∈ lw_tbl := tb_3 (List.mem_of_getElem? (i := 136) rfl)
set_option maxRecDepth 100000 in
theorem wd_717 : (Jvm.Cond.fieldLink "FigureHouse$Figures" (123 : Nat) "FigureHouse$Page" "limits" "[I") ∈ lw_tbl := tb_3 (List.mem_of_getElem? (i := 137) rfl)
set_option maxRecDepth 100000 in
theorem wd_718 : (Jvm.Cond.fieldLink "FigureHouse$Page" (34 : Nat) "FigureHouse$Page" "near" "[J") ∈ lw_tbl := tb_3 (List.mem_of_getElem? (i := 138) rfl)
set_option maxRecDepth 100000 in
theorem wd_719 : (Jvm.Cond.fieldLink "FigureHouse$Figures" (51 : Nat) "FigureHouse$Page" "near" "[J") ∈ lw_tbl := tb_3 (List.mem_of_getElem? (i := 139) rfl)
set_option maxRecDepth 100000 in
theorem wd_720 : (Jvm.Cond.fieldLink "FigureHouse" (297 : Nat) "FigureHouse$Page" "near" "[J") ∈ lw_tbl := tb_3 (List.mem_of_getElem? (i := 140) rfl)
set_option maxRecDepth 100000 in
theorem wd_721 : (Jvm.Cond.fieldLink "FigureHouse$Page" (38 : Nat) "FigureHouse$Page" "truth" "[J") ∈ lw_tbl := tb_3 (List.mem_of_getElem? (i := 141) rfl)
set_option maxRecDepth 100000 in
theorem wd_722 : (Jvm.Cond.fieldLink "FigureHouse" (209 : Nat) "FigureHouse$Page" "truth" "[J") ∈ lw_tbl := tb_3 (List.mem_of_getElem? (i := 142) rfl)
set_option maxRecDepth 100000 in
theorem wd_723 : (Jvm.Cond.fieldLink "FigureHouse$Page" (41 : Nat) "FigureHouse$Page" "right" "[J") ∈ lw_tbl := tb_3 (List.mem_of_getElem? (i := 143) rfl)
set_option maxRecDepth 100000 in
theorem wd_724 : (Jvm.Cond.fieldLink "FigureHouse" (288 : Nat) "FigureHouse$Page" "right" "[J") ∈ lw_tbl := tb_3 (List.mem_of_getElem? (i := 144) rfl)
set_option maxRecDepth 100000 in
theorem wd_725 : (Jvm.Cond.fieldLink "FigureHouse$Page" (44 : Nat) "FigureHouse$Page" "slipped" "[I") ∈ lw_tbl := tb_3 (List.mem_of_getElem? (i := 145) rfl)
set_option maxRecDepth 100000 in
theorem wd_726 : (Jvm.Cond.fieldLink "FigureHouse" (254 : Nat) "FigureHouse$Page" "slipped" "[I") ∈ lw_tbl := tb_3 (List.mem_of_getElem? (i := 146) rfl)
set_option maxRecDepth 100000 in
theorem wd_727 : (Jvm.Cond.fieldLink "FigureHouse$Page" (50 : Nat) "FigureHouse$Page" "plate" "[J") ∈ lw_tbl := tb_3 (List.mem_of_getElem? (i := 147) rfl)
set_option maxRecDepth 100000 in
theorem wd_728 : (Jvm.Cond.fieldLink "FigureHouse$Page" (47 : Nat) "FigureHouse$Page" "pressed" "[J") ∈ lw_tbl := tb_3 (List.mem_of_getElem? (i := 148) rfl)
set_option maxRecDepth 100000 in
theorem wd_768 : (Jvm.Cond.methodLink "FigureHouse" (183 : Nat) ({ cls := "FigureHouse$Page", name := "followsHead", desc := "(LFigureHouse$Reader;LFigureHouse$Text;)Z" } : Jvm.MethodName)) ∈ lw_tbl := tb_3 (List.mem_of_getElem? (i := 188) rfl)
set_option maxRecDepth 100000 in
theorem wd_769 : (Jvm.Cond.instanceMethod ({ cls := "FigureHouse$Page", name := "followsHead", desc := "(LFigureHouse$Reader;LFigureHouse$Text;)Z" } : Jvm.MethodName)) ∈ lw_tbl := tb_3 (List.mem_of_getElem? (i := 189) rfl)
set_option maxRecDepth 100000 in
theorem wd_770 : (Jvm.Cond.selects "FigureHouse$Page" ({ cls := "FigureHouse$Page", name := "followsHead", desc := "(LFigureHouse$Reader;LFigureHouse$Text;)Z" } : Jvm.MethodName) ({ cls := "FigureHouse$Page", name := "followsHead", desc := "(LFigureHouse$Reader;LFigureHouse$Text;)Z" } : Jvm.MethodName)) ∈ lw_tbl := tb_3 (List.mem_of_getElem? (i := 190) rfl)
set_option maxRecDepth 100000 in
theorem wd_772 : (Jvm.Cond.methodLink "FigureHouse$Page" (53 : Nat) ({ cls := "FigureHouse$Reader", name := "worthOf", desc := "(LFigureHouse$Text;IIII)I" } : Jvm.MethodName)) ∈ lw_tbl := tb_3 (List.mem_of_getElem? (i := 192) rfl)
set_option maxRecDepth 100000 in
theorem wd_773 : (Jvm.Cond.instanceMethod ({ cls := "FigureHouse$Reader", name := "worthOf", desc := "(LFigureHouse$Text;IIII)I" } : Jvm.MethodName)) ∈ lw_tbl := tb_3 (List.mem_of_getElem? (i := 193) rfl)
set_option maxRecDepth 100000 in
theorem wd_774 : (Jvm.Cond.selects "FigureHouse$Reader" ({ cls := "FigureHouse$Reader", name := "worthOf", desc := "(LFigureHouse$Text;IIII)I" } : Jvm.MethodName) ({ cls := "FigureHouse$Reader", name := "worthOf", desc := "(LFigureHouse$Text;IIII)I" } : Jvm.MethodName)) ∈ lw_tbl := tb_3 (List.mem_of_getElem? (i := 194) rfl)
set_option maxRecDepth 100000 in
theorem wd_776 : (Jvm.Cond.methodLink "FigureHouse$Reader" (68 : Nat) ({ cls := "FigureHouse$Reader", name := "toNextClause", desc := "()V" } : Jvm.MethodName)) ∈ lw_tbl := tb_3 (List.mem_of_getElem? (i := 196) rfl)
set_option maxRecDepth 100000 in
theorem wd_778 : (Jvm.Cond.instanceMethod ({ cls := "FigureHouse$Reader", name := "toNextClause", desc := "()V" } : Jvm.MethodName)) ∈ lw_tbl := tb_3 (List.mem_of_getElem? (i := 198) rfl)
set_option maxRecDepth 100000 in
theorem wd_780 : (Jvm.Cond.methodLinkNest "FigureHouse$Page" (77 : Nat) ({ cls := "FigureHouse", name := "within", desc := "(III)Z" } : Jvm.MethodName) "FigureHouse") ∈ lw_tbl := tb_3 (List.mem_of_getElem? (i := 200) rfl)
set_option maxRecDepth 100000 in
theorem wd_781 : (Jvm.Cond.methodLink "FigureHouse$Page" (81 : Nat) ({ cls := "FigureHouse$Page", name := "xOf", desc := "(I)I" } : Jvm.MethodName)) ∈ lw_tbl := tb_3 (List.mem_of_getElem? (i := 201) rfl)
set_option maxRecDepth 100000 in
theorem wd_782 : (Jvm.Cond.instanceMethod ({ cls := "FigureHouse$Page", name := "xOf", desc := "(I)I" } : Jvm.MethodName)) ∈ lw_tbl := tb_3 (List.mem_of_getElem? (i := 202) rfl)
set_option maxRecDepth 100000 in
theorem wd_783 : (Jvm.Cond.selects "FigureHouse$Page" ({ cls := "FigureHouse$Page", name := "xOf", desc := "(I)I" } : Jvm.MethodName) ({ cls := "FigureHouse$Page", name := "xOf", desc := "(I)I" } : Jvm.MethodName)) ∈ lw_tbl := tb_3 (List.mem_of_getElem? (i := 203) rfl)
set_option maxRecDepth 100000 in
theorem wd_785 : (Jvm.Cond.methodLink "FigureHouse" (187 : Nat) ({ cls := "FigureHouse$Page", name := "followsLines", desc := "(LFigureHouse$Reader;LFigureHouse$Text;)Z" } : Jvm.MethodName)) ∈ lw_tbl := tb_3 (List.mem_of_getElem? (i := 205) rfl)
set_option maxRecDepth 100000 in
theorem wd_786 : (Jvm.Cond.instanceMethod ({ cls := "FigureHouse$Page", name := "followsLines", desc := "(LFigureHouse$Reader;LFigureHouse$Text;)Z" } : Jvm.MethodName)) ∈ lw_tbl := tb_3 (List.mem_of_getElem? (i := 206) rfl)
set_option maxRecDepth 100000 in
theorem wd_787 : (Jvm.Cond.selects "FigureHouse$Page" ({ cls := "FigureHouse$Page", name := "followsLines", desc := "(LFigureHouse$Reader;LFigureHouse$Text;)Z" } : Jvm.MethodName) ({ cls := "FigureHouse$Page", name := "followsLines", desc := "(LFigureHouse$Reader;LFigureHouse$Text;)Z" } : Jvm.MethodName)) ∈ lw_tbl := tb_3 (List.mem_of_getElem? (i := 207) rfl)
set_option maxRecDepth 100000 in
theorem wd_789 : (Jvm.Cond.methodLink "FigureHouse$Page" (85 : Nat) ({ cls := "FigureHouse$Page", name := "blockOf", desc := "(I)I" } : Jvm.MethodName)) ∈ lw_tbl := tb_3 (List.mem_of_getElem? (i := 209) rfl)
set_option maxRecDepth 100000 in
theorem wd_790 : (Jvm.Cond.instanceMethod ({ cls := "FigureHouse$Page", name := "blockOf", desc := "(I)I" } : Jvm.MethodName)) ∈ lw_tbl := tb_3 (List.mem_of_getElem? (i := 210) rfl)
set_option maxRecDepth 100000 in
theorem wd_791 : (Jvm.Cond.selects "FigureHouse$Page" ({ cls := "FigureHouse$Page", name := "blockOf", desc := "(I)I" } : Jvm.MethodName) ({ cls := "FigureHouse$Page", name := "blockOf", desc := "(I)I" } : Jvm.MethodName)) ∈ lw_tbl := tb_3 (List.mem_of_getElem? (i := 211) rfl)
set_option maxRecDepth 100000 in
theorem wd_793 : (Jvm.Cond.methodLinkNest "FigureHouse$Page" (88 : Nat) ({ cls := "FigureHouse", name := "isHand", desc := "(I)Z" } : Jvm.MethodName) "FigureHouse") ∈ lw_tbl := tb_3 (List.mem_of_getElem? (i := 213) rfl)
set_option maxRecDepth 100000 in
theorem wd_794 : (Jvm.Cond.static ({ cls := "FigureHouse", name := "isHand", desc := "(I)Z" } : Jvm.MethodName)) ∈ lw_tbl := tb_3 (List.mem_of_getElem? (i := 214) rfl)
set_option maxRecDepth 100000 in
theorem wd_796 : (Jvm.Cond.methodLink "FigureHouse" (194 : Nat) ({ cls := "FigureHouse$Page", name := "reckon", desc := "(LFigureHouse$Curve;)V" } : Jvm.MethodName)) ∈ lw_tbl := tb_3 (List.mem_of_getElem? (i := 216) rfl)
set_option maxRecDepth 100000 in
theorem wd_797 : (Jvm.Cond.instanceMethod ({ cls := "FigureHouse$Page", name := "reckon", desc := "(LFigureHouse$Curve;)V" } : Jvm.MethodName)) ∈ lw_tbl := tb_3 (List.mem_of_getElem? (i := 217) rfl)
set_option maxRecDepth 100000 in
theorem wd_798 : (Jvm.Cond.selects "FigureHouse$Page" ({ cls := "FigureHouse$Page", name := "reckon", desc := "(LFigureHouse$Curve;)V" } : Jvm.MethodName) ({ cls := "FigureHouse$Page", name := "reckon", desc := "(LFigureHouse$Curve;)V" } : Jvm.MethodName)) ∈ lw_tbl := tb_3 (List.mem_of_getElem? (i := 218) rfl)
set_option maxRecDepth 100000 in
theorem wd_800 : (Jvm.Cond.methodLink "FigureHouse$Page" (92 : Nat) ({ cls := "FigureHouse$Curve", name := "quartersAt", desc := "(I)J" } : Jvm.MethodName)) ∈ lw_tbl := tb_3 (List.mem_of_getElem? (i := 220) rfl)
set_option maxRecDepth 100000 in
theorem wd_801 : (Jvm.Cond.methodLinkNest "FigureHouse$Page" (98 : Nat) ({ cls := "FigureHouse", name := "unitOf", desc := "(I)J" } : Jvm.MethodName) "FigureHouse") ∈ lw_tbl := tb_3 (List.mem_of_getElem? (i := 221) rfl)
set_option maxRecDepth 100000 in
theorem wd_802 : (Jvm.Cond.methodLinkNest "FigureHouse$Page" (101 : Nat) ({ cls := "FigureHouse", name := "rounded", desc := "(JJI)J" } : Jvm.MethodName) "FigureHouse") ∈ lw_tbl := tb_3 (List.mem_of_getElem? (i := 222) rfl)
set_option maxRecDepth 100000 in
theorem wd_803 : (Jvm.Cond.methodLink "FigureHouse" (198 : Nat) ({ cls := "FigureHouse$Figures", name := "begin", desc := "()V" } : Jvm.MethodName)) ∈ lw_tbl := tb_3 (List.mem_of_getElem? (i := 223) rfl)
set_option maxRecDepth 100000 in
theorem wd_804 : (Jvm.Cond.instanceMethod ({ cls := "FigureHouse$Figures", name := "begin", desc := "()V" } : Jvm.MethodName)) ∈ lw_tbl := tb_3 (List.mem_of_getElem? (i := 224) rfl)
set_option maxRecDepth 100000 in
theorem wd_805 : (Jvm.Cond.selects "FigureHouse$Figures" ({ cls := "FigureHouse$Figures", name := "begin", desc := "()V" } : Jvm.MethodName) ({ cls := "FigureHouse$Figures", name := "begin", desc := "()V" } : Jvm.MethodName)) ∈ lw_tbl := tb_3 (List.mem_of_getElem? (i := 225) rfl)
set_option maxRecDepth 100000 in
theorem wd_807 : (Jvm.Cond.methodLink "FigureHouse$Figures" (21 : Nat) ({ cls := "java/util/Arrays", name := "fill", desc := "([JJ)V" } : Jvm.MethodName)) ∈ lw_tbl := tb_3 (List.mem_of_getElem? (i := 227) rfl)
set_option maxRecDepth 100000 in
theorem wd_808 : (Jvm.Cond.static ({ cls := "java/util/Arrays", name := "fill", desc := "([JJ)V" } : Jvm.MethodName)) ∈ lw_tbl := tb_3 (List.mem_of_getElem? (i := 228) rfl)
set_option maxRecDepth 100000 in
theorem wd_810 : (Jvm.Cond.methodLink "FigureHouse" (201 : Nat) ({ cls := "FigureHouse$Figures", name := "make", desc := "(LFigureHouse$Page;)V" } : Jvm.MethodName)) ∈ lw_tbl := tb_3 (List.mem_of_getElem? (i := 230) rfl)
set_option maxRecDepth 100000 in
theorem wd_811 : (Jvm.Cond.instanceMethod ({ cls := "FigureHouse$Figures", name := "make", desc := "(LFigureHouse$Page;)V" } : Jvm.MethodName)) ∈ lw_tbl := tb_3 (List.mem_of_getElem? (i := 231) rfl)
set_option maxRecDepth 100000 in
theorem wd_812 : (Jvm.Cond.selects "FigureHouse$Figures" ({ cls := "FigureHouse$Figures", name := "make", desc := "(LFigureHouse$Page;)V" } : Jvm.MethodName) ({ cls := "FigureHouse$Figures", name := "make", desc := "(LFigureHouse$Page;)V" } : Jvm.MethodName)) ∈ lw_tbl := tb_3 (List.mem_of_getElem? (i := 232) rfl)
set_option maxRecDepth 100000 in
theorem wd_814 : (Jvm.Cond.methodLink "FigureHouse$Figures" (31 : Nat) ({ cls := "FigureHouse$Page", name := "blocks", desc := "()I" } : Jvm.MethodName)) ∈ lw_tbl := tb_3 (List.mem_of_getElem? (i := 234) rfl)
set_option maxRecDepth 100000 in
theorem wd_815 : (Jvm.Cond.instanceMethod ({ cls := "FigureHouse$Page", name := "blocks", desc := "()I" } : Jvm.MethodName)) ∈ lw_tbl := tb_3 (List.mem_of_getElem? (i := 235) rfl)
set_option maxRecDepth 100000 in
theorem wd_816 : (Jvm.Cond.selects "FigureHouse$Page" ({ cls := "FigureHouse$Page", name := "blocks", desc := "()I" } : Jvm.MethodName) ({ cls := "FigureHouse$Page", name := "blocks", desc := "()I" } : Jvm.MethodName)) ∈ lw_tbl := tb_3 (List.mem_of_getElem? (i := 236) rfl)
set_option maxRecDepth 100000 in
theorem wd_818 : (Jvm.Cond.methodLink "FigureHouse$Figures" (37 : Nat) ({ cls := "FigureHouse$Figures", name := "makeBlock", desc := "(LFigureHouse$Page;I)V" } : Jvm.MethodName)) ∈ lw_tbl := tb_3 (List.mem_of_getElem? (i := 238) rfl)
set_option maxRecDepth 100000 in
theorem wd_820 : (Jvm.Cond.instanceMethod ({ cls := "FigureHouse$Figures", name := "makeBlock", desc := "(LFigureHouse$Page;I)V" } : Jvm.MethodName)) ∈ lw_tbl := tb_4 (List.mem_of_getElem? (i := 0) rfl)
set_option maxRecDepth 100000 in
theorem wd_822 : (Jvm.Cond.methodLink "FigureHouse$Figures" (41 : Nat) ({ cls := "FigureHouse$Page", name := "madeFrom", desc := "(I)I" } : Jvm.MethodName)) ∈ lw_tbl := tb_4 (List.mem_of_getElem? (i := 2) rfl)
set_option maxRecDepth 100000 in
theorem wd_823 : (Jvm.Cond.instanceMethod ({ cls := "FigureHouse$Page", name := "madeFrom", desc := "(I)I" } : Jvm.MethodName)) ∈ lw_tbl := tb_4 (List.mem_of_getElem? (i := 3) rfl)
set_option maxRecDepth 100000 in
theorem wd_824 : (Jvm.Cond.selects "FigureHouse$Page" ({ cls := "FigureHouse$Page", name := "madeFrom", desc := "(I)I" } : Jvm.MethodName) ({ cls := "FigureHouse$Page", name := "madeFrom", desc := "(I)I" } : Jvm.MethodName)) ∈ lw_tbl := tb_4 (List.mem_of_getElem? (i := 4) rfl)
set_option maxRecDepth 100000 in
theorem wd_826 : (Jvm.Cond.methodLink "FigureHouse$Page" (115 : Nat) ({ cls := "FigureHouse$Page", name := "endOf", desc := "(I)I" } : Jvm.MethodName)) ∈ lw_tbl := tb_4 (List.mem_of_getElem? (i := 6) rfl)
set_option maxRecDepth 100000 in
theorem wd_827 : (Jvm.Cond.instanceMethod ({ cls := "FigureHouse$Page", name := "endOf", desc := "(I)I" } : Jvm.MethodName)) ∈ lw_tbl := tb_4 (List.mem_of_getElem? (i := 7) rfl)
set_option maxRecDepth 100000 in
theorem wd_828 : (Jvm.Cond.selects "FigureHouse$Page" ({ cls := "FigureHouse$Page", name := "endOf", desc := "(I)I" } : Jvm.MethodName) ({ cls := "FigureHouse$Page", name := "endOf", desc := "(I)I" } : Jvm.MethodName)) ∈ lw_tbl := tb_4 (List.mem_of_getElem? (i := 8) rfl)
set_option maxRecDepth 100000 in
theorem wd_830 : (Jvm.Cond.methodLink "FigureHouse$Page" (112 : Nat) ({ cls := "FigureHouse$Page", name := "startOf", desc := "(I)I" } : Jvm.MethodName)) ∈ lw_tbl := tb_4 (List.mem_of_getElem? (i := 10) rfl)
set_option maxRecDepth 100000 in
theorem wd_831 : (Jvm.Cond.instanceMethod ({ cls := "FigureHouse$Page", name := "startOf", desc := "(I)I" } : Jvm.MethodName)) ∈ lw_tbl := tb_4 (List.mem_of_getElem? (i := 11) rfl)
set_option maxRecDepth 100000 in
theorem wd_832 : (Jvm.Cond.selects "FigureHouse$Page" ({ cls := "FigureHouse$Page", name := "startOf", desc := "(I)I" } : Jvm.MethodName) ({ cls := "FigureHouse$Page", name := "startOf", desc := "(I)I" } : Jvm.MethodName)) ∈ lw_tbl := tb_4 (List.mem_of_getElem? (i := 12) rfl)
set_option maxRecDepth 100000 in
theorem wd_834 : (Jvm.Cond.methodLink "FigureHouse$Page" (118 : Nat) ({ cls := "java/lang/Math", name := "min", desc := "(II)I" } : Jvm.MethodName)) ∈ lw_tbl := tb_4 (List.mem_of_getElem? (i := 14) rfl)
set_option maxRecDepth 100000 in
theorem wd_835 : (Jvm.Cond.methodLink "FigureHouse$Figures" (45 : Nat) ({ cls := "FigureHouse$Page", name := "endOf", desc := "(I)I" } : Jvm.MethodName)) ∈ lw_tbl := tb_4 (List.mem_of_getElem? (i := 15) rfl)
set_option maxRecDepth 100000 in
theorem wd_836 : (Jvm.Cond.methodLink "FigureHouse$Figures" (48 : Nat) ({ cls := "FigureHouse$Page", name := "startOf", desc := "(I)I" } : Jvm.MethodName)) ∈ lw_tbl := tb_4 (List.mem_of_getElem? (i := 16) rfl)
set_option maxRecDepth 100000 in
theorem wd_837 : (Jvm.Cond.methodLink "FigureHouse$Figures" (58 : Nat) ({ cls := "FigureHouse$Figures", name := "difference", desc := "(II)J" } : Jvm.MethodName)) ∈ lw_tbl := tb_4 (List.mem_of_getElem? (i := 17) rfl)
set_option maxRecDepth 100000 in
theorem wd_838 : (Jvm.Cond.instanceMethod ({ cls := "FigureHouse$Figures", name := "difference", desc := "(II)J" } : Jvm.MethodName)) ∈ lw_tbl := tb_4 (List.mem_of_getElem? (i := 18) rfl)
set_option maxRecDepth 100000 in
theorem wd_839 : (Jvm.Cond.selects "FigureHouse$Figures" ({ cls := "FigureHouse$Figures", name := "difference", desc := "(II)J" } : Jvm.MethodName) ({ cls := "FigureHouse$Figures", name := "difference", desc := "(II)J" } : Jvm.MethodName)) ∈ lw_tbl := tb_4 (List.mem_of_getElem? (i := 19) rfl)
set_option maxRecDepth 100000 in
theorem wd_841 : (Jvm.Cond.methodLink "FigureHouse$Figures" (62 : Nat) ({ cls := "FigureHouse$Figures", name := "makeLine", desc := "(II)V" } : Jvm.MethodName)) ∈ lw_tbl := tb_4 (List.mem_of_getElem? (i := 21) rfl)
set_option maxRecDepth 100000 in
theorem wd_843 : (Jvm.Cond.instanceMethod ({ cls := "FigureHouse$Figures", name := "makeLine", desc := "(II)V" } : Jvm.MethodName)) ∈ lw_tbl := tb_4 (List.mem_of_getElem? (i := 23) rfl)
set_option maxRecDepth 100000 in
theorem wd_845 : (Jvm.Cond.methodLinkNest "FigureHouse$Figures" (27 : Nat) ({ cls := "FigureHouse", name := "within", desc := "(III)Z" } : Jvm.MethodName) "FigureHouse") ∈ lw_tbl := tb_4 (List.mem_of_getElem? (i := 25) rfl)
set_option maxRecDepth 100000 in
theorem wd_846 : (Jvm.Cond.methodLink "FigureHouse" (212 : Nat) ({ cls := "java/lang/System", name := "arraycopy", desc := "(Ljava/lang/Object;ILjava/lang/Object;II)V" } : Jvm.MethodName)) ∈ lw_tbl := tb_4 (List.mem_of_getElem? (i := 26) rfl)
set_option maxRecDepth 100000 in
theorem wd_847 : (Jvm.Cond.methodLink "FigureHouseLaw" (105 : Nat) ({ cls := "FigureHouse", name := "paged", desc := "(II)I" } : Jvm.MethodName)) ∈ lw_tbl := tb_4 (List.mem_of_getElem? (i := 27) rfl)
set_option maxRecDepth 100000 in
theorem wd_848 : (Jvm.Cond.instanceMethod ({ cls := "FigureHouse", name := "paged", desc := "(II)I" } : Jvm.MethodName)) ∈ lw_tbl := tb_4 (List.mem_of_getElem? (i := 28) rfl)
set_option maxRecDepth 100000 in
theorem wd_849 : (Jvm.Cond.selects "FigureHouse" ({ cls := "FigureHouse", name := "paged", desc := "(II)I" } : Jvm.MethodName) ({ cls := "FigureHouse", name := "paged", desc := "(II)I" } : Jvm.MethodName)) ∈ lw_tbl := tb_4 (List.mem_of_getElem? (i := 29) rfl)
set_option maxRecDepth 100000 in
theorem wd_851 : (Jvm.Cond.methodLink "FigureHouse" (218 : Nat) ({ cls := "FigureHouse", name := "pageAt", desc := "(I)LFigureHouse$Page;" } : Jvm.MethodName)) ∈ lw_tbl := tb_4 (List.mem_of_getElem? (i := 31) rfl)
set_option maxRecDepth 100000 in
theorem wd_853 : (Jvm.Cond.instanceMethod ({ cls := "FigureHouse", name := "pageAt", desc := "(I)LFigureHouse$Page;" } : Jvm.MethodName)) ∈ lw_tbl := tb_4 (List.mem_of_getElem? (i := 33) rfl)
set_option maxRecDepth 100000 in
theorem wd_855 : (Jvm.Cond.methodLink "FigureHouse" (222 : Nat) ({ cls := "FigureHouse$Page", name := "told", desc := "(I)I" } : Jvm.MethodName)) ∈ lw_tbl := tb_4 (List.mem_of_getElem? (i := 35) rfl)
set_option maxRecDepth 100000 in
theorem wd_856 : (Jvm.Cond.instanceMethod ({ cls := "FigureHouse$Page", name := "told", desc := "(I)I" } : Jvm.MethodName)) ∈ lw_tbl := tb_4 (List.mem_of_getElem? (i := 36) rfl)
set_option maxRecDepth 100000 in
theorem wd_857 : (Jvm.Cond.selects "FigureHouse$Page" ({ cls := "FigureHouse$Page", name := "told", desc := "(I)I" } : Jvm.MethodName) ({ cls := "FigureHouse$Page", name := "told", desc := "(I)I" } : Jvm.MethodName)) ∈ lw_tbl := tb_4 (List.mem_of_getElem? (i := 37) rfl)
set_option maxRecDepth 100000 in
theorem wd_859 : (Jvm.Cond.methodLink "FigureHouse$Page" (105 : Nat) ({ cls := "FigureHouse$Page", name := "blocks", desc := "()I" } : Jvm.MethodName)) ∈ lw_tbl := tb_4 (List.mem_of_getElem? (i := 39) rfl)
set_option maxRecDepth 100000 in
theorem wd_860 : (Jvm.Cond.methodLink "FigureHouse$Page" (109 : Nat) ({ cls := "FigureHouse$Page", name := "pivots", desc := "()I" } : Jvm.MethodName)) ∈ lw_tbl := tb_4 (List.mem_of_getElem? (i := 40) rfl)
set_option maxRecDepth 100000 in
theorem wd_861 : (Jvm.Cond.instanceMethod ({ cls := "FigureHouse$Page", name := "pivots", desc := "()I" } : Jvm.MethodName)) ∈ lw_tbl := tb_4 (List.mem_of_getElem? (i := 41) rfl)
set_option maxRecDepth 100000 in
theorem wd_862 : (Jvm.Cond.selects "FigureHouse$Page" ({ cls := "FigureHouse$Page", name := "pivots", desc := "()I" } : Jvm.MethodName) ({ cls := "FigureHouse$Page", name := "pivots", desc := "()I" } : Jvm.MethodName)) ∈ lw_tbl := tb_4 (List.mem_of_getElem? (i := 42) rfl)
set_option maxRecDepth 100000 in
theorem wd_864 : (Jvm.Cond.methodLink "FigureHouse$Page" (124 : Nat) ({ cls := "FigureHouse$Page", name := "madeFrom", desc := "(I)I" } : Jvm.MethodName)) ∈ lw_tbl := tb_4 (List.mem_of_getElem? (i := 44) rfl)
set_option maxRecDepth 100000 in
theorem wd_865 : (Jvm.Cond.methodLink "FigureHouseLaw" (110 : Nat) ({ cls := "FigureHouse", name := "lined", desc := "(III)I" } : Jvm.MethodName)) ∈ lw_tbl := tb_4 (List.mem_of_getElem? (i := 45) rfl)
set_option maxRecDepth 100000 in
theorem wd_866 : (Jvm.Cond.instanceMethod ({ cls := "FigureHouse", name := "lined", desc := "(III)I" } : Jvm.MethodName)) ∈ lw_tbl := tb_4 (List.mem_of_getElem? (i := 46) rfl)
set_option maxRecDepth 100000 in
theorem wd_867 : (Jvm.Cond.selects "FigureHouse" ({ cls := "FigureHouse", name := "lined", desc := "(III)I" } : Jvm.MethodName) ({ cls := "FigureHouse", name := "lined", desc := "(III)I" } : Jvm.MethodName)) ∈ lw_tbl := tb_4 (List.mem_of_getElem? (i := 47) rfl)
set_option maxRecDepth 100000 in
theorem wd_869 : (Jvm.Cond.methodLink "FigureHouse" (225 : Nat) ({ cls := "FigureHouse", name := "pageWith", desc := "(II)LFigureHouse$Page;" } : Jvm.MethodName)) ∈ lw_tbl := tb_4 (List.mem_of_getElem? (i := 49) rfl)
set_option maxRecDepth 100000 in
theorem wd_871 : (Jvm.Cond.instanceMethod ({ cls := "FigureHouse", name := "pageWith", desc := "(II)LFigureHouse$Page;" } : Jvm.MethodName)) ∈ lw_tbl := tb_4 (List.mem_of_getElem? (i := 51) rfl)
set_option maxRecDepth 100000 in
theorem wd_873 : (Jvm.Cond.methodLink "FigureHouse" (472 : Nat) ({ cls := "FigureHouse$Page", name := "hasLine", desc := "(I)Z" } : Jvm.MethodName)) ∈ lw_tbl := tb_4 (List.mem_of_getElem? (i := 53) rfl)
set_option maxRecDepth 100000 in
theorem wd_874 : (Jvm.Cond.instanceMethod ({ cls := "FigureHouse$Page", name := "hasLine", desc := "(I)Z" } : Jvm.MethodName)) ∈ lw_tbl := tb_4 (List.mem_of_getElem? (i := 54) rfl)
set_option maxRecDepth 100000 in
theorem wd_875 : (Jvm.Cond.selects "FigureHouse$Page" ({ cls := "FigureHouse$Page", name := "hasLine", desc := "(I)Z" } : Jvm.MethodName) ({ cls := "FigureHouse$Page", name := "hasLine", desc := "(I)Z" } : Jvm.MethodName)) ∈ lw_tbl := tb_4 (List.mem_of_getElem? (i := 55) rfl)
set_option maxRecDepth 100000 in
theorem wd_877 : (Jvm.Cond.methodLink "FigureHouse" (229 : Nat) ({ cls := "FigureHouse$Page", name := "toldOf", desc := "(II)I" } : Jvm.MethodName)) ∈ lw_tbl := tb_4 (List.mem_of_getElem? (i := 57) rfl)
set_option maxRecDepth 100000 in
theorem wd_878 : (Jvm.Cond.instanceMethod ({ cls := "FigureHouse$Page", name := "toldOf", desc := "(II)I" } : Jvm.MethodName)) ∈ lw_tbl := tb_4 (List.mem_of_getElem? (i := 58) rfl)
set_option maxRecDepth 100000 in
theorem wd_879 : (Jvm.Cond.selects "FigureHouse$Page" ({ cls := "FigureHouse$Page", name := "toldOf", desc := "(II)I" } : Jvm.MethodName) ({ cls := "FigureHouse$Page", name := "toldOf", desc := "(II)I" } : Jvm.MethodName)) ∈ lw_tbl := tb_4 (List.mem_of_getElem? (i := 59) rfl)
set_option maxRecDepth 100000 in
theorem wd_881 : (Jvm.Cond.methodLink "FigureHouseLaw" (122 : Nat) ({ cls := "FigureHouse", name := "slip", desc := "(IIII)I" } : Jvm.MethodName)) ∈ lw_tbl := tb_4 (List.mem_of_getElem? (i := 61) rfl)
set_option maxRecDepth 100000 in
theorem wd_882 : (Jvm.Cond.instanceMethod ({ cls := "FigureHouse", name := "slip", desc := "(IIII)I" } : Jvm.MethodName)) ∈ lw_tbl := tb_4 (List.mem_of_getElem? (i := 62) rfl)
set_option maxRecDepth 100000 in
theorem wd_883 : (Jvm.Cond.selects "FigureHouse" ({ cls := "FigureHouse", name := "slip", desc := "(IIII)I" } : Jvm.MethodName) ({ cls := "FigureHouse", name := "slip", desc := "(IIII)I" } : Jvm.MethodName)) ∈ lw_tbl := tb_4 (List.mem_of_getElem? (i := 63) rfl)
set_option maxRecDepth 100000 in
theorem wd_885 : (Jvm.Cond.methodLink "FigureHouse" (244 : Nat) ({ cls := "FigureHouse$Page", name := "canSlip", desc := "(II)Z" } : Jvm.MethodName)) ∈ lw_tbl := tb_4 (List.mem_of_getElem? (i := 65) rfl)
set_option maxRecDepth 100000 in
theorem wd_886 : (Jvm.Cond.instanceMethod ({ cls := "FigureHouse$Page", name := "canSlip", desc := "(II)Z" } : Jvm.MethodName)) ∈ lw_tbl := tb_4 (List.mem_of_getElem? (i := 66) rfl)
set_option maxRecDepth 100000 in
theorem wd_887 : (Jvm.Cond.selects "FigureHouse$Page" ({ cls := "FigureHouse$Page", name := "canSlip", desc := "(II)Z" } : Jvm.MethodName) ({ cls := "FigureHouse$Page", name := "canSlip", desc := "(II)Z" } : Jvm.MethodName)) ∈ lw_tbl := tb_4 (List.mem_of_getElem? (i := 67) rfl)
set_option maxRecDepth 100000 in
theorem wd_889 : (Jvm.Cond.methodLink "FigureHouse$Page" (127 : Nat) ({ cls := "FigureHouse$Page", name := "isMade", desc := "(I)Z" } : Jvm.MethodName)) ∈ lw_tbl := tb_4 (List.mem_of_getElem? (i := 69) rfl)
set_option maxRecDepth 100000 in
theorem wd_890 : (Jvm.Cond.instanceMethod ({ cls := "FigureHouse$Page", name := "isMade", desc := "(I)Z" } : Jvm.MethodName)) ∈ lw_tbl := tb_4 (List.mem_of_getElem? (i := 70) rfl)
set_option maxRecDepth 100000 in
theorem wd_891 : (Jvm.Cond.selects "FigureHouse$Page" ({ cls := "FigureHouse$Page", name := "isMade", desc := "(I)Z" } : Jvm.MethodName) ({ cls := "FigureHouse$Page", name := "isMade", desc := "(I)Z" } : Jvm.MethodName)) ∈ lw_tbl := tb_4 (List.mem_of_getElem? (i := 71) rfl)
set_option maxRecDepth 100000 in
theorem wd_893 : (Jvm.Cond.constant "FigureHouse" (247 : Nat) (-1000000 : Int32)) ∈ lw_tbl := tb_4 (List.mem_of_getElem? (i := 73) rfl)
set_option maxRecDepth 100000 in
theorem wd_894 : (Jvm.Cond.constant "FigureHouse" (248 : Nat) (1000000 : Int32)) ∈ lw_tbl := tb_4 (List.mem_of_getElem? (i := 74) rfl)
set_option maxRecDepth 100000 in
theorem wd_895 : (Jvm.Cond.classLink "FigureHouse" (249 : Nat) "FigureHouse$Slip") ∈ lw_tbl := tb_4 (List.mem_of_getElem? (i := 75) rfl)
set_option maxRecDepth 100000 in
theorem wd_896 : (Jvm.Cond.instantiable "FigureHouse$Slip" (6 : Nat)) ∈ lw_tbl := tb_4 (List.mem_of_getElem? (i := 76) rfl)
set_option maxRecDepth 100000 in
theorem wd_897 : (Jvm.Cond.methodLink "FigureHouse" (251 : Nat) ({ cls := "FigureHouse$Slip", name := "<init>", desc := "(IIIII)V" } : Jvm.MethodName)) ∈ lw_tbl := tb_4 (List.mem_of_getElem? (i := 77) rfl)
set_option maxRecDepth 100000 in
theorem wd_898 : (Jvm.Cond.instanceMethod ({ cls := "FigureHouse$Slip", name := "<init>", desc := "(IIIII)V" } : Jvm.MethodName)) ∈ lw_tbl := tb_4 (List.mem_of_getElem? (i := 78) rfl)
set_option maxRecDepth 100000 in
theorem wd_900 : (Jvm.Cond.methodLink "FigureHouse$Slip" (3 : Nat) ({ cls := "java/lang/Object", name := "<init>", desc := "()V" } : Jvm.MethodName)) ∈ lw_tbl := tb_4 (List.mem_of_getElem? (i := 80) rfl)
set_option maxRecDepth 100000 in
theorem wd_901 : (Jvm.Cond.fieldLink "FigureHouse$Slip" (9 : Nat) "FigureHouse$Slip" "page" "I") ∈ lw_tbl := tb_4 (List.mem_of_getElem? (i := 81) rfl)
set_option maxRecDepth 100000 in
theorem wd_902 : (Jvm.Cond.fieldLink "FigureHouse" (319 : Nat) "FigureHouse$Slip" "page" "I") ∈ lw_tbl := tb_4 (List.mem_of_getElem? (i := 82) rfl)
set_option maxRecDepth 100000 in
theorem wd_903 : (Jvm.Cond.fieldLink "FigureHouse$Slip" (15 : Nat) "FigureHouse$Slip" "line" "I") ∈ lw_tbl := tb_4 (List.mem_of_getElem? (i := 83) rfl)
set_option maxRecDepth 100000 in
theorem wd_904 : (Jvm.Cond.fieldLink "FigureHouse$Figures" (84 : Nat) "FigureHouse$Slip" "line" "I") ∈ lw_tbl := tb_4 (List.mem_of_getElem? (i := 84) rfl)
set_option maxRecDepth 100000 in
theorem wd_905 : (Jvm.Cond.fieldLink "FigureHouse" (475 : Nat) "FigureHouse$Slip" "line" "I") ∈ lw_tbl := tb_4 (List.mem_of_getElem? (i := 85) rfl)
set_option maxRecDepth 100000 in
theorem wd_906 : (Jvm.Cond.fieldLink "FigureHouse$Slip" (18 : Nat) "FigureHouse$Slip" "column" "I") ∈ lw_tbl := tb_4 (List.mem_of_getElem? (i := 86) rfl)
set_option maxRecDepth 100000 in
theorem wd_907 : (Jvm.Cond.fieldLink "FigureHouse$Figures" (96 : Nat) "FigureHouse$Slip" "column" "I") ∈ lw_tbl := tb_4 (List.mem_of_getElem? (i := 87) rfl)
set_option maxRecDepth 100000 in
theorem wd_908 : (Jvm.Cond.fieldLink "FigureHouse" (476 : Nat) "FigureHouse$Slip" "column" "I") ∈ lw_tbl := tb_4 (List.mem_of_getElem? (i := 88) rfl)
set_option maxRecDepth 100000 in
theorem wd_909 : (Jvm.Cond.fieldLink "FigureHouse$Slip" (21 : Nat) "FigureHouse$Slip" "amount" "I") ∈ lw_tbl := tb_4 (List.mem_of_getElem? (i := 89) rfl)
set_option maxRecDepth 100000 in
theorem wd_910 : (Jvm.Cond.fieldLink "FigureHouse$Figures" (99 : Nat) "FigureHouse$Slip" "amount" "I") ∈ lw_tbl := tb_4 (List.mem_of_getElem? (i := 90) rfl)
set_option maxRecDepth 100000 in
theorem wd_911 : (Jvm.Cond.fieldLink "FigureHouse" (479 : Nat) "FigureHouse$Slip" "amount" "I") ∈ lw_tbl := tb_4 (List.mem_of_getElem? (i := 91) rfl)
set_option maxRecDepth 100000 in
theorem wd_912 : (Jvm.Cond.fieldLink "FigureHouse$Slip" (24 : Nat) "FigureHouse$Slip" "told" "I") ∈ lw_tbl := tb_4 (List.mem_of_getElem? (i := 92) rfl)
set_option maxRecDepth 100000 in
theorem wd_913 : (Jvm.Cond.fieldLink "FigureHouse$Slip" (27 : Nat) "FigureHouse$Slip" "mended" "I") ∈ lw_tbl := tb_4 (List.mem_of_getElem? (i := 93) rfl)
set_option maxRecDepth 100000 in
theorem wd_914 : (Jvm.Cond.fieldLink "FigureHouse" (257 : Nat) "FigureHouse$Slip" "mended" "I") ∈ lw_tbl := tb_4 (List.mem_of_getElem? (i := 94) rfl)
set_option maxRecDepth 100000 in
theorem wd_928 : (Jvm.Cond.methodLink "FigureHouseLaw" (126 : Nat) ({ cls := "FigureHouse", name := "mend", desc := "(I)Z" } : Jvm.MethodName)) ∈ lw_tbl := tb_4 (List.mem_of_getElem? (i := 108) rfl)
set_option maxRecDepth 100000 in
theorem wd_929 : (Jvm.Cond.instanceMethod ({ cls := "FigureHouse", name := "mend", desc := "(I)Z" } : Jvm.MethodName)) ∈ lw_tbl := tb_4 (List.mem_of_getElem? (i := 109) rfl)
set_option maxRecDepth 100000 in
theorem wd_930 : (Jvm.Cond.selects "FigureHouse" ({ cls := "FigureHouse", name := "mend", desc := "(I)Z" } : Jvm.MethodName) ({ cls := "FigureHouse", name := "mend", desc := "(I)Z" } : Jvm.MethodName)) ∈ lw_tbl := tb_4 (List.mem_of_getElem? (i := 110) rfl)
set_option maxRecDepth 100000 in
theorem wd_932 : (Jvm.Cond.methodLink "FigureHouseLaw" (130 : Nat) ({ cls := "FigureHouse", name := "kind", desc := "(III)I" } : Jvm.MethodName)) ∈ lw_tbl := tb_4 (List.mem_of_getElem? (i := 112) rfl)
set_option maxRecDepth 100000 in
theorem wd_933 : (Jvm.Cond.instanceMethod ({ cls := "FigureHouse", name := "kind", desc := "(III)I" } : Jvm.MethodName)) ∈ lw_tbl := tb_4 (List.mem_of_getElem? (i := 113) rfl)
set_option maxRecDepth 100000 in
theorem wd_934 : (Jvm.Cond.selects "FigureHouse" ({ cls := "FigureHouse", name := "kind", desc := "(III)I" } : Jvm.MethodName) ({ cls := "FigureHouse", name := "kind", desc := "(III)I" } : Jvm.MethodName)) ∈ lw_tbl := tb_4 (List.mem_of_getElem? (i := 114) rfl)
set_option maxRecDepth 100000 in
theorem wd_936 : (Jvm.Cond.methodLink "FigureHouse" (233 : Nat) ({ cls := "FigureHouse", name := "madeWith", desc := "(III)LFigureHouse$Page;" } : Jvm.MethodName)) ∈ lw_tbl := tb_4 (List.mem_of_getElem? (i := 116) rfl)
set_option maxRecDepth 100000 in
theorem wd_938 : (Jvm.Cond.instanceMethod ({ cls := "FigureHouse", name := "madeWith", desc := "(III)LFigureHouse$Page;" } : Jvm.MethodName)) ∈ lw_tbl := tb_4 (List.mem_of_getElem? (i := 118) rfl)
set_option maxRecDepth 100000 in
theorem wd_940 : (Jvm.Cond.methodLink "FigureHouse" (291 : Nat) ({ cls := "FigureHouse", name := "madePage", desc := "(II)LFigureHouse$Page;" } : Jvm.MethodName)) ∈ lw_tbl := tb_4 (List.mem_of_getElem? (i := 120) rfl)
set_option maxRecDepth 100000 in
theorem wd_942 : (Jvm.Cond.instanceMethod ({ cls := "FigureHouse", name := "madePage", desc := "(II)LFigureHouse$Page;" } : Jvm.MethodName)) ∈ lw_tbl := tb_4 (List.mem_of_getElem? (i := 122) rfl)
set_option maxRecDepth 100000 in
theorem wd_944 : (Jvm.Cond.methodLink "FigureHouse" (322 : Nat) ({ cls := "FigureHouse$Slip", name := "isKnownIn", desc := "(I)Z" } : Jvm.MethodName)) ∈ lw_tbl := tb_4 (List.mem_of_getElem? (i := 124) rfl)
set_option maxRecDepth 100000 in
theorem wd_945 : (Jvm.Cond.instanceMethod ({ cls := "FigureHouse$Slip", name := "isKnownIn", desc := "(I)Z" } : Jvm.MethodName)) ∈ lw_tbl := tb_4 (List.mem_of_getElem? (i := 125) rfl)
set_option maxRecDepth 100000 in
theorem wd_946 : (Jvm.Cond.selects "FigureHouse$Slip" ({ cls := "FigureHouse$Slip", name := "isKnownIn", desc := "(I)Z" } : Jvm.MethodName) ({ cls := "FigureHouse$Slip", name := "isKnownIn", desc := "(I)Z" } : Jvm.MethodName)) ∈ lw_tbl := tb_4 (List.mem_of_getElem? (i := 126) rfl)
set_option maxRecDepth 100000 in
theorem wd_948 : (Jvm.Cond.methodLink "FigureHouse$Slip" (30 : Nat) ({ cls := "FigureHouse$Slip", name := "isMendedBy", desc := "(I)Z" } : Jvm.MethodName)) ∈ lw_tbl := tb_4 (List.mem_of_getElem? (i := 128) rfl)
set_option maxRecDepth 100000 in
theorem wd_949 : (Jvm.Cond.instanceMethod ({ cls := "FigureHouse$Slip", name := "isMendedBy", desc := "(I)Z" } : Jvm.MethodName)) ∈ lw_tbl := tb_4 (List.mem_of_getElem? (i := 129) rfl)
set_option maxRecDepth 100000 in
theorem wd_950 : (Jvm.Cond.selects "FigureHouse$Slip" ({ cls := "FigureHouse$Slip", name := "isMendedBy", desc := "(I)Z" } : Jvm.MethodName) ({ cls := "FigureHouse$Slip", name := "isMendedBy", desc := "(I)Z" } : Jvm.MethodName)) ∈ lw_tbl := tb_4 (List.mem_of_getElem? (i := 130) rfl)
set_option maxRecDepth 100000 in
theorem wd_952 : (Jvm.Cond.methodLink "FigureHouse" (482 : Nat) ({ cls := "FigureHouse$Figures", name := "add", desc := "(IIJ)V" } : Jvm.MethodName)) ∈ lw_tbl := tb_4 (List.mem_of_getElem? (i := 132) rfl)
set_option maxRecDepth 100000 in
theorem wd_953 : (Jvm.Cond.instanceMethod ({ cls := "FigureHouse$Figures", name := "add", desc := "(IIJ)V" } : Jvm.MethodName)) ∈ lw_tbl := tb_4 (List.mem_of_getElem? (i := 133) rfl)
set_option maxRecDepth 100000 in
theorem wd_954 : (Jvm.Cond.selects "FigureHouse$Figures" ({ cls := "FigureHouse$Figures", name := "add", desc := "(IIJ)V" } : Jvm.MethodName) ({ cls := "FigureHouse$Figures", name := "add", desc := "(IIJ)V" } : Jvm.MethodName)) ∈ lw_tbl := tb_4 (List.mem_of_getElem? (i := 134) rfl)
set_option maxRecDepth 100000 in
theorem wd_956 : (Jvm.Cond.methodLink "FigureHouse" (260 : Nat) ({ cls := "FigureHouse", name := "wasMended", desc := "(III)Z" } : Jvm.MethodName)) ∈ lw_tbl := tb_4 (List.mem_of_getElem? (i := 136) rfl)
set_option maxRecDepth 100000 in
theorem wd_958 : (Jvm.Cond.instanceMethod ({ cls := "FigureHouse", name := "wasMended", desc := "(III)Z" } : Jvm.MethodName)) ∈ lw_tbl := tb_4 (List.mem_of_getElem? (i := 138) rfl)
set_option maxRecDepth 100000 in
theorem wd_960 : (Jvm.Cond.methodLink "FigureHouse" (485 : Nat) ({ cls := "FigureHouse$Slip", name := "isMendedBy", desc := "(I)Z" } : Jvm.MethodName)) ∈ lw_tbl := tb_4 (List.mem_of_getElem? (i := 140) rfl)
set_option maxRecDepth 100000 in
theorem wd_961 : (Jvm.Cond.methodLink "FigureHouse" (263 : Nat) ({ cls := "FigureHouse$Page", name := "blockOf", desc := "(I)I" } : Jvm.MethodName)) ∈ lw_tbl := tb_4 (List.mem_of_getElem? (i := 141) rfl)
set_option maxRecDepth 100000 in
theorem wd_962 : (Jvm.Cond.methodLink "FigureHouse" (266 : Nat) ({ cls := "FigureHouse$Page", name := "endOf", desc := "(I)I" } : Jvm.MethodName)) ∈ lw_tbl := tb_4 (List.mem_of_getElem? (i := 142) rfl)
set_option maxRecDepth 100000 in
theorem wd_963 : (Jvm.Cond.methodLink "FigureHouse" (272 : Nat) ({ cls := "java/lang/Math", name := "min", desc := "(II)I" } : Jvm.MethodName)) ∈ lw_tbl := tb_4 (List.mem_of_getElem? (i := 143) rfl)
set_option maxRecDepth 100000 in
theorem wd_964 : (Jvm.Cond.methodLink "FigureHouse" (277 : Nat) ({ cls := "FigureHouse$Figures", name := "failsFrom", desc := "(LFigureHouse$Page;II)I" } : Jvm.MethodName)) ∈ lw_tbl := tb_4 (List.mem_of_getElem? (i := 144) rfl)
set_option maxRecDepth 100000 in
theorem wd_965 : (Jvm.Cond.instanceMethod ({ cls := "FigureHouse$Figures", name := "failsFrom", desc := "(LFigureHouse$Page;II)I" } : Jvm.MethodName)) ∈ lw_tbl := tb_4 (List.mem_of_getElem? (i := 145) rfl)
set_option maxRecDepth 100000 in
theorem wd_966 : (Jvm.Cond.selects "FigureHouse$Figures" ({ cls := "FigureHouse$Figures", name := "failsFrom", desc := "(LFigureHouse$Page;II)I" } : Jvm.MethodName) ({ cls := "FigureHouse$Figures", name := "failsFrom", desc := "(LFigureHouse$Page;II)I" } : Jvm.MethodName)) ∈ lw_tbl := tb_4 (List.mem_of_getElem? (i := 146) rfl)
set_option maxRecDepth 100000 in
theorem wd_968 : (Jvm.Cond.methodLink "FigureHouse$Figures" (80 : Nat) ({ cls := "FigureHouse$Figures", name := "holds", desc := "(LFigureHouse$Page;I)Z" } : Jvm.MethodName)) ∈ lw_tbl := tb_4 (List.mem_of_getElem? (i := 148) rfl)
set_option maxRecDepth 100000 in
theorem wd_969 : (Jvm.Cond.instanceMethod ({ cls := "FigureHouse$Figures", name := "holds", desc := "(LFigureHouse$Page;I)Z" } : Jvm.MethodName)) ∈ lw_tbl := tb_4 (List.mem_of_getElem? (i := 149) rfl)
set_option maxRecDepth 100000 in
theorem wd_970 : (Jvm.Cond.selects "FigureHouse$Figures" ({ cls := "FigureHouse$Figures", name := "holds", desc := "(LFigureHouse$Page;I)Z" } : Jvm.MethodName) ({ cls := "FigureHouse$Figures", name := "holds", desc := "(LFigureHouse$Page;I)Z" } : Jvm.MethodName)) ∈ lw_tbl := tb_4 (List.mem_of_getElem? (i := 150) rfl)
set_option maxRecDepth 100000 in
theorem wd_972 : (Jvm.Cond.methodLink "FigureHouse$Figures" (110 : Nat) ({ cls := "FigureHouse$Figures", name := "addsUp", desc := "(LFigureHouse$Page;I)Z" } : Jvm.MethodName)) ∈ lw_tbl := tb_4 (List.mem_of_getElem? (i := 152) rfl)
set_option maxRecDepth 100000 in
theorem wd_974 : (Jvm.Cond.instanceMethod ({ cls := "FigureHouse$Figures", name := "addsUp", desc := "(LFigureHouse$Page;I)Z" } : Jvm.MethodName)) ∈ lw_tbl := tb_4 (List.mem_of_getElem? (i := 154) rfl)
set_option maxRecDepth 100000 in
theorem wd_976 : (Jvm.Cond.methodLink "FigureHouse$Figures" (113 : Nat) ({ cls := "FigureHouse$Page", name := "isMade", desc := "(I)Z" } : Jvm.MethodName)) ∈ lw_tbl := tb_4 (List.mem_of_getElem? (i := 156) rfl)
set_option maxRecDepth 100000 in
theorem wd_977 : (Jvm.Cond.methodLink "FigureHouse$Figures" (89 : Nat) ({ cls := "FigureHouse$Page", name := "blockOf", desc := "(I)I" } : Jvm.MethodName)) ∈ lw_tbl := tb_4 (List.mem_of_getElem? (i := 157) rfl)
set_option maxRecDepth 100000 in
theorem wd_978 : (Jvm.Cond.methodLink "FigureHouse$Figures" (117 : Nat) ({ cls := "java/lang/Math", name := "abs", desc := "(J)J" } : Jvm.MethodName)) ∈ lw_tbl := tb_4 (List.mem_of_getElem? (i := 158) rfl)
set_option maxRecDepth 100000 in
theorem wd_979 : (Jvm.Cond.static ({ cls := "java/lang/Math", name := "abs", desc := "(J)J" } : Jvm.MethodName)) ∈ lw_tbl := tb_4 (List.mem_of_getElem? (i := 159) rfl)
set_option maxRecDepth 100000 in
theorem wd_981 : (Jvm.Cond.methodLink "FigureHouse$Figures" (126 : Nat) ({ cls := "java/lang/Math", name := "max", desc := "(II)I" } : Jvm.MethodName)) ∈ lw_tbl := tb_4 (List.mem_of_getElem? (i := 161) rfl)
set_option maxRecDepth 100000 in
theorem wd_982 : (Jvm.Cond.methodLink "FigureHouse" (281 : Nat) ({ cls := "FigureHouse$Page", name := "isMade", desc := "(I)Z" } : Jvm.MethodName)) ∈ lw_tbl := tb_4 (List.mem_of_getElem? (i := 162) rfl)
set_option maxRecDepth 100000 in
theorem wd_983 : (Jvm.Cond.methodLink "FigureHouseLaw" (141 : Nat) ({ cls := "FigureHouse", name := "wrong", desc := "(II)I" } : Jvm.MethodName)) ∈ lw_tbl := tb_4 (List.mem_of_getElem? (i := 163) rfl)
set_option maxRecDepth 100000 in
theorem wd_984 : (Jvm.Cond.instanceMethod ({ cls := "FigureHouse", name := "wrong", desc := "(II)I" } : Jvm.MethodName)) ∈ lw_tbl := tb_4 (List.mem_of_getElem? (i := 164) rfl)
set_option maxRecDepth 100000 in
theorem wd_985 : (Jvm.Cond.selects "FigureHouse" ({ cls := "FigureHouse", name := "wrong", desc := "(II)I" } : Jvm.MethodName) ({ cls := "FigureHouse", name := "wrong", desc := "(II)I" } : Jvm.MethodName)) ∈ lw_tbl := tb_4 (List.mem_of_getElem? (i := 165) rfl)
set_option maxRecDepth 100000 in
theorem wd_987 : (Jvm.Cond.methodLink "FigureHouse" (284 : Nat) ({ cls := "FigureHouse$Figures", name := "keptOf", desc := "(LFigureHouse$Page;I)J" } : Jvm.MethodName)) ∈ lw_tbl := tb_4 (List.mem_of_getElem? (i := 167) rfl)
set_option maxRecDepth 100000 in
theorem wd_988 : (Jvm.Cond.instanceMethod ({ cls := "FigureHouse$Figures", name := "keptOf", desc := "(LFigureHouse$Page;I)J" } : Jvm.MethodName)) ∈ lw_tbl := tb_4 (List.mem_of_getElem? (i := 168) rfl)
set_option maxRecDepth 100000 in
theorem wd_989 : (Jvm.Cond.selects "FigureHouse$Figures" ({ cls := "FigureHouse$Figures", name := "keptOf", desc := "(LFigureHouse$Page;I)J" } : Jvm.MethodName) ({ cls := "FigureHouse$Figures", name := "keptOf", desc := "(LFigureHouse$Page;I)J" } : Jvm.MethodName)) ∈ lw_tbl := tb_4 (List.mem_of_getElem? (i := 169) rfl)
set_option maxRecDepth 100000 in
theorem wd_991 : (Jvm.Cond.methodLinkNest "FigureHouse$Figures" (69 : Nat) ({ cls := "FigureHouse", name := "ten", desc := "(I)J" } : Jvm.MethodName) "FigureHouse") ∈ lw_tbl := tb_4 (List.mem_of_getElem? (i := 171) rfl)
set_option maxRecDepth 100000 in
theorem wd_992 : (Jvm.Cond.methodLinkNest "FigureHouse$Figures" (76 : Nat) ({ cls := "FigureHouse", name := "rounded", desc := "(JJI)J" } : Jvm.MethodName) "FigureHouse") ∈ lw_tbl := tb_4 (List.mem_of_getElem? (i := 172) rfl)
set_option maxRecDepth 100000 in
theorem wd_993 : (Jvm.Cond.methodLink "FigureHouseLaw" (148 : Nat) ({ cls := "FigureHouse", name := "bound", desc := "(II)J" } : Jvm.MethodName)) ∈ lw_tbl := tb_4 (List.mem_of_getElem? (i := 173) rfl)
set_option maxRecDepth 100000 in
theorem wd_994 : (Jvm.Cond.instanceMethod ({ cls := "FigureHouse", name := "bound", desc := "(II)J" } : Jvm.MethodName)) ∈ lw_tbl := tb_4 (List.mem_of_getElem? (i := 174) rfl)
set_option maxRecDepth 100000 in
theorem wd_995 : (Jvm.Cond.selects "FigureHouse" ({ cls := "FigureHouse", name := "bound", desc := "(II)J" } : Jvm.MethodName) ({ cls := "FigureHouse", name := "bound", desc := "(II)J" } : Jvm.MethodName)) ∈ lw_tbl := tb_4 (List.mem_of_getElem? (i := 175) rfl)
set_option maxRecDepth 100000 in
theorem wd_997 : (Jvm.Cond.methodLink "FigureHouse" (300 : Nat) ({ cls := "FigureHouse$Page", name := "boundOf", desc := "(I)J" } : Jvm.MethodName)) ∈ lw_tbl := tb_4 (List.mem_of_getElem? (i := 177) rfl)
set_option maxRecDepth 100000 in
theorem wd_998 : (Jvm.Cond.instanceMethod ({ cls := "FigureHouse$Page", name := "boundOf", desc := "(I)J" } : Jvm.MethodName)) ∈ lw_tbl := tb_4 (List.mem_of_getElem? (i := 178) rfl)
set_option maxRecDepth 100000 in
theorem wd_999 : (Jvm.Cond.selects "FigureHouse$Page" ({ cls := "FigureHouse$Page", name := "boundOf", desc := "(I)J" } : Jvm.MethodName) ({ cls := "FigureHouse$Page", name := "boundOf", desc := "(I)J" } : Jvm.MethodName)) ∈ lw_tbl := tb_4 (List.mem_of_getElem? (i := 179) rfl)
set_option maxRecDepth 100000 in
theorem wd_1001 : (Jvm.Cond.methodLinkNest "FigureHouse$Page" (130 : Nat) ({ cls := "FigureHouse", name := "choose", desc := "(II)J" } : Jvm.MethodName) "FigureHouse") ∈ lw_tbl := tb_4 (List.mem_of_getElem? (i := 181) rfl)
set_option maxRecDepth 100000 in
theorem wd_1002 : (Jvm.Cond.static ({ cls := "FigureHouse", name := "choose", desc := "(II)J" } : Jvm.MethodName)) ∈ lw_tbl := tb_4 (List.mem_of_getElem? (i := 182) rfl)
set_option maxRecDepth 100000 in
theorem wd_1004 : (Jvm.Cond.constantLong "FigureHouse$Page" (134 : Nat) (2 : Int64)) ∈ lw_tbl := tb_4 (List.mem_of_getElem? (i := 184) rfl)
set_option maxRecDepth 100000 in
theorem wd_1005 : (Jvm.Cond.methodLink "FigureHouseLaw" (152 : Nat) ({ cls := "FigureHouse", name := "drift", desc := "(I)Z" } : Jvm.MethodName)) ∈ lw_tbl := tb_4 (List.mem_of_getElem? (i := 185) rfl)
set_option maxRecDepth 100000 in
theorem wd_1006 : (Jvm.Cond.instanceMethod ({ cls := "FigureHouse", name := "drift", desc := "(I)Z" } : Jvm.MethodName)) ∈ lw_tbl := tb_4 (List.mem_of_getElem? (i := 186) rfl)
set_option maxRecDepth 100000 in
theorem wd_1007 : (Jvm.Cond.selects "FigureHouse" ({ cls := "FigureHouse", name := "drift", desc := "(I)Z" } : Jvm.MethodName) ({ cls := "FigureHouse", name := "drift", desc := "(I)Z" } : Jvm.MethodName)) ∈ lw_tbl := tb_4 (List.mem_of_getElem? (i := 187) rfl)
set_option maxRecDepth 100000 in
theorem wd_1009 : (Jvm.Cond.methodLink "FigureHouseLaw" (156 : Nat) ({ cls := "FigureHouse", name := "safe", desc := "(II)I" } : Jvm.MethodName)) ∈ lw_tbl := tb_4 (List.mem_of_getElem? (i := 189) rfl)
set_option maxRecDepth 100000 in
theorem wd_1010 : (Jvm.Cond.instanceMethod ({ cls := "FigureHouse", name := "safe", desc := "(II)I" } : Jvm.MethodName)) ∈ lw_tbl := tb_4 (List.mem_of_getElem? (i := 190) rfl)
set_option maxRecDepth 100000 in
theorem wd_1011 : (Jvm.Cond.selects "FigureHouse" ({ cls := "FigureHouse", name := "safe", desc := "(II)I" } : Jvm.MethodName) ({ cls := "FigureHouse", name := "safe", desc := "(II)I" } : Jvm.MethodName)) ∈ lw_tbl := tb_4 (List.mem_of_getElem? (i := 191) rfl)
set_option maxRecDepth 100000 in
theorem wd_1013 : (Jvm.Cond.methodLink "FigureHouse" (311 : Nat) ({ cls := "java/lang/Math", name := "abs", desc := "(J)J" } : Jvm.MethodName)) ∈ lw_tbl := tb_4 (List.mem_of_getElem? (i := 193) rfl)
set_option maxRecDepth 100000 in
theorem wd_1014 : (Jvm.Cond.methodLink "FigureHouseLaw" (160 : Nat) ({ cls := "FigureHouse", name := "check", desc := "(III)I" } : Jvm.MethodName)) ∈ lw_tbl := tb_4 (List.mem_of_getElem? (i := 194) rfl)
set_option maxRecDepth 100000 in
theorem wd_1015 : (Jvm.Cond.instanceMethod ({ cls := "FigureHouse", name := "check", desc := "(III)I" } : Jvm.MethodName)) ∈ lw_tbl := tb_4 (List.mem_of_getElem? (i := 195) rfl)
set_option maxRecDepth 100000 in
theorem wd_1016 : (Jvm.Cond.selects "FigureHouse" ({ cls := "FigureHouse", name := "check", desc := "(III)I" } : Jvm.MethodName) ({ cls := "FigureHouse", name := "check", desc := "(III)I" } : Jvm.MethodName)) ∈ lw_tbl := tb_4 (List.mem_of_getElem? (i := 196) rfl)
set_option maxRecDepth 100000 in
theorem wd_1018 : (Jvm.Cond.methodLink "FigureHouse" (315 : Nat) ({ cls := "FigureHouse$Figures", name := "holds", desc := "(LFigureHouse$Page;I)Z" } : Jvm.MethodName)) ∈ lw_tbl := tb_4 (List.mem_of_getElem? (i := 198) rfl)
set_option maxRecDepth 100000 in
theorem wd_1019 : (Jvm.Cond.methodLink "FigureHouseLaw" (164 : Nat) ({ cls := "FigureHouse", name := "fails", desc := "(II)I" } : Jvm.MethodName)) ∈ lw_tbl := tb_4 (List.mem_of_getElem? (i := 199) rfl)
set_option maxRecDepth 100000 in
theorem wd_1020 : (Jvm.Cond.instanceMethod ({ cls := "FigureHouse", name := "fails", desc := "(II)I" } : Jvm.MethodName)) ∈ lw_tbl := tb_4 (List.mem_of_getElem? (i := 200) rfl)
set_option maxRecDepth 100000 in
theorem wd_1021 : (Jvm.Cond.selects "FigureHouse" ({ cls := "FigureHouse", name := "fails", desc := "(II)I" } : Jvm.MethodName) ({ cls := "FigureHouse", name := "fails", desc := "(II)I" } : Jvm.MethodName)) ∈ lw_tbl := tb_4 (List.mem_of_getElem? (i := 201) rfl)
set_option maxRecDepth 100000 in
theorem wd_1023 : (Jvm.Cond.methodLink "FigureHouseLaw" (168 : Nat) ({ cls := "FigureHouse", name := "unseen", desc := "(II)I" } : Jvm.MethodName)) ∈ lw_tbl := tb_4 (List.mem_of_getElem? (i := 203) rfl)
set_option maxRecDepth 100000 in
theorem wd_1024 : (Jvm.Cond.instanceMethod ({ cls := "FigureHouse", name := "unseen", desc := "(II)I" } : Jvm.MethodName)) ∈ lw_tbl := tb_4 (List.mem_of_getElem? (i := 204) rfl)
set_option maxRecDepth 100000 in
theorem wd_1025 : (Jvm.Cond.selects "FigureHouse" ({ cls := "FigureHouse", name := "unseen", desc := "(II)I" } : Jvm.MethodName) ({ cls := "FigureHouse", name := "unseen", desc := "(II)I" } : Jvm.MethodName)) ∈ lw_tbl := tb_4 (List.mem_of_getElem? (i := 205) rfl)
set_option maxRecDepth 100000 in
theorem wd_1027 : (Jvm.Cond.methodLink "FigureHouse" (325 : Nat) ({ cls := "FigureHouse$Figures", name := "failsMoreBy", desc := "(LFigureHouse$Page;LFigureHouse$Slip;)I" } : Jvm.MethodName)) ∈ lw_tbl := tb_4 (List.mem_of_getElem? (i := 207) rfl)
set_option maxRecDepth 100000 in
theorem wd_1028 : (Jvm.Cond.instanceMethod ({ cls := "FigureHouse$Figures", name := "failsMoreBy", desc := "(LFigureHouse$Page;LFigureHouse$Slip;)I" } : Jvm.MethodName)) ∈ lw_tbl := tb_4 (List.mem_of_getElem? (i := 208) rfl)
set_option maxRecDepth 100000 in
theorem wd_1029 : (Jvm.Cond.selects "FigureHouse$Figures" ({ cls := "FigureHouse$Figures", name := "failsMoreBy", desc := "(LFigureHouse$Page;LFigureHouse$Slip;)I" } : Jvm.MethodName) ({ cls := "FigureHouse$Figures", name := "failsMoreBy", desc := "(LFigureHouse$Page;LFigureHouse$Slip;)I" } : Jvm.MethodName)) ∈ lw_tbl := tb_4 (List.mem_of_getElem? (i := 209) rfl)
set_option maxRecDepth 100000 in
theorem wd_1031 : (Jvm.Cond.methodLink "FigureHouse$Figures" (92 : Nat) ({ cls := "FigureHouse$Figures", name := "failsFrom", desc := "(LFigureHouse$Page;II)I" } : Jvm.MethodName)) ∈ lw_tbl := tb_4 (List.mem_of_getElem? (i := 211) rfl)
set_option maxRecDepth 100000 in
theorem wd_1032 : (Jvm.Cond.methodLink "FigureHouse$Figures" (102 : Nat) ({ cls := "FigureHouse$Figures", name := "add", desc := "(IIJ)V" } : Jvm.MethodName)) ∈ lw_tbl := tb_4 (List.mem_of_getElem? (i := 212) rfl)
set_option maxRecDepth 100000 in
theorem wd_1033 : (Jvm.Cond.methodLink "FigureHouseLaw" (172 : Nat) ({ cls := "FigureHouse", name := "healed", desc := "(II)I" } : Jvm.MethodName)) ∈ lw_tbl := tb_4 (List.mem_of_getElem? (i := 213) rfl)
set_option maxRecDepth 100000 in
theorem wd_1034 : (Jvm.Cond.instanceMethod ({ cls := "FigureHouse", name := "healed", desc := "(II)I" } : Jvm.MethodName)) ∈ lw_tbl := tb_4 (List.mem_of_getElem? (i := 214) rfl)
set_option maxRecDepth 100000 in
theorem wd_1035 : (Jvm.Cond.selects "FigureHouse" ({ cls := "FigureHouse", name := "healed", desc := "(II)I" } : Jvm.MethodName) ({ cls := "FigureHouse", name := "healed", desc := "(II)I" } : Jvm.MethodName)) ∈ lw_tbl := tb_4 (List.mem_of_getElem? (i := 215) rfl)
set_option maxRecDepth 100000 in
theorem wd_1037 : (Jvm.Cond.methodLink "FigureHouse" (329 : Nat) ({ cls := "FigureHouse$Page", name := "blocks", desc := "()I" } : Jvm.MethodName)) ∈ lw_tbl := tb_4 (List.mem_of_getElem? (i := 217) rfl)
set_option maxRecDepth 100000 in
theorem wd_1038 : (Jvm.Cond.methodLink "FigureHouse" (332 : Nat) ({ cls := "FigureHouse", name := "firstSlipped", desc := "(ILFigureHouse$Page;II)I" } : Jvm.MethodName)) ∈ lw_tbl := tb_4 (List.mem_of_getElem? (i := 218) rfl)
set_option maxRecDepth 100000 in
theorem wd_1040 : (Jvm.Cond.instanceMethod ({ cls := "FigureHouse", name := "firstSlipped", desc := "(ILFigureHouse$Page;II)I" } : Jvm.MethodName)) ∈ lw_tbl := tb_4 (List.mem_of_getElem? (i := 220) rfl)
set_option maxRecDepth 100000 in
theorem wd_1042 : (Jvm.Cond.methodLink "FigureHouseLaw" (176 : Nat) ({ cls := "FigureHouse", name := "spread", desc := "(III)I" } : Jvm.MethodName)) ∈ lw_tbl := tb_4 (List.mem_of_getElem? (i := 222) rfl)
set_option maxRecDepth 100000 in
theorem wd_1043 : (Jvm.Cond.instanceMethod ({ cls := "FigureHouse", name := "spread", desc := "(III)I" } : Jvm.MethodName)) ∈ lw_tbl := tb_4 (List.mem_of_getElem? (i := 223) rfl)
set_option maxRecDepth 100000 in
theorem wd_1044 : (Jvm.Cond.selects "FigureHouse" ({ cls := "FigureHouse", name := "spread", desc := "(III)I" } : Jvm.MethodName) ({ cls := "FigureHouse", name := "spread", desc := "(III)I" } : Jvm.MethodName)) ∈ lw_tbl := tb_4 (List.mem_of_getElem? (i := 224) rfl)
set_option maxRecDepth 100000 in
theorem wd_1046 : (Jvm.Cond.methodLink "FigureHouseLaw" (180 : Nat) ({ cls := "FigureHouse", name := "least", desc := "(III)I" } : Jvm.MethodName)) ∈ lw_tbl := tb_4 (List.mem_of_getElem? (i := 226) rfl)
set_option maxRecDepth 100000 in
theorem wd_1047 : (Jvm.Cond.instanceMethod ({ cls := "FigureHouse", name := "least", desc := "(III)I" } : Jvm.MethodName)) ∈ lw_tbl := tb_4 (List.mem_of_getElem? (i := 227) rfl)
set_option maxRecDepth 100000 in
theorem wd_1048 : (Jvm.Cond.selects "FigureHouse" ({ cls := "FigureHouse", name := "least", desc := "(III)I" } : Jvm.MethodName) ({ cls := "FigureHouse", name := "least", desc := "(III)I" } : Jvm.MethodName)) ∈ lw_tbl := tb_4 (List.mem_of_getElem? (i := 228) rfl)
set_option maxRecDepth 100000 in
theorem wd_1050 : (Jvm.Cond.methodLink "FigureHouse" (336 : Nat) ({ cls := "FigureHouse", name := "isExplained", desc := "(III)Z" } : Jvm.MethodName)) ∈ lw_tbl := tb_4 (List.mem_of_getElem? (i := 230) rfl)
set_option maxRecDepth 100000 in
theorem wd_1052 : (Jvm.Cond.instanceMethod ({ cls := "FigureHouse", name := "isExplained", desc := "(III)Z" } : Jvm.MethodName)) ∈ lw_tbl := tb_4 (List.mem_of_getElem? (i := 232) rfl)
set_option maxRecDepth 100000 in
theorem wd_1054 : (Jvm.Cond.methodLink "FigureHouse" (488 : Nat) ({ cls := "FigureHouse$Search", name := "explains", desc := "(LFigureHouse$Figures;LFigureHouse$Page;I)Z" } : Jvm.MethodName)) ∈ lw_tbl := tb_4 (List.mem_of_getElem? (i := 234) rfl)
set_option maxRecDepth 100000 in
theorem wd_1055 : (Jvm.Cond.instanceMethod ({ cls := "FigureHouse$Search", name := "explains", desc := "(LFigureHouse$Figures;LFigureHouse$Page;I)Z" } : Jvm.MethodName)) ∈ lw_tbl := tb_4 (List.mem_of_getElem? (i := 235) rfl)
set_option maxRecDepth 100000 in
theorem wd_1056 : (Jvm.Cond.selects "FigureHouse$Search" ({ cls := "FigureHouse$Search", name := "explains", desc := "(LFigureHouse$Figures;LFigureHouse$Page;I)Z" } : Jvm.MethodName) ({ cls := "FigureHouse$Search", name := "explains", desc := "(LFigureHouse$Figures;LFigureHouse$Page;I)Z" } : Jvm.MethodName)) ∈ lw_tbl := tb_4 (List.mem_of_getElem? (i := 236) rfl)
set_option maxRecDepth 100000 in
theorem wd_1058 : (Jvm.Cond.methodLink "FigureHouse$Search" (41 : Nat) ({ cls := "FigureHouse$Page", name := "endOf", desc := "(I)I" } : Jvm.MethodName)) ∈ lw_tbl := tb_4 (List.mem_of_getElem? (i := 238) rfl)
set_option maxRecDepth 100000 in
theorem wd_1059 : (Jvm.Cond.methodLink "FigureHouse$Search" (54 : Nat) ({ cls := "FigureHouse$Page", name := "madeFrom", desc := "(I)I" } : Jvm.MethodName)) ∈ lw_tbl := tb_4 (List.mem_of_getElem? (i := 239) rfl)
set_option maxRecDepth 100000 in
theorem wd_1060 : (Jvm.Cond.methodLink "FigureHouse$Search" (57 : Nat) ({ cls := "FigureHouse$Figures", name := "difference", desc := "(II)J" } : Jvm.MethodName)) ∈ lw_tbl := tb_5 (List.mem_of_getElem? (i := 0) rfl)
set_option maxRecDepth 100000 in
theorem wd_1061 : (Jvm.Cond.methodLink "FigureHouse$Search" (63 : Nat) ({ cls := "FigureHouse$Search", name := "seek", desc := "(II)V" } : Jvm.MethodName)) ∈ lw_tbl := tb_5 (List.mem_of_getElem? (i := 1) rfl)
set_option maxRecDepth 100000 in
theorem wd_1063 : (Jvm.Cond.instanceMethod ({ cls := "FigureHouse$Search", name := "seek", desc := "(II)V" } : Jvm.MethodName)) ∈ lw_tbl := tb_5 (List.mem_of_getElem? (i := 3) rfl)
set_option maxRecDepth 100000 in
theorem wd_1065 : (Jvm.Cond.methodLink "FigureHouse$Search" (67 : Nat) ({ cls := "FigureHouse$Search", name := "keep", desc := "(I)V" } : Jvm.MethodName)) ∈ lw_tbl := tb_5 (List.mem_of_getElem? (i := 5) rfl)
set_option maxRecDepth 100000 in
theorem wd_1067 : (Jvm.Cond.instanceMethod ({ cls := "FigureHouse$Search", name := "keep", desc := "(I)V" } : Jvm.MethodName)) ∈ lw_tbl := tb_5 (List.mem_of_getElem? (i := 7) rfl)
set_option maxRecDepth 100000 in
theorem wd_1069 : (Jvm.Cond.methodLink "FigureHouse$Search" (71 : Nat) ({ cls := "FigureHouse$Search", name := "blame", desc := "(II)V" } : Jvm.MethodName)) ∈ lw_tbl := tb_5 (List.mem_of_getElem? (i := 9) rfl)
set_option maxRecDepth 100000 in
theorem wd_1071 : (Jvm.Cond.instanceMethod ({ cls := "FigureHouse$Search", name := "blame", desc := "(II)V" } : Jvm.MethodName)) ∈ lw_tbl := tb_5 (List.mem_of_getElem? (i := 11) rfl)
set_option maxRecDepth 100000 in
theorem wd_1073 : (Jvm.Cond.methodLink "FigureHouse$Search" (74 : Nat) ({ cls := "FigureHouse$Search", name := "addTo", desc := "(IIJ)V" } : Jvm.MethodName)) ∈ lw_tbl := tb_5 (List.mem_of_getElem? (i := 13) rfl)
set_option maxRecDepth 100000 in
theorem wd_1075 : (Jvm.Cond.instanceMethod ({ cls := "FigureHouse$Search", name := "addTo", desc := "(IIJ)V" } : Jvm.MethodName)) ∈ lw_tbl := tb_5 (List.mem_of_getElem? (i := 15) rfl)
set_option maxRecDepth 100000 in
theorem wd_1077 : (Jvm.Cond.methodLink "FigureHouseLaw" (184 : Nat) ({ cls := "FigureHouse", name := "ways", desc := "(III)I" } : Jvm.MethodName)) ∈ lw_tbl := tb_5 (List.mem_of_getElem? (i := 17) rfl)
set_option maxRecDepth 100000 in
theorem wd_1078 : (Jvm.Cond.instanceMethod ({ cls := "FigureHouse", name := "ways", desc := "(III)I" } : Jvm.MethodName)) ∈ lw_tbl := tb_5 (List.mem_of_getElem? (i := 18) rfl)
set_option maxRecDepth 100000 in
theorem wd_1079 : (Jvm.Cond.selects "FigureHouse" ({ cls := "FigureHouse", name := "ways", desc := "(III)I" } : Jvm.MethodName) ({ cls := "FigureHouse", name := "ways", desc := "(III)I" } : Jvm.MethodName)) ∈ lw_tbl := tb_5 (List.mem_of_getElem? (i := 19) rfl)
set_option maxRecDepth 100000 in
theorem wd_1081 : (Jvm.Cond.methodLink "FigureHouseLaw" (188 : Nat) ({ cls := "FigureHouse", name := "first", desc := "(IIIII)J" } : Jvm.MethodName)) ∈ lw_tbl := tb_5 (List.mem_of_getElem? (i := 21) rfl)
set_option maxRecDepth 100000 in
theorem wd_1082 : (Jvm.Cond.instanceMethod ({ cls := "FigureHouse", name := "first", desc := "(IIIII)J" } : Jvm.MethodName)) ∈ lw_tbl := tb_5 (List.mem_of_getElem? (i := 22) rfl)
set_option maxRecDepth 100000 in
theorem wd_1083 : (Jvm.Cond.selects "FigureHouse" ({ cls := "FigureHouse", name := "first", desc := "(IIIII)J" } : Jvm.MethodName) ({ cls := "FigureHouse", name := "first", desc := "(IIIII)J" } : Jvm.MethodName)) ∈ lw_tbl := tb_5 (List.mem_of_getElem? (i := 23) rfl)
set_option maxRecDepth 100000 in
theorem wd_1085 : (Jvm.Cond.constantLong "FigureHouse" (345 : Nat) (-2000000000 : Int64)) ∈ lw_tbl := tb_5 (List.mem_of_getElem? (i := 25) rfl)
set_option maxRecDepth 100000 in
theorem wd_1086 : (Jvm.Cond.methodLink "FigureHouseLaw" (193 : Nat) ({ cls := "FigureHouse", name := "rate", desc := "(I)I" } : Jvm.MethodName)) ∈ lw_tbl := tb_5 (List.mem_of_getElem? (i := 26) rfl)
set_option maxRecDepth 100000 in
theorem wd_1087 : (Jvm.Cond.instanceMethod ({ cls := "FigureHouse", name := "rate", desc := "(I)I" } : Jvm.MethodName)) ∈ lw_tbl := tb_5 (List.mem_of_getElem? (i := 27) rfl)
set_option maxRecDepth 100000 in
theorem wd_1088 : (Jvm.Cond.selects "FigureHouse" ({ cls := "FigureHouse", name := "rate", desc := "(I)I" } : Jvm.MethodName) ({ cls := "FigureHouse", name := "rate", desc := "(I)I" } : Jvm.MethodName)) ∈ lw_tbl := tb_5 (List.mem_of_getElem? (i := 28) rfl)
set_option maxRecDepth 100000 in
theorem wd_1090 : (Jvm.Cond.methodLink "FigureHouse" (356 : Nat) ({ cls := "FigureHouse", name := "isHand", desc := "(I)Z" } : Jvm.MethodName)) ∈ lw_tbl := tb_5 (List.mem_of_getElem? (i := 30) rfl)
set_option maxRecDepth 100000 in
theorem wd_1091 : (Jvm.Cond.methodLink "FigureHouseLaw" (197 : Nat) ({ cls := "FigureHouse", name := "shut", desc := "(III)I" } : Jvm.MethodName)) ∈ lw_tbl := tb_5 (List.mem_of_getElem? (i := 31) rfl)
set_option maxRecDepth 100000 in
theorem wd_1092 : (Jvm.Cond.instanceMethod ({ cls := "FigureHouse", name := "shut", desc := "(III)I" } : Jvm.MethodName)) ∈ lw_tbl := tb_5 (List.mem_of_getElem? (i := 32) rfl)
set_option maxRecDepth 100000 in
theorem wd_1093 : (Jvm.Cond.selects "FigureHouse" ({ cls := "FigureHouse", name := "shut", desc := "(III)I" } : Jvm.MethodName) ({ cls := "FigureHouse", name := "shut", desc := "(III)I" } : Jvm.MethodName)) ∈ lw_tbl := tb_5 (List.mem_of_getElem? (i := 33) rfl)
set_option maxRecDepth 100000 in
theorem wd_1095 : (Jvm.Cond.methodLink "FigureHouseLaw" (201 : Nat) ({ cls := "FigureHouse", name := "doubled", desc := "(IIIII)Z" } : Jvm.MethodName)) ∈ lw_tbl := tb_5 (List.mem_of_getElem? (i := 35) rfl)
set_option maxRecDepth 100000 in
theorem wd_1096 : (Jvm.Cond.instanceMethod ({ cls := "FigureHouse", name := "doubled", desc := "(IIIII)Z" } : Jvm.MethodName)) ∈ lw_tbl := tb_5 (List.mem_of_getElem? (i := 36) rfl)
set_option maxRecDepth 100000 in
theorem wd_1097 : (Jvm.Cond.selects "FigureHouse" ({ cls := "FigureHouse", name := "doubled", desc := "(IIIII)Z" } : Jvm.MethodName) ({ cls := "FigureHouse", name := "doubled", desc := "(IIIII)Z" } : Jvm.MethodName)) ∈ lw_tbl := tb_5 (List.mem_of_getElem? (i := 37) rfl)
set_option maxRecDepth 100000 in
theorem wd_1099 : (Jvm.Cond.methodLink "FigureHouseLaw" (206 : Nat) ({ cls := "FigureHouse", name := "left", desc := "(II)I" } : Jvm.MethodName)) ∈ lw_tbl := tb_5 (List.mem_of_getElem? (i := 39) rfl)
set_option maxRecDepth 100000 in
theorem wd_1100 : (Jvm.Cond.instanceMethod ({ cls := "FigureHouse", name := "left", desc := "(II)I" } : Jvm.MethodName)) ∈ lw_tbl := tb_5 (List.mem_of_getElem? (i := 40) rfl)
set_option maxRecDepth 100000 in
theorem wd_1101 : (Jvm.Cond.selects "FigureHouse" ({ cls := "FigureHouse", name := "left", desc := "(II)I" } : Jvm.MethodName) ({ cls := "FigureHouse", name := "left", desc := "(II)I" } : Jvm.MethodName)) ∈ lw_tbl := tb_5 (List.mem_of_getElem? (i := 41) rfl)
set_option maxRecDepth 100000 in
theorem wd_1103 : (Jvm.Cond.methodLink "FigureHouseLaw" (210 : Nat) ({ cls := "FigureHouse", name := "set", desc := "(I)Z" } : Jvm.MethodName)) ∈ lw_tbl := tb_5 (List.mem_of_getElem? (i := 43) rfl)
set_option maxRecDepth 100000 in
theorem wd_1104 : (Jvm.Cond.instanceMethod ({ cls := "FigureHouse", name := "set", desc := "(I)Z" } : Jvm.MethodName)) ∈ lw_tbl := tb_5 (List.mem_of_getElem? (i := 44) rfl)
set_option maxRecDepth 100000 in
theorem wd_1105 : (Jvm.Cond.selects "FigureHouse" ({ cls := "FigureHouse", name := "set", desc := "(I)Z" } : Jvm.MethodName) ({ cls := "FigureHouse", name := "set", desc := "(I)Z" } : Jvm.MethodName)) ∈ lw_tbl := tb_5 (List.mem_of_getElem? (i := 45) rfl)
set_option maxRecDepth 100000 in
theorem wd_1107 : (Jvm.Cond.methodLink "FigureHouse" (365 : Nat) ({ cls := "FigureHouse", name := "known", desc := "()I" } : Jvm.MethodName)) ∈ lw_tbl := tb_5 (List.mem_of_getElem? (i := 47) rfl)
set_option maxRecDepth 100000 in
theorem wd_1108 : (Jvm.Cond.methodLink "FigureHouse" (368 : Nat) ({ cls := "FigureHouse$Page", name := "pressSlips", desc := "()I" } : Jvm.MethodName)) ∈ lw_tbl := tb_5 (List.mem_of_getElem? (i := 48) rfl)
set_option maxRecDepth 100000 in
theorem wd_1109 : (Jvm.Cond.instanceMethod ({ cls := "FigureHouse$Page", name := "pressSlips", desc := "()I" } : Jvm.MethodName)) ∈ lw_tbl := tb_5 (List.mem_of_getElem? (i := 49) rfl)
set_option maxRecDepth 100000 in
theorem wd_1110 : (Jvm.Cond.selects "FigureHouse$Page" ({ cls := "FigureHouse$Page", name := "pressSlips", desc := "()I" } : Jvm.MethodName) ({ cls := "FigureHouse$Page", name := "pressSlips", desc := "()I" } : Jvm.MethodName)) ∈ lw_tbl := tb_5 (List.mem_of_getElem? (i := 50) rfl)
set_option maxRecDepth 100000 in
theorem wd_1112 : (Jvm.Cond.methodLink "FigureHouse$Page" (152 : Nat) ({ cls := "FigureHouse$Page", name := "isPressed", desc := "(II)Z" } : Jvm.MethodName)) ∈ lw_tbl := tb_5 (List.mem_of_getElem? (i := 52) rfl)
set_option maxRecDepth 100000 in
theorem wd_1113 : (Jvm.Cond.instanceMethod ({ cls := "FigureHouse$Page", name := "isPressed", desc := "(II)Z" } : Jvm.MethodName)) ∈ lw_tbl := tb_5 (List.mem_of_getElem? (i := 53) rfl)
set_option maxRecDepth 100000 in
theorem wd_1114 : (Jvm.Cond.selects "FigureHouse$Page" ({ cls := "FigureHouse$Page", name := "isPressed", desc := "(II)Z" } : Jvm.MethodName) ({ cls := "FigureHouse$Page", name := "isPressed", desc := "(II)Z" } : Jvm.MethodName)) ∈ lw_tbl := tb_5 (List.mem_of_getElem? (i := 54) rfl)
set_option maxRecDepth 100000 in
theorem wd_1116 : (Jvm.Cond.methodLink "FigureHouse$Page" (145 : Nat) ({ cls := "FigureHouse$Page", name := "pressedAt", desc := "(II)J" } : Jvm.MethodName)) ∈ lw_tbl := tb_5 (List.mem_of_getElem? (i := 56) rfl)
set_option maxRecDepth 100000 in
theorem wd_1118 : (Jvm.Cond.instanceMethod ({ cls := "FigureHouse$Page", name := "pressedAt", desc := "(II)J" } : Jvm.MethodName)) ∈ lw_tbl := tb_5 (List.mem_of_getElem? (i := 58) rfl)
set_option maxRecDepth 100000 in
theorem wd_1120 : (Jvm.Cond.methodLink "FigureHouse$Page" (142 : Nat) ({ cls := "FigureHouse$Page", name := "hasLine", desc := "(I)Z" } : Jvm.MethodName)) ∈ lw_tbl := tb_5 (List.mem_of_getElem? (i := 60) rfl)
set_option maxRecDepth 100000 in
theorem wd_1121 : (Jvm.Cond.constantLong "FigureHouse$Page" (148 : Nat) (15 : Int64)) ∈ lw_tbl := tb_5 (List.mem_of_getElem? (i := 61) rfl)
set_option maxRecDepth 100000 in
theorem wd_1122 : (Jvm.Cond.methodLink "FigureHouse" (370 : Nat) ({ cls := "FigureHouse$Page", name := "setEmpty", desc := "()V" } : Jvm.MethodName)) ∈ lw_tbl := tb_5 (List.mem_of_getElem? (i := 62) rfl)
set_option maxRecDepth 100000 in
theorem wd_1123 : (Jvm.Cond.instanceMethod ({ cls := "FigureHouse$Page", name := "setEmpty", desc := "()V" } : Jvm.MethodName)) ∈ lw_tbl := tb_5 (List.mem_of_getElem? (i := 63) rfl)
set_option maxRecDepth 100000 in
theorem wd_1124 : (Jvm.Cond.selects "FigureHouse$Page" ({ cls := "FigureHouse$Page", name := "setEmpty", desc := "()V" } : Jvm.MethodName) ({ cls := "FigureHouse$Page", name := "setEmpty", desc := "()V" } : Jvm.MethodName)) ∈ lw_tbl := tb_5 (List.mem_of_getElem? (i := 64) rfl)
set_option maxRecDepth 100000 in
theorem wd_1126 : (Jvm.Cond.methodLink "FigureHouse$Page" (136 : Nat) ({ cls := "java/util/Arrays", name := "fill", desc := "([JJ)V" } : Jvm.MethodName)) ∈ lw_tbl := tb_5 (List.mem_of_getElem? (i := 66) rfl)
set_option maxRecDepth 100000 in
theorem wd_1127 : (Jvm.Cond.methodLink "FigureHouse" (373 : Nat) ({ cls := "FigureHouse$Page", name := "setLine", desc := "(IJ)V" } : Jvm.MethodName)) ∈ lw_tbl := tb_5 (List.mem_of_getElem? (i := 67) rfl)
set_option maxRecDepth 100000 in
theorem wd_1128 : (Jvm.Cond.instanceMethod ({ cls := "FigureHouse$Page", name := "setLine", desc := "(IJ)V" } : Jvm.MethodName)) ∈ lw_tbl := tb_5 (List.mem_of_getElem? (i := 68) rfl)
set_option maxRecDepth 100000 in
theorem wd_1129 : (Jvm.Cond.selects "FigureHouse$Page" ({ cls := "FigureHouse$Page", name := "setLine", desc := "(IJ)V" } : Jvm.MethodName) ({ cls := "FigureHouse$Page", name := "setLine", desc := "(IJ)V" } : Jvm.MethodName)) ∈ lw_tbl := tb_5 (List.mem_of_getElem? (i := 69) rfl)
set_option maxRecDepth 100000 in
theorem wd_1131 : (Jvm.Cond.methodLink "FigureHouseLaw" (214 : Nat) ({ cls := "FigureHouse", name := "press", desc := "(IIII)Z" } : Jvm.MethodName)) ∈ lw_tbl := tb_5 (List.mem_of_getElem? (i := 71) rfl)
set_option maxRecDepth 100000 in
theorem wd_1132 : (Jvm.Cond.instanceMethod ({ cls := "FigureHouse", name := "press", desc := "(IIII)Z" } : Jvm.MethodName)) ∈ lw_tbl := tb_5 (List.mem_of_getElem? (i := 72) rfl)
set_option maxRecDepth 100000 in
theorem wd_1133 : (Jvm.Cond.selects "FigureHouse" ({ cls := "FigureHouse", name := "press", desc := "(IIII)Z" } : Jvm.MethodName) ({ cls := "FigureHouse", name := "press", desc := "(IIII)Z" } : Jvm.MethodName)) ∈ lw_tbl := tb_5 (List.mem_of_getElem? (i := 73) rfl)
set_option maxRecDepth 100000 in
theorem wd_1135 : (Jvm.Cond.methodLink "FigureHouse" (377 : Nat) ({ cls := "FigureHouse", name := "plateWith", desc := "(II)LFigureHouse$Page;" } : Jvm.MethodName)) ∈ lw_tbl := tb_5 (List.mem_of_getElem? (i := 75) rfl)
set_option maxRecDepth 100000 in
theorem wd_1137 : (Jvm.Cond.instanceMethod ({ cls := "FigureHouse", name := "plateWith", desc := "(II)LFigureHouse$Page;" } : Jvm.MethodName)) ∈ lw_tbl := tb_5 (List.mem_of_getElem? (i := 77) rfl)
set_option maxRecDepth 100000 in
theorem wd_1139 : (Jvm.Cond.methodLink "FigureHouse" (389 : Nat) ({ cls := "FigureHouse$Page", name := "isSet", desc := "()Z" } : Jvm.MethodName)) ∈ lw_tbl := tb_5 (List.mem_of_getElem? (i := 79) rfl)
set_option maxRecDepth 100000 in
theorem wd_1140 : (Jvm.Cond.instanceMethod ({ cls := "FigureHouse$Page", name := "isSet", desc := "()Z" } : Jvm.MethodName)) ∈ lw_tbl := tb_5 (List.mem_of_getElem? (i := 80) rfl)
set_option maxRecDepth 100000 in
theorem wd_1141 : (Jvm.Cond.selects "FigureHouse$Page" ({ cls := "FigureHouse$Page", name := "isSet", desc := "()Z" } : Jvm.MethodName) ({ cls := "FigureHouse$Page", name := "isSet", desc := "()Z" } : Jvm.MethodName)) ∈ lw_tbl := tb_5 (List.mem_of_getElem? (i := 81) rfl)
set_option maxRecDepth 100000 in
theorem wd_1143 : (Jvm.Cond.methodLink "FigureHouse" (380 : Nat) ({ cls := "FigureHouse$Page", name := "isPressed", desc := "(II)Z" } : Jvm.MethodName)) ∈ lw_tbl := tb_5 (List.mem_of_getElem? (i := 83) rfl)
set_option maxRecDepth 100000 in
theorem wd_1144 : (Jvm.Cond.methodLink "FigureHouse" (383 : Nat) ({ cls := "FigureHouse$Page", name := "pressFigure", desc := "(III)V" } : Jvm.MethodName)) ∈ lw_tbl := tb_5 (List.mem_of_getElem? (i := 84) rfl)
set_option maxRecDepth 100000 in
theorem wd_1145 : (Jvm.Cond.instanceMethod ({ cls := "FigureHouse$Page", name := "pressFigure", desc := "(III)V" } : Jvm.MethodName)) ∈ lw_tbl := tb_5 (List.mem_of_getElem? (i := 85) rfl)
set_option maxRecDepth 100000 in
theorem wd_1146 : (Jvm.Cond.selects "FigureHouse$Page" ({ cls := "FigureHouse$Page", name := "pressFigure", desc := "(III)V" } : Jvm.MethodName) ({ cls := "FigureHouse$Page", name := "pressFigure", desc := "(III)V" } : Jvm.MethodName)) ∈ lw_tbl := tb_5 (List.mem_of_getElem? (i := 86) rfl)
set_option maxRecDepth 100000 in
theorem wd_1148 : (Jvm.Cond.constantLong "FigureHouse$Page" (150 : Nat) (-1 : Int64)) ∈ lw_tbl := tb_5 (List.mem_of_getElem? (i := 88) rfl)
set_option maxRecDepth 100000 in
theorem wd_1149 : (Jvm.Cond.methodLink "FigureHouseLaw" (222 : Nat) ({ cls := "FigureHouse", name := "proof", desc := "(II)I" } : Jvm.MethodName)) ∈ lw_tbl := tb_5 (List.mem_of_getElem? (i := 89) rfl)
set_option maxRecDepth 100000 in
theorem wd_1150 : (Jvm.Cond.instanceMethod ({ cls := "FigureHouse", name := "proof", desc := "(II)I" } : Jvm.MethodName)) ∈ lw_tbl := tb_5 (List.mem_of_getElem? (i := 90) rfl)
set_option maxRecDepth 100000 in
theorem wd_1151 : (Jvm.Cond.selects "FigureHouse" ({ cls := "FigureHouse", name := "proof", desc := "(II)I" } : Jvm.MethodName) ({ cls := "FigureHouse", name := "proof", desc := "(II)I" } : Jvm.MethodName)) ∈ lw_tbl := tb_5 (List.mem_of_getElem? (i := 91) rfl)
set_option maxRecDepth 100000 in
theorem wd_1153 : (Jvm.Cond.methodLink "FigureHouse" (386 : Nat) ({ cls := "FigureHouse$Page", name := "printedOf", desc := "(I)J" } : Jvm.MethodName)) ∈ lw_tbl := tb_5 (List.mem_of_getElem? (i := 93) rfl)
set_option maxRecDepth 100000 in
theorem wd_1154 : (Jvm.Cond.instanceMethod ({ cls := "FigureHouse$Page", name := "printedOf", desc := "(I)J" } : Jvm.MethodName)) ∈ lw_tbl := tb_5 (List.mem_of_getElem? (i := 94) rfl)
set_option maxRecDepth 100000 in
theorem wd_1155 : (Jvm.Cond.selects "FigureHouse$Page" ({ cls := "FigureHouse$Page", name := "printedOf", desc := "(I)J" } : Jvm.MethodName) ({ cls := "FigureHouse$Page", name := "printedOf", desc := "(I)J" } : Jvm.MethodName)) ∈ lw_tbl := tb_5 (List.mem_of_getElem? (i := 95) rfl)
set_option maxRecDepth 100000 in
theorem wd_1157 : (Jvm.Cond.methodLink "FigureHouse$Page" (156 : Nat) ({ cls := "java/lang/Math", name := "abs", desc := "(J)J" } : Jvm.MethodName)) ∈ lw_tbl := tb_5 (List.mem_of_getElem? (i := 97) rfl)
set_option maxRecDepth 100000 in
theorem wd_1158 : (Jvm.Cond.methodLinkNest "FigureHouse$Page" (160 : Nat) ({ cls := "FigureHouse", name := "ten", desc := "(I)J" } : Jvm.MethodName) "FigureHouse") ∈ lw_tbl := tb_5 (List.mem_of_getElem? (i := 98) rfl)
set_option maxRecDepth 100000 in
theorem wd_1159 : (Jvm.Cond.constantLong "FigureHouse$Page" (163 : Nat) (10 : Int64)) ∈ lw_tbl := tb_5 (List.mem_of_getElem? (i := 99) rfl)
set_option maxRecDepth 100000 in
theorem wd_1160 : (Jvm.Cond.methodLink "FigureHouseLaw" (226 : Nat) ({ cls := "FigureHouse", name := "copy", desc := "(I)I" } : Jvm.MethodName)) ∈ lw_tbl := tb_5 (List.mem_of_getElem? (i := 100) rfl)
set_option maxRecDepth 100000 in
theorem wd_1161 : (Jvm.Cond.instanceMethod ({ cls := "FigureHouse", name := "copy", desc := "(I)I" } : Jvm.MethodName)) ∈ lw_tbl := tb_5 (List.mem_of_getElem? (i := 101) rfl)
set_option maxRecDepth 100000 in
theorem wd_1162 : (Jvm.Cond.selects "FigureHouse" ({ cls := "FigureHouse", name := "copy", desc := "(I)I" } : Jvm.MethodName) ({ cls := "FigureHouse", name := "copy", desc := "(I)I" } : Jvm.MethodName)) ∈ lw_tbl := tb_5 (List.mem_of_getElem? (i := 102) rfl)
set_option maxRecDepth 100000 in
theorem wd_1164 : (Jvm.Cond.classLink "FigureHouse" (393 : Nat) "FigureHouse$Table") ∈ lw_tbl := tb_5 (List.mem_of_getElem? (i := 104) rfl)
set_option maxRecDepth 100000 in
theorem wd_1165 : (Jvm.Cond.instantiable "FigureHouse$Table" (2 : Nat)) ∈ lw_tbl := tb_5 (List.mem_of_getElem? (i := 105) rfl)
set_option maxRecDepth 100000 in
theorem wd_1166 : (Jvm.Cond.methodLink "FigureHouse" (395 : Nat) ({ cls := "FigureHouse$Table", name := "<init>", desc := "(I)V" } : Jvm.MethodName)) ∈ lw_tbl := tb_5 (List.mem_of_getElem? (i := 106) rfl)
set_option maxRecDepth 100000 in
theorem wd_1167 : (Jvm.Cond.instanceMethod ({ cls := "FigureHouse$Table", name := "<init>", desc := "(I)V" } : Jvm.MethodName)) ∈ lw_tbl := tb_5 (List.mem_of_getElem? (i := 107) rfl)
set_option maxRecDepth 100000 in
theorem wd_1169 : (Jvm.Cond.methodLink "FigureHouse$Table" (3 : Nat) ({ cls := "java/lang/Object", name := "<init>", desc := "()V" } : Jvm.MethodName)) ∈ lw_tbl := tb_5 (List.mem_of_getElem? (i := 109) rfl)
set_option maxRecDepth 100000 in
theorem wd_1170 : (Jvm.Cond.fieldLink "FigureHouse$Table" (9 : Nat) "FigureHouse$Table" "page" "I") ∈ lw_tbl := tb_5 (List.mem_of_getElem? (i := 110) rfl)
set_option maxRecDepth 100000 in
theorem wd_1171 : (Jvm.Cond.fieldLink "FigureHouse" (402 : Nat) "FigureHouse$Table" "page" "I") ∈ lw_tbl := tb_5 (List.mem_of_getElem? (i := 111) rfl)
set_option maxRecDepth 100000 in
theorem wd_1172 : (Jvm.Cond.fieldLink "FigureHouse$Table" (15 : Nat) "FigureHouse$Table" "numbers" "[J") ∈ lw_tbl := tb_5 (List.mem_of_getElem? (i := 112) rfl)
set_option maxRecDepth 100000 in
theorem wd_1173 : (Jvm.Cond.fieldLink "FigureHouse" (396 : Nat) "FigureHouse$Table" "numbers" "[J") ∈ lw_tbl := tb_5 (List.mem_of_getElem? (i := 113) rfl)
set_option maxRecDepth 100000 in
theorem wd_1179 : (Jvm.Cond.methodLink "FigureHouseLaw" (232 : Nat) ({ cls := "FigureHouse", name := "erratum", desc := "(IIJJ)I" } : Jvm.MethodName)) ∈ lw_tbl := tb_5 (List.mem_of_getElem? (i := 119) rfl)
set_option maxRecDepth 100000 in
theorem wd_1180 : (Jvm.Cond.instanceMethod ({ cls := "FigureHouse", name := "erratum", desc := "(IIJJ)I" } : Jvm.MethodName)) ∈ lw_tbl := tb_5 (List.mem_of_getElem? (i := 120) rfl)
set_option maxRecDepth 100000 in
theorem wd_1181 : (Jvm.Cond.selects "FigureHouse" ({ cls := "FigureHouse", name := "erratum", desc := "(IIJJ)I" } : Jvm.MethodName) ({ cls := "FigureHouse", name := "erratum", desc := "(IIJJ)I" } : Jvm.MethodName)) ∈ lw_tbl := tb_5 (List.mem_of_getElem? (i := 121) rfl)
set_option maxRecDepth 100000 in
theorem wd_1183 : (Jvm.Cond.classLink "FigureHouse" (397 : Nat) "FigureHouse$Erratum") ∈ lw_tbl := tb_5 (List.mem_of_getElem? (i := 123) rfl)
set_option maxRecDepth 100000 in
theorem wd_1184 : (Jvm.Cond.instantiable "FigureHouse$Erratum" (4 : Nat)) ∈ lw_tbl := tb_5 (List.mem_of_getElem? (i := 124) rfl)
set_option maxRecDepth 100000 in
theorem wd_1185 : (Jvm.Cond.methodLink "FigureHouse" (399 : Nat) ({ cls := "FigureHouse$Erratum", name := "<init>", desc := "(IIJJ)V" } : Jvm.MethodName)) ∈ lw_tbl := tb_5 (List.mem_of_getElem? (i := 125) rfl)
set_option maxRecDepth 100000 in
theorem wd_1186 : (Jvm.Cond.instanceMethod ({ cls := "FigureHouse$Erratum", name := "<init>", desc := "(IIJJ)V" } : Jvm.MethodName)) ∈ lw_tbl := tb_5 (List.mem_of_getElem? (i := 126) rfl)
set_option maxRecDepth 100000 in
theorem wd_1188 : (Jvm.Cond.methodLink "FigureHouse$Erratum" (1 : Nat) ({ cls := "java/lang/Object", name := "<init>", desc := "()V" } : Jvm.MethodName)) ∈ lw_tbl := tb_5 (List.mem_of_getElem? (i := 128) rfl)
set_option maxRecDepth 100000 in
theorem wd_1189 : (Jvm.Cond.fieldLink "FigureHouse$Erratum" (7 : Nat) "FigureHouse$Erratum" "page" "I") ∈ lw_tbl := tb_5 (List.mem_of_getElem? (i := 129) rfl)
set_option maxRecDepth 100000 in
theorem wd_1190 : (Jvm.Cond.fieldLink "FigureHouse" (403 : Nat) "FigureHouse$Erratum" "page" "I") ∈ lw_tbl := tb_5 (List.mem_of_getElem? (i := 130) rfl)
set_option maxRecDepth 100000 in
theorem wd_1191 : (Jvm.Cond.fieldLink "FigureHouse$Erratum" (13 : Nat) "FigureHouse$Erratum" "line" "I") ∈ lw_tbl := tb_5 (List.mem_of_getElem? (i := 131) rfl)
set_option maxRecDepth 100000 in
theorem wd_1192 : (Jvm.Cond.fieldLink "FigureHouse" (404 : Nat) "FigureHouse$Erratum" "line" "I") ∈ lw_tbl := tb_5 (List.mem_of_getElem? (i := 132) rfl)
set_option maxRecDepth 100000 in
theorem wd_1193 : (Jvm.Cond.fieldLink "FigureHouse$Erratum" (16 : Nat) "FigureHouse$Erratum" "old" "J") ∈ lw_tbl := tb_5 (List.mem_of_getElem? (i := 133) rfl)
set_option maxRecDepth 100000 in
theorem wd_1194 : (Jvm.Cond.fieldLink "FigureHouse" (407 : Nat) "FigureHouse$Erratum" "old" "J") ∈ lw_tbl := tb_5 (List.mem_of_getElem? (i := 134) rfl)
set_option maxRecDepth 100000 in
theorem wd_1195 : (Jvm.Cond.fieldLink "FigureHouse$Erratum" (20 : Nat) "FigureHouse$Erratum" "anew" "J") ∈ lw_tbl := tb_5 (List.mem_of_getElem? (i := 135) rfl)
set_option maxRecDepth 100000 in
theorem wd_1196 : (Jvm.Cond.fieldLink "FigureHouse" (411 : Nat) "FigureHouse$Erratum" "anew" "J") ∈ lw_tbl := tb_5 (List.mem_of_getElem? (i := 136) rfl)
set_option maxRecDepth 100000 in
theorem wd_1206 : (Jvm.Cond.methodLink "FigureHouseLaw" (237 : Nat) ({ cls := "FigureHouse", name := "apply", desc := "(II)I" } : Jvm.MethodName)) ∈ lw_tbl := tb_5 (List.mem_of_getElem? (i := 146) rfl)
set_option maxRecDepth 100000 in
theorem wd_1207 : (Jvm.Cond.instanceMethod ({ cls := "FigureHouse", name := "apply", desc := "(II)I" } : Jvm.MethodName)) ∈ lw_tbl := tb_5 (List.mem_of_getElem? (i := 147) rfl)
set_option maxRecDepth 100000 in
theorem wd_1208 : (Jvm.Cond.selects "FigureHouse" ({ cls := "FigureHouse", name := "apply", desc := "(II)I" } : Jvm.MethodName) ({ cls := "FigureHouse", name := "apply", desc := "(II)I" } : Jvm.MethodName)) ∈ lw_tbl := tb_5 (List.mem_of_getElem? (i := 148) rfl)
set_option maxRecDepth 100000 in
theorem wd_1210 : (Jvm.Cond.methodLink "FigureHouseLaw" (244 : Nat) ({ cls := "FigureHouse", name := "errors", desc := "(I)I" } : Jvm.MethodName)) ∈ lw_tbl := tb_5 (List.mem_of_getElem? (i := 150) rfl)
set_option maxRecDepth 100000 in
theorem wd_1211 : (Jvm.Cond.instanceMethod ({ cls := "FigureHouse", name := "errors", desc := "(I)I" } : Jvm.MethodName)) ∈ lw_tbl := tb_5 (List.mem_of_getElem? (i := 151) rfl)
set_option maxRecDepth 100000 in
theorem wd_1212 : (Jvm.Cond.selects "FigureHouse" ({ cls := "FigureHouse", name := "errors", desc := "(I)I" } : Jvm.MethodName) ({ cls := "FigureHouse", name := "errors", desc := "(I)I" } : Jvm.MethodName)) ∈ lw_tbl := tb_5 (List.mem_of_getElem? (i := 152) rfl)
set_option maxRecDepth 100000 in
theorem wd_1214 : (Jvm.Cond.methodLink "FigureHouseLaw" (248 : Nat) ({ cls := "FigureHouse", name := "other", desc := "(I)I" } : Jvm.MethodName)) ∈ lw_tbl := tb_5 (List.mem_of_getElem? (i := 154) rfl)
set_option maxRecDepth 100000 in
theorem wd_1215 : (Jvm.Cond.instanceMethod ({ cls := "FigureHouse", name := "other", desc := "(I)I" } : Jvm.MethodName)) ∈ lw_tbl := tb_5 (List.mem_of_getElem? (i := 155) rfl)
set_option maxRecDepth 100000 in
theorem wd_1216 : (Jvm.Cond.selects "FigureHouse" ({ cls := "FigureHouse", name := "other", desc := "(I)I" } : Jvm.MethodName) ({ cls := "FigureHouse", name := "other", desc := "(I)I" } : Jvm.MethodName)) ∈ lw_tbl := tb_5 (List.mem_of_getElem? (i := 156) rfl)
set_option maxRecDepth 100000 in
theorem wd_1218 : (Jvm.Cond.methodLink "FigureHouse" (414 : Nat) ({ cls := "java/util/Arrays", name := "fill", desc := "([JJ)V" } : Jvm.MethodName)) ∈ lw_tbl := tb_5 (List.mem_of_getElem? (i := 158) rfl)
set_option maxRecDepth 100000 in
theorem wd_1219 : (Jvm.Cond.methodLink "FigureHouseLaw" (252 : Nat) ({ cls := "FigureHouse", name := "tell", desc := "(IIJ)Z" } : Jvm.MethodName)) ∈ lw_tbl := tb_5 (List.mem_of_getElem? (i := 159) rfl)
set_option maxRecDepth 100000 in
theorem wd_1220 : (Jvm.Cond.instanceMethod ({ cls := "FigureHouse", name := "tell", desc := "(IIJ)Z" } : Jvm.MethodName)) ∈ lw_tbl := tb_5 (List.mem_of_getElem? (i := 160) rfl)
set_option maxRecDepth 100000 in
theorem wd_1221 : (Jvm.Cond.selects "FigureHouse" ({ cls := "FigureHouse", name := "tell", desc := "(IIJ)Z" } : Jvm.MethodName) ({ cls := "FigureHouse", name := "tell", desc := "(IIJ)Z" } : Jvm.MethodName)) ∈ lw_tbl := tb_5 (List.mem_of_getElem? (i := 161) rfl)
set_option maxRecDepth 100000 in
theorem wd_1223 : (Jvm.Cond.methodLink "FigureHouseLaw" (257 : Nat) ({ cls := "FigureHouse", name := "compare", desc := "(II)I" } : Jvm.MethodName)) ∈ lw_tbl := tb_5 (List.mem_of_getElem? (i := 163) rfl)
set_option maxRecDepth 100000 in
theorem wd_1224 : (Jvm.Cond.instanceMethod ({ cls := "FigureHouse", name := "compare", desc := "(II)I" } : Jvm.MethodName)) ∈ lw_tbl := tb_5 (List.mem_of_getElem? (i := 164) rfl)
set_option maxRecDepth 100000 in
theorem wd_1225 : (Jvm.Cond.selects "FigureHouse" ({ cls := "FigureHouse", name := "compare", desc := "(II)I" } : Jvm.MethodName) ({ cls := "FigureHouse", name := "compare", desc := "(II)I" } : Jvm.MethodName)) ∈ lw_tbl := tb_5 (List.mem_of_getElem? (i := 165) rfl)
set_option maxRecDepth 100000 in
theorem wd_1227 : (Jvm.Cond.methodLink "FigureHouse" (417 : Nat) ({ cls := "FigureHouse", name := "countsAs", desc := "(ILFigureHouse$Page;IJ)Z" } : Jvm.MethodName)) ∈ lw_tbl := tb_5 (List.mem_of_getElem? (i := 167) rfl)
set_option maxRecDepth 100000 in
theorem wd_1229 : (Jvm.Cond.instanceMethod ({ cls := "FigureHouse", name := "countsAs", desc := "(ILFigureHouse$Page;IJ)Z" } : Jvm.MethodName)) ∈ lw_tbl := tb_5 (List.mem_of_getElem? (i := 169) rfl)
set_option maxRecDepth 100000 in
theorem wd_1231 : (Jvm.Cond.methodLink "FigureHouseLaw" (261 : Nat) ({ cls := "FigureHouse", name := "sheet", desc := "(I)I" } : Jvm.MethodName)) ∈ lw_tbl := tb_5 (List.mem_of_getElem? (i := 171) rfl)
set_option maxRecDepth 100000 in
theorem wd_1232 : (Jvm.Cond.instanceMethod ({ cls := "FigureHouse", name := "sheet", desc := "(I)I" } : Jvm.MethodName)) ∈ lw_tbl := tb_5 (List.mem_of_getElem? (i := 172) rfl)
set_option maxRecDepth 100000 in
theorem wd_1233 : (Jvm.Cond.selects "FigureHouse" ({ cls := "FigureHouse", name := "sheet", desc := "(I)I" } : Jvm.MethodName) ({ cls := "FigureHouse", name := "sheet", desc := "(I)I" } : Jvm.MethodName)) ∈ lw_tbl := tb_5 (List.mem_of_getElem? (i := 173) rfl)
set_option maxRecDepth 100000 in
theorem wd_1235 : (Jvm.Cond.classLink "FigureHouse" (421 : Nat) "FigureHouse$Sheet") ∈ lw_tbl := tb_5 (List.mem_of_getElem? (i := 175) rfl)
set_option maxRecDepth 100000 in
theorem wd_1236 : (Jvm.Cond.instantiable "FigureHouse$Sheet" (3 : Nat)) ∈ lw_tbl := tb_5 (List.mem_of_getElem? (i := 176) rfl)
set_option maxRecDepth 100000 in
theorem wd_1237 : (Jvm.Cond.methodLink "FigureHouse" (423 : Nat) ({ cls := "FigureHouse$Sheet", name := "<init>", desc := "(I)V" } : Jvm.MethodName)) ∈ lw_tbl := tb_5 (List.mem_of_getElem? (i := 177) rfl)
set_option maxRecDepth 100000 in
theorem wd_1238 : (Jvm.Cond.instanceMethod ({ cls := "FigureHouse$Sheet", name := "<init>", desc := "(I)V" } : Jvm.MethodName)) ∈ lw_tbl := tb_5 (List.mem_of_getElem? (i := 178) rfl)
set_option maxRecDepth 100000 in
theorem wd_1240 : (Jvm.Cond.methodLink "FigureHouse$Sheet" (3 : Nat) ({ cls := "java/lang/Object", name := "<init>", desc := "()V" } : Jvm.MethodName)) ∈ lw_tbl := tb_5 (List.mem_of_getElem? (i := 180) rfl)
set_option maxRecDepth 100000 in
theorem wd_1241 : (Jvm.Cond.fieldLink "FigureHouse$Sheet" (9 : Nat) "FigureHouse$Sheet" "kind" "I") ∈ lw_tbl := tb_5 (List.mem_of_getElem? (i := 181) rfl)
set_option maxRecDepth 100000 in
theorem wd_1242 : (Jvm.Cond.fieldLink "FigureHouse$Sheet" (15 : Nat) "FigureHouse$Sheet" "places" "[J") ∈ lw_tbl := tb_5 (List.mem_of_getElem? (i := 182) rfl)
set_option maxRecDepth 100000 in
theorem wd_1243 : (Jvm.Cond.fieldLink "FigureHouse" (434 : Nat) "FigureHouse$Sheet" "places" "[J") ∈ lw_tbl := tb_5 (List.mem_of_getElem? (i := 183) rfl)
set_option maxRecDepth 100000 in
theorem wd_1244 : (Jvm.Cond.fieldLink "FigureHouse$Sheet" (19 : Nat) "FigureHouse$Sheet" "lost" "Z") ∈ lw_tbl := tb_5 (List.mem_of_getElem? (i := 184) rfl)
set_option maxRecDepth 100000 in
theorem wd_1245 : (Jvm.Cond.fieldLink "FigureHouse" (428 : Nat) "FigureHouse$Sheet" "lost" "Z") ∈ lw_tbl := tb_5 (List.mem_of_getElem? (i := 185) rfl)
set_option maxRecDepth 100000 in
theorem wd_1253 : (Jvm.Cond.methodLink "FigureHouseLaw" (265 : Nat) ({ cls := "FigureHouse", name := "put", desc := "(III)Z" } : Jvm.MethodName)) ∈ lw_tbl := tb_5 (List.mem_of_getElem? (i := 193) rfl)
set_option maxRecDepth 100000 in
theorem wd_1254 : (Jvm.Cond.instanceMethod ({ cls := "FigureHouse", name := "put", desc := "(III)Z" } : Jvm.MethodName)) ∈ lw_tbl := tb_5 (List.mem_of_getElem? (i := 194) rfl)
set_option maxRecDepth 100000 in
theorem wd_1255 : (Jvm.Cond.selects "FigureHouse" ({ cls := "FigureHouse", name := "put", desc := "(III)Z" } : Jvm.MethodName) ({ cls := "FigureHouse", name := "put", desc := "(III)Z" } : Jvm.MethodName)) ∈ lw_tbl := tb_5 (List.mem_of_getElem? (i := 195) rfl)
set_option maxRecDepth 100000 in
theorem wd_1257 : (Jvm.Cond.methodLink "FigureHouse" (424 : Nat) ({ cls := "FigureHouse", name := "sheetAt", desc := "(I)LFigureHouse$Sheet;" } : Jvm.MethodName)) ∈ lw_tbl := tb_5 (List.mem_of_getElem? (i := 197) rfl)
set_option maxRecDepth 100000 in
theorem wd_1259 : (Jvm.Cond.instanceMethod ({ cls := "FigureHouse", name := "sheetAt", desc := "(I)LFigureHouse$Sheet;" } : Jvm.MethodName)) ∈ lw_tbl := tb_5 (List.mem_of_getElem? (i := 199) rfl)
set_option maxRecDepth 100000 in
theorem wd_1261 : (Jvm.Cond.constant "FigureHouse" (432 : Nat) (-1000000000 : Int32)) ∈ lw_tbl := tb_5 (List.mem_of_getElem? (i := 201) rfl)
set_option maxRecDepth 100000 in
theorem wd_1262 : (Jvm.Cond.constant "FigureHouse" (433 : Nat) (1000000000 : Int32)) ∈ lw_tbl := tb_5 (List.mem_of_getElem? (i := 202) rfl)
set_option maxRecDepth 100000 in
theorem wd_1263 : (Jvm.Cond.methodLink "FigureHouse" (437 : Nat) ({ cls := "FigureHouse$Sheet", name := "cut", desc := "(I)J" } : Jvm.MethodName)) ∈ lw_tbl := tb_5 (List.mem_of_getElem? (i := 203) rfl)
set_option maxRecDepth 100000 in
theorem wd_1264 : (Jvm.Cond.instanceMethod ({ cls := "FigureHouse$Sheet", name := "cut", desc := "(I)J" } : Jvm.MethodName)) ∈ lw_tbl := tb_5 (List.mem_of_getElem? (i := 204) rfl)
set_option maxRecDepth 100000 in
theorem wd_1265 : (Jvm.Cond.selects "FigureHouse$Sheet" ({ cls := "FigureHouse$Sheet", name := "cut", desc := "(I)J" } : Jvm.MethodName) ({ cls := "FigureHouse$Sheet", name := "cut", desc := "(I)J" } : Jvm.MethodName)) ∈ lw_tbl := tb_5 (List.mem_of_getElem? (i := 205) rfl)
set_option maxRecDepth 100000 in
theorem wd_1267 : (Jvm.Cond.methodLink "FigureHouseLaw" (270 : Nat) ({ cls := "FigureHouse", name := "lose", desc := "(I)Z" } : Jvm.MethodName)) ∈ lw_tbl := tb_5 (List.mem_of_getElem? (i := 207) rfl)
set_option maxRecDepth 100000 in
theorem wd_1268 : (Jvm.Cond.instanceMethod ({ cls := "FigureHouse", name := "lose", desc := "(I)Z" } : Jvm.MethodName)) ∈ lw_tbl := tb_5 (List.mem_of_getElem? (i := 208) rfl)
set_option maxRecDepth 100000 in
theorem wd_1269 : (Jvm.Cond.selects "FigureHouse" ({ cls := "FigureHouse", name := "lose", desc := "(I)Z" } : Jvm.MethodName) ({ cls := "FigureHouse", name := "lose", desc := "(I)Z" } : Jvm.MethodName)) ∈ lw_tbl := tb_5 (List.mem_of_getElem? (i := 209) rfl)
set_option maxRecDepth 100000 in
theorem wd_1271 : (Jvm.Cond.methodLink "FigureHouseLaw" (274 : Nat) ({ cls := "FigureHouse", name := "take", desc := "(IIII)I" } : Jvm.MethodName)) ∈ lw_tbl := tb_5 (List.mem_of_getElem? (i := 211) rfl)
set_option maxRecDepth 100000 in
theorem wd_1272 : (Jvm.Cond.instanceMethod ({ cls := "FigureHouse", name := "take", desc := "(IIII)I" } : Jvm.MethodName)) ∈ lw_tbl := tb_5 (List.mem_of_getElem? (i := 212) rfl)
set_option maxRecDepth 100000 in
theorem wd_1273 : (Jvm.Cond.selects "FigureHouse" ({ cls := "FigureHouse", name := "take", desc := "(IIII)I" } : Jvm.MethodName) ({ cls := "FigureHouse", name := "take", desc := "(IIII)I" } : Jvm.MethodName)) ∈ lw_tbl := tb_5 (List.mem_of_getElem? (i := 213) rfl)
set_option maxRecDepth 100000 in
theorem wd_1275 : (Jvm.Cond.constantLong "FigureHouse" (440 : Nat) (-1000000 : Int64)) ∈ lw_tbl := tb_5 (List.mem_of_getElem? (i := 215) rfl)
set_option maxRecDepth 100000 in
theorem wd_1276 : (Jvm.Cond.constantLong "FigureHouse" (442 : Nat) (1000000 : Int64)) ∈ lw_tbl := tb_5 (List.mem_of_getElem? (i := 216) rfl)
set_option maxRecDepth 100000 in
theorem wd_1277 : (Jvm.Cond.methodLink "FigureHouse" (444 : Nat) ({ cls := "FigureHouse", name := "slip", desc := "(IIII)I" } : Jvm.MethodName)) ∈ lw_tbl := tb_5 (List.mem_of_getElem? (i := 217) rfl)
set_option maxRecDepth 100000 in
theorem wd_1278 : (Jvm.Cond.methodLink "FigureHouseLaw" (278 : Nat) ({ cls := "FigureHouse", name := "hours", desc := "(I)Z" } : Jvm.MethodName)) ∈ lw_tbl := tb_5 (List.mem_of_getElem? (i := 218) rfl)
set_option maxRecDepth 100000 in
theorem wd_1279 : (Jvm.Cond.instanceMethod ({ cls := "FigureHouse", name := "hours", desc := "(I)Z" } : Jvm.MethodName)) ∈ lw_tbl := tb_5 (List.mem_of_getElem? (i := 219) rfl)
set_option maxRecDepth 100000 in
theorem wd_1280 : (Jvm.Cond.selects "FigureHouse" ({ cls := "FigureHouse", name := "hours", desc := "(I)Z" } : Jvm.MethodName) ({ cls := "FigureHouse", name := "hours", desc := "(I)Z" } : Jvm.MethodName)) ∈ lw_tbl := tb_5 (List.mem_of_getElem? (i := 220) rfl)
set_option maxRecDepth 100000 in
theorem wd_1282 : (Jvm.Cond.methodLink "FigureHouseLaw" (282 : Nat) ({ cls := "FigureHouse", name := "best", desc := "(IIIIIII)I" } : Jvm.MethodName)) ∈ lw_tbl := tb_5 (List.mem_of_getElem? (i := 222) rfl)
set_option maxRecDepth 100000 in
theorem wd_1283 : (Jvm.Cond.instanceMethod ({ cls := "FigureHouse", name := "best", desc := "(IIIIIII)I" } : Jvm.MethodName)) ∈ lw_tbl := tb_5 (List.mem_of_getElem? (i := 223) rfl)
set_option maxRecDepth 100000 in
theorem wd_1284 : (Jvm.Cond.selects "FigureHouse" ({ cls := "FigureHouse", name := "best", desc := "(IIIIIII)I" } : Jvm.MethodName) ({ cls := "FigureHouse", name := "best", desc := "(IIIIIII)I" } : Jvm.MethodName)) ∈ lw_tbl := tb_5 (List.mem_of_getElem? (i := 224) rfl)
set_option maxRecDepth 100000 in
theorem wd_1286 : (Jvm.Cond.methodLink "FigureHouse" (448 : Nat) ({ cls := "FigureHouse$Planner", name := "reckon", desc := "(LFigureHouse$Curve;IIIII)V" } : Jvm.MethodName)) ∈ lw_tbl := tb_5 (List.mem_of_getElem? (i := 226) rfl)
set_option maxRecDepth 100000 in
theorem wd_1287 : (Jvm.Cond.instanceMethod ({ cls := "FigureHouse$Planner", name := "reckon", desc := "(LFigureHouse$Curve;IIIII)V" } : Jvm.MethodName)) ∈ lw_tbl := tb_5 (List.mem_of_getElem? (i := 227) rfl)
set_option maxRecDepth 100000 in
theorem wd_1288 : (Jvm.Cond.selects "FigureHouse$Planner" ({ cls := "FigureHouse$Planner", name := "reckon", desc := "(LFigureHouse$Curve;IIIII)V" } : Jvm.MethodName) ({ cls := "FigureHouse$Planner", name := "reckon", desc := "(LFigureHouse$Curve;IIIII)V" } : Jvm.MethodName)) ∈ lw_tbl := tb_5 (List.mem_of_getElem? (i := 228) rfl)
set_option maxRecDepth 100000 in
theorem wd_1290 : (Jvm.Cond.methodLink "FigureHouse$Planner" (25 : Nat) ({ cls := "java/lang/Math", name := "min", desc := "(II)I" } : Jvm.MethodName)) ∈ lw_tbl := tb_5 (List.mem_of_getElem? (i := 230) rfl)
set_option maxRecDepth 100000 in
theorem wd_1291 : (Jvm.Cond.methodLink "FigureHouse$Planner" (41 : Nat) ({ cls := "FigureHouse$Curve", name := "quartersAt", desc := "(I)J" } : Jvm.MethodName)) ∈ lw_tbl := tb_5 (List.mem_of_getElem? (i := 231) rfl)
set_option maxRecDepth 100000 in
theorem wd_1292 : (Jvm.Cond.methodLinkNest "FigureHouse$Planner" (47 : Nat) ({ cls := "FigureHouse", name := "unitOf", desc := "(I)J" } : Jvm.MethodName) "FigureHouse") ∈ lw_tbl := tb_5 (List.mem_of_getElem? (i := 232) rfl)
set_option maxRecDepth 100000 in
theorem wd_1293 : (Jvm.Cond.methodLinkNest "FigureHouse$Planner" (50 : Nat) ({ cls := "FigureHouse", name := "rounded", desc := "(JJI)J" } : Jvm.MethodName) "FigureHouse") ∈ lw_tbl := tb_5 (List.mem_of_getElem? (i := 233) rfl)
set_option maxRecDepth 100000 in
theorem wd_1294 : (Jvm.Cond.methodLink "FigureHouse" (451 : Nat) ({ cls := "FigureHouse$Planner", name := "findsOne", desc := "(I)Z" } : Jvm.MethodName)) ∈ lw_tbl := tb_5 (List.mem_of_getElem? (i := 234) rfl)
set_option maxRecDepth 100000 in
theorem wd_1295 : (Jvm.Cond.instanceMethod ({ cls := "FigureHouse$Planner", name := "findsOne", desc := "(I)Z" } : Jvm.MethodName)) ∈ lw_tbl := tb_5 (List.mem_of_getElem? (i := 235) rfl)
set_option maxRecDepth 100000 in
theorem wd_1296 : (Jvm.Cond.selects "FigureHouse$Planner" ({ cls := "FigureHouse$Planner", name := "findsOne", desc := "(I)Z" } : Jvm.MethodName) ({ cls := "FigureHouse$Planner", name := "findsOne", desc := "(I)Z" } : Jvm.MethodName)) ∈ lw_tbl := tb_5 (List.mem_of_getElem? (i := 236) rfl)
set_option maxRecDepth 100000 in
theorem wd_1298 : (Jvm.Cond.constant "FigureHouse$Planner" (54 : Nat) (1000000 : Int32)) ∈ lw_tbl := tb_5 (List.mem_of_getElem? (i := 238) rfl)
set_option maxRecDepth 100000 in
theorem wd_1299 : (Jvm.Cond.methodLink "FigureHouse$Planner" (58 : Nat) ({ cls := "java/util/Arrays", name := "fill", desc := "([II)V" } : Jvm.MethodName)) ∈ lw_tbl := tb_5 (List.mem_of_getElem? (i := 239) rfl)
set_option maxRecDepth 100000 in
theorem wd_1300 : (Jvm.Cond.methodLink "FigureHouse$Planner" (64 : Nat) ({ cls := "FigureHouse$Planner", name := "pivotsOf", desc := "(II)I" } : Jvm.MethodName)) ∈ lw_tbl := tb_6 (List.mem_of_getElem? (i := 0) rfl)
set_option maxRecDepth 100000 in
theorem wd_1302 : (Jvm.Cond.instanceMethod ({ cls := "FigureHouse$Planner", name := "pivotsOf", desc := "(II)I" } : Jvm.MethodName)) ∈ lw_tbl := tb_6 (List.mem_of_getElem? (i := 2) rfl)
set_option maxRecDepth 100000 in
theorem wd_1304 : (Jvm.Cond.methodLink "FigureHouse$Planner" (67 : Nat) ({ cls := "FigureHouse$Planner", name := "keepsAll", desc := "(III)Z" } : Jvm.MethodName)) ∈ lw_tbl := tb_6 (List.mem_of_getElem? (i := 4) rfl)
set_option maxRecDepth 100000 in
theorem wd_1306 : (Jvm.Cond.instanceMethod ({ cls := "FigureHouse$Planner", name := "keepsAll", desc := "(III)Z" } : Jvm.MethodName)) ∈ lw_tbl := tb_6 (List.mem_of_getElem? (i := 6) rfl)
set_option maxRecDepth 100000 in
theorem wd_1308 : (Jvm.Cond.methodLink "FigureHouse$Planner" (80 : Nat) ({ cls := "FigureHouse$Planner", name := "reachOf", desc := "(III)I" } : Jvm.MethodName)) ∈ lw_tbl := tb_6 (List.mem_of_getElem? (i := 8) rfl)
set_option maxRecDepth 100000 in
theorem wd_1310 : (Jvm.Cond.instanceMethod ({ cls := "FigureHouse$Planner", name := "reachOf", desc := "(III)I" } : Jvm.MethodName)) ∈ lw_tbl := tb_6 (List.mem_of_getElem? (i := 10) rfl)
set_option maxRecDepth 100000 in
theorem wd_1312 : (Jvm.Cond.methodLinkNest "FigureHouse$Planner" (84 : Nat) ({ cls := "FigureHouse", name := "ten", desc := "(I)J" } : Jvm.MethodName) "FigureHouse") ∈ lw_tbl := tb_6 (List.mem_of_getElem? (i := 12) rfl)
set_option maxRecDepth 100000 in
theorem wd_1313 : (Jvm.Cond.methodLink "FigureHouse$Planner" (87 : Nat) ({ cls := "FigureHouse$Planner", name := "nextMade", desc := "(I)J" } : Jvm.MethodName)) ∈ lw_tbl := tb_6 (List.mem_of_getElem? (i := 13) rfl)
set_option maxRecDepth 100000 in
theorem wd_1315 : (Jvm.Cond.instanceMethod ({ cls := "FigureHouse$Planner", name := "nextMade", desc := "(I)J" } : Jvm.MethodName)) ∈ lw_tbl := tb_6 (List.mem_of_getElem? (i := 15) rfl)
set_option maxRecDepth 100000 in
theorem wd_1317 : (Jvm.Cond.methodLink "FigureHouse$Planner" (90 : Nat) ({ cls := "FigureHouse$Planner", name := "takePivot", desc := "(IJ)V" } : Jvm.MethodName)) ∈ lw_tbl := tb_6 (List.mem_of_getElem? (i := 17) rfl)
set_option maxRecDepth 100000 in
theorem wd_1319 : (Jvm.Cond.instanceMethod ({ cls := "FigureHouse$Planner", name := "takePivot", desc := "(IJ)V" } : Jvm.MethodName)) ∈ lw_tbl := tb_6 (List.mem_of_getElem? (i := 19) rfl)
set_option maxRecDepth 100000 in
theorem wd_1321 : (Jvm.Cond.methodLink "FigureHouseLaw" (287 : Nat) ({ cls := "FigureHouse", name := "count", desc := "(I)I" } : Jvm.MethodName)) ∈ lw_tbl := tb_6 (List.mem_of_getElem? (i := 21) rfl)
set_option maxRecDepth 100000 in
theorem wd_1322 : (Jvm.Cond.instanceMethod ({ cls := "FigureHouse", name := "count", desc := "(I)I" } : Jvm.MethodName)) ∈ lw_tbl := tb_6 (List.mem_of_getElem? (i := 22) rfl)
set_option maxRecDepth 100000 in
theorem wd_1323 : (Jvm.Cond.selects "FigureHouse" ({ cls := "FigureHouse", name := "count", desc := "(I)I" } : Jvm.MethodName) ({ cls := "FigureHouse", name := "count", desc := "(I)I" } : Jvm.MethodName)) ∈ lw_tbl := tb_6 (List.mem_of_getElem? (i := 23) rfl)
set_option maxRecDepth 100000 in
theorem wd_1325 : (Jvm.Cond.methodLink "FigureHouse" (466 : Nat) ({ cls := "FigureHouse", name := "slipsMended", desc := "()I" } : Jvm.MethodName)) ∈ lw_tbl := tb_6 (List.mem_of_getElem? (i := 25) rfl)
set_option maxRecDepth 100000 in
theorem wd_1327 : (Jvm.Cond.instanceMethod ({ cls := "FigureHouse", name := "slipsMended", desc := "()I" } : Jvm.MethodName)) ∈ lw_tbl := tb_6 (List.mem_of_getElem? (i := 27) rfl)
set_option maxRecDepth 100000 in
theorem wd_1329 : (Jvm.Cond.methodLink "FigureHouse" (469 : Nat) ({ cls := "FigureHouse", name := "pagesSet", desc := "()I" } : Jvm.MethodName)) ∈ lw_tbl := tb_6 (List.mem_of_getElem? (i := 29) rfl)
set_option maxRecDepth 100000 in
theorem wd_1331 : (Jvm.Cond.instanceMethod ({ cls := "FigureHouse", name := "pagesSet", desc := "()I" } : Jvm.MethodName)) ∈ lw_tbl := tb_6 (List.mem_of_getElem? (i := 31) rfl)
set_option maxRecDepth 100000 in
theorem wd_1333 : (Jvm.Cond.methodLink "FigureHouseLaw" (91 : Nat) ({ cls := "FigureHouseLaw", name := "worth", desc := "(LFigureHouse;IIIII[J)I" } : Jvm.MethodName)) ∈ lw_tbl := tb_6 (List.mem_of_getElem? (i := 33) rfl)
set_option maxRecDepth 100000 in
theorem wd_1334 : (Jvm.Cond.static ({ cls := "FigureHouseLaw", name := "worth", desc := "(LFigureHouse;IIIII[J)I" } : Jvm.MethodName)) ∈ lw_tbl := tb_6 (List.mem_of_getElem? (i := 34) rfl)
set_option maxRecDepth 100000 in
theorem wd_1336 : (Jvm.Cond.classLink "FigureHouseLaw" (13 : Nat) "java/util/NoSuchElementException") ∈ lw_tbl := tb_6 (List.mem_of_getElem? (i := 36) rfl)
set_option maxRecDepth 100000 in
theorem wd_1337 : (Jvm.Cond.methodLink "FigureHouseLaw" (7 : Nat) ({ cls := "FigureHouse", name := "worth", desc := "(IIIII)I" } : Jvm.MethodName)) ∈ lw_tbl := tb_6 (List.mem_of_getElem? (i := 37) rfl)
set_option maxRecDepth 100000 in
theorem wd_1338 : (Jvm.Cond.instanceMethod ({ cls := "FigureHouse", name := "worth", desc := "(IIIII)I" } : Jvm.MethodName)) ∈ lw_tbl := tb_6 (List.mem_of_getElem? (i := 38) rfl)
set_option maxRecDepth 100000 in
theorem wd_1339 : (Jvm.Cond.selects "FigureHouse" ({ cls := "FigureHouse", name := "worth", desc := "(IIIII)I" } : Jvm.MethodName) ({ cls := "FigureHouse", name := "worth", desc := "(IIIII)I" } : Jvm.MethodName)) ∈ lw_tbl := tb_6 (List.mem_of_getElem? (i := 39) rfl)
set_option maxRecDepth 100000 in
theorem wd_1341 : (Jvm.Cond.methodLink "FigureHouse" (170 : Nat) ({ cls := "FigureHouse", name := "isLabel", desc := "(I)Z" } : Jvm.MethodName)) ∈ lw_tbl := tb_6 (List.mem_of_getElem? (i := 41) rfl)
set_option maxRecDepth 100000 in
theorem wd_1342 : (Jvm.Cond.classLink "FigureHouse" (173 : Nat) "java/util/NoSuchElementException") ∈ lw_tbl := tb_6 (List.mem_of_getElem? (i := 42) rfl)
set_option maxRecDepth 100000 in
theorem wd_1343 : (Jvm.Cond.instantiable "java/util/NoSuchElementException" (6 : Nat)) ∈ lw_tbl := tb_6 (List.mem_of_getElem? (i := 43) rfl)
set_option maxRecDepth 100000 in
theorem wd_1351 : (Jvm.Cond.selects "java/util/NoSuchElementException" ({ cls := "java/lang/Throwable", name := "fillInStackTrace", desc := "(I)Ljava/lang/Throwable;" } : Jvm.MethodName) ({ cls := "java/lang/Throwable", name := "fillInStackTrace", desc := "(I)Ljava/lang/Throwable;" } : Jvm.MethodName)) ∈ lw_tbl := tb_6 (List.mem_of_getElem? (i := 51) rfl)
set_option maxRecDepth 100000 in
theorem wd_1352 : (Jvm.Cond.selects "java/util/NoSuchElementException" ({ cls := "java/lang/Throwable", name := "fillInStackTrace", desc := "()Ljava/lang/Throwable;" } : Jvm.MethodName) ({ cls := "java/lang/Throwable", name := "fillInStackTrace", desc := "()Ljava/lang/Throwable;" } : Jvm.MethodName)) ∈ lw_tbl := tb_6 (List.mem_of_getElem? (i := 52) rfl)
set_option maxRecDepth 100000 in
theorem wd_1363 : (Jvm.Cond.fieldLink "java/lang/Throwable" (198 : Nat) "java/lang/Throwable" "backtrace" "Ljava/lang/Object;") ∈ lw_tbl := tb_6 (List.mem_of_getElem? (i := 63) rfl)
set_option maxRecDepth 100000 in
theorem wd_1365 : (Jvm.Cond.instanceMethod ({ cls := "java/lang/Throwable", name := "<init>", desc := "()V" } : Jvm.MethodName)) ∈ lw_tbl := tb_6 (List.mem_of_getElem? (i := 65) rfl)
set_option maxRecDepth 100000 in
theorem wd_1367 : (Jvm.Cond.methodLink "java/lang/Throwable" (1 : Nat) ({ cls := "java/lang/Object", name := "<init>", desc := "()V" } : Jvm.MethodName)) ∈ lw_tbl := tb_6 (List.mem_of_getElem? (i := 67) rfl)
set_option maxRecDepth 100000 in
theorem wd_1368 : (Jvm.Cond.fieldLink "java/lang/Throwable" (13 : Nat) "java/lang/Throwable" "UNASSIGNED_STACK" "[Ljava/lang/StackTraceElement;") ∈ lw_tbl := tb_6 (List.mem_of_getElem? (i := 68) rfl)
set_option maxRecDepth 100000 in
theorem wd_1370 : (Jvm.Cond.fieldLink "java/lang/Throwable" (20 : Nat) "java/lang/Throwable" "SUPPRESSED_SENTINEL" "Ljava/util/List;") ∈ lw_tbl := tb_6 (List.mem_of_getElem? (i := 70) rfl)
set_option maxRecDepth 100000 in
theorem wd_1372 : (Jvm.Cond.methodLink "java/lang/Throwable" (27 : Nat) ({ cls := "java/lang/Throwable", name := "fillInStackTrace", desc := "()Ljava/lang/Throwable;" } : Jvm.MethodName)) ∈ lw_tbl := tb_6 (List.mem_of_getElem? (i := 72) rfl)
set_option maxRecDepth 100000 in
theorem wd_1373 : (Jvm.Cond.instanceMethod ({ cls := "java/lang/Throwable", name := "fillInStackTrace", desc := "()Ljava/lang/Throwable;" } : Jvm.MethodName)) ∈ lw_tbl := tb_6 (List.mem_of_getElem? (i := 73) rfl)
set_option maxRecDepth 100000 in
theorem wd_1376 : (Jvm.Cond.methodLink "java/lang/Throwable" (202 : Nat) ({ cls := "java/lang/Throwable", name := "fillInStackTrace", desc := "(I)Ljava/lang/Throwable;" } : Jvm.MethodName)) ∈ lw_tbl := tb_6 (List.mem_of_getElem? (i := 76) rfl)
set_option maxRecDepth 100000 in
theorem wd_1378 : (Jvm.Cond.instanceMethod ({ cls := "java/lang/Throwable", name := "fillInStackTrace", desc := "(I)Ljava/lang/Throwable;" } : Jvm.MethodName)) ∈ lw_tbl := tb_6 (List.mem_of_getElem? (i := 78) rfl)
set_option maxRecDepth 100000 in
theorem wd_1379 : (Jvm.Cond.instantiable "java/lang/Throwable" (6 : Nat)) ∈ lw_tbl := tb_6 (List.mem_of_getElem? (i := 79) rfl)
set_option maxRecDepth 100000 in
theorem wd_1381 : (Jvm.Cond.methodLink "FigureHouse" (175 : Nat) ({ cls := "java/util/NoSuchElementException", name := "<init>", desc := "()V" } : Jvm.MethodName)) ∈ lw_tbl := tb_6 (List.mem_of_getElem? (i := 81) rfl)
set_option maxRecDepth 100000 in
theorem wd_1382 : (Jvm.Cond.instanceMethod ({ cls := "java/util/NoSuchElementException", name := "<init>", desc := "()V" } : Jvm.MethodName)) ∈ lw_tbl := tb_6 (List.mem_of_getElem? (i := 82) rfl)
set_option maxRecDepth 100000 in
theorem wd_1384 : (Jvm.Cond.methodLink "java/util/NoSuchElementException" (1 : Nat) ({ cls := "java/lang/RuntimeException", name := "<init>", desc := "()V" } : Jvm.MethodName)) ∈ lw_tbl := tb_6 (List.mem_of_getElem? (i := 84) rfl)
set_option maxRecDepth 100000 in
theorem wd_1385 : (Jvm.Cond.instanceMethod ({ cls := "java/lang/RuntimeException", name := "<init>", desc := "()V" } : Jvm.MethodName)) ∈ lw_tbl := tb_6 (List.mem_of_getElem? (i := 85) rfl)
set_option maxRecDepth 100000 in
theorem wd_1387 : (Jvm.Cond.methodLink "java/lang/RuntimeException" (1 : Nat) ({ cls := "java/lang/Exception", name := "<init>", desc := "()V" } : Jvm.MethodName)) ∈ lw_tbl := tb_6 (List.mem_of_getElem? (i := 87) rfl)
set_option maxRecDepth 100000 in
theorem wd_1388 : (Jvm.Cond.instanceMethod ({ cls := "java/lang/Exception", name := "<init>", desc := "()V" } : Jvm.MethodName)) ∈ lw_tbl := tb_6 (List.mem_of_getElem? (i := 88) rfl)
set_option maxRecDepth 100000 in
theorem wd_1390 : (Jvm.Cond.methodLink "java/lang/Exception" (1 : Nat) ({ cls := "java/lang/Throwable", name := "<init>", desc := "()V" } : Jvm.MethodName)) ∈ lw_tbl := tb_6 (List.mem_of_getElem? (i := 90) rfl)
set_option maxRecDepth 100000 in
theorem wd_1391 : (Jvm.Cond.fieldLink "java/lang/Throwable" (198 : Nat) "java/lang/Throwable" "backtrace" "Ljava/lang/Object;") ∈ lw_tbl := tb_6 (List.mem_of_getElem? (i := 91) rfl)
set_option maxRecDepth 100000 in
theorem wd_1392 : (Jvm.Cond.fieldLink "java/lang/Throwable" (7 : Nat) "java/lang/Throwable" "cause" "Ljava/lang/Throwable;") ∈ lw_tbl := tb_6 (List.mem_of_getElem? (i := 92) rfl)
set_option maxRecDepth 100000 in
theorem wd_1393 : (Jvm.Cond.fieldLink "java/lang/Throwable" (17 : Nat) "java/lang/Throwable" "stackTrace" "[Ljava/lang/StackTraceElement;") ∈ lw_tbl := tb_6 (List.mem_of_getElem? (i := 93) rfl)
set_option maxRecDepth 100000 in
theorem wd_1394 : (Jvm.Cond.fieldLink "java/lang/Throwable" (24 : Nat) "java/lang/Throwable" "suppressedExceptions" "Ljava/util/List;") ∈ lw_tbl := tb_6 (List.mem_of_getElem? (i := 94) rfl)
set_option maxRecDepth 100000 in
theorem wd_1403 : (Jvm.Cond.methodLink "FigureHouse" (176 : Nat) ({ cls := "FigureHouse$Reader", name := "worthOf", desc := "(LFigureHouse$Text;IIII)I" } : Jvm.MethodName)) ∈ lw_tbl := tb_6 (List.mem_of_getElem? (i := 103) rfl)
set_option maxRecDepth 100000 in
theorem wd_1404 : (Jvm.Cond.methodLink "FigureHouseLaw" (114 : Nat) ({ cls := "FigureHouseLaw", name := "trueOf", desc := "(LFigureHouse;II[J)I" } : Jvm.MethodName)) ∈ lw_tbl := tb_6 (List.mem_of_getElem? (i := 104) rfl)
set_option maxRecDepth 100000 in
theorem wd_1405 : (Jvm.Cond.static ({ cls := "FigureHouseLaw", name := "trueOf", desc := "(LFigureHouse;II[J)I" } : Jvm.MethodName)) ∈ lw_tbl := tb_6 (List.mem_of_getElem? (i := 105) rfl)
set_option maxRecDepth 100000 in
theorem wd_1407 : (Jvm.Cond.methodLink "FigureHouseLaw" (15 : Nat) ({ cls := "FigureHouse", name := "trueOf", desc := "(II)J" } : Jvm.MethodName)) ∈ lw_tbl := tb_6 (List.mem_of_getElem? (i := 107) rfl)
set_option maxRecDepth 100000 in
theorem wd_1408 : (Jvm.Cond.instanceMethod ({ cls := "FigureHouse", name := "trueOf", desc := "(II)J" } : Jvm.MethodName)) ∈ lw_tbl := tb_6 (List.mem_of_getElem? (i := 108) rfl)
set_option maxRecDepth 100000 in
theorem wd_1409 : (Jvm.Cond.selects "FigureHouse" ({ cls := "FigureHouse", name := "trueOf", desc := "(II)J" } : Jvm.MethodName) ({ cls := "FigureHouse", name := "trueOf", desc := "(II)J" } : Jvm.MethodName)) ∈ lw_tbl := tb_6 (List.mem_of_getElem? (i := 109) rfl)
set_option maxRecDepth 100000 in
theorem wd_1411 : (Jvm.Cond.methodLink "FigureHouseLaw" (118 : Nat) ({ cls := "FigureHouseLaw", name := "figure", desc := "(LFigureHouse;IIII[J)I" } : Jvm.MethodName)) ∈ lw_tbl := tb_6 (List.mem_of_getElem? (i := 111) rfl)
set_option maxRecDepth 100000 in
theorem wd_1412 : (Jvm.Cond.static ({ cls := "FigureHouseLaw", name := "figure", desc := "(LFigureHouse;IIII[J)I" } : Jvm.MethodName)) ∈ lw_tbl := tb_6 (List.mem_of_getElem? (i := 112) rfl)
set_option maxRecDepth 100000 in
theorem wd_1414 : (Jvm.Cond.methodLink "FigureHouseLaw" (19 : Nat) ({ cls := "FigureHouse", name := "figure", desc := "(IIII)J" } : Jvm.MethodName)) ∈ lw_tbl := tb_6 (List.mem_of_getElem? (i := 114) rfl)
set_option maxRecDepth 100000 in
theorem wd_1415 : (Jvm.Cond.instanceMethod ({ cls := "FigureHouse", name := "figure", desc := "(IIII)J" } : Jvm.MethodName)) ∈ lw_tbl := tb_6 (List.mem_of_getElem? (i := 115) rfl)
set_option maxRecDepth 100000 in
theorem wd_1416 : (Jvm.Cond.selects "FigureHouse" ({ cls := "FigureHouse", name := "figure", desc := "(IIII)J" } : Jvm.MethodName) ({ cls := "FigureHouse", name := "figure", desc := "(IIII)J" } : Jvm.MethodName)) ∈ lw_tbl := tb_6 (List.mem_of_getElem? (i := 116) rfl)
set_option maxRecDepth 100000 in
theorem wd_1418 : (Jvm.Cond.methodLink "FigureHouse" (237 : Nat) ({ cls := "FigureHouse$Page", name := "hasColumn", desc := "(II)Z" } : Jvm.MethodName)) ∈ lw_tbl := tb_6 (List.mem_of_getElem? (i := 118) rfl)
set_option maxRecDepth 100000 in
theorem wd_1419 : (Jvm.Cond.instanceMethod ({ cls := "FigureHouse$Page", name := "hasColumn", desc := "(II)Z" } : Jvm.MethodName)) ∈ lw_tbl := tb_6 (List.mem_of_getElem? (i := 119) rfl)
set_option maxRecDepth 100000 in
theorem wd_1420 : (Jvm.Cond.selects "FigureHouse$Page" ({ cls := "FigureHouse$Page", name := "hasColumn", desc := "(II)Z" } : Jvm.MethodName) ({ cls := "FigureHouse$Page", name := "hasColumn", desc := "(II)Z" } : Jvm.MethodName)) ∈ lw_tbl := tb_6 (List.mem_of_getElem? (i := 120) rfl)
set_option maxRecDepth 100000 in
theorem wd_1422 : (Jvm.Cond.methodLink "FigureHouseLaw" (134 : Nat) ({ cls := "FigureHouseLaw", name := "kept", desc := "(LFigureHouse;III[J)I" } : Jvm.MethodName)) ∈ lw_tbl := tb_6 (List.mem_of_getElem? (i := 122) rfl)
set_option maxRecDepth 100000 in
theorem wd_1423 : (Jvm.Cond.static ({ cls := "FigureHouseLaw", name := "kept", desc := "(LFigureHouse;III[J)I" } : Jvm.MethodName)) ∈ lw_tbl := tb_6 (List.mem_of_getElem? (i := 123) rfl)
set_option maxRecDepth 100000 in
theorem wd_1425 : (Jvm.Cond.methodLink "FigureHouseLaw" (23 : Nat) ({ cls := "FigureHouse", name := "kept", desc := "(III)J" } : Jvm.MethodName)) ∈ lw_tbl := tb_6 (List.mem_of_getElem? (i := 125) rfl)
set_option maxRecDepth 100000 in
theorem wd_1426 : (Jvm.Cond.instanceMethod ({ cls := "FigureHouse", name := "kept", desc := "(III)J" } : Jvm.MethodName)) ∈ lw_tbl := tb_6 (List.mem_of_getElem? (i := 126) rfl)
set_option maxRecDepth 100000 in
theorem wd_1427 : (Jvm.Cond.selects "FigureHouse" ({ cls := "FigureHouse", name := "kept", desc := "(III)J" } : Jvm.MethodName) ({ cls := "FigureHouse", name := "kept", desc := "(III)J" } : Jvm.MethodName)) ∈ lw_tbl := tb_6 (List.mem_of_getElem? (i := 127) rfl)
set_option maxRecDepth 100000 in
theorem wd_1429 : (Jvm.Cond.methodLink "FigureHouseLaw" (138 : Nat) ({ cls := "FigureHouseLaw", name := "right", desc := "(LFigureHouse;II[J)I" } : Jvm.MethodName)) ∈ lw_tbl := tb_6 (List.mem_of_getElem? (i := 129) rfl)
set_option maxRecDepth 100000 in
theorem wd_1430 : (Jvm.Cond.static ({ cls := "FigureHouseLaw", name := "right", desc := "(LFigureHouse;II[J)I" } : Jvm.MethodName)) ∈ lw_tbl := tb_6 (List.mem_of_getElem? (i := 130) rfl)
set_option maxRecDepth 100000 in
theorem wd_1432 : (Jvm.Cond.methodLink "FigureHouseLaw" (27 : Nat) ({ cls := "FigureHouse", name := "right", desc := "(II)J" } : Jvm.MethodName)) ∈ lw_tbl := tb_6 (List.mem_of_getElem? (i := 132) rfl)
set_option maxRecDepth 100000 in
theorem wd_1433 : (Jvm.Cond.instanceMethod ({ cls := "FigureHouse", name := "right", desc := "(II)J" } : Jvm.MethodName)) ∈ lw_tbl := tb_6 (List.mem_of_getElem? (i := 133) rfl)
set_option maxRecDepth 100000 in
theorem wd_1434 : (Jvm.Cond.selects "FigureHouse" ({ cls := "FigureHouse", name := "right", desc := "(II)J" } : Jvm.MethodName) ({ cls := "FigureHouse", name := "right", desc := "(II)J" } : Jvm.MethodName)) ∈ lw_tbl := tb_6 (List.mem_of_getElem? (i := 134) rfl)
set_option maxRecDepth 100000 in
theorem wd_1436 : (Jvm.Cond.methodLink "FigureHouseLaw" (145 : Nat) ({ cls := "FigureHouseLaw", name := "stray", desc := "(LFigureHouse;II[J)I" } : Jvm.MethodName)) ∈ lw_tbl := tb_6 (List.mem_of_getElem? (i := 136) rfl)
set_option maxRecDepth 100000 in
theorem wd_1437 : (Jvm.Cond.static ({ cls := "FigureHouseLaw", name := "stray", desc := "(LFigureHouse;II[J)I" } : Jvm.MethodName)) ∈ lw_tbl := tb_6 (List.mem_of_getElem? (i := 137) rfl)
set_option maxRecDepth 100000 in
theorem wd_1439 : (Jvm.Cond.methodLink "FigureHouseLaw" (30 : Nat) ({ cls := "FigureHouse", name := "stray", desc := "(II)J" } : Jvm.MethodName)) ∈ lw_tbl := tb_6 (List.mem_of_getElem? (i := 139) rfl)
set_option maxRecDepth 100000 in
theorem wd_1440 : (Jvm.Cond.instanceMethod ({ cls := "FigureHouse", name := "stray", desc := "(II)J" } : Jvm.MethodName)) ∈ lw_tbl := tb_6 (List.mem_of_getElem? (i := 140) rfl)
set_option maxRecDepth 100000 in
theorem wd_1441 : (Jvm.Cond.selects "FigureHouse" ({ cls := "FigureHouse", name := "stray", desc := "(II)J" } : Jvm.MethodName) ({ cls := "FigureHouse", name := "stray", desc := "(II)J" } : Jvm.MethodName)) ∈ lw_tbl := tb_6 (List.mem_of_getElem? (i := 141) rfl)
set_option maxRecDepth 100000 in
theorem wd_1443 : (Jvm.Cond.methodLink "FigureHouseLaw" (219 : Nat) ({ cls := "FigureHouseLaw", name := "printed", desc := "(LFigureHouse;II[J)I" } : Jvm.MethodName)) ∈ lw_tbl := tb_6 (List.mem_of_getElem? (i := 143) rfl)
set_option maxRecDepth 100000 in
theorem wd_1444 : (Jvm.Cond.static ({ cls := "FigureHouseLaw", name := "printed", desc := "(LFigureHouse;II[J)I" } : Jvm.MethodName)) ∈ lw_tbl := tb_6 (List.mem_of_getElem? (i := 144) rfl)
set_option maxRecDepth 100000 in
theorem wd_1446 : (Jvm.Cond.methodLink "FigureHouseLaw" (33 : Nat) ({ cls := "FigureHouse", name := "printed", desc := "(II)J" } : Jvm.MethodName)) ∈ lw_tbl := tb_6 (List.mem_of_getElem? (i := 146) rfl)
set_option maxRecDepth 100000 in
theorem wd_1447 : (Jvm.Cond.instanceMethod ({ cls := "FigureHouse", name := "printed", desc := "(II)J" } : Jvm.MethodName)) ∈ lw_tbl := tb_6 (List.mem_of_getElem? (i := 147) rfl)
set_option maxRecDepth 100000 in
theorem wd_1448 : (Jvm.Cond.selects "FigureHouse" ({ cls := "FigureHouse", name := "printed", desc := "(II)J" } : Jvm.MethodName) ({ cls := "FigureHouse", name := "printed", desc := "(II)J" } : Jvm.MethodName)) ∈ lw_tbl := tb_6 (List.mem_of_getElem? (i := 148) rfl)
set_option maxRecDepth 100000 in
theorem wd_1450 : (Jvm.Cond.methodLink "FigureHouseLaw" (241 : Nat) ({ cls := "FigureHouseLaw", name := "copied", desc := "(LFigureHouse;II[J)I" } : Jvm.MethodName)) ∈ lw_tbl := tb_6 (List.mem_of_getElem? (i := 150) rfl)
set_option maxRecDepth 100000 in
theorem wd_1451 : (Jvm.Cond.static ({ cls := "FigureHouseLaw", name := "copied", desc := "(LFigureHouse;II[J)I" } : Jvm.MethodName)) ∈ lw_tbl := tb_6 (List.mem_of_getElem? (i := 151) rfl)
set_option maxRecDepth 100000 in
theorem wd_1453 : (Jvm.Cond.methodLink "FigureHouseLaw" (36 : Nat) ({ cls := "FigureHouse", name := "copied", desc := "(II)J" } : Jvm.MethodName)) ∈ lw_tbl := tb_6 (List.mem_of_getElem? (i := 153) rfl)
set_option maxRecDepth 100000 in
theorem wd_1454 : (Jvm.Cond.instanceMethod ({ cls := "FigureHouse", name := "copied", desc := "(II)J" } : Jvm.MethodName)) ∈ lw_tbl := tb_6 (List.mem_of_getElem? (i := 154) rfl)
set_option maxRecDepth 100000 in
theorem wd_1455 : (Jvm.Cond.selects "FigureHouse" ({ cls := "FigureHouse", name := "copied", desc := "(II)J" } : Jvm.MethodName) ({ cls := "FigureHouse", name := "copied", desc := "(II)J" } : Jvm.MethodName)) ∈ lw_tbl := tb_6 (List.mem_of_getElem? (i := 155) rfl)
set_option maxRecDepth 100000 in
theorem wd_1457 : (Jvm.Cond.classLink "FigureHouseLaw" (40 : Nat) "FigureHouseModel") ∈ lw_tbl := tb_6 (List.mem_of_getElem? (i := 157) rfl)
set_option maxRecDepth 100000 in
theorem wd_1458 : (Jvm.Cond.instantiable "FigureHouseModel" (90 : Nat)) ∈ lw_tbl := tb_6 (List.mem_of_getElem? (i := 158) rfl)
set_option maxRecDepth 100000 in
theorem wd_1459 : (Jvm.Cond.methodLink "FigureHouseLaw" (42 : Nat) ({ cls := "FigureHouseModel", name := "<init>", desc := "()V" } : Jvm.MethodName)) ∈ lw_tbl := tb_6 (List.mem_of_getElem? (i := 159) rfl)
set_option maxRecDepth 100000 in
theorem wd_1460 : (Jvm.Cond.instanceMethod ({ cls := "FigureHouseModel", name := "<init>", desc := "()V" } : Jvm.MethodName)) ∈ lw_tbl := tb_6 (List.mem_of_getElem? (i := 160) rfl)
set_option maxRecDepth 100000 in
theorem wd_1462 : (Jvm.Cond.methodLink "FigureHouseModel" (1 : Nat) ({ cls := "java/lang/Object", name := "<init>", desc := "()V" } : Jvm.MethodName)) ∈ lw_tbl := tb_6 (List.mem_of_getElem? (i := 162) rfl)
set_option maxRecDepth 100000 in
theorem wd_1463 : (Jvm.Cond.fieldLink "FigureHouseModel" (218 : Nat) "FigureHouseModel" "now" "I") ∈ lw_tbl := tb_6 (List.mem_of_getElem? (i := 163) rfl)
set_option maxRecDepth 100000 in
theorem wd_1464 : (Jvm.Cond.fieldLink "FigureHouseModel" (211 : Nat) "FigureHouseModel" "thrown" "I") ∈ lw_tbl := tb_6 (List.mem_of_getElem? (i := 164) rfl)
set_option maxRecDepth 100000 in
theorem wd_1465 : (Jvm.Cond.fieldLink "FigureHouseModel" (9 : Nat) "FigureHouseModel" "seen" "I") ∈ lw_tbl := tb_6 (List.mem_of_getElem? (i := 165) rfl)
set_option maxRecDepth 100000 in
theorem wd_1466 : (Jvm.Cond.fieldLink "FigureHouseModel" (13 : Nat) "FigureHouseModel" "sort" "[I") ∈ lw_tbl := tb_6 (List.mem_of_getElem? (i := 166) rfl)
set_option maxRecDepth 100000 in
theorem wd_1467 : (Jvm.Cond.fieldLink "FigureHouseModel" (17 : Nat) "FigureHouseModel" "factor" "[I") ∈ lw_tbl := tb_6 (List.mem_of_getElem? (i := 167) rfl)
set_option maxRecDepth 100000 in
theorem wd_1468 : (Jvm.Cond.fieldLink "FigureHouseModel" (20 : Nat) "FigureHouseModel" "shift" "[I") ∈ lw_tbl := tb_6 (List.mem_of_getElem? (i := 168) rfl)
set_option maxRecDepth 100000 in
theorem wd_1469 : (Jvm.Cond.fieldLink "FigureHouseModel" (223 : Nat) "FigureHouseModel" "functions" "I") ∈ lw_tbl := tb_6 (List.mem_of_getElem? (i := 169) rfl)
set_option maxRecDepth 100000 in
theorem wd_1470 : (Jvm.Cond.fieldLink "FigureHouseModel" (23 : Nat) "FigureHouseModel" "tape" "[I") ∈ lw_tbl := tb_6 (List.mem_of_getElem? (i := 170) rfl)
set_option maxRecDepth 100000 in
theorem wd_1471 : (Jvm.Cond.fieldLink "FigureHouseModel" (26 : Nat) "FigureHouseModel" "saying" "[I") ∈ lw_tbl := tb_6 (List.mem_of_getElem? (i := 171) rfl)
set_option maxRecDepth 100000 in
theorem wd_1472 : (Jvm.Cond.fieldLink "FigureHouseModel" (29 : Nat) "FigureHouseModel" "codes" "[I") ∈ lw_tbl := tb_6 (List.mem_of_getElem? (i := 172) rfl)
set_option maxRecDepth 100000 in
theorem wd_1473 : (Jvm.Cond.fieldLink "FigureHouseModel" (32 : Nat) "FigureHouseModel" "textSize" "[I") ∈ lw_tbl := tb_6 (List.mem_of_getElem? (i := 173) rfl)
set_option maxRecDepth 100000 in
theorem wd_1474 : (Jvm.Cond.fieldLink "FigureHouseModel" (279 : Nat) "FigureHouseModel" "size" "I") ∈ lw_tbl := tb_6 (List.mem_of_getElem? (i := 174) rfl)
set_option maxRecDepth 100000 in
theorem wd_1475 : (Jvm.Cond.fieldLink "FigureHouseModel" (282 : Nat) "FigureHouseModel" "at" "I") ∈ lw_tbl := tb_6 (List.mem_of_getElem? (i := 175) rfl)
set_option maxRecDepth 100000 in
theorem wd_1476 : (Jvm.Cond.fieldLink "FigureHouseModel" (285 : Nat) "FigureHouseModel" "wrong" "I") ∈ lw_tbl := tb_6 (List.mem_of_getElem? (i := 176) rfl)
set_option maxRecDepth 100000 in
theorem wd_1477 : (Jvm.Cond.fieldLink "FigureHouseModel" (291 : Nat) "FigureHouseModel" "deep" "I") ∈ lw_tbl := tb_6 (List.mem_of_getElem? (i := 177) rfl)
set_option maxRecDepth 100000 in
theorem wd_1478 : (Jvm.Cond.fieldLink "FigureHouseModel" (288 : Nat) "FigureHouseModel" "said" "I") ∈ lw_tbl := tb_6 (List.mem_of_getElem? (i := 178) rfl)
set_option maxRecDepth 100000 in
theorem wd_1479 : (Jvm.Cond.fieldLink "FigureHouseModel" (349 : Nat) "FigureHouseModel" "plans" "I") ∈ lw_tbl := tb_6 (List.mem_of_getElem? (i := 179) rfl)
set_option maxRecDepth 100000 in
theorem wd_1480 : (Jvm.Cond.fieldLink "FigureHouseModel" (35 : Nat) "FigureHouseModel" "letters" "[I") ∈ lw_tbl := tb_6 (List.mem_of_getElem? (i := 180) rfl)
set_option maxRecDepth 100000 in
theorem wd_1481 : (Jvm.Cond.fieldLink "FigureHouseModel" (38 : Nat) "FigureHouseModel" "pile" "[I") ∈ lw_tbl := tb_6 (List.mem_of_getElem? (i := 181) rfl)
set_option maxRecDepth 100000 in
theorem wd_1482 : (Jvm.Cond.fieldLink "FigureHouseModel" (369 : Nat) "FigureHouseModel" "reading" "I") ∈ lw_tbl := tb_6 (List.mem_of_getElem? (i := 182) rfl)
set_option maxRecDepth 100000 in
theorem wd_1483 : (Jvm.Cond.fieldLink "FigureHouseModel" (41 : Nat) "FigureHouseModel" "fn" "[I") ∈ lw_tbl := tb_6 (List.mem_of_getElem? (i := 183) rfl)
set_option maxRecDepth 100000 in
theorem wd_1484 : (Jvm.Cond.fieldLink "FigureHouseModel" (44 : Nat) "FigureHouseModel" "firstX" "[I") ∈ lw_tbl := tb_6 (List.mem_of_getElem? (i := 184) rfl)
set_option maxRecDepth 100000 in
theorem wd_1485 : (Jvm.Cond.fieldLink "FigureHouseModel" (47 : Nat) "FigureHouseModel" "lines" "[I") ∈ lw_tbl := tb_6 (List.mem_of_getElem? (i := 185) rfl)
set_option maxRecDepth 100000 in
theorem wd_1486 : (Jvm.Cond.fieldLink "FigureHouseModel" (50 : Nat) "FigureHouseModel" "step" "[I") ∈ lw_tbl := tb_6 (List.mem_of_getElem? (i := 186) rfl)
set_option maxRecDepth 100000 in
theorem wd_1487 : (Jvm.Cond.fieldLink "FigureHouseModel" (53 : Nat) "FigureHouseModel" "order" "[I") ∈ lw_tbl := tb_6 (List.mem_of_getElem? (i := 187) rfl)
set_option maxRecDepth 100000 in
theorem wd_1488 : (Jvm.Cond.fieldLink "FigureHouseModel" (56 : Nat) "FigureHouseModel" "places" "[I") ∈ lw_tbl := tb_6 (List.mem_of_getElem? (i := 188) rfl)
set_option maxRecDepth 100000 in
theorem wd_1489 : (Jvm.Cond.fieldLink "FigureHouseModel" (59 : Nat) "FigureHouseModel" "carried" "[I") ∈ lw_tbl := tb_6 (List.mem_of_getElem? (i := 189) rfl)
set_option maxRecDepth 100000 in
theorem wd_1490 : (Jvm.Cond.fieldLink "FigureHouseModel" (62 : Nat) "FigureHouseModel" "block" "[I") ∈ lw_tbl := tb_6 (List.mem_of_getElem? (i := 190) rfl)
set_option maxRecDepth 100000 in
theorem wd_1491 : (Jvm.Cond.fieldLink "FigureHouseModel" (65 : Nat) "FigureHouseModel" "half" "[I") ∈ lw_tbl := tb_6 (List.mem_of_getElem? (i := 191) rfl)
set_option maxRecDepth 100000 in
theorem wd_1492 : (Jvm.Cond.fieldLink "FigureHouseModel" (68 : Nat) "FigureHouseModel" "hand" "[I") ∈ lw_tbl := tb_6 (List.mem_of_getElem? (i := 192) rfl)
set_option maxRecDepth 100000 in
theorem wd_1493 : (Jvm.Cond.fieldLink "FigureHouseModel" (71 : Nat) "FigureHouseModel" "sight" "[I") ∈ lw_tbl := tb_6 (List.mem_of_getElem? (i := 193) rfl)
set_option maxRecDepth 100000 in
theorem wd_1494 : (Jvm.Cond.fieldLink "FigureHouseModel" (74 : Nat) "FigureHouseModel" "checkOf" "[I") ∈ lw_tbl := tb_6 (List.mem_of_getElem? (i := 194) rfl)
set_option maxRecDepth 100000 in
theorem wd_1495 : (Jvm.Cond.fieldLink "FigureHouseModel" (77 : Nat) "FigureHouseModel" "offBy" "[I") ∈ lw_tbl := tb_6 (List.mem_of_getElem? (i := 195) rfl)
set_option maxRecDepth 100000 in
theorem wd_1496 : (Jvm.Cond.fieldLink "FigureHouseModel" (383 : Nat) "FigureHouseModel" "pages" "I") ∈ lw_tbl := tb_6 (List.mem_of_getElem? (i := 196) rfl)
set_option maxRecDepth 100000 in
theorem wd_1497 : (Jvm.Cond.fieldLink "FigureHouseModel" (80 : Nat) "FigureHouseModel" "rawOff" "[I") ∈ lw_tbl := tb_6 (List.mem_of_getElem? (i := 197) rfl)
set_option maxRecDepth 100000 in
theorem wd_1498 : (Jvm.Cond.fieldLink "FigureHouseModel" (83 : Nat) "FigureHouseModel" "added" "[J") ∈ lw_tbl := tb_6 (List.mem_of_getElem? (i := 198) rfl)
set_option maxRecDepth 100000 in
theorem wd_1499 : (Jvm.Cond.fieldLink "FigureHouseModel" (87 : Nat) "FigureHouseModel" "column" "[J") ∈ lw_tbl := tb_6 (List.mem_of_getElem? (i := 199) rfl)
set_option maxRecDepth 100000 in
theorem wd_1500 : (Jvm.Cond.fieldLink "FigureHouseModel" (90 : Nat) "FigureHouseModel" "number" "[J") ∈ lw_tbl := tb_6 (List.mem_of_getElem? (i := 200) rfl)
set_option maxRecDepth 100000 in
theorem wd_1501 : (Jvm.Cond.fieldLink "FigureHouseModel" (93 : Nat) "FigureHouseModel" "row" "[J") ∈ lw_tbl := tb_6 (List.mem_of_getElem? (i := 201) rfl)
set_option maxRecDepth 100000 in
theorem wd_1502 : (Jvm.Cond.fieldLink "FigureHouseModel" (96 : Nat) "FigureHouseModel" "slipPage" "[I") ∈ lw_tbl := tb_6 (List.mem_of_getElem? (i := 202) rfl)
set_option maxRecDepth 100000 in
theorem wd_1503 : (Jvm.Cond.fieldLink "FigureHouseModel" (99 : Nat) "FigureHouseModel" "slipLine" "[I") ∈ lw_tbl := tb_6 (List.mem_of_getElem? (i := 203) rfl)
set_option maxRecDepth 100000 in
theorem wd_1504 : (Jvm.Cond.fieldLink "FigureHouseModel" (102 : Nat) "FigureHouseModel" "slipColumn" "[I") ∈ lw_tbl := tb_6 (List.mem_of_getElem? (i := 204) rfl)
set_option maxRecDepth 100000 in
theorem wd_1505 : (Jvm.Cond.fieldLink "FigureHouseModel" (105 : Nat) "FigureHouseModel" "slipAmount" "[I") ∈ lw_tbl := tb_6 (List.mem_of_getElem? (i := 205) rfl)
set_option maxRecDepth 100000 in
theorem wd_1506 : (Jvm.Cond.fieldLink "FigureHouseModel" (108 : Nat) "FigureHouseModel" "slipTold" "[I") ∈ lw_tbl := tb_6 (List.mem_of_getElem? (i := 206) rfl)
set_option maxRecDepth 100000 in
theorem wd_1507 : (Jvm.Cond.fieldLink "FigureHouseModel" (111 : Nat) "FigureHouseModel" "slipMended" "[I") ∈ lw_tbl := tb_6 (List.mem_of_getElem? (i := 207) rfl)
set_option maxRecDepth 100000 in
theorem wd_1508 : (Jvm.Cond.fieldLink "FigureHouseModel" (422 : Nat) "FigureHouseModel" "slips" "I") ∈ lw_tbl := tb_6 (List.mem_of_getElem? (i := 208) rfl)
set_option maxRecDepth 100000 in
theorem wd_1509 : (Jvm.Cond.fieldLink "FigureHouseModel" (468 : Nat) "FigureHouseModel" "driftTold" "I") ∈ lw_tbl := tb_6 (List.mem_of_getElem? (i := 209) rfl)
set_option maxRecDepth 100000 in
theorem wd_1510 : (Jvm.Cond.fieldLink "FigureHouseModel" (114 : Nat) "FigureHouseModel" "truth" "[J") ∈ lw_tbl := tb_6 (List.mem_of_getElem? (i := 210) rfl)
set_option maxRecDepth 100000 in
theorem wd_1511 : (Jvm.Cond.fieldLink "FigureHouseModel" (117 : Nat) "FigureHouseModel" "rest" "[J") ∈ lw_tbl := tb_6 (List.mem_of_getElem? (i := 211) rfl)
set_option maxRecDepth 100000 in
theorem wd_1512 : (Jvm.Cond.fieldLink "FigureHouseModel" (120 : Nat) "FigureHouseModel" "tryLine" "[I") ∈ lw_tbl := tb_6 (List.mem_of_getElem? (i := 212) rfl)
set_option maxRecDepth 100000 in
theorem wd_1513 : (Jvm.Cond.fieldLink "FigureHouseModel" (123 : Nat) "FigureHouseModel" "tryColumn" "[I") ∈ lw_tbl := tb_6 (List.mem_of_getElem? (i := 213) rfl)
set_option maxRecDepth 100000 in
theorem wd_1514 : (Jvm.Cond.fieldLink "FigureHouseModel" (126 : Nat) "FigureHouseModel" "tryAmount" "[J") ∈ lw_tbl := tb_6 (List.mem_of_getElem? (i := 214) rfl)
set_option maxRecDepth 100000 in
theorem wd_1515 : (Jvm.Cond.fieldLink "FigureHouseModel" (129 : Nat) "FigureHouseModel" "bestLine" "[I") ∈ lw_tbl := tb_6 (List.mem_of_getElem? (i := 215) rfl)
set_option maxRecDepth 100000 in
theorem wd_1516 : (Jvm.Cond.fieldLink "FigureHouseModel" (132 : Nat) "FigureHouseModel" "bestColumn" "[I") ∈ lw_tbl := tb_6 (List.mem_of_getElem? (i := 216) rfl)
set_option maxRecDepth 100000 in
theorem wd_1517 : (Jvm.Cond.fieldLink "FigureHouseModel" (135 : Nat) "FigureHouseModel" "bestAmount" "[J") ∈ lw_tbl := tb_6 (List.mem_of_getElem? (i := 217) rfl)
set_option maxRecDepth 100000 in
theorem wd_1518 : (Jvm.Cond.fieldLink "FigureHouseModel" (492 : Nat) "FigureHouseModel" "leastMany" "I") ∈ lw_tbl := tb_6 (List.mem_of_getElem? (i := 218) rfl)
set_option maxRecDepth 100000 in
theorem wd_1519 : (Jvm.Cond.fieldLink "FigureHouseModel" (495 : Nat) "FigureHouseModel" "leastWays" "I") ∈ lw_tbl := tb_6 (List.mem_of_getElem? (i := 219) rfl)
set_option maxRecDepth 100000 in
theorem wd_1520 : (Jvm.Cond.fieldLink "FigureHouseModel" (489 : Nat) "FigureHouseModel" "blockLines" "I") ∈ lw_tbl := tb_6 (List.mem_of_getElem? (i := 220) rfl)
set_option maxRecDepth 100000 in
theorem wd_1521 : (Jvm.Cond.fieldLink "FigureHouseModel" (498 : Nat) "FigureHouseModel" "blockOrder" "I") ∈ lw_tbl := tb_6 (List.mem_of_getElem? (i := 221) rfl)
set_option maxRecDepth 100000 in
theorem wd_1522 : (Jvm.Cond.fieldLink "FigureHouseModel" (505 : Nat) "FigureHouseModel" "blockHead" "I") ∈ lw_tbl := tb_6 (List.mem_of_getElem? (i := 222) rfl)
set_option maxRecDepth 100000 in
theorem wd_1523 : (Jvm.Cond.fieldLink "FigureHouseModel" (138 : Nat) "FigureHouseModel" "doubleOne" "[I") ∈ lw_tbl := tb_6 (List.mem_of_getElem? (i := 223) rfl)
set_option maxRecDepth 100000 in
theorem wd_1524 : (Jvm.Cond.fieldLink "FigureHouseModel" (141 : Nat) "FigureHouseModel" "doubleOther" "[I") ∈ lw_tbl := tb_6 (List.mem_of_getElem? (i := 224) rfl)
set_option maxRecDepth 100000 in
theorem wd_1525 : (Jvm.Cond.fieldLink "FigureHouseModel" (144 : Nat) "FigureHouseModel" "onlyOne" "[I") ∈ lw_tbl := tb_6 (List.mem_of_getElem? (i := 225) rfl)
set_option maxRecDepth 100000 in
theorem wd_1526 : (Jvm.Cond.fieldLink "FigureHouseModel" (147 : Nat) "FigureHouseModel" "onlyOther" "[I") ∈ lw_tbl := tb_6 (List.mem_of_getElem? (i := 226) rfl)
set_option maxRecDepth 100000 in
theorem wd_1527 : (Jvm.Cond.fieldLink "FigureHouseModel" (150 : Nat) "FigureHouseModel" "bothFound" "[I") ∈ lw_tbl := tb_6 (List.mem_of_getElem? (i := 227) rfl)
set_option maxRecDepth 100000 in
theorem wd_1528 : (Jvm.Cond.fieldLink "FigureHouseModel" (521 : Nat) "FigureHouseModel" "doubles" "I") ∈ lw_tbl := tb_6 (List.mem_of_getElem? (i := 228) rfl)
set_option maxRecDepth 100000 in
theorem wd_1529 : (Jvm.Cond.fieldLink "FigureHouseModel" (153 : Nat) "FigureHouseModel" "isSet" "[Z") ∈ lw_tbl := tb_6 (List.mem_of_getElem? (i := 229) rfl)
set_option maxRecDepth 100000 in
theorem wd_1530 : (Jvm.Cond.fieldLink "FigureHouseModel" (157 : Nat) "FigureHouseModel" "plate" "[J") ∈ lw_tbl := tb_6 (List.mem_of_getElem? (i := 230) rfl)
set_option maxRecDepth 100000 in
theorem wd_1531 : (Jvm.Cond.fieldLink "FigureHouseModel" (160 : Nat) "FigureHouseModel" "pressPage" "[I") ∈ lw_tbl := tb_6 (List.mem_of_getElem? (i := 231) rfl)
set_option maxRecDepth 100000 in
theorem wd_1532 : (Jvm.Cond.fieldLink "FigureHouseModel" (163 : Nat) "FigureHouseModel" "pressLine" "[I") ∈ lw_tbl := tb_6 (List.mem_of_getElem? (i := 232) rfl)
set_option maxRecDepth 100000 in
theorem wd_1533 : (Jvm.Cond.fieldLink "FigureHouseModel" (166 : Nat) "FigureHouseModel" "pressPlace" "[I") ∈ lw_tbl := tb_6 (List.mem_of_getElem? (i := 233) rfl)
set_option maxRecDepth 100000 in
theorem wd_1534 : (Jvm.Cond.fieldLink "FigureHouseModel" (169 : Nat) "FigureHouseModel" "pressFigure" "[I") ∈ lw_tbl := tb_6 (List.mem_of_getElem? (i := 234) rfl)
set_option maxRecDepth 100000 in
theorem wd_1535 : (Jvm.Cond.fieldLink "FigureHouseModel" (527 : Nat) "FigureHouseModel" "presses" "I") ∈ lw_tbl := tb_6 (List.mem_of_getElem? (i := 235) rfl)
set_option maxRecDepth 100000 in
theorem wd_1536 : (Jvm.Cond.fieldLink "FigureHouseModel" (172 : Nat) "FigureHouseModel" "copyPage" "[I") ∈ lw_tbl := tb_6 (List.mem_of_getElem? (i := 236) rfl)
set_option maxRecDepth 100000 in
theorem wd_1537 : (Jvm.Cond.fieldLink "FigureHouseModel" (175 : Nat) "FigureHouseModel" "copyLine" "[J") ∈ lw_tbl := tb_6 (List.mem_of_getElem? (i := 237) rfl)
set_option maxRecDepth 100000 in
theorem wd_1538 : (Jvm.Cond.fieldLink "FigureHouseModel" (178 : Nat) "FigureHouseModel" "errPage" "[I") ∈ lw_tbl := tb_6 (List.mem_of_getElem? (i := 238) rfl)
set_option maxRecDepth 100000 in
theorem wd_1539 : (Jvm.Cond.fieldLink "FigureHouseModel" (181 : Nat) "FigureHouseModel" "errLine" "[I") ∈ lw_tbl := tb_6 (List.mem_of_getElem? (i := 239) rfl)
set_option maxRecDepth 100000 in
theorem wd_1540 : (Jvm.Cond.fieldLink "FigureHouseModel" (184 : Nat) "FigureHouseModel" "errOld" "[J") ∈ lw_tbl := tb_7 (List.mem_of_getElem? (i := 0) rfl)
set_option maxRecDepth 100000 in
theorem wd_1541 : (Jvm.Cond.fieldLink "FigureHouseModel" (187 : Nat) "FigureHouseModel" "errNew" "[J") ∈ lw_tbl := tb_7 (List.mem_of_getElem? (i := 1) rfl)
set_option maxRecDepth 100000 in
theorem wd_1542 : (Jvm.Cond.fieldLink "FigureHouseModel" (536 : Nat) "FigureHouseModel" "copies" "I") ∈ lw_tbl := tb_7 (List.mem_of_getElem? (i := 2) rfl)
set_option maxRecDepth 100000 in
theorem wd_1543 : (Jvm.Cond.fieldLink "FigureHouseModel" (539 : Nat) "FigureHouseModel" "errata" "I") ∈ lw_tbl := tb_7 (List.mem_of_getElem? (i := 3) rfl)
set_option maxRecDepth 100000 in
theorem wd_1544 : (Jvm.Cond.fieldLink "FigureHouseModel" (190 : Nat) "FigureHouseModel" "otherPage" "[I") ∈ lw_tbl := tb_7 (List.mem_of_getElem? (i := 4) rfl)
set_option maxRecDepth 100000 in
theorem wd_1545 : (Jvm.Cond.fieldLink "FigureHouseModel" (193 : Nat) "FigureHouseModel" "otherLine" "[J") ∈ lw_tbl := tb_7 (List.mem_of_getElem? (i := 5) rfl)
set_option maxRecDepth 100000 in
theorem wd_1546 : (Jvm.Cond.fieldLink "FigureHouseModel" (196 : Nat) "FigureHouseModel" "isTold" "[Z") ∈ lw_tbl := tb_7 (List.mem_of_getElem? (i := 6) rfl)
set_option maxRecDepth 100000 in
theorem wd_1547 : (Jvm.Cond.fieldLink "FigureHouseModel" (545 : Nat) "FigureHouseModel" "others" "I") ∈ lw_tbl := tb_7 (List.mem_of_getElem? (i := 7) rfl)
set_option maxRecDepth 100000 in
theorem wd_1548 : (Jvm.Cond.fieldLink "FigureHouseModel" (199 : Nat) "FigureHouseModel" "sheetKind" "[I") ∈ lw_tbl := tb_7 (List.mem_of_getElem? (i := 8) rfl)
set_option maxRecDepth 100000 in
theorem wd_1549 : (Jvm.Cond.fieldLink "FigureHouseModel" (202 : Nat) "FigureHouseModel" "isLost" "[Z") ∈ lw_tbl := tb_7 (List.mem_of_getElem? (i := 9) rfl)
set_option maxRecDepth 100000 in
theorem wd_1550 : (Jvm.Cond.fieldLink "FigureHouseModel" (205 : Nat) "FigureHouseModel" "sheetRow" "[J") ∈ lw_tbl := tb_7 (List.mem_of_getElem? (i := 10) rfl)
set_option maxRecDepth 100000 in
theorem wd_1551 : (Jvm.Cond.fieldLink "FigureHouseModel" (548 : Nat) "FigureHouseModel" "sheets" "I") ∈ lw_tbl := tb_7 (List.mem_of_getElem? (i := 11) rfl)
set_option maxRecDepth 100000 in
theorem wd_1552 : (Jvm.Cond.fieldLink "FigureHouseModel" (208 : Nat) "FigureHouseModel" "pivotHours" "I") ∈ lw_tbl := tb_7 (List.mem_of_getElem? (i := 12) rfl)
set_option maxRecDepth 100000 in
theorem wd_1734 : (Jvm.Cond.arrayClass Jvm.ClassFile.FieldType.boolean) ∈ lw_tbl := tb_7 (List.mem_of_getElem? (i := 194) rfl)
set_option maxRecDepth 100000 in
theorem wd_1735 : (Jvm.Cond.methodLink "FigureHouseLaw" (97 : Nat) ({ cls := "FigureHouseModel", name := "thrown", desc := "()I" } : Jvm.MethodName)) ∈ lw_tbl := tb_7 (List.mem_of_getElem? (i := 195) rfl)
set_option maxRecDepth 100000 in
theorem wd_1736 : (Jvm.Cond.instanceMethod ({ cls := "FigureHouseModel", name := "thrown", desc := "()I" } : Jvm.MethodName)) ∈ lw_tbl := tb_7 (List.mem_of_getElem? (i := 196) rfl)
set_option maxRecDepth 100000 in
theorem wd_1737 : (Jvm.Cond.selects "FigureHouseModel" ({ cls := "FigureHouseModel", name := "thrown", desc := "()I" } : Jvm.MethodName) ({ cls := "FigureHouseModel", name := "thrown", desc := "()I" } : Jvm.MethodName)) ∈ lw_tbl := tb_7 (List.mem_of_getElem? (i := 197) rfl)
set_option maxRecDepth 100000 in
theorem wd_1739 : (Jvm.Cond.methodLink "FigureHouseLaw" (47 : Nat) ({ cls := "FigureHouseModel", name := "days", desc := "(I)I" } : Jvm.MethodName)) ∈ lw_tbl := tb_7 (List.mem_of_getElem? (i := 199) rfl)
set_option maxRecDepth 100000 in
theorem wd_1740 : (Jvm.Cond.instanceMethod ({ cls := "FigureHouseModel", name := "days", desc := "(I)I" } : Jvm.MethodName)) ∈ lw_tbl := tb_7 (List.mem_of_getElem? (i := 200) rfl)
set_option maxRecDepth 100000 in
theorem wd_1741 : (Jvm.Cond.selects "FigureHouseModel" ({ cls := "FigureHouseModel", name := "days", desc := "(I)I" } : Jvm.MethodName) ({ cls := "FigureHouseModel", name := "days", desc := "(I)I" } : Jvm.MethodName)) ∈ lw_tbl := tb_7 (List.mem_of_getElem? (i := 201) rfl)
set_option maxRecDepth 100000 in
theorem wd_1743 : (Jvm.Cond.methodLink "FigureHouseModel" (214 : Nat) ({ cls := "FigureHouseModel", name := "in", desc := "(III)Z" } : Jvm.MethodName)) ∈ lw_tbl := tb_7 (List.mem_of_getElem? (i := 203) rfl)
set_option maxRecDepth 100000 in
theorem wd_1744 : (Jvm.Cond.static ({ cls := "FigureHouseModel", name := "in", desc := "(III)Z" } : Jvm.MethodName)) ∈ lw_tbl := tb_7 (List.mem_of_getElem? (i := 204) rfl)
set_option maxRecDepth 100000 in
theorem wd_1746 : (Jvm.Cond.methodLink "FigureHouseLaw" (52 : Nat) ({ cls := "FigureHouseModel", name := "as", desc := "(I)Z" } : Jvm.MethodName)) ∈ lw_tbl := tb_7 (List.mem_of_getElem? (i := 206) rfl)
set_option maxRecDepth 100000 in
theorem wd_1747 : (Jvm.Cond.instanceMethod ({ cls := "FigureHouseModel", name := "as", desc := "(I)Z" } : Jvm.MethodName)) ∈ lw_tbl := tb_7 (List.mem_of_getElem? (i := 207) rfl)
set_option maxRecDepth 100000 in
theorem wd_1748 : (Jvm.Cond.selects "FigureHouseModel" ({ cls := "FigureHouseModel", name := "as", desc := "(I)Z" } : Jvm.MethodName) ({ cls := "FigureHouseModel", name := "as", desc := "(I)Z" } : Jvm.MethodName)) ∈ lw_tbl := tb_7 (List.mem_of_getElem? (i := 208) rfl)
set_option maxRecDepth 100000 in
theorem wd_1750 : (Jvm.Cond.methodLink "FigureHouseLaw" (57 : Nat) ({ cls := "FigureHouseModel", name := "known", desc := "()I" } : Jvm.MethodName)) ∈ lw_tbl := tb_7 (List.mem_of_getElem? (i := 210) rfl)
set_option maxRecDepth 100000 in
theorem wd_1751 : (Jvm.Cond.instanceMethod ({ cls := "FigureHouseModel", name := "known", desc := "()I" } : Jvm.MethodName)) ∈ lw_tbl := tb_7 (List.mem_of_getElem? (i := 211) rfl)
set_option maxRecDepth 100000 in
theorem wd_1752 : (Jvm.Cond.selects "FigureHouseModel" ({ cls := "FigureHouseModel", name := "known", desc := "()I" } : Jvm.MethodName) ({ cls := "FigureHouseModel", name := "known", desc := "()I" } : Jvm.MethodName)) ∈ lw_tbl := tb_7 (List.mem_of_getElem? (i := 212) rfl)
set_option maxRecDepth 100000 in
theorem wd_1754 : (Jvm.Cond.methodLink "FigureHouseLaw" (62 : Nat) ({ cls := "FigureHouseModel", name := "function", desc := "(III)I" } : Jvm.MethodName)) ∈ lw_tbl := tb_7 (List.mem_of_getElem? (i := 214) rfl)
set_option maxRecDepth 100000 in
theorem wd_1755 : (Jvm.Cond.instanceMethod ({ cls := "FigureHouseModel", name := "function", desc := "(III)I" } : Jvm.MethodName)) ∈ lw_tbl := tb_7 (List.mem_of_getElem? (i := 215) rfl)
set_option maxRecDepth 100000 in
theorem wd_1756 : (Jvm.Cond.selects "FigureHouseModel" ({ cls := "FigureHouseModel", name := "function", desc := "(III)I" } : Jvm.MethodName) ({ cls := "FigureHouseModel", name := "function", desc := "(III)I" } : Jvm.MethodName)) ∈ lw_tbl := tb_7 (List.mem_of_getElem? (i := 216) rfl)
set_option maxRecDepth 100000 in
theorem wd_1758 : (Jvm.Cond.methodLink "FigureHouseLaw" (66 : Nat) ({ cls := "FigureHouseModel", name := "exact", desc := "(III)J" } : Jvm.MethodName)) ∈ lw_tbl := tb_7 (List.mem_of_getElem? (i := 218) rfl)
set_option maxRecDepth 100000 in
theorem wd_1759 : (Jvm.Cond.instanceMethod ({ cls := "FigureHouseModel", name := "exact", desc := "(III)J" } : Jvm.MethodName)) ∈ lw_tbl := tb_7 (List.mem_of_getElem? (i := 219) rfl)
set_option maxRecDepth 100000 in
theorem wd_1760 : (Jvm.Cond.selects "FigureHouseModel" ({ cls := "FigureHouseModel", name := "exact", desc := "(III)J" } : Jvm.MethodName) ({ cls := "FigureHouseModel", name := "exact", desc := "(III)J" } : Jvm.MethodName)) ∈ lw_tbl := tb_7 (List.mem_of_getElem? (i := 220) rfl)
set_option maxRecDepth 100000 in
theorem wd_1762 : (Jvm.Cond.methodLink "FigureHouseModel" (263 : Nat) ({ cls := "FigureHouseModel", name := "isFunction", desc := "(III)Z" } : Jvm.MethodName)) ∈ lw_tbl := tb_7 (List.mem_of_getElem? (i := 222) rfl)
set_option maxRecDepth 100000 in
theorem wd_1764 : (Jvm.Cond.instanceMethod ({ cls := "FigureHouseModel", name := "isFunction", desc := "(III)Z" } : Jvm.MethodName)) ∈ lw_tbl := tb_7 (List.mem_of_getElem? (i := 224) rfl)
set_option maxRecDepth 100000 in
theorem wd_1766 : (Jvm.Cond.methodLink "FigureHouseModel" (266 : Nat) ({ cls := "FigureHouseModel", name := "exactOf", desc := "(III)J" } : Jvm.MethodName)) ∈ lw_tbl := tb_7 (List.mem_of_getElem? (i := 226) rfl)
set_option maxRecDepth 100000 in
theorem wd_1768 : (Jvm.Cond.instanceMethod ({ cls := "FigureHouseModel", name := "exactOf", desc := "(III)J" } : Jvm.MethodName)) ∈ lw_tbl := tb_7 (List.mem_of_getElem? (i := 228) rfl)
set_option maxRecDepth 100000 in
theorem wd_1770 : (Jvm.Cond.methodLink "FigureHouseModel" (238 : Nat) ({ cls := "FigureHouseModel", name := "under", desc := "(III)J" } : Jvm.MethodName)) ∈ lw_tbl := tb_7 (List.mem_of_getElem? (i := 230) rfl)
set_option maxRecDepth 100000 in
theorem wd_1772 : (Jvm.Cond.instanceMethod ({ cls := "FigureHouseModel", name := "under", desc := "(III)J" } : Jvm.MethodName)) ∈ lw_tbl := tb_7 (List.mem_of_getElem? (i := 232) rfl)
set_option maxRecDepth 100000 in
theorem wd_1774 : (Jvm.Cond.methodLink "FigureHouseModel" (230 : Nat) ({ cls := "FigureHouseModel", name := "ten", desc := "(I)J" } : Jvm.MethodName)) ∈ lw_tbl := tb_7 (List.mem_of_getElem? (i := 234) rfl)
set_option maxRecDepth 100000 in
theorem wd_1775 : (Jvm.Cond.static ({ cls := "FigureHouseModel", name := "ten", desc := "(I)J" } : Jvm.MethodName)) ∈ lw_tbl := tb_7 (List.mem_of_getElem? (i := 235) rfl)
set_option maxRecDepth 100000 in
theorem wd_1777 : (Jvm.Cond.constantLong "FigureHouseModel" (221 : Nat) (10 : Int64)) ∈ lw_tbl := tb_7 (List.mem_of_getElem? (i := 237) rfl)
set_option maxRecDepth 100000 in
theorem wd_1778 : (Jvm.Cond.methodLink "FigureHouseModel" (242 : Nat) ({ cls := "FigureHouseModel", name := "root", desc := "(J)J" } : Jvm.MethodName)) ∈ lw_tbl := tb_7 (List.mem_of_getElem? (i := 238) rfl)
set_option maxRecDepth 100000 in
theorem wd_1779 : (Jvm.Cond.static ({ cls := "FigureHouseModel", name := "root", desc := "(J)J" } : Jvm.MethodName)) ∈ lw_tbl := tb_7 (List.mem_of_getElem? (i := 239) rfl)
set_option maxRecDepth 100000 in
theorem wd_1781 : (Jvm.Cond.constantLong "FigureHouseModel" (226 : Nat) (2000000000 : Int64)) ∈ lw_tbl := tb_8 (List.mem_of_getElem? (i := 1) rfl)
set_option maxRecDepth 100000 in
theorem wd_1782 : (Jvm.Cond.constantLong "FigureHouseModel" (228 : Nat) (2 : Int64)) ∈ lw_tbl := tb_8 (List.mem_of_getElem? (i := 2) rfl)
set_option maxRecDepth 100000 in
theorem wd_1783 : (Jvm.Cond.methodLink "FigureHouseModel" (246 : Nat) ({ cls := "FigureHouseModel", name := "above", desc := "(III)J" } : Jvm.MethodName)) ∈ lw_tbl := tb_8 (List.mem_of_getElem? (i := 3) rfl)
set_option maxRecDepth 100000 in
theorem wd_1785 : (Jvm.Cond.instanceMethod ({ cls := "FigureHouseModel", name := "above", desc := "(III)J" } : Jvm.MethodName)) ∈ lw_tbl := tb_8 (List.mem_of_getElem? (i := 5) rfl)
set_option maxRecDepth 100000 in
theorem wd_1787 : (Jvm.Cond.constantLong "FigureHouseModel" (234 : Nat) (1000 : Int64)) ∈ lw_tbl := tb_8 (List.mem_of_getElem? (i := 7) rfl)
set_option maxRecDepth 100000 in
theorem wd_1788 : (Jvm.Cond.methodLink "FigureHouseModel" (249 : Nat) ({ cls := "FigureHouseModel", name := "below", desc := "(II)J" } : Jvm.MethodName)) ∈ lw_tbl := tb_8 (List.mem_of_getElem? (i := 8) rfl)
set_option maxRecDepth 100000 in
theorem wd_1790 : (Jvm.Cond.instanceMethod ({ cls := "FigureHouseModel", name := "below", desc := "(II)J" } : Jvm.MethodName)) ∈ lw_tbl := tb_8 (List.mem_of_getElem? (i := 10) rfl)
set_option maxRecDepth 100000 in
theorem wd_1792 : (Jvm.Cond.constantLong "FigureHouseModel" (236 : Nat) (7 : Int64)) ∈ lw_tbl := tb_8 (List.mem_of_getElem? (i := 12) rfl)
set_option maxRecDepth 100000 in
theorem wd_1793 : (Jvm.Cond.constantLong "FigureHouseModel" (269 : Nat) (-1 : Int64)) ∈ lw_tbl := tb_8 (List.mem_of_getElem? (i := 13) rfl)
set_option maxRecDepth 100000 in
theorem wd_1794 : (Jvm.Cond.methodLink "FigureHouseLaw" (70 : Nat) ({ cls := "FigureHouseModel", name := "whole", desc := "(III)I" } : Jvm.MethodName)) ∈ lw_tbl := tb_8 (List.mem_of_getElem? (i := 14) rfl)
set_option maxRecDepth 100000 in
theorem wd_1795 : (Jvm.Cond.instanceMethod ({ cls := "FigureHouseModel", name := "whole", desc := "(III)I" } : Jvm.MethodName)) ∈ lw_tbl := tb_8 (List.mem_of_getElem? (i := 15) rfl)
set_option maxRecDepth 100000 in
theorem wd_1796 : (Jvm.Cond.selects "FigureHouseModel" ({ cls := "FigureHouseModel", name := "whole", desc := "(III)I" } : Jvm.MethodName) ({ cls := "FigureHouseModel", name := "whole", desc := "(III)I" } : Jvm.MethodName)) ∈ lw_tbl := tb_8 (List.mem_of_getElem? (i := 16) rfl)
set_option maxRecDepth 100000 in
theorem wd_1798 : (Jvm.Cond.methodLink "FigureHouseLaw" (74 : Nat) ({ cls := "FigureHouseModel", name := "nearest", desc := "(III)J" } : Jvm.MethodName)) ∈ lw_tbl := tb_8 (List.mem_of_getElem? (i := 18) rfl)
set_option maxRecDepth 100000 in
theorem wd_1799 : (Jvm.Cond.instanceMethod ({ cls := "FigureHouseModel", name := "nearest", desc := "(III)J" } : Jvm.MethodName)) ∈ lw_tbl := tb_8 (List.mem_of_getElem? (i := 19) rfl)
set_option maxRecDepth 100000 in
theorem wd_1800 : (Jvm.Cond.selects "FigureHouseModel" ({ cls := "FigureHouseModel", name := "nearest", desc := "(III)J" } : Jvm.MethodName) ({ cls := "FigureHouseModel", name := "nearest", desc := "(III)J" } : Jvm.MethodName)) ∈ lw_tbl := tb_8 (List.mem_of_getElem? (i := 20) rfl)
set_option maxRecDepth 100000 in
theorem wd_1802 : (Jvm.Cond.methodLink "FigureHouseModel" (271 : Nat) ({ cls := "FigureHouseModel", name := "nearestOf", desc := "(IIII)J" } : Jvm.MethodName)) ∈ lw_tbl := tb_8 (List.mem_of_getElem? (i := 22) rfl)
set_option maxRecDepth 100000 in
theorem wd_1804 : (Jvm.Cond.instanceMethod ({ cls := "FigureHouseModel", name := "nearestOf", desc := "(IIII)J" } : Jvm.MethodName)) ∈ lw_tbl := tb_8 (List.mem_of_getElem? (i := 24) rfl)
set_option maxRecDepth 100000 in
theorem wd_1806 : (Jvm.Cond.methodLink "FigureHouseModel" (259 : Nat) ({ cls := "FigureHouseModel", name := "nearestBy", desc := "(JJI)J" } : Jvm.MethodName)) ∈ lw_tbl := tb_8 (List.mem_of_getElem? (i := 26) rfl)
set_option maxRecDepth 100000 in
theorem wd_1807 : (Jvm.Cond.static ({ cls := "FigureHouseModel", name := "nearestBy", desc := "(JJI)J" } : Jvm.MethodName)) ∈ lw_tbl := tb_8 (List.mem_of_getElem? (i := 27) rfl)
set_option maxRecDepth 100000 in
theorem wd_1809 : (Jvm.Cond.methodLink "FigureHouseModel" (253 : Nat) ({ cls := "java/lang/Math", name := "floorDiv", desc := "(JJ)J" } : Jvm.MethodName)) ∈ lw_tbl := tb_8 (List.mem_of_getElem? (i := 29) rfl)
set_option maxRecDepth 100000 in
theorem wd_1810 : (Jvm.Cond.methodLink "FigureHouseLaw" (78 : Nat) ({ cls := "FigureHouseModel", name := "feed", desc := "(IIIII)I" } : Jvm.MethodName)) ∈ lw_tbl := tb_8 (List.mem_of_getElem? (i := 30) rfl)
set_option maxRecDepth 100000 in
theorem wd_1811 : (Jvm.Cond.instanceMethod ({ cls := "FigureHouseModel", name := "feed", desc := "(IIIII)I" } : Jvm.MethodName)) ∈ lw_tbl := tb_8 (List.mem_of_getElem? (i := 31) rfl)
set_option maxRecDepth 100000 in
theorem wd_1812 : (Jvm.Cond.selects "FigureHouseModel" ({ cls := "FigureHouseModel", name := "feed", desc := "(IIIII)I" } : Jvm.MethodName) ({ cls := "FigureHouseModel", name := "feed", desc := "(IIIII)I" } : Jvm.MethodName)) ∈ lw_tbl := tb_8 (List.mem_of_getElem? (i := 32) rfl)
set_option maxRecDepth 100000 in
theorem wd_1814 : (Jvm.Cond.methodLink "FigureHouseModel" (275 : Nat) ({ cls := "FigureHouseModel", name := "byteOf", desc := "(IIIIII)I" } : Jvm.MethodName)) ∈ lw_tbl := tb_8 (List.mem_of_getElem? (i := 34) rfl)
set_option maxRecDepth 100000 in
theorem wd_1815 : (Jvm.Cond.static ({ cls := "FigureHouseModel", name := "byteOf", desc := "(IIIIII)I" } : Jvm.MethodName)) ∈ lw_tbl := tb_8 (List.mem_of_getElem? (i := 35) rfl)
set_option maxRecDepth 100000 in
theorem wd_1817 : (Jvm.Cond.methodLink "FigureHouseLaw" (82 : Nat) ({ cls := "FigureHouseModel", name := "end", desc := "(I)Z" } : Jvm.MethodName)) ∈ lw_tbl := tb_8 (List.mem_of_getElem? (i := 37) rfl)
set_option maxRecDepth 100000 in
theorem wd_1818 : (Jvm.Cond.instanceMethod ({ cls := "FigureHouseModel", name := "end", desc := "(I)Z" } : Jvm.MethodName)) ∈ lw_tbl := tb_8 (List.mem_of_getElem? (i := 38) rfl)
set_option maxRecDepth 100000 in
theorem wd_1819 : (Jvm.Cond.selects "FigureHouseModel" ({ cls := "FigureHouseModel", name := "end", desc := "(I)Z" } : Jvm.MethodName) ({ cls := "FigureHouseModel", name := "end", desc := "(I)Z" } : Jvm.MethodName)) ∈ lw_tbl := tb_8 (List.mem_of_getElem? (i := 39) rfl)
set_option maxRecDepth 100000 in
theorem wd_1821 : (Jvm.Cond.methodLink "FigureHouseLaw" (86 : Nat) ({ cls := "FigureHouseModel", name := "fault", desc := "()I" } : Jvm.MethodName)) ∈ lw_tbl := tb_8 (List.mem_of_getElem? (i := 41) rfl)
set_option maxRecDepth 100000 in
theorem wd_1822 : (Jvm.Cond.instanceMethod ({ cls := "FigureHouseModel", name := "fault", desc := "()I" } : Jvm.MethodName)) ∈ lw_tbl := tb_8 (List.mem_of_getElem? (i := 42) rfl)
set_option maxRecDepth 100000 in
theorem wd_1823 : (Jvm.Cond.selects "FigureHouseModel" ({ cls := "FigureHouseModel", name := "fault", desc := "()I" } : Jvm.MethodName) ({ cls := "FigureHouseModel", name := "fault", desc := "()I" } : Jvm.MethodName)) ∈ lw_tbl := tb_8 (List.mem_of_getElem? (i := 43) rfl)
set_option maxRecDepth 100000 in
theorem wd_1825 : (Jvm.Cond.methodLink "FigureHouseModel" (346 : Nat) ({ cls := "FigureHouseModel", name := "clause", desc := "()V" } : Jvm.MethodName)) ∈ lw_tbl := tb_8 (List.mem_of_getElem? (i := 45) rfl)
set_option maxRecDepth 100000 in
theorem wd_1827 : (Jvm.Cond.instanceMethod ({ cls := "FigureHouseModel", name := "clause", desc := "()V" } : Jvm.MethodName)) ∈ lw_tbl := tb_8 (List.mem_of_getElem? (i := 47) rfl)
set_option maxRecDepth 100000 in
theorem wd_1829 : (Jvm.Cond.methodLink "FigureHouseModel" (297 : Nat) ({ cls := "FigureHouseModel", name := "look", desc := "()I" } : Jvm.MethodName)) ∈ lw_tbl := tb_8 (List.mem_of_getElem? (i := 49) rfl)
set_option maxRecDepth 100000 in
theorem wd_1831 : (Jvm.Cond.instanceMethod ({ cls := "FigureHouseModel", name := "look", desc := "()I" } : Jvm.MethodName)) ∈ lw_tbl := tb_8 (List.mem_of_getElem? (i := 51) rfl)
set_option maxRecDepth 100000 in
theorem wd_1833 : (Jvm.Cond.methodLink "FigureHouseModel" (343 : Nat) ({ cls := "FigureHouseModel", name := "isLabel", desc := "(I)Z" } : Jvm.MethodName)) ∈ lw_tbl := tb_8 (List.mem_of_getElem? (i := 53) rfl)
set_option maxRecDepth 100000 in
theorem wd_1834 : (Jvm.Cond.static ({ cls := "FigureHouseModel", name := "isLabel", desc := "(I)Z" } : Jvm.MethodName)) ∈ lw_tbl := tb_8 (List.mem_of_getElem? (i := 54) rfl)
set_option maxRecDepth 100000 in
theorem wd_1836 : (Jvm.Cond.methodLink "FigureHouseModel" (294 : Nat) ({ cls := "FigureHouseModel", name := "bad", desc := "()V" } : Jvm.MethodName)) ∈ lw_tbl := tb_8 (List.mem_of_getElem? (i := 56) rfl)
set_option maxRecDepth 100000 in
theorem wd_1838 : (Jvm.Cond.instanceMethod ({ cls := "FigureHouseModel", name := "bad", desc := "()V" } : Jvm.MethodName)) ∈ lw_tbl := tb_8 (List.mem_of_getElem? (i := 58) rfl)
set_option maxRecDepth 100000 in
theorem wd_1840 : (Jvm.Cond.methodLink "FigureHouseModel" (305 : Nat) ({ cls := "FigureHouseModel", name := "say", desc := "(I)V" } : Jvm.MethodName)) ∈ lw_tbl := tb_8 (List.mem_of_getElem? (i := 60) rfl)
set_option maxRecDepth 100000 in
theorem wd_1842 : (Jvm.Cond.instanceMethod ({ cls := "FigureHouseModel", name := "say", desc := "(I)V" } : Jvm.MethodName)) ∈ lw_tbl := tb_8 (List.mem_of_getElem? (i := 62) rfl)
set_option maxRecDepth 100000 in
theorem wd_1844 : (Jvm.Cond.methodLink "FigureHouseModel" (313 : Nat) ({ cls := "FigureHouseModel", name := "sum", desc := "()V" } : Jvm.MethodName)) ∈ lw_tbl := tb_8 (List.mem_of_getElem? (i := 64) rfl)
set_option maxRecDepth 100000 in
theorem wd_1846 : (Jvm.Cond.instanceMethod ({ cls := "FigureHouseModel", name := "sum", desc := "()V" } : Jvm.MethodName)) ∈ lw_tbl := tb_8 (List.mem_of_getElem? (i := 66) rfl)
set_option maxRecDepth 100000 in
theorem wd_1848 : (Jvm.Cond.methodLink "FigureHouseModel" (324 : Nat) ({ cls := "FigureHouseModel", name := "term", desc := "()V" } : Jvm.MethodName)) ∈ lw_tbl := tb_8 (List.mem_of_getElem? (i := 68) rfl)
set_option maxRecDepth 100000 in
theorem wd_1850 : (Jvm.Cond.instanceMethod ({ cls := "FigureHouseModel", name := "term", desc := "()V" } : Jvm.MethodName)) ∈ lw_tbl := tb_8 (List.mem_of_getElem? (i := 70) rfl)
set_option maxRecDepth 100000 in
theorem wd_1852 : (Jvm.Cond.methodLink "FigureHouseModel" (321 : Nat) ({ cls := "FigureHouseModel", name := "atom", desc := "()V" } : Jvm.MethodName)) ∈ lw_tbl := tb_8 (List.mem_of_getElem? (i := 72) rfl)
set_option maxRecDepth 100000 in
theorem wd_1854 : (Jvm.Cond.instanceMethod ({ cls := "FigureHouseModel", name := "atom", desc := "()V" } : Jvm.MethodName)) ∈ lw_tbl := tb_8 (List.mem_of_getElem? (i := 74) rfl)
set_option maxRecDepth 100000 in
theorem wd_1856 : (Jvm.Cond.methodLink "FigureHouseModel" (309 : Nat) ({ cls := "FigureHouseModel", name := "opens", desc := "()Z" } : Jvm.MethodName)) ∈ lw_tbl := tb_8 (List.mem_of_getElem? (i := 76) rfl)
set_option maxRecDepth 100000 in
theorem wd_1858 : (Jvm.Cond.instanceMethod ({ cls := "FigureHouseModel", name := "opens", desc := "()Z" } : Jvm.MethodName)) ∈ lw_tbl := tb_8 (List.mem_of_getElem? (i := 78) rfl)
set_option maxRecDepth 100000 in
theorem wd_1860 : (Jvm.Cond.methodLink "FigureHouseModel" (316 : Nat) ({ cls := "FigureHouseModel", name := "closes", desc := "(I)V" } : Jvm.MethodName)) ∈ lw_tbl := tb_8 (List.mem_of_getElem? (i := 80) rfl)
set_option maxRecDepth 100000 in
theorem wd_1862 : (Jvm.Cond.instanceMethod ({ cls := "FigureHouseModel", name := "closes", desc := "(I)V" } : Jvm.MethodName)) ∈ lw_tbl := tb_8 (List.mem_of_getElem? (i := 82) rfl)
set_option maxRecDepth 100000 in
theorem wd_1864 : (Jvm.Cond.methodLink "FigureHouseModel" (319 : Nat) ({ cls := "FigureHouseModel", name := "number", desc := "()V" } : Jvm.MethodName)) ∈ lw_tbl := tb_8 (List.mem_of_getElem? (i := 84) rfl)
set_option maxRecDepth 100000 in
theorem wd_1866 : (Jvm.Cond.instanceMethod ({ cls := "FigureHouseModel", name := "number", desc := "()V" } : Jvm.MethodName)) ∈ lw_tbl := tb_8 (List.mem_of_getElem? (i := 86) rfl)
set_option maxRecDepth 100000 in
theorem wd_1868 : (Jvm.Cond.methodLink "FigureHouseModel" (301 : Nat) ({ cls := "FigureHouseModel", name := "isDigit", desc := "(I)Z" } : Jvm.MethodName)) ∈ lw_tbl := tb_8 (List.mem_of_getElem? (i := 88) rfl)
set_option maxRecDepth 100000 in
theorem wd_1869 : (Jvm.Cond.static ({ cls := "FigureHouseModel", name := "isDigit", desc := "(I)Z" } : Jvm.MethodName)) ∈ lw_tbl := tb_8 (List.mem_of_getElem? (i := 89) rfl)
set_option maxRecDepth 100000 in
theorem wd_1871 : (Jvm.Cond.methodLink "FigureHouseModel" (327 : Nat) ({ cls := "FigureHouseModel", name := "isSign", desc := "(I)Z" } : Jvm.MethodName)) ∈ lw_tbl := tb_8 (List.mem_of_getElem? (i := 91) rfl)
set_option maxRecDepth 100000 in
theorem wd_1872 : (Jvm.Cond.static ({ cls := "FigureHouseModel", name := "isSign", desc := "(I)Z" } : Jvm.MethodName)) ∈ lw_tbl := tb_8 (List.mem_of_getElem? (i := 92) rfl)
set_option maxRecDepth 100000 in
theorem wd_1874 : (Jvm.Cond.methodLink "FigureHouseModel" (333 : Nat) ({ cls := "FigureHouseModel", name := "condition", desc := "(Z)V" } : Jvm.MethodName)) ∈ lw_tbl := tb_8 (List.mem_of_getElem? (i := 94) rfl)
set_option maxRecDepth 100000 in
theorem wd_1876 : (Jvm.Cond.instanceMethod ({ cls := "FigureHouseModel", name := "condition", desc := "(Z)V" } : Jvm.MethodName)) ∈ lw_tbl := tb_8 (List.mem_of_getElem? (i := 96) rfl)
set_option maxRecDepth 100000 in
theorem wd_1878 : (Jvm.Cond.methodLink "FigureHouseModel" (340 : Nat) ({ cls := "FigureHouseModel", name := "part", desc := "(Z)V" } : Jvm.MethodName)) ∈ lw_tbl := tb_8 (List.mem_of_getElem? (i := 98) rfl)
set_option maxRecDepth 100000 in
theorem wd_1880 : (Jvm.Cond.instanceMethod ({ cls := "FigureHouseModel", name := "part", desc := "(Z)V" } : Jvm.MethodName)) ∈ lw_tbl := tb_8 (List.mem_of_getElem? (i := 100) rfl)
set_option maxRecDepth 100000 in
theorem wd_1882 : (Jvm.Cond.methodLink "FigureHouseModel" (337 : Nat) ({ cls := "FigureHouseModel", name := "compare", desc := "()V" } : Jvm.MethodName)) ∈ lw_tbl := tb_8 (List.mem_of_getElem? (i := 102) rfl)
set_option maxRecDepth 100000 in
theorem wd_1884 : (Jvm.Cond.instanceMethod ({ cls := "FigureHouseModel", name := "compare", desc := "()V" } : Jvm.MethodName)) ∈ lw_tbl := tb_8 (List.mem_of_getElem? (i := 104) rfl)
set_option maxRecDepth 100000 in
theorem wd_1886 : (Jvm.Cond.methodLink "FigureHouseModel" (330 : Nat) ({ cls := "FigureHouseModel", name := "unit", desc := "()V" } : Jvm.MethodName)) ∈ lw_tbl := tb_8 (List.mem_of_getElem? (i := 106) rfl)
set_option maxRecDepth 100000 in
theorem wd_1888 : (Jvm.Cond.instanceMethod ({ cls := "FigureHouseModel", name := "unit", desc := "()V" } : Jvm.MethodName)) ∈ lw_tbl := tb_8 (List.mem_of_getElem? (i := 108) rfl)
set_option maxRecDepth 100000 in
theorem wd_1890 : (Jvm.Cond.methodLink "FigureHouseLaw" (90 : Nat) ({ cls := "FigureHouseModel", name := "plan", desc := "()I" } : Jvm.MethodName)) ∈ lw_tbl := tb_8 (List.mem_of_getElem? (i := 110) rfl)
set_option maxRecDepth 100000 in
theorem wd_1891 : (Jvm.Cond.instanceMethod ({ cls := "FigureHouseModel", name := "plan", desc := "()I" } : Jvm.MethodName)) ∈ lw_tbl := tb_8 (List.mem_of_getElem? (i := 111) rfl)
set_option maxRecDepth 100000 in
theorem wd_1892 : (Jvm.Cond.selects "FigureHouseModel" ({ cls := "FigureHouseModel", name := "plan", desc := "()I" } : Jvm.MethodName) ({ cls := "FigureHouseModel", name := "plan", desc := "()I" } : Jvm.MethodName)) ∈ lw_tbl := tb_8 (List.mem_of_getElem? (i := 112) rfl)
set_option maxRecDepth 100000 in
theorem wd_1894 : (Jvm.Cond.methodLink "FigureHouseModel" (352 : Nat) ({ cls := "FigureHouseModel", name := "fault", desc := "()I" } : Jvm.MethodName)) ∈ lw_tbl := tb_8 (List.mem_of_getElem? (i := 114) rfl)
set_option maxRecDepth 100000 in
theorem wd_1895 : (Jvm.Cond.methodLink "FigureHouseLaw" (96 : Nat) ({ cls := "FigureHouseModel", name := "worth", desc := "(IIIII)I" } : Jvm.MethodName)) ∈ lw_tbl := tb_8 (List.mem_of_getElem? (i := 115) rfl)
set_option maxRecDepth 100000 in
theorem wd_1896 : (Jvm.Cond.instanceMethod ({ cls := "FigureHouseModel", name := "worth", desc := "(IIIII)I" } : Jvm.MethodName)) ∈ lw_tbl := tb_8 (List.mem_of_getElem? (i := 116) rfl)
set_option maxRecDepth 100000 in
theorem wd_1897 : (Jvm.Cond.selects "FigureHouseModel" ({ cls := "FigureHouseModel", name := "worth", desc := "(IIIII)I" } : Jvm.MethodName) ({ cls := "FigureHouseModel", name := "worth", desc := "(IIIII)I" } : Jvm.MethodName)) ∈ lw_tbl := tb_8 (List.mem_of_getElem? (i := 117) rfl)
set_option maxRecDepth 100000 in
theorem wd_1899 : (Jvm.Cond.methodLink "FigureHouseModel" (379 : Nat) ({ cls := "FigureHouseModel", name := "worthOf", desc := "(IIIII)I" } : Jvm.MethodName)) ∈ lw_tbl := tb_8 (List.mem_of_getElem? (i := 119) rfl)
set_option maxRecDepth 100000 in
theorem wd_1901 : (Jvm.Cond.instanceMethod ({ cls := "FigureHouseModel", name := "worthOf", desc := "(IIIII)I" } : Jvm.MethodName)) ∈ lw_tbl := tb_8 (List.mem_of_getElem? (i := 121) rfl)
set_option maxRecDepth 100000 in
theorem wd_1903 : (Jvm.Cond.methodLink "FigureHouseModel" (376 : Nat) ({ cls := "FigureHouseModel", name := "work", desc := "()I" } : Jvm.MethodName)) ∈ lw_tbl := tb_8 (List.mem_of_getElem? (i := 123) rfl)
set_option maxRecDepth 100000 in
theorem wd_1905 : (Jvm.Cond.instanceMethod ({ cls := "FigureHouseModel", name := "work", desc := "()I" } : Jvm.MethodName)) ∈ lw_tbl := tb_8 (List.mem_of_getElem? (i := 125) rfl)
set_option maxRecDepth 100000 in
theorem wd_1907 : (Jvm.Cond.methodLink "FigureHouseModel" (372 : Nat) ({ cls := "FigureHouseModel", name := "both", desc := "(III)I" } : Jvm.MethodName)) ∈ lw_tbl := tb_8 (List.mem_of_getElem? (i := 127) rfl)
set_option maxRecDepth 100000 in
theorem wd_1908 : (Jvm.Cond.static ({ cls := "FigureHouseModel", name := "both", desc := "(III)I" } : Jvm.MethodName)) ∈ lw_tbl := tb_8 (List.mem_of_getElem? (i := 128) rfl)
set_option maxRecDepth 100000 in
theorem wd_1910 : (Jvm.Cond.methodLink "FigureHouseModel" (365 : Nat) ({ cls := "FigureHouseModel", name := "bounded", desc := "(J)I" } : Jvm.MethodName)) ∈ lw_tbl := tb_8 (List.mem_of_getElem? (i := 130) rfl)
set_option maxRecDepth 100000 in
theorem wd_1911 : (Jvm.Cond.static ({ cls := "FigureHouseModel", name := "bounded", desc := "(J)I" } : Jvm.MethodName)) ∈ lw_tbl := tb_8 (List.mem_of_getElem? (i := 131) rfl)
set_option maxRecDepth 100000 in
theorem wd_1913 : (Jvm.Cond.constantLong "FigureHouseModel" (355 : Nat) (-1000000 : Int64)) ∈ lw_tbl := tb_8 (List.mem_of_getElem? (i := 133) rfl)
set_option maxRecDepth 100000 in
theorem wd_1914 : (Jvm.Cond.constantLong "FigureHouseModel" (357 : Nat) (1000000 : Int64)) ∈ lw_tbl := tb_8 (List.mem_of_getElem? (i := 134) rfl)
set_option maxRecDepth 100000 in
theorem wd_1915 : (Jvm.Cond.methodLink "FigureHouseModel" (359 : Nat) ({ cls := "java/lang/Math", name := "min", desc := "(JJ)J" } : Jvm.MethodName)) ∈ lw_tbl := tb_8 (List.mem_of_getElem? (i := 135) rfl)
set_option maxRecDepth 100000 in
theorem wd_1916 : (Jvm.Cond.methodLink "FigureHouseModel" (362 : Nat) ({ cls := "java/lang/Math", name := "max", desc := "(JJ)J" } : Jvm.MethodName)) ∈ lw_tbl := tb_8 (List.mem_of_getElem? (i := 136) rfl)
set_option maxRecDepth 100000 in
theorem wd_1917 : (Jvm.Cond.methodLink "FigureHouseLaw" (104 : Nat) ({ cls := "FigureHouseModel", name := "page", desc := "(IIII)I" } : Jvm.MethodName)) ∈ lw_tbl := tb_8 (List.mem_of_getElem? (i := 137) rfl)
set_option maxRecDepth 100000 in
theorem wd_1918 : (Jvm.Cond.instanceMethod ({ cls := "FigureHouseModel", name := "page", desc := "(IIII)I" } : Jvm.MethodName)) ∈ lw_tbl := tb_8 (List.mem_of_getElem? (i := 138) rfl)
set_option maxRecDepth 100000 in
theorem wd_1919 : (Jvm.Cond.selects "FigureHouseModel" ({ cls := "FigureHouseModel", name := "page", desc := "(IIII)I" } : Jvm.MethodName) ({ cls := "FigureHouseModel", name := "page", desc := "(IIII)I" } : Jvm.MethodName)) ∈ lw_tbl := tb_8 (List.mem_of_getElem? (i := 139) rfl)
set_option maxRecDepth 100000 in
theorem wd_1921 : (Jvm.Cond.methodLink "FigureHouseModel" (386 : Nat) ({ cls := "FigureHouseModel", name := "label", desc := "(II)I" } : Jvm.MethodName)) ∈ lw_tbl := tb_8 (List.mem_of_getElem? (i := 141) rfl)
set_option maxRecDepth 100000 in
theorem wd_1923 : (Jvm.Cond.instanceMethod ({ cls := "FigureHouseModel", name := "label", desc := "(II)I" } : Jvm.MethodName)) ∈ lw_tbl := tb_8 (List.mem_of_getElem? (i := 143) rfl)
set_option maxRecDepth 100000 in
theorem wd_1925 : (Jvm.Cond.methodLink "FigureHouseModel" (390 : Nat) ({ cls := "java/lang/Math", name := "max", desc := "(II)I" } : Jvm.MethodName)) ∈ lw_tbl := tb_8 (List.mem_of_getElem? (i := 145) rfl)
set_option maxRecDepth 100000 in
theorem wd_1926 : (Jvm.Cond.methodLink "FigureHouseLaw" (109 : Nat) ({ cls := "FigureHouseModel", name := "paged", desc := "(II)I" } : Jvm.MethodName)) ∈ lw_tbl := tb_8 (List.mem_of_getElem? (i := 146) rfl)
set_option maxRecDepth 100000 in
theorem wd_1927 : (Jvm.Cond.instanceMethod ({ cls := "FigureHouseModel", name := "paged", desc := "(II)I" } : Jvm.MethodName)) ∈ lw_tbl := tb_8 (List.mem_of_getElem? (i := 147) rfl)
set_option maxRecDepth 100000 in
theorem wd_1928 : (Jvm.Cond.selects "FigureHouseModel" ({ cls := "FigureHouseModel", name := "paged", desc := "(II)I" } : Jvm.MethodName) ({ cls := "FigureHouseModel", name := "paged", desc := "(II)I" } : Jvm.MethodName)) ∈ lw_tbl := tb_8 (List.mem_of_getElem? (i := 148) rfl)
set_option maxRecDepth 100000 in
theorem wd_1930 : (Jvm.Cond.methodLink "FigureHouseModel" (392 : Nat) ({ cls := "FigureHouseModel", name := "isPage", desc := "(I)Z" } : Jvm.MethodName)) ∈ lw_tbl := tb_8 (List.mem_of_getElem? (i := 150) rfl)
set_option maxRecDepth 100000 in
theorem wd_1932 : (Jvm.Cond.instanceMethod ({ cls := "FigureHouseModel", name := "isPage", desc := "(I)Z" } : Jvm.MethodName)) ∈ lw_tbl := tb_8 (List.mem_of_getElem? (i := 152) rfl)
set_option maxRecDepth 100000 in
theorem wd_1934 : (Jvm.Cond.methodLink "FigureHouseModel" (402 : Nat) ({ cls := "FigureHouseModel", name := "blocks", desc := "(I)I" } : Jvm.MethodName)) ∈ lw_tbl := tb_8 (List.mem_of_getElem? (i := 154) rfl)
set_option maxRecDepth 100000 in
theorem wd_1936 : (Jvm.Cond.instanceMethod ({ cls := "FigureHouseModel", name := "blocks", desc := "(I)I" } : Jvm.MethodName)) ∈ lw_tbl := tb_8 (List.mem_of_getElem? (i := 156) rfl)
set_option maxRecDepth 100000 in
theorem wd_1938 : (Jvm.Cond.methodLink "FigureHouseModel" (406 : Nat) ({ cls := "FigureHouseModel", name := "pivots", desc := "(I)I" } : Jvm.MethodName)) ∈ lw_tbl := tb_8 (List.mem_of_getElem? (i := 158) rfl)
set_option maxRecDepth 100000 in
theorem wd_1940 : (Jvm.Cond.instanceMethod ({ cls := "FigureHouseModel", name := "pivots", desc := "(I)I" } : Jvm.MethodName)) ∈ lw_tbl := tb_8 (List.mem_of_getElem? (i := 160) rfl)
set_option maxRecDepth 100000 in
theorem wd_1942 : (Jvm.Cond.methodLink "FigureHouseModel" (398 : Nat) ({ cls := "FigureHouseModel", name := "isMade", desc := "(II)Z" } : Jvm.MethodName)) ∈ lw_tbl := tb_8 (List.mem_of_getElem? (i := 162) rfl)
set_option maxRecDepth 100000 in
theorem wd_1944 : (Jvm.Cond.instanceMethod ({ cls := "FigureHouseModel", name := "isMade", desc := "(II)Z" } : Jvm.MethodName)) ∈ lw_tbl := tb_8 (List.mem_of_getElem? (i := 164) rfl)
set_option maxRecDepth 100000 in
theorem wd_1946 : (Jvm.Cond.methodLink "FigureHouseModel" (395 : Nat) ({ cls := "FigureHouseModel", name := "placeOf", desc := "(II)I" } : Jvm.MethodName)) ∈ lw_tbl := tb_8 (List.mem_of_getElem? (i := 166) rfl)
set_option maxRecDepth 100000 in
theorem wd_1948 : (Jvm.Cond.instanceMethod ({ cls := "FigureHouseModel", name := "placeOf", desc := "(II)I" } : Jvm.MethodName)) ∈ lw_tbl := tb_8 (List.mem_of_getElem? (i := 168) rfl)
set_option maxRecDepth 100000 in
theorem wd_1950 : (Jvm.Cond.methodLink "FigureHouseLaw" (113 : Nat) ({ cls := "FigureHouseModel", name := "lined", desc := "(III)I" } : Jvm.MethodName)) ∈ lw_tbl := tb_8 (List.mem_of_getElem? (i := 170) rfl)
set_option maxRecDepth 100000 in
theorem wd_1951 : (Jvm.Cond.instanceMethod ({ cls := "FigureHouseModel", name := "lined", desc := "(III)I" } : Jvm.MethodName)) ∈ lw_tbl := tb_8 (List.mem_of_getElem? (i := 171) rfl)
set_option maxRecDepth 100000 in
theorem wd_1952 : (Jvm.Cond.selects "FigureHouseModel" ({ cls := "FigureHouseModel", name := "lined", desc := "(III)I" } : Jvm.MethodName) ({ cls := "FigureHouseModel", name := "lined", desc := "(III)I" } : Jvm.MethodName)) ∈ lw_tbl := tb_8 (List.mem_of_getElem? (i := 172) rfl)
set_option maxRecDepth 100000 in
theorem wd_1954 : (Jvm.Cond.methodLink "FigureHouseModel" (409 : Nat) ({ cls := "FigureHouseModel", name := "isLine", desc := "(II)Z" } : Jvm.MethodName)) ∈ lw_tbl := tb_8 (List.mem_of_getElem? (i := 174) rfl)
set_option maxRecDepth 100000 in
theorem wd_1956 : (Jvm.Cond.instanceMethod ({ cls := "FigureHouseModel", name := "isLine", desc := "(II)Z" } : Jvm.MethodName)) ∈ lw_tbl := tb_8 (List.mem_of_getElem? (i := 176) rfl)
set_option maxRecDepth 100000 in
theorem wd_1958 : (Jvm.Cond.methodLink "FigureHouseModel" (412 : Nat) ({ cls := "FigureHouseModel", name := "xOf", desc := "(II)I" } : Jvm.MethodName)) ∈ lw_tbl := tb_8 (List.mem_of_getElem? (i := 178) rfl)
set_option maxRecDepth 100000 in
theorem wd_1960 : (Jvm.Cond.instanceMethod ({ cls := "FigureHouseModel", name := "xOf", desc := "(II)I" } : Jvm.MethodName)) ∈ lw_tbl := tb_8 (List.mem_of_getElem? (i := 180) rfl)
set_option maxRecDepth 100000 in
theorem wd_1962 : (Jvm.Cond.methodLink "FigureHouseLaw" (125 : Nat) ({ cls := "FigureHouseModel", name := "slip", desc := "(IIII)I" } : Jvm.MethodName)) ∈ lw_tbl := tb_8 (List.mem_of_getElem? (i := 182) rfl)
set_option maxRecDepth 100000 in
theorem wd_1963 : (Jvm.Cond.instanceMethod ({ cls := "FigureHouseModel", name := "slip", desc := "(IIII)I" } : Jvm.MethodName)) ∈ lw_tbl := tb_8 (List.mem_of_getElem? (i := 183) rfl)
set_option maxRecDepth 100000 in
theorem wd_1964 : (Jvm.Cond.selects "FigureHouseModel" ({ cls := "FigureHouseModel", name := "slip", desc := "(IIII)I" } : Jvm.MethodName) ({ cls := "FigureHouseModel", name := "slip", desc := "(IIII)I" } : Jvm.MethodName)) ∈ lw_tbl := tb_8 (List.mem_of_getElem? (i := 184) rfl)
set_option maxRecDepth 100000 in
theorem wd_1966 : (Jvm.Cond.methodLink "FigureHouseModel" (434 : Nat) ({ cls := "FigureHouseModel", name := "isColumn", desc := "(II)Z" } : Jvm.MethodName)) ∈ lw_tbl := tb_8 (List.mem_of_getElem? (i := 186) rfl)
set_option maxRecDepth 100000 in
theorem wd_1968 : (Jvm.Cond.instanceMethod ({ cls := "FigureHouseModel", name := "isColumn", desc := "(II)Z" } : Jvm.MethodName)) ∈ lw_tbl := tb_8 (List.mem_of_getElem? (i := 188) rfl)
set_option maxRecDepth 100000 in
theorem wd_1970 : (Jvm.Cond.constant "FigureHouseModel" (437 : Nat) (-1000000 : Int32)) ∈ lw_tbl := tb_8 (List.mem_of_getElem? (i := 190) rfl)
set_option maxRecDepth 100000 in
theorem wd_1971 : (Jvm.Cond.constant "FigureHouseModel" (438 : Nat) (1000000 : Int32)) ∈ lw_tbl := tb_8 (List.mem_of_getElem? (i := 191) rfl)
set_option maxRecDepth 100000 in
theorem wd_1972 : (Jvm.Cond.methodLink "FigureHouseLaw" (129 : Nat) ({ cls := "FigureHouseModel", name := "mend", desc := "(I)Z" } : Jvm.MethodName)) ∈ lw_tbl := tb_8 (List.mem_of_getElem? (i := 192) rfl)
set_option maxRecDepth 100000 in
theorem wd_1973 : (Jvm.Cond.instanceMethod ({ cls := "FigureHouseModel", name := "mend", desc := "(I)Z" } : Jvm.MethodName)) ∈ lw_tbl := tb_8 (List.mem_of_getElem? (i := 193) rfl)
set_option maxRecDepth 100000 in
theorem wd_1974 : (Jvm.Cond.selects "FigureHouseModel" ({ cls := "FigureHouseModel", name := "mend", desc := "(I)Z" } : Jvm.MethodName) ({ cls := "FigureHouseModel", name := "mend", desc := "(I)Z" } : Jvm.MethodName)) ∈ lw_tbl := tb_8 (List.mem_of_getElem? (i := 194) rfl)
set_option maxRecDepth 100000 in
theorem wd_1976 : (Jvm.Cond.methodLink "FigureHouseLaw" (117 : Nat) ({ cls := "FigureHouseModel", name := "trueOf", desc := "(II)J" } : Jvm.MethodName)) ∈ lw_tbl := tb_8 (List.mem_of_getElem? (i := 196) rfl)
set_option maxRecDepth 100000 in
theorem wd_1977 : (Jvm.Cond.instanceMethod ({ cls := "FigureHouseModel", name := "trueOf", desc := "(II)J" } : Jvm.MethodName)) ∈ lw_tbl := tb_8 (List.mem_of_getElem? (i := 197) rfl)
set_option maxRecDepth 100000 in
theorem wd_1978 : (Jvm.Cond.selects "FigureHouseModel" ({ cls := "FigureHouseModel", name := "trueOf", desc := "(II)J" } : Jvm.MethodName) ({ cls := "FigureHouseModel", name := "trueOf", desc := "(II)J" } : Jvm.MethodName)) ∈ lw_tbl := tb_8 (List.mem_of_getElem? (i := 198) rfl)
set_option maxRecDepth 100000 in
theorem wd_1980 : (Jvm.Cond.methodLink "FigureHouseModel" (442 : Nat) ({ cls := "FigureHouseModel", name := "trueNumber", desc := "(II)J" } : Jvm.MethodName)) ∈ lw_tbl := tb_8 (List.mem_of_getElem? (i := 200) rfl)
set_option maxRecDepth 100000 in
theorem wd_1982 : (Jvm.Cond.instanceMethod ({ cls := "FigureHouseModel", name := "trueNumber", desc := "(II)J" } : Jvm.MethodName)) ∈ lw_tbl := tb_8 (List.mem_of_getElem? (i := 202) rfl)
set_option maxRecDepth 100000 in
theorem wd_1984 : (Jvm.Cond.methodLink "FigureHouseModel" (439 : Nat) ({ cls := "FigureHouseModel", name := "makeTrue", desc := "(I)V" } : Jvm.MethodName)) ∈ lw_tbl := tb_8 (List.mem_of_getElem? (i := 204) rfl)
set_option maxRecDepth 100000 in
theorem wd_1986 : (Jvm.Cond.instanceMethod ({ cls := "FigureHouseModel", name := "makeTrue", desc := "(I)V" } : Jvm.MethodName)) ∈ lw_tbl := tb_8 (List.mem_of_getElem? (i := 206) rfl)
set_option maxRecDepth 100000 in
theorem wd_1988 : (Jvm.Cond.methodLink "FigureHouseModel" (419 : Nat) ({ cls := "FigureHouseModel", name := "clear", desc := "()V" } : Jvm.MethodName)) ∈ lw_tbl := tb_8 (List.mem_of_getElem? (i := 208) rfl)
set_option maxRecDepth 100000 in
theorem wd_1990 : (Jvm.Cond.instanceMethod ({ cls := "FigureHouseModel", name := "clear", desc := "()V" } : Jvm.MethodName)) ∈ lw_tbl := tb_8 (List.mem_of_getElem? (i := 210) rfl)
set_option maxRecDepth 100000 in
theorem wd_1992 : (Jvm.Cond.methodLink "FigureHouseModel" (431 : Nat) ({ cls := "FigureHouseModel", name := "makePage", desc := "(I)V" } : Jvm.MethodName)) ∈ lw_tbl := tb_8 (List.mem_of_getElem? (i := 212) rfl)
set_option maxRecDepth 100000 in
theorem wd_1994 : (Jvm.Cond.instanceMethod ({ cls := "FigureHouseModel", name := "makePage", desc := "(I)V" } : Jvm.MethodName)) ∈ lw_tbl := tb_8 (List.mem_of_getElem? (i := 214) rfl)
set_option maxRecDepth 100000 in
theorem wd_1996 : (Jvm.Cond.methodLink "FigureHouseModel" (415 : Nat) ({ cls := "FigureHouseModel", name := "make", desc := "(IIIIIII)V" } : Jvm.MethodName)) ∈ lw_tbl := tb_8 (List.mem_of_getElem? (i := 216) rfl)
set_option maxRecDepth 100000 in
theorem wd_1998 : (Jvm.Cond.instanceMethod ({ cls := "FigureHouseModel", name := "make", desc := "(IIIIIII)V" } : Jvm.MethodName)) ∈ lw_tbl := tb_8 (List.mem_of_getElem? (i := 218) rfl)
set_option maxRecDepth 100000 in
theorem wd_2000 : (Jvm.Cond.methodLink "FigureHouseLaw" (121 : Nat) ({ cls := "FigureHouseModel", name := "figure", desc := "(IIII)J" } : Jvm.MethodName)) ∈ lw_tbl := tb_8 (List.mem_of_getElem? (i := 220) rfl)
set_option maxRecDepth 100000 in
theorem wd_2001 : (Jvm.Cond.instanceMethod ({ cls := "FigureHouseModel", name := "figure", desc := "(IIII)J" } : Jvm.MethodName)) ∈ lw_tbl := tb_8 (List.mem_of_getElem? (i := 221) rfl)
set_option maxRecDepth 100000 in
theorem wd_2002 : (Jvm.Cond.selects "FigureHouseModel" ({ cls := "FigureHouseModel", name := "figure", desc := "(IIII)J" } : Jvm.MethodName) ({ cls := "FigureHouseModel", name := "figure", desc := "(IIII)J" } : Jvm.MethodName)) ∈ lw_tbl := tb_8 (List.mem_of_getElem? (i := 222) rfl)
set_option maxRecDepth 100000 in
theorem wd_2004 : (Jvm.Cond.methodLink "FigureHouseModel" (445 : Nat) ({ cls := "FigureHouseModel", name := "isKnowing", desc := "(I)Z" } : Jvm.MethodName)) ∈ lw_tbl := tb_8 (List.mem_of_getElem? (i := 224) rfl)
set_option maxRecDepth 100000 in
theorem wd_2006 : (Jvm.Cond.instanceMethod ({ cls := "FigureHouseModel", name := "isKnowing", desc := "(I)Z" } : Jvm.MethodName)) ∈ lw_tbl := tb_8 (List.mem_of_getElem? (i := 226) rfl)
set_option maxRecDepth 100000 in
theorem wd_2008 : (Jvm.Cond.methodLink "FigureHouseModel" (448 : Nat) ({ cls := "FigureHouseModel", name := "makeAs", desc := "(II)V" } : Jvm.MethodName)) ∈ lw_tbl := tb_8 (List.mem_of_getElem? (i := 228) rfl)
set_option maxRecDepth 100000 in
theorem wd_2010 : (Jvm.Cond.instanceMethod ({ cls := "FigureHouseModel", name := "makeAs", desc := "(II)V" } : Jvm.MethodName)) ∈ lw_tbl := tb_8 (List.mem_of_getElem? (i := 230) rfl)
set_option maxRecDepth 100000 in
theorem wd_2012 : (Jvm.Cond.methodLink "FigureHouseModel" (425 : Nat) ({ cls := "FigureHouseModel", name := "counts", desc := "(II)Z" } : Jvm.MethodName)) ∈ lw_tbl := tb_8 (List.mem_of_getElem? (i := 232) rfl)
set_option maxRecDepth 100000 in
theorem wd_2014 : (Jvm.Cond.instanceMethod ({ cls := "FigureHouseModel", name := "counts", desc := "(II)Z" } : Jvm.MethodName)) ∈ lw_tbl := tb_8 (List.mem_of_getElem? (i := 234) rfl)
set_option maxRecDepth 100000 in
theorem wd_2016 : (Jvm.Cond.methodLink "FigureHouseModel" (428 : Nat) ({ cls := "FigureHouseModel", name := "slot", desc := "(I)I" } : Jvm.MethodName)) ∈ lw_tbl := tb_8 (List.mem_of_getElem? (i := 236) rfl)
set_option maxRecDepth 100000 in
theorem wd_2017 : (Jvm.Cond.static ({ cls := "FigureHouseModel", name := "slot", desc := "(I)I" } : Jvm.MethodName)) ∈ lw_tbl := tb_8 (List.mem_of_getElem? (i := 237) rfl)
set_option maxRecDepth 100000 in
theorem wd_2019 : (Jvm.Cond.methodLink "FigureHouseLaw" (137 : Nat) ({ cls := "FigureHouseModel", name := "kept", desc := "(III)J" } : Jvm.MethodName)) ∈ lw_tbl := tb_8 (List.mem_of_getElem? (i := 239) rfl)
set_option maxRecDepth 100000 in
theorem wd_2020 : (Jvm.Cond.instanceMethod ({ cls := "FigureHouseModel", name := "kept", desc := "(III)J" } : Jvm.MethodName)) ∈ lw_tbl := tb_9 (List.mem_of_getElem? (i := 0) rfl)
set_option maxRecDepth 100000 in
theorem wd_2021 : (Jvm.Cond.selects "FigureHouseModel" ({ cls := "FigureHouseModel", name := "kept", desc := "(III)J" } : Jvm.MethodName) ({ cls := "FigureHouseModel", name := "kept", desc := "(III)J" } : Jvm.MethodName)) ∈ lw_tbl := tb_9 (List.mem_of_getElem? (i := 1) rfl)
set_option maxRecDepth 100000 in
theorem wd_2023 : (Jvm.Cond.methodLink "FigureHouseModel" (452 : Nat) ({ cls := "FigureHouseModel", name := "keptOf", desc := "(IJ)J" } : Jvm.MethodName)) ∈ lw_tbl := tb_9 (List.mem_of_getElem? (i := 3) rfl)
set_option maxRecDepth 100000 in
theorem wd_2025 : (Jvm.Cond.instanceMethod ({ cls := "FigureHouseModel", name := "keptOf", desc := "(IJ)J" } : Jvm.MethodName)) ∈ lw_tbl := tb_9 (List.mem_of_getElem? (i := 5) rfl)
set_option maxRecDepth 100000 in
theorem wd_2027 : (Jvm.Cond.methodLink "FigureHouseLaw" (140 : Nat) ({ cls := "FigureHouseModel", name := "right", desc := "(II)J" } : Jvm.MethodName)) ∈ lw_tbl := tb_9 (List.mem_of_getElem? (i := 7) rfl)
set_option maxRecDepth 100000 in
theorem wd_2028 : (Jvm.Cond.instanceMethod ({ cls := "FigureHouseModel", name := "right", desc := "(II)J" } : Jvm.MethodName)) ∈ lw_tbl := tb_9 (List.mem_of_getElem? (i := 8) rfl)
set_option maxRecDepth 100000 in
theorem wd_2029 : (Jvm.Cond.selects "FigureHouseModel" ({ cls := "FigureHouseModel", name := "right", desc := "(II)J" } : Jvm.MethodName) ({ cls := "FigureHouseModel", name := "right", desc := "(II)J" } : Jvm.MethodName)) ∈ lw_tbl := tb_9 (List.mem_of_getElem? (i := 9) rfl)
set_option maxRecDepth 100000 in
theorem wd_2031 : (Jvm.Cond.methodLink "FigureHouseModel" (456 : Nat) ({ cls := "FigureHouseModel", name := "rightOf", desc := "(II)J" } : Jvm.MethodName)) ∈ lw_tbl := tb_9 (List.mem_of_getElem? (i := 11) rfl)
set_option maxRecDepth 100000 in
theorem wd_2033 : (Jvm.Cond.instanceMethod ({ cls := "FigureHouseModel", name := "rightOf", desc := "(II)J" } : Jvm.MethodName)) ∈ lw_tbl := tb_9 (List.mem_of_getElem? (i := 13) rfl)
set_option maxRecDepth 100000 in
theorem wd_2035 : (Jvm.Cond.methodLink "FigureHouseLaw" (144 : Nat) ({ cls := "FigureHouseModel", name := "wrong", desc := "(II)I" } : Jvm.MethodName)) ∈ lw_tbl := tb_9 (List.mem_of_getElem? (i := 15) rfl)
set_option maxRecDepth 100000 in
theorem wd_2036 : (Jvm.Cond.instanceMethod ({ cls := "FigureHouseModel", name := "wrong", desc := "(II)I" } : Jvm.MethodName)) ∈ lw_tbl := tb_9 (List.mem_of_getElem? (i := 16) rfl)
set_option maxRecDepth 100000 in
theorem wd_2037 : (Jvm.Cond.selects "FigureHouseModel" ({ cls := "FigureHouseModel", name := "wrong", desc := "(II)I" } : Jvm.MethodName) ({ cls := "FigureHouseModel", name := "wrong", desc := "(II)I" } : Jvm.MethodName)) ∈ lw_tbl := tb_9 (List.mem_of_getElem? (i := 17) rfl)
set_option maxRecDepth 100000 in
theorem wd_2039 : (Jvm.Cond.methodLink "FigureHouseLaw" (147 : Nat) ({ cls := "FigureHouseModel", name := "stray", desc := "(II)J" } : Jvm.MethodName)) ∈ lw_tbl := tb_9 (List.mem_of_getElem? (i := 19) rfl)
set_option maxRecDepth 100000 in
theorem wd_2040 : (Jvm.Cond.instanceMethod ({ cls := "FigureHouseModel", name := "stray", desc := "(II)J" } : Jvm.MethodName)) ∈ lw_tbl := tb_9 (List.mem_of_getElem? (i := 20) rfl)
set_option maxRecDepth 100000 in
theorem wd_2041 : (Jvm.Cond.selects "FigureHouseModel" ({ cls := "FigureHouseModel", name := "stray", desc := "(II)J" } : Jvm.MethodName) ({ cls := "FigureHouseModel", name := "stray", desc := "(II)J" } : Jvm.MethodName)) ∈ lw_tbl := tb_9 (List.mem_of_getElem? (i := 21) rfl)
set_option maxRecDepth 100000 in
theorem wd_2043 : (Jvm.Cond.methodLink "FigureHouseModel" (459 : Nat) ({ cls := "FigureHouseModel", name := "nearestAt", desc := "(II)J" } : Jvm.MethodName)) ∈ lw_tbl := tb_9 (List.mem_of_getElem? (i := 23) rfl)
set_option maxRecDepth 100000 in
theorem wd_2045 : (Jvm.Cond.instanceMethod ({ cls := "FigureHouseModel", name := "nearestAt", desc := "(II)J" } : Jvm.MethodName)) ∈ lw_tbl := tb_9 (List.mem_of_getElem? (i := 25) rfl)
set_option maxRecDepth 100000 in
theorem wd_2047 : (Jvm.Cond.methodLink "FigureHouseLaw" (151 : Nat) ({ cls := "FigureHouseModel", name := "bound", desc := "(II)J" } : Jvm.MethodName)) ∈ lw_tbl := tb_9 (List.mem_of_getElem? (i := 27) rfl)
set_option maxRecDepth 100000 in
theorem wd_2048 : (Jvm.Cond.instanceMethod ({ cls := "FigureHouseModel", name := "bound", desc := "(II)J" } : Jvm.MethodName)) ∈ lw_tbl := tb_9 (List.mem_of_getElem? (i := 28) rfl)
set_option maxRecDepth 100000 in
theorem wd_2049 : (Jvm.Cond.selects "FigureHouseModel" ({ cls := "FigureHouseModel", name := "bound", desc := "(II)J" } : Jvm.MethodName) ({ cls := "FigureHouseModel", name := "bound", desc := "(II)J" } : Jvm.MethodName)) ∈ lw_tbl := tb_9 (List.mem_of_getElem? (i := 29) rfl)
set_option maxRecDepth 100000 in
theorem wd_2051 : (Jvm.Cond.methodLink "FigureHouseModel" (465 : Nat) ({ cls := "FigureHouseModel", name := "boundOf", desc := "(II)J" } : Jvm.MethodName)) ∈ lw_tbl := tb_9 (List.mem_of_getElem? (i := 31) rfl)
set_option maxRecDepth 100000 in
theorem wd_2053 : (Jvm.Cond.instanceMethod ({ cls := "FigureHouseModel", name := "boundOf", desc := "(II)J" } : Jvm.MethodName)) ∈ lw_tbl := tb_9 (List.mem_of_getElem? (i := 33) rfl)
set_option maxRecDepth 100000 in
theorem wd_2055 : (Jvm.Cond.methodLink "FigureHouseModel" (462 : Nat) ({ cls := "FigureHouseModel", name := "choose", desc := "(II)J" } : Jvm.MethodName)) ∈ lw_tbl := tb_9 (List.mem_of_getElem? (i := 35) rfl)
set_option maxRecDepth 100000 in
theorem wd_2056 : (Jvm.Cond.static ({ cls := "FigureHouseModel", name := "choose", desc := "(II)J" } : Jvm.MethodName)) ∈ lw_tbl := tb_9 (List.mem_of_getElem? (i := 36) rfl)
set_option maxRecDepth 100000 in
theorem wd_2058 : (Jvm.Cond.methodLink "FigureHouseLaw" (155 : Nat) ({ cls := "FigureHouseModel", name := "drift", desc := "(I)Z" } : Jvm.MethodName)) ∈ lw_tbl := tb_9 (List.mem_of_getElem? (i := 38) rfl)
set_option maxRecDepth 100000 in
theorem wd_2059 : (Jvm.Cond.instanceMethod ({ cls := "FigureHouseModel", name := "drift", desc := "(I)Z" } : Jvm.MethodName)) ∈ lw_tbl := tb_9 (List.mem_of_getElem? (i := 39) rfl)
set_option maxRecDepth 100000 in
theorem wd_2060 : (Jvm.Cond.selects "FigureHouseModel" ({ cls := "FigureHouseModel", name := "drift", desc := "(I)Z" } : Jvm.MethodName) ({ cls := "FigureHouseModel", name := "drift", desc := "(I)Z" } : Jvm.MethodName)) ∈ lw_tbl := tb_9 (List.mem_of_getElem? (i := 40) rfl)
set_option maxRecDepth 100000 in
theorem wd_2062 : (Jvm.Cond.methodLink "FigureHouseLaw" (159 : Nat) ({ cls := "FigureHouseModel", name := "safe", desc := "(II)I" } : Jvm.MethodName)) ∈ lw_tbl := tb_9 (List.mem_of_getElem? (i := 42) rfl)
set_option maxRecDepth 100000 in
theorem wd_2063 : (Jvm.Cond.instanceMethod ({ cls := "FigureHouseModel", name := "safe", desc := "(II)I" } : Jvm.MethodName)) ∈ lw_tbl := tb_9 (List.mem_of_getElem? (i := 43) rfl)
set_option maxRecDepth 100000 in
theorem wd_2064 : (Jvm.Cond.selects "FigureHouseModel" ({ cls := "FigureHouseModel", name := "safe", desc := "(II)I" } : Jvm.MethodName) ({ cls := "FigureHouseModel", name := "safe", desc := "(II)I" } : Jvm.MethodName)) ∈ lw_tbl := tb_9 (List.mem_of_getElem? (i := 44) rfl)
set_option maxRecDepth 100000 in
theorem wd_2066 : (Jvm.Cond.methodLink "FigureHouseModel" (471 : Nat) ({ cls := "java/lang/Math", name := "floorMod", desc := "(JJ)J" } : Jvm.MethodName)) ∈ lw_tbl := tb_9 (List.mem_of_getElem? (i := 46) rfl)
set_option maxRecDepth 100000 in
theorem wd_2067 : (Jvm.Cond.methodLink "FigureHouseModel" (474 : Nat) ({ cls := "java/lang/Math", name := "abs", desc := "(J)J" } : Jvm.MethodName)) ∈ lw_tbl := tb_9 (List.mem_of_getElem? (i := 47) rfl)
set_option maxRecDepth 100000 in
theorem wd_2068 : (Jvm.Cond.methodLink "FigureHouseLaw" (163 : Nat) ({ cls := "FigureHouseModel", name := "check", desc := "(III)I" } : Jvm.MethodName)) ∈ lw_tbl := tb_9 (List.mem_of_getElem? (i := 48) rfl)
set_option maxRecDepth 100000 in
theorem wd_2069 : (Jvm.Cond.instanceMethod ({ cls := "FigureHouseModel", name := "check", desc := "(III)I" } : Jvm.MethodName)) ∈ lw_tbl := tb_9 (List.mem_of_getElem? (i := 49) rfl)
set_option maxRecDepth 100000 in
theorem wd_2070 : (Jvm.Cond.selects "FigureHouseModel" ({ cls := "FigureHouseModel", name := "check", desc := "(III)I" } : Jvm.MethodName) ({ cls := "FigureHouseModel", name := "check", desc := "(III)I" } : Jvm.MethodName)) ∈ lw_tbl := tb_9 (List.mem_of_getElem? (i := 50) rfl)
set_option maxRecDepth 100000 in
theorem wd_2072 : (Jvm.Cond.methodLink "FigureHouseModel" (480 : Nat) ({ cls := "FigureHouseModel", name := "holds", desc := "(II)Z" } : Jvm.MethodName)) ∈ lw_tbl := tb_9 (List.mem_of_getElem? (i := 52) rfl)
set_option maxRecDepth 100000 in
theorem wd_2074 : (Jvm.Cond.instanceMethod ({ cls := "FigureHouseModel", name := "holds", desc := "(II)Z" } : Jvm.MethodName)) ∈ lw_tbl := tb_9 (List.mem_of_getElem? (i := 54) rfl)
set_option maxRecDepth 100000 in
theorem wd_2076 : (Jvm.Cond.methodLink "FigureHouseModel" (477 : Nat) ({ cls := "FigureHouseModel", name := "difference", desc := "(II)J" } : Jvm.MethodName)) ∈ lw_tbl := tb_9 (List.mem_of_getElem? (i := 56) rfl)
set_option maxRecDepth 100000 in
theorem wd_2078 : (Jvm.Cond.instanceMethod ({ cls := "FigureHouseModel", name := "difference", desc := "(II)J" } : Jvm.MethodName)) ∈ lw_tbl := tb_9 (List.mem_of_getElem? (i := 58) rfl)
set_option maxRecDepth 100000 in
theorem wd_2080 : (Jvm.Cond.methodLink "FigureHouseLaw" (167 : Nat) ({ cls := "FigureHouseModel", name := "fails", desc := "(II)I" } : Jvm.MethodName)) ∈ lw_tbl := tb_9 (List.mem_of_getElem? (i := 60) rfl)
set_option maxRecDepth 100000 in
theorem wd_2081 : (Jvm.Cond.instanceMethod ({ cls := "FigureHouseModel", name := "fails", desc := "(II)I" } : Jvm.MethodName)) ∈ lw_tbl := tb_9 (List.mem_of_getElem? (i := 61) rfl)
set_option maxRecDepth 100000 in
theorem wd_2082 : (Jvm.Cond.selects "FigureHouseModel" ({ cls := "FigureHouseModel", name := "fails", desc := "(II)I" } : Jvm.MethodName) ({ cls := "FigureHouseModel", name := "fails", desc := "(II)I" } : Jvm.MethodName)) ∈ lw_tbl := tb_9 (List.mem_of_getElem? (i := 62) rfl)
set_option maxRecDepth 100000 in
theorem wd_2084 : (Jvm.Cond.methodLink "FigureHouseModel" (483 : Nat) ({ cls := "FigureHouseModel", name := "failing", desc := "(I)I" } : Jvm.MethodName)) ∈ lw_tbl := tb_9 (List.mem_of_getElem? (i := 64) rfl)
set_option maxRecDepth 100000 in
theorem wd_2086 : (Jvm.Cond.instanceMethod ({ cls := "FigureHouseModel", name := "failing", desc := "(I)I" } : Jvm.MethodName)) ∈ lw_tbl := tb_9 (List.mem_of_getElem? (i := 66) rfl)
set_option maxRecDepth 100000 in
theorem wd_2088 : (Jvm.Cond.methodLink "FigureHouseLaw" (133 : Nat) ({ cls := "FigureHouseModel", name := "kind", desc := "(III)I" } : Jvm.MethodName)) ∈ lw_tbl := tb_9 (List.mem_of_getElem? (i := 68) rfl)
set_option maxRecDepth 100000 in
theorem wd_2089 : (Jvm.Cond.instanceMethod ({ cls := "FigureHouseModel", name := "kind", desc := "(III)I" } : Jvm.MethodName)) ∈ lw_tbl := tb_9 (List.mem_of_getElem? (i := 69) rfl)
set_option maxRecDepth 100000 in
theorem wd_2090 : (Jvm.Cond.selects "FigureHouseModel" ({ cls := "FigureHouseModel", name := "kind", desc := "(III)I" } : Jvm.MethodName) ({ cls := "FigureHouseModel", name := "kind", desc := "(III)I" } : Jvm.MethodName)) ∈ lw_tbl := tb_9 (List.mem_of_getElem? (i := 70) rfl)
set_option maxRecDepth 100000 in
theorem wd_2092 : (Jvm.Cond.methodLink "FigureHouseLaw" (171 : Nat) ({ cls := "FigureHouseModel", name := "unseen", desc := "(II)I" } : Jvm.MethodName)) ∈ lw_tbl := tb_9 (List.mem_of_getElem? (i := 72) rfl)
set_option maxRecDepth 100000 in
theorem wd_2093 : (Jvm.Cond.instanceMethod ({ cls := "FigureHouseModel", name := "unseen", desc := "(II)I" } : Jvm.MethodName)) ∈ lw_tbl := tb_9 (List.mem_of_getElem? (i := 73) rfl)
set_option maxRecDepth 100000 in
theorem wd_2094 : (Jvm.Cond.selects "FigureHouseModel" ({ cls := "FigureHouseModel", name := "unseen", desc := "(II)I" } : Jvm.MethodName) ({ cls := "FigureHouseModel", name := "unseen", desc := "(II)I" } : Jvm.MethodName)) ∈ lw_tbl := tb_9 (List.mem_of_getElem? (i := 74) rfl)
set_option maxRecDepth 100000 in
theorem wd_2096 : (Jvm.Cond.methodLink "FigureHouseLaw" (175 : Nat) ({ cls := "FigureHouseModel", name := "healed", desc := "(II)I" } : Jvm.MethodName)) ∈ lw_tbl := tb_9 (List.mem_of_getElem? (i := 76) rfl)
set_option maxRecDepth 100000 in
theorem wd_2097 : (Jvm.Cond.instanceMethod ({ cls := "FigureHouseModel", name := "healed", desc := "(II)I" } : Jvm.MethodName)) ∈ lw_tbl := tb_9 (List.mem_of_getElem? (i := 77) rfl)
set_option maxRecDepth 100000 in
theorem wd_2098 : (Jvm.Cond.selects "FigureHouseModel" ({ cls := "FigureHouseModel", name := "healed", desc := "(II)I" } : Jvm.MethodName) ({ cls := "FigureHouseModel", name := "healed", desc := "(II)I" } : Jvm.MethodName)) ∈ lw_tbl := tb_9 (List.mem_of_getElem? (i := 78) rfl)
set_option maxRecDepth 100000 in
theorem wd_2100 : (Jvm.Cond.methodLink "FigureHouseModel" (486 : Nat) ({ cls := "FigureHouseModel", name := "keepTruth", desc := "(I)V" } : Jvm.MethodName)) ∈ lw_tbl := tb_9 (List.mem_of_getElem? (i := 80) rfl)
set_option maxRecDepth 100000 in
theorem wd_2102 : (Jvm.Cond.instanceMethod ({ cls := "FigureHouseModel", name := "keepTruth", desc := "(I)V" } : Jvm.MethodName)) ∈ lw_tbl := tb_9 (List.mem_of_getElem? (i := 82) rfl)
set_option maxRecDepth 100000 in
theorem wd_2104 : (Jvm.Cond.methodLink "FigureHouseLaw" (179 : Nat) ({ cls := "FigureHouseModel", name := "spread", desc := "(III)I" } : Jvm.MethodName)) ∈ lw_tbl := tb_9 (List.mem_of_getElem? (i := 84) rfl)
set_option maxRecDepth 100000 in
theorem wd_2105 : (Jvm.Cond.instanceMethod ({ cls := "FigureHouseModel", name := "spread", desc := "(III)I" } : Jvm.MethodName)) ∈ lw_tbl := tb_9 (List.mem_of_getElem? (i := 85) rfl)
set_option maxRecDepth 100000 in
theorem wd_2106 : (Jvm.Cond.selects "FigureHouseModel" ({ cls := "FigureHouseModel", name := "spread", desc := "(III)I" } : Jvm.MethodName) ({ cls := "FigureHouseModel", name := "spread", desc := "(III)I" } : Jvm.MethodName)) ∈ lw_tbl := tb_9 (List.mem_of_getElem? (i := 86) rfl)
set_option maxRecDepth 100000 in
theorem wd_2108 : (Jvm.Cond.methodLink "FigureHouseLaw" (183 : Nat) ({ cls := "FigureHouseModel", name := "least", desc := "(III)I" } : Jvm.MethodName)) ∈ lw_tbl := tb_9 (List.mem_of_getElem? (i := 88) rfl)
set_option maxRecDepth 100000 in
theorem wd_2109 : (Jvm.Cond.instanceMethod ({ cls := "FigureHouseModel", name := "least", desc := "(III)I" } : Jvm.MethodName)) ∈ lw_tbl := tb_9 (List.mem_of_getElem? (i := 89) rfl)
set_option maxRecDepth 100000 in
theorem wd_2110 : (Jvm.Cond.selects "FigureHouseModel" ({ cls := "FigureHouseModel", name := "least", desc := "(III)I" } : Jvm.MethodName) ({ cls := "FigureHouseModel", name := "least", desc := "(III)I" } : Jvm.MethodName)) ∈ lw_tbl := tb_9 (List.mem_of_getElem? (i := 90) rfl)
set_option maxRecDepth 100000 in
theorem wd_2112 : (Jvm.Cond.methodLink "FigureHouseModel" (513 : Nat) ({ cls := "FigureHouseModel", name := "findLeast", desc := "(III)Z" } : Jvm.MethodName)) ∈ lw_tbl := tb_9 (List.mem_of_getElem? (i := 92) rfl)
set_option maxRecDepth 100000 in
theorem wd_2114 : (Jvm.Cond.instanceMethod ({ cls := "FigureHouseModel", name := "findLeast", desc := "(III)Z" } : Jvm.MethodName)) ∈ lw_tbl := tb_9 (List.mem_of_getElem? (i := 94) rfl)
set_option maxRecDepth 100000 in
theorem wd_2116 : (Jvm.Cond.methodLink "FigureHouseModel" (511 : Nat) ({ cls := "java/lang/Math", name := "min", desc := "(II)I" } : Jvm.MethodName)) ∈ lw_tbl := tb_9 (List.mem_of_getElem? (i := 96) rfl)
set_option maxRecDepth 100000 in
theorem wd_2117 : (Jvm.Cond.methodLink "FigureHouseModel" (508 : Nat) ({ cls := "FigureHouseModel", name := "seek", desc := "(II)V" } : Jvm.MethodName)) ∈ lw_tbl := tb_9 (List.mem_of_getElem? (i := 97) rfl)
set_option maxRecDepth 100000 in
theorem wd_2119 : (Jvm.Cond.instanceMethod ({ cls := "FigureHouseModel", name := "seek", desc := "(II)V" } : Jvm.MethodName)) ∈ lw_tbl := tb_9 (List.mem_of_getElem? (i := 99) rfl)
set_option maxRecDepth 100000 in
theorem wd_2121 : (Jvm.Cond.methodLink "FigureHouseModel" (501 : Nat) ({ cls := "FigureHouseModel", name := "mark", desc := "(IIJ)V" } : Jvm.MethodName)) ∈ lw_tbl := tb_9 (List.mem_of_getElem? (i := 101) rfl)
set_option maxRecDepth 100000 in
theorem wd_2123 : (Jvm.Cond.instanceMethod ({ cls := "FigureHouseModel", name := "mark", desc := "(IIJ)V" } : Jvm.MethodName)) ∈ lw_tbl := tb_9 (List.mem_of_getElem? (i := 103) rfl)
set_option maxRecDepth 100000 in
theorem wd_2125 : (Jvm.Cond.methodLink "FigureHouseLaw" (187 : Nat) ({ cls := "FigureHouseModel", name := "ways", desc := "(III)I" } : Jvm.MethodName)) ∈ lw_tbl := tb_9 (List.mem_of_getElem? (i := 105) rfl)
set_option maxRecDepth 100000 in
theorem wd_2126 : (Jvm.Cond.instanceMethod ({ cls := "FigureHouseModel", name := "ways", desc := "(III)I" } : Jvm.MethodName)) ∈ lw_tbl := tb_9 (List.mem_of_getElem? (i := 106) rfl)
set_option maxRecDepth 100000 in
theorem wd_2127 : (Jvm.Cond.selects "FigureHouseModel" ({ cls := "FigureHouseModel", name := "ways", desc := "(III)I" } : Jvm.MethodName) ({ cls := "FigureHouseModel", name := "ways", desc := "(III)I" } : Jvm.MethodName)) ∈ lw_tbl := tb_9 (List.mem_of_getElem? (i := 107) rfl)
set_option maxRecDepth 100000 in
theorem wd_2129 : (Jvm.Cond.methodLink "FigureHouseLaw" (192 : Nat) ({ cls := "FigureHouseModel", name := "first", desc := "(IIIII)J" } : Jvm.MethodName)) ∈ lw_tbl := tb_9 (List.mem_of_getElem? (i := 109) rfl)
set_option maxRecDepth 100000 in
theorem wd_2130 : (Jvm.Cond.instanceMethod ({ cls := "FigureHouseModel", name := "first", desc := "(IIIII)J" } : Jvm.MethodName)) ∈ lw_tbl := tb_9 (List.mem_of_getElem? (i := 110) rfl)
set_option maxRecDepth 100000 in
theorem wd_2131 : (Jvm.Cond.selects "FigureHouseModel" ({ cls := "FigureHouseModel", name := "first", desc := "(IIIII)J" } : Jvm.MethodName) ({ cls := "FigureHouseModel", name := "first", desc := "(IIIII)J" } : Jvm.MethodName)) ∈ lw_tbl := tb_9 (List.mem_of_getElem? (i := 111) rfl)
set_option maxRecDepth 100000 in
theorem wd_2133 : (Jvm.Cond.constantLong "FigureHouseModel" (516 : Nat) (-2000000000 : Int64)) ∈ lw_tbl := tb_9 (List.mem_of_getElem? (i := 113) rfl)
set_option maxRecDepth 100000 in
theorem wd_2134 : (Jvm.Cond.methodLink "FigureHouseLaw" (196 : Nat) ({ cls := "FigureHouseModel", name := "rate", desc := "(I)I" } : Jvm.MethodName)) ∈ lw_tbl := tb_9 (List.mem_of_getElem? (i := 114) rfl)
set_option maxRecDepth 100000 in
theorem wd_2135 : (Jvm.Cond.instanceMethod ({ cls := "FigureHouseModel", name := "rate", desc := "(I)I" } : Jvm.MethodName)) ∈ lw_tbl := tb_9 (List.mem_of_getElem? (i := 115) rfl)
set_option maxRecDepth 100000 in
theorem wd_2136 : (Jvm.Cond.selects "FigureHouseModel" ({ cls := "FigureHouseModel", name := "rate", desc := "(I)I" } : Jvm.MethodName) ({ cls := "FigureHouseModel", name := "rate", desc := "(I)I" } : Jvm.MethodName)) ∈ lw_tbl := tb_9 (List.mem_of_getElem? (i := 116) rfl)
set_option maxRecDepth 100000 in
theorem wd_2138 : (Jvm.Cond.methodLink "FigureHouseModel" (518 : Nat) ({ cls := "FigureHouseModel", name := "isHand", desc := "(I)Z" } : Jvm.MethodName)) ∈ lw_tbl := tb_9 (List.mem_of_getElem? (i := 118) rfl)
set_option maxRecDepth 100000 in
theorem wd_2139 : (Jvm.Cond.static ({ cls := "FigureHouseModel", name := "isHand", desc := "(I)Z" } : Jvm.MethodName)) ∈ lw_tbl := tb_9 (List.mem_of_getElem? (i := 119) rfl)
set_option maxRecDepth 100000 in
theorem wd_2141 : (Jvm.Cond.methodLink "FigureHouseLaw" (200 : Nat) ({ cls := "FigureHouseModel", name := "shut", desc := "(III)I" } : Jvm.MethodName)) ∈ lw_tbl := tb_9 (List.mem_of_getElem? (i := 121) rfl)
set_option maxRecDepth 100000 in
theorem wd_2142 : (Jvm.Cond.instanceMethod ({ cls := "FigureHouseModel", name := "shut", desc := "(III)I" } : Jvm.MethodName)) ∈ lw_tbl := tb_9 (List.mem_of_getElem? (i := 122) rfl)
set_option maxRecDepth 100000 in
theorem wd_2143 : (Jvm.Cond.selects "FigureHouseModel" ({ cls := "FigureHouseModel", name := "shut", desc := "(III)I" } : Jvm.MethodName) ({ cls := "FigureHouseModel", name := "shut", desc := "(III)I" } : Jvm.MethodName)) ∈ lw_tbl := tb_9 (List.mem_of_getElem? (i := 123) rfl)
set_option maxRecDepth 100000 in
theorem wd_2145 : (Jvm.Cond.methodLink "FigureHouseLaw" (205 : Nat) ({ cls := "FigureHouseModel", name := "doubled", desc := "(IIIII)Z" } : Jvm.MethodName)) ∈ lw_tbl := tb_9 (List.mem_of_getElem? (i := 125) rfl)
set_option maxRecDepth 100000 in
theorem wd_2146 : (Jvm.Cond.instanceMethod ({ cls := "FigureHouseModel", name := "doubled", desc := "(IIIII)Z" } : Jvm.MethodName)) ∈ lw_tbl := tb_9 (List.mem_of_getElem? (i := 126) rfl)
set_option maxRecDepth 100000 in
theorem wd_2147 : (Jvm.Cond.selects "FigureHouseModel" ({ cls := "FigureHouseModel", name := "doubled", desc := "(IIIII)Z" } : Jvm.MethodName) ({ cls := "FigureHouseModel", name := "doubled", desc := "(IIIII)Z" } : Jvm.MethodName)) ∈ lw_tbl := tb_9 (List.mem_of_getElem? (i := 127) rfl)
set_option maxRecDepth 100000 in
theorem wd_2149 : (Jvm.Cond.methodLink "FigureHouseLaw" (209 : Nat) ({ cls := "FigureHouseModel", name := "left", desc := "(II)I" } : Jvm.MethodName)) ∈ lw_tbl := tb_9 (List.mem_of_getElem? (i := 129) rfl)
set_option maxRecDepth 100000 in
theorem wd_2150 : (Jvm.Cond.instanceMethod ({ cls := "FigureHouseModel", name := "left", desc := "(II)I" } : Jvm.MethodName)) ∈ lw_tbl := tb_9 (List.mem_of_getElem? (i := 130) rfl)
set_option maxRecDepth 100000 in
theorem wd_2151 : (Jvm.Cond.selects "FigureHouseModel" ({ cls := "FigureHouseModel", name := "left", desc := "(II)I" } : Jvm.MethodName) ({ cls := "FigureHouseModel", name := "left", desc := "(II)I" } : Jvm.MethodName)) ∈ lw_tbl := tb_9 (List.mem_of_getElem? (i := 131) rfl)
set_option maxRecDepth 100000 in
theorem wd_2153 : (Jvm.Cond.methodLink "FigureHouseLaw" (213 : Nat) ({ cls := "FigureHouseModel", name := "set", desc := "(I)Z" } : Jvm.MethodName)) ∈ lw_tbl := tb_9 (List.mem_of_getElem? (i := 133) rfl)
set_option maxRecDepth 100000 in
theorem wd_2154 : (Jvm.Cond.instanceMethod ({ cls := "FigureHouseModel", name := "set", desc := "(I)Z" } : Jvm.MethodName)) ∈ lw_tbl := tb_9 (List.mem_of_getElem? (i := 134) rfl)
set_option maxRecDepth 100000 in
theorem wd_2155 : (Jvm.Cond.selects "FigureHouseModel" ({ cls := "FigureHouseModel", name := "set", desc := "(I)Z" } : Jvm.MethodName) ({ cls := "FigureHouseModel", name := "set", desc := "(I)Z" } : Jvm.MethodName)) ∈ lw_tbl := tb_9 (List.mem_of_getElem? (i := 135) rfl)
set_option maxRecDepth 100000 in
theorem wd_2157 : (Jvm.Cond.methodLink "FigureHouseModel" (524 : Nat) ({ cls := "FigureHouseModel", name := "known", desc := "()I" } : Jvm.MethodName)) ∈ lw_tbl := tb_9 (List.mem_of_getElem? (i := 137) rfl)
set_option maxRecDepth 100000 in
theorem wd_2158 : (Jvm.Cond.methodLink "FigureHouseLaw" (218 : Nat) ({ cls := "FigureHouseModel", name := "press", desc := "(IIII)Z" } : Jvm.MethodName)) ∈ lw_tbl := tb_9 (List.mem_of_getElem? (i := 138) rfl)
set_option maxRecDepth 100000 in
theorem wd_2159 : (Jvm.Cond.instanceMethod ({ cls := "FigureHouseModel", name := "press", desc := "(IIII)Z" } : Jvm.MethodName)) ∈ lw_tbl := tb_9 (List.mem_of_getElem? (i := 139) rfl)
set_option maxRecDepth 100000 in
theorem wd_2160 : (Jvm.Cond.selects "FigureHouseModel" ({ cls := "FigureHouseModel", name := "press", desc := "(IIII)Z" } : Jvm.MethodName) ({ cls := "FigureHouseModel", name := "press", desc := "(IIII)Z" } : Jvm.MethodName)) ∈ lw_tbl := tb_9 (List.mem_of_getElem? (i := 140) rfl)
set_option maxRecDepth 100000 in
theorem wd_2162 : (Jvm.Cond.methodLink "FigureHouseModel" (530 : Nat) ({ cls := "FigureHouseModel", name := "isPlate", desc := "(I)Z" } : Jvm.MethodName)) ∈ lw_tbl := tb_9 (List.mem_of_getElem? (i := 142) rfl)
set_option maxRecDepth 100000 in
theorem wd_2164 : (Jvm.Cond.instanceMethod ({ cls := "FigureHouseModel", name := "isPlate", desc := "(I)Z" } : Jvm.MethodName)) ∈ lw_tbl := tb_9 (List.mem_of_getElem? (i := 144) rfl)
set_option maxRecDepth 100000 in
theorem wd_2166 : (Jvm.Cond.methodLink "FigureHouseLaw" (221 : Nat) ({ cls := "FigureHouseModel", name := "printed", desc := "(II)J" } : Jvm.MethodName)) ∈ lw_tbl := tb_9 (List.mem_of_getElem? (i := 146) rfl)
set_option maxRecDepth 100000 in
theorem wd_2167 : (Jvm.Cond.instanceMethod ({ cls := "FigureHouseModel", name := "printed", desc := "(II)J" } : Jvm.MethodName)) ∈ lw_tbl := tb_9 (List.mem_of_getElem? (i := 147) rfl)
set_option maxRecDepth 100000 in
theorem wd_2168 : (Jvm.Cond.selects "FigureHouseModel" ({ cls := "FigureHouseModel", name := "printed", desc := "(II)J" } : Jvm.MethodName) ({ cls := "FigureHouseModel", name := "printed", desc := "(II)J" } : Jvm.MethodName)) ∈ lw_tbl := tb_9 (List.mem_of_getElem? (i := 148) rfl)
set_option maxRecDepth 100000 in
theorem wd_2170 : (Jvm.Cond.methodLink "FigureHouseModel" (533 : Nat) ({ cls := "FigureHouseModel", name := "printedAt", desc := "(II)J" } : Jvm.MethodName)) ∈ lw_tbl := tb_9 (List.mem_of_getElem? (i := 150) rfl)
set_option maxRecDepth 100000 in
theorem wd_2172 : (Jvm.Cond.instanceMethod ({ cls := "FigureHouseModel", name := "printedAt", desc := "(II)J" } : Jvm.MethodName)) ∈ lw_tbl := tb_9 (List.mem_of_getElem? (i := 152) rfl)
set_option maxRecDepth 100000 in
theorem wd_2174 : (Jvm.Cond.methodLink "FigureHouseLaw" (225 : Nat) ({ cls := "FigureHouseModel", name := "proof", desc := "(II)I" } : Jvm.MethodName)) ∈ lw_tbl := tb_9 (List.mem_of_getElem? (i := 154) rfl)
set_option maxRecDepth 100000 in
theorem wd_2175 : (Jvm.Cond.instanceMethod ({ cls := "FigureHouseModel", name := "proof", desc := "(II)I" } : Jvm.MethodName)) ∈ lw_tbl := tb_9 (List.mem_of_getElem? (i := 155) rfl)
set_option maxRecDepth 100000 in
theorem wd_2176 : (Jvm.Cond.selects "FigureHouseModel" ({ cls := "FigureHouseModel", name := "proof", desc := "(II)I" } : Jvm.MethodName) ({ cls := "FigureHouseModel", name := "proof", desc := "(II)I" } : Jvm.MethodName)) ∈ lw_tbl := tb_9 (List.mem_of_getElem? (i := 156) rfl)
set_option maxRecDepth 100000 in
theorem wd_2178 : (Jvm.Cond.methodLink "FigureHouseLaw" (229 : Nat) ({ cls := "FigureHouseModel", name := "copy", desc := "(I)I" } : Jvm.MethodName)) ∈ lw_tbl := tb_9 (List.mem_of_getElem? (i := 158) rfl)
set_option maxRecDepth 100000 in
theorem wd_2179 : (Jvm.Cond.instanceMethod ({ cls := "FigureHouseModel", name := "copy", desc := "(I)I" } : Jvm.MethodName)) ∈ lw_tbl := tb_9 (List.mem_of_getElem? (i := 159) rfl)
set_option maxRecDepth 100000 in
theorem wd_2180 : (Jvm.Cond.selects "FigureHouseModel" ({ cls := "FigureHouseModel", name := "copy", desc := "(I)I" } : Jvm.MethodName) ({ cls := "FigureHouseModel", name := "copy", desc := "(I)I" } : Jvm.MethodName)) ∈ lw_tbl := tb_9 (List.mem_of_getElem? (i := 160) rfl)
set_option maxRecDepth 100000 in
theorem wd_2182 : (Jvm.Cond.methodLink "FigureHouseLaw" (236 : Nat) ({ cls := "FigureHouseModel", name := "erratum", desc := "(IIJJ)I" } : Jvm.MethodName)) ∈ lw_tbl := tb_9 (List.mem_of_getElem? (i := 162) rfl)
set_option maxRecDepth 100000 in
theorem wd_2183 : (Jvm.Cond.instanceMethod ({ cls := "FigureHouseModel", name := "erratum", desc := "(IIJJ)I" } : Jvm.MethodName)) ∈ lw_tbl := tb_9 (List.mem_of_getElem? (i := 163) rfl)
set_option maxRecDepth 100000 in
theorem wd_2184 : (Jvm.Cond.selects "FigureHouseModel" ({ cls := "FigureHouseModel", name := "erratum", desc := "(IIJJ)I" } : Jvm.MethodName) ({ cls := "FigureHouseModel", name := "erratum", desc := "(IIJJ)I" } : Jvm.MethodName)) ∈ lw_tbl := tb_9 (List.mem_of_getElem? (i := 164) rfl)
set_option maxRecDepth 100000 in
theorem wd_2186 : (Jvm.Cond.methodLink "FigureHouseLaw" (240 : Nat) ({ cls := "FigureHouseModel", name := "apply", desc := "(II)I" } : Jvm.MethodName)) ∈ lw_tbl := tb_9 (List.mem_of_getElem? (i := 166) rfl)
set_option maxRecDepth 100000 in
theorem wd_2187 : (Jvm.Cond.instanceMethod ({ cls := "FigureHouseModel", name := "apply", desc := "(II)I" } : Jvm.MethodName)) ∈ lw_tbl := tb_9 (List.mem_of_getElem? (i := 167) rfl)
set_option maxRecDepth 100000 in
theorem wd_2188 : (Jvm.Cond.selects "FigureHouseModel" ({ cls := "FigureHouseModel", name := "apply", desc := "(II)I" } : Jvm.MethodName) ({ cls := "FigureHouseModel", name := "apply", desc := "(II)I" } : Jvm.MethodName)) ∈ lw_tbl := tb_9 (List.mem_of_getElem? (i := 168) rfl)
set_option maxRecDepth 100000 in
theorem wd_2190 : (Jvm.Cond.methodLink "FigureHouseModel" (542 : Nat) ({ cls := "FigureHouseModel", name := "isCopy", desc := "(I)Z" } : Jvm.MethodName)) ∈ lw_tbl := tb_9 (List.mem_of_getElem? (i := 170) rfl)
set_option maxRecDepth 100000 in
theorem wd_2192 : (Jvm.Cond.instanceMethod ({ cls := "FigureHouseModel", name := "isCopy", desc := "(I)Z" } : Jvm.MethodName)) ∈ lw_tbl := tb_9 (List.mem_of_getElem? (i := 172) rfl)
set_option maxRecDepth 100000 in
theorem wd_2194 : (Jvm.Cond.methodLink "FigureHouseLaw" (243 : Nat) ({ cls := "FigureHouseModel", name := "copied", desc := "(II)J" } : Jvm.MethodName)) ∈ lw_tbl := tb_9 (List.mem_of_getElem? (i := 174) rfl)
set_option maxRecDepth 100000 in
theorem wd_2195 : (Jvm.Cond.instanceMethod ({ cls := "FigureHouseModel", name := "copied", desc := "(II)J" } : Jvm.MethodName)) ∈ lw_tbl := tb_9 (List.mem_of_getElem? (i := 175) rfl)
set_option maxRecDepth 100000 in
theorem wd_2196 : (Jvm.Cond.selects "FigureHouseModel" ({ cls := "FigureHouseModel", name := "copied", desc := "(II)J" } : Jvm.MethodName) ({ cls := "FigureHouseModel", name := "copied", desc := "(II)J" } : Jvm.MethodName)) ∈ lw_tbl := tb_9 (List.mem_of_getElem? (i := 176) rfl)
set_option maxRecDepth 100000 in
theorem wd_2198 : (Jvm.Cond.methodLink "FigureHouseLaw" (247 : Nat) ({ cls := "FigureHouseModel", name := "errors", desc := "(I)I" } : Jvm.MethodName)) ∈ lw_tbl := tb_9 (List.mem_of_getElem? (i := 178) rfl)
set_option maxRecDepth 100000 in
theorem wd_2199 : (Jvm.Cond.instanceMethod ({ cls := "FigureHouseModel", name := "errors", desc := "(I)I" } : Jvm.MethodName)) ∈ lw_tbl := tb_9 (List.mem_of_getElem? (i := 179) rfl)
set_option maxRecDepth 100000 in
theorem wd_2200 : (Jvm.Cond.selects "FigureHouseModel" ({ cls := "FigureHouseModel", name := "errors", desc := "(I)I" } : Jvm.MethodName) ({ cls := "FigureHouseModel", name := "errors", desc := "(I)I" } : Jvm.MethodName)) ∈ lw_tbl := tb_9 (List.mem_of_getElem? (i := 180) rfl)
set_option maxRecDepth 100000 in
theorem wd_2202 : (Jvm.Cond.methodLink "FigureHouseLaw" (251 : Nat) ({ cls := "FigureHouseModel", name := "other", desc := "(I)I" } : Jvm.MethodName)) ∈ lw_tbl := tb_9 (List.mem_of_getElem? (i := 182) rfl)
set_option maxRecDepth 100000 in
theorem wd_2203 : (Jvm.Cond.instanceMethod ({ cls := "FigureHouseModel", name := "other", desc := "(I)I" } : Jvm.MethodName)) ∈ lw_tbl := tb_9 (List.mem_of_getElem? (i := 183) rfl)
set_option maxRecDepth 100000 in
theorem wd_2204 : (Jvm.Cond.selects "FigureHouseModel" ({ cls := "FigureHouseModel", name := "other", desc := "(I)I" } : Jvm.MethodName) ({ cls := "FigureHouseModel", name := "other", desc := "(I)I" } : Jvm.MethodName)) ∈ lw_tbl := tb_9 (List.mem_of_getElem? (i := 184) rfl)
set_option maxRecDepth 100000 in
theorem wd_2206 : (Jvm.Cond.methodLink "FigureHouseLaw" (256 : Nat) ({ cls := "FigureHouseModel", name := "tell", desc := "(IIJ)Z" } : Jvm.MethodName)) ∈ lw_tbl := tb_9 (List.mem_of_getElem? (i := 186) rfl)
set_option maxRecDepth 100000 in
theorem wd_2207 : (Jvm.Cond.instanceMethod ({ cls := "FigureHouseModel", name := "tell", desc := "(IIJ)Z" } : Jvm.MethodName)) ∈ lw_tbl := tb_9 (List.mem_of_getElem? (i := 187) rfl)
set_option maxRecDepth 100000 in
theorem wd_2208 : (Jvm.Cond.selects "FigureHouseModel" ({ cls := "FigureHouseModel", name := "tell", desc := "(IIJ)Z" } : Jvm.MethodName) ({ cls := "FigureHouseModel", name := "tell", desc := "(IIJ)Z" } : Jvm.MethodName)) ∈ lw_tbl := tb_9 (List.mem_of_getElem? (i := 188) rfl)
set_option maxRecDepth 100000 in
theorem wd_2210 : (Jvm.Cond.methodLink "FigureHouseLaw" (260 : Nat) ({ cls := "FigureHouseModel", name := "compare", desc := "(II)I" } : Jvm.MethodName)) ∈ lw_tbl := tb_9 (List.mem_of_getElem? (i := 190) rfl)
set_option maxRecDepth 100000 in
theorem wd_2211 : (Jvm.Cond.instanceMethod ({ cls := "FigureHouseModel", name := "compare", desc := "(II)I" } : Jvm.MethodName)) ∈ lw_tbl := tb_9 (List.mem_of_getElem? (i := 191) rfl)
set_option maxRecDepth 100000 in
theorem wd_2212 : (Jvm.Cond.selects "FigureHouseModel" ({ cls := "FigureHouseModel", name := "compare", desc := "(II)I" } : Jvm.MethodName) ({ cls := "FigureHouseModel", name := "compare", desc := "(II)I" } : Jvm.MethodName)) ∈ lw_tbl := tb_9 (List.mem_of_getElem? (i := 192) rfl)
set_option maxRecDepth 100000 in
theorem wd_2214 : (Jvm.Cond.methodLink "FigureHouseLaw" (264 : Nat) ({ cls := "FigureHouseModel", name := "sheet", desc := "(I)I" } : Jvm.MethodName)) ∈ lw_tbl := tb_9 (List.mem_of_getElem? (i := 194) rfl)
set_option maxRecDepth 100000 in
theorem wd_2215 : (Jvm.Cond.instanceMethod ({ cls := "FigureHouseModel", name := "sheet", desc := "(I)I" } : Jvm.MethodName)) ∈ lw_tbl := tb_9 (List.mem_of_getElem? (i := 195) rfl)
set_option maxRecDepth 100000 in
theorem wd_2216 : (Jvm.Cond.selects "FigureHouseModel" ({ cls := "FigureHouseModel", name := "sheet", desc := "(I)I" } : Jvm.MethodName) ({ cls := "FigureHouseModel", name := "sheet", desc := "(I)I" } : Jvm.MethodName)) ∈ lw_tbl := tb_9 (List.mem_of_getElem? (i := 196) rfl)
set_option maxRecDepth 100000 in
theorem wd_2218 : (Jvm.Cond.methodLink "FigureHouseLaw" (269 : Nat) ({ cls := "FigureHouseModel", name := "put", desc := "(III)Z" } : Jvm.MethodName)) ∈ lw_tbl := tb_9 (List.mem_of_getElem? (i := 198) rfl)
set_option maxRecDepth 100000 in
theorem wd_2219 : (Jvm.Cond.instanceMethod ({ cls := "FigureHouseModel", name := "put", desc := "(III)Z" } : Jvm.MethodName)) ∈ lw_tbl := tb_9 (List.mem_of_getElem? (i := 199) rfl)
set_option maxRecDepth 100000 in
theorem wd_2220 : (Jvm.Cond.selects "FigureHouseModel" ({ cls := "FigureHouseModel", name := "put", desc := "(III)Z" } : Jvm.MethodName) ({ cls := "FigureHouseModel", name := "put", desc := "(III)Z" } : Jvm.MethodName)) ∈ lw_tbl := tb_9 (List.mem_of_getElem? (i := 200) rfl)
set_option maxRecDepth 100000 in
theorem wd_2222 : (Jvm.Cond.methodLink "FigureHouseModel" (551 : Nat) ({ cls := "FigureHouseModel", name := "isSheet", desc := "(I)Z" } : Jvm.MethodName)) ∈ lw_tbl := tb_9 (List.mem_of_getElem? (i := 202) rfl)
set_option maxRecDepth 100000 in
theorem wd_2224 : (Jvm.Cond.instanceMethod ({ cls := "FigureHouseModel", name := "isSheet", desc := "(I)Z" } : Jvm.MethodName)) ∈ lw_tbl := tb_9 (List.mem_of_getElem? (i := 204) rfl)
set_option maxRecDepth 100000 in
theorem wd_2226 : (Jvm.Cond.constant "FigureHouseModel" (554 : Nat) (-1000000000 : Int32)) ∈ lw_tbl := tb_9 (List.mem_of_getElem? (i := 206) rfl)
set_option maxRecDepth 100000 in
theorem wd_2227 : (Jvm.Cond.constant "FigureHouseModel" (555 : Nat) (1000000000 : Int32)) ∈ lw_tbl := tb_9 (List.mem_of_getElem? (i := 207) rfl)
set_option maxRecDepth 100000 in
theorem wd_2228 : (Jvm.Cond.methodLink "FigureHouseLaw" (273 : Nat) ({ cls := "FigureHouseModel", name := "lose", desc := "(I)Z" } : Jvm.MethodName)) ∈ lw_tbl := tb_9 (List.mem_of_getElem? (i := 208) rfl)
set_option maxRecDepth 100000 in
theorem wd_2229 : (Jvm.Cond.instanceMethod ({ cls := "FigureHouseModel", name := "lose", desc := "(I)Z" } : Jvm.MethodName)) ∈ lw_tbl := tb_9 (List.mem_of_getElem? (i := 209) rfl)
set_option maxRecDepth 100000 in
theorem wd_2230 : (Jvm.Cond.selects "FigureHouseModel" ({ cls := "FigureHouseModel", name := "lose", desc := "(I)Z" } : Jvm.MethodName) ({ cls := "FigureHouseModel", name := "lose", desc := "(I)Z" } : Jvm.MethodName)) ∈ lw_tbl := tb_9 (List.mem_of_getElem? (i := 210) rfl)
set_option maxRecDepth 100000 in
theorem wd_2232 : (Jvm.Cond.methodLink "FigureHouseLaw" (277 : Nat) ({ cls := "FigureHouseModel", name := "take", desc := "(IIII)I" } : Jvm.MethodName)) ∈ lw_tbl := tb_9 (List.mem_of_getElem? (i := 212) rfl)
set_option maxRecDepth 100000 in
theorem wd_2233 : (Jvm.Cond.instanceMethod ({ cls := "FigureHouseModel", name := "take", desc := "(IIII)I" } : Jvm.MethodName)) ∈ lw_tbl := tb_9 (List.mem_of_getElem? (i := 213) rfl)
set_option maxRecDepth 100000 in
theorem wd_2234 : (Jvm.Cond.selects "FigureHouseModel" ({ cls := "FigureHouseModel", name := "take", desc := "(IIII)I" } : Jvm.MethodName) ({ cls := "FigureHouseModel", name := "take", desc := "(IIII)I" } : Jvm.MethodName)) ∈ lw_tbl := tb_9 (List.mem_of_getElem? (i := 214) rfl)
set_option maxRecDepth 100000 in
theorem wd_2236 : (Jvm.Cond.methodLink "FigureHouseModel" (556 : Nat) ({ cls := "FigureHouseModel", name := "slip", desc := "(IIII)I" } : Jvm.MethodName)) ∈ lw_tbl := tb_9 (List.mem_of_getElem? (i := 216) rfl)
set_option maxRecDepth 100000 in
theorem wd_2237 : (Jvm.Cond.methodLink "FigureHouseLaw" (281 : Nat) ({ cls := "FigureHouseModel", name := "hours", desc := "(I)Z" } : Jvm.MethodName)) ∈ lw_tbl := tb_9 (List.mem_of_getElem? (i := 217) rfl)
set_option maxRecDepth 100000 in
theorem wd_2238 : (Jvm.Cond.instanceMethod ({ cls := "FigureHouseModel", name := "hours", desc := "(I)Z" } : Jvm.MethodName)) ∈ lw_tbl := tb_9 (List.mem_of_getElem? (i := 218) rfl)
set_option maxRecDepth 100000 in
theorem wd_2239 : (Jvm.Cond.selects "FigureHouseModel" ({ cls := "FigureHouseModel", name := "hours", desc := "(I)Z" } : Jvm.MethodName) ({ cls := "FigureHouseModel", name := "hours", desc := "(I)Z" } : Jvm.MethodName)) ∈ lw_tbl := tb_9 (List.mem_of_getElem? (i := 219) rfl)
set_option maxRecDepth 100000 in
theorem wd_2241 : (Jvm.Cond.methodLink "FigureHouseLaw" (286 : Nat) ({ cls := "FigureHouseModel", name := "best", desc := "(IIIIIII)I" } : Jvm.MethodName)) ∈ lw_tbl := tb_9 (List.mem_of_getElem? (i := 221) rfl)
set_option maxRecDepth 100000 in
theorem wd_2242 : (Jvm.Cond.instanceMethod ({ cls := "FigureHouseModel", name := "best", desc := "(IIIIIII)I" } : Jvm.MethodName)) ∈ lw_tbl := tb_9 (List.mem_of_getElem? (i := 222) rfl)
set_option maxRecDepth 100000 in
theorem wd_2243 : (Jvm.Cond.selects "FigureHouseModel" ({ cls := "FigureHouseModel", name := "best", desc := "(IIIIIII)I" } : Jvm.MethodName) ({ cls := "FigureHouseModel", name := "best", desc := "(IIIIIII)I" } : Jvm.MethodName)) ∈ lw_tbl := tb_9 (List.mem_of_getElem? (i := 223) rfl)
set_option maxRecDepth 100000 in
theorem wd_2245 : (Jvm.Cond.methodLink "FigureHouseModel" (560 : Nat) ({ cls := "FigureHouseModel", name := "isRight", desc := "(IIIIIIIII)Z" } : Jvm.MethodName)) ∈ lw_tbl := tb_9 (List.mem_of_getElem? (i := 225) rfl)
set_option maxRecDepth 100000 in
theorem wd_2247 : (Jvm.Cond.instanceMethod ({ cls := "FigureHouseModel", name := "isRight", desc := "(IIIIIIIII)Z" } : Jvm.MethodName)) ∈ lw_tbl := tb_9 (List.mem_of_getElem? (i := 227) rfl)
set_option maxRecDepth 100000 in
theorem wd_2249 : (Jvm.Cond.methodLink "FigureHouseLaw" (290 : Nat) ({ cls := "FigureHouseModel", name := "count", desc := "(I)I" } : Jvm.MethodName)) ∈ lw_tbl := tb_9 (List.mem_of_getElem? (i := 229) rfl)
set_option maxRecDepth 100000 in
theorem wd_2250 : (Jvm.Cond.instanceMethod ({ cls := "FigureHouseModel", name := "count", desc := "(I)I" } : Jvm.MethodName)) ∈ lw_tbl := tb_9 (List.mem_of_getElem? (i := 230) rfl)
set_option maxRecDepth 100000 in
theorem wd_2251 : (Jvm.Cond.selects "FigureHouseModel" ({ cls := "FigureHouseModel", name := "count", desc := "(I)I" } : Jvm.MethodName) ({ cls := "FigureHouseModel", name := "count", desc := "(I)I" } : Jvm.MethodName)) ∈ lw_tbl := tb_9 (List.mem_of_getElem? (i := 231) rfl)
set_option maxRecDepth 100000 in
theorem wd_2253 : (Jvm.Cond.constantLong "FigureHouseLaw" (230 : Nat) (4294967295 : Int64)) ∈ lw_tbl := tb_9 (List.mem_of_getElem? (i := 233) rfl)
set_option maxRecDepth 100000 in
theorem wd_2272 : (Jvm.Cond.selects "[Ljava/lang/Object;" ({ cls := "java/lang/Object", name := "getClass", desc := "()Ljava/lang/Class;" } : Jvm.MethodName) ({ cls := "java/lang/Object", name := "getClass", desc := "()Ljava/lang/Class;" } : Jvm.MethodName)) ∈ lw_tbl := tb_10 (List.mem_of_getElem? (i := 12) rfl)
set_option maxRecDepth 100000 in
theorem wd_p0 : Cond.selects "FigureHouse$Reader" ⟨"FigureHouse$Reader", "open", "(LFigureHouse$Text;)V"⟩ ⟨"FigureHouse$Reader", "open", "(LFigureHouse$Text;)V"⟩ ∈ lw_tbl := List.mem_append_left _ (List.mem_of_getElem? (i := 0) rfl)
set_option maxRecDepth 100000 in
theorem wd_p1 : Cond.selects "FigureHouse" ⟨"FigureHouse", "isDay", "(I)Z"⟩ ⟨"FigureHouse", "isDay", "(I)Z"⟩ ∈ lw_tbl := List.mem_append_left _ (List.mem_of_getElem? (i := 1) rfl)
set_option maxRecDepth 100000 in
theorem wd_p2 : Cond.selects "java/util/ArrayList" ⟨"java/util/ArrayList", "add", "(Ljava/lang/Object;[Ljava/lang/Object;I)V"⟩ ⟨"java/util/ArrayList", "add", "(Ljava/lang/Object;[Ljava/lang/Object;I)V"⟩ ∈ lw_tbl := List.mem_append_left _ (List.mem_of_getElem? (i := 2) rfl)
set_option maxRecDepth 100000 in
theorem wd_p3 : Cond.selects "java/util/ArrayList" ⟨"java/util/ArrayList", "grow", "()[Ljava/lang/Object;"⟩ ⟨"java/util/ArrayList", "grow", "()[Ljava/lang/Object;"⟩ ∈ lw_tbl := List.mem_append_left _ (List.mem_of_getElem? (i := 3) rfl)
set_option maxRecDepth 100000 in
theorem wd_p4 : Cond.selects "java/util/ArrayList" ⟨"java/util/ArrayList", "grow", "(I)[Ljava/lang/Object;"⟩ ⟨"java/util/ArrayList", "grow", "(I)[Ljava/lang/Object;"⟩ ∈ lw_tbl := List.mem_append_left _ (List.mem_of_getElem? (i := 4) rfl)
set_option maxRecDepth 100000 in
theorem wd_p5 : Cond.selects "FigureHouse" ⟨"FigureHouse", "curveAt", "(III)LFigureHouse$Curve;"⟩ ⟨"FigureHouse", "curveAt", "(III)LFigureHouse$Curve;"⟩ ∈ lw_tbl := List.mem_append_left _ (List.mem_of_getElem? (i := 5) rfl)
set_option maxRecDepth 100000 in
theorem wd_p6 : Cond.selects "FigureHouse$Reader" ⟨"FigureHouse$Reader", "nextSign", "()I"⟩ ⟨"FigureHouse$Reader", "nextSign", "()I"⟩ ∈ lw_tbl := List.mem_append_left _ (List.mem_of_getElem? (i := 6) rfl)
set_option maxRecDepth 100000 in
theorem wd_p7 : Cond.selects "FigureHouse$Reader" ⟨"FigureHouse$Reader", "refuse", "()V"⟩ ⟨"FigureHouse$Reader", "refuse", "()V"⟩ ∈ lw_tbl := List.mem_append_left _ (List.mem_of_getElem? (i := 7) rfl)
set_option maxRecDepth 100000 in
theorem wd_p8 : Cond.selects "FigureHouse$Reader" ⟨"FigureHouse$Reader", "demand", "(I)V"⟩ ⟨"FigureHouse$Reader", "demand", "(I)V"⟩ ∈ lw_tbl := List.mem_append_left _ (List.mem_of_getElem? (i := 8) rfl)
set_option maxRecDepth 100000 in
theorem wd_p9 : Cond.selects "FigureHouse$Reader" ⟨"FigureHouse$Reader", "readsClause", "()Z"⟩ ⟨"FigureHouse$Reader", "readsClause", "()Z"⟩ ∈ lw_tbl := List.mem_append_left _ (List.mem_of_getElem? (i := 9) rfl)
set_option maxRecDepth 100000 in
theorem wd_p10 : Cond.selects "FigureHouse$Reader" ⟨"FigureHouse$Reader", "sum", "(I)J"⟩ ⟨"FigureHouse$Reader", "sum", "(I)J"⟩ ∈ lw_tbl := List.mem_append_left _ (List.mem_of_getElem? (i := 10) rfl)
set_option maxRecDepth 100000 in
theorem wd_p11 : Cond.selects "FigureHouse$Reader" ⟨"FigureHouse$Reader", "term", "(I)J"⟩ ⟨"FigureHouse$Reader", "term", "(I)J"⟩ ∈ lw_tbl := List.mem_append_left _ (List.mem_of_getElem? (i := 11) rfl)
set_option maxRecDepth 100000 in
theorem wd_p12 : Cond.selects "FigureHouse$Reader" ⟨"FigureHouse$Reader", "atom", "(I)J"⟩ ⟨"FigureHouse$Reader", "atom", "(I)J"⟩ ∈ lw_tbl := List.mem_append_left _ (List.mem_of_getElem? (i := 12) rfl)
set_option maxRecDepth 100000 in
theorem wd_p13 : Cond.selects "FigureHouse$Reader" ⟨"FigureHouse$Reader", "number", "()J"⟩ ⟨"FigureHouse$Reader", "number", "()J"⟩ ∈ lw_tbl := List.mem_append_left _ (List.mem_of_getElem? (i := 13) rfl)
set_option maxRecDepth 100000 in
theorem wd_p14 : Cond.selects "FigureHouse$Reader" ⟨"FigureHouse$Reader", "accepts", "(I)Z"⟩ ⟨"FigureHouse$Reader", "accepts", "(I)Z"⟩ ∈ lw_tbl := List.mem_append_left _ (List.mem_of_getElem? (i := 14) rfl)
set_option maxRecDepth 100000 in
theorem wd_p15 : Cond.selects "FigureHouse$Reader" ⟨"FigureHouse$Reader", "condition", "(I)Z"⟩ ⟨"FigureHouse$Reader", "condition", "(I)Z"⟩ ∈ lw_tbl := List.mem_append_left _ (List.mem_of_getElem? (i := 15) rfl)
set_option maxRecDepth 100000 in
theorem wd_p16 : Cond.selects "FigureHouse$Reader" ⟨"FigureHouse$Reader", "unit", "(I)Z"⟩ ⟨"FigureHouse$Reader", "unit", "(I)Z"⟩ ∈ lw_tbl := List.mem_append_left _ (List.mem_of_getElem? (i := 16) rfl)
set_option maxRecDepth 100000 in
theorem wd_p17 : Cond.selects "FigureHouse$Reader" ⟨"FigureHouse$Reader", "demandComparing", "()I"⟩ ⟨"FigureHouse$Reader", "demandComparing", "()I"⟩ ∈ lw_tbl := List.mem_append_left _ (List.mem_of_getElem? (i := 17) rfl)
set_option maxRecDepth 100000 in
theorem wd_p18 : Cond.selects "FigureHouse$Reader" ⟨"FigureHouse$Reader", "negated", "(I)Z"⟩ ⟨"FigureHouse$Reader", "negated", "(I)Z"⟩ ∈ lw_tbl := List.mem_append_left _ (List.mem_of_getElem? (i := 18) rfl)
set_option maxRecDepth 100000 in
theorem wd_p19 : Cond.selects "FigureHouse$Reader" ⟨"FigureHouse$Reader", "parenthesised", "(I)Z"⟩ ⟨"FigureHouse$Reader", "parenthesised", "(I)Z"⟩ ∈ lw_tbl := List.mem_append_left _ (List.mem_of_getElem? (i := 19) rfl)
set_option maxRecDepth 100000 in
theorem wd_p20 : Cond.selects "FigureHouse" ⟨"FigureHouse", "planAt", "(I)LFigureHouse$Text;"⟩ ⟨"FigureHouse", "planAt", "(I)LFigureHouse$Text;"⟩ ∈ lw_tbl := List.mem_append_left _ (List.mem_of_getElem? (i := 20) rfl)
set_option maxRecDepth 100000 in
theorem wd_p21 : Cond.selects "FigureHouse$Reader" ⟨"FigureHouse$Reader", "toNextClause", "()V"⟩ ⟨"FigureHouse$Reader", "toNextClause", "()V"⟩ ∈ lw_tbl := List.mem_append_left _ (List.mem_of_getElem? (i := 21) rfl)
set_option maxRecDepth 100000 in
theorem wd_p22 : Cond.selects "FigureHouse$Figures" ⟨"FigureHouse$Figures", "makeBlock", "(LFigureHouse$Page;I)V"⟩ ⟨"FigureHouse$Figures", "makeBlock", "(LFigureHouse$Page;I)V"⟩ ∈ lw_tbl := List.mem_append_left _ (List.mem_of_getElem? (i := 22) rfl)
set_option maxRecDepth 100000 in
theorem wd_p23 : Cond.selects "FigureHouse$Figures" ⟨"FigureHouse$Figures", "makeLine", "(II)V"⟩ ⟨"FigureHouse$Figures", "makeLine", "(II)V"⟩ ∈ lw_tbl := List.mem_append_left _ (List.mem_of_getElem? (i := 23) rfl)
set_option maxRecDepth 100000 in
theorem wd_p24 : Cond.selects "FigureHouse" ⟨"FigureHouse", "pageAt", "(I)LFigureHouse$Page;"⟩ ⟨"FigureHouse", "pageAt", "(I)LFigureHouse$Page;"⟩ ∈ lw_tbl := List.mem_append_left _ (List.mem_of_getElem? (i := 24) rfl)
set_option maxRecDepth 100000 in
theorem wd_p25 : Cond.selects "FigureHouse" ⟨"FigureHouse", "pageWith", "(II)LFigureHouse$Page;"⟩ ⟨"FigureHouse", "pageWith", "(II)LFigureHouse$Page;"⟩ ∈ lw_tbl := List.mem_append_left _ (List.mem_of_getElem? (i := 25) rfl)
set_option maxRecDepth 100000 in
theorem wd_p26 : Cond.selects "FigureHouse" ⟨"FigureHouse", "madeWith", "(III)LFigureHouse$Page;"⟩ ⟨"FigureHouse", "madeWith", "(III)LFigureHouse$Page;"⟩ ∈ lw_tbl := List.mem_append_left _ (List.mem_of_getElem? (i := 26) rfl)
set_option maxRecDepth 100000 in
theorem wd_p27 : Cond.selects "FigureHouse" ⟨"FigureHouse", "madePage", "(II)LFigureHouse$Page;"⟩ ⟨"FigureHouse", "madePage", "(II)LFigureHouse$Page;"⟩ ∈ lw_tbl := List.mem_append_left _ (List.mem_of_getElem? (i := 27) rfl)
set_option maxRecDepth 100000 in
theorem wd_p28 : Cond.selects "FigureHouse" ⟨"FigureHouse", "wasMended", "(III)Z"⟩ ⟨"FigureHouse", "wasMended", "(III)Z"⟩ ∈ lw_tbl := List.mem_append_left _ (List.mem_of_getElem? (i := 28) rfl)
set_option maxRecDepth 100000 in
theorem wd_p29 : Cond.selects "FigureHouse$Figures" ⟨"FigureHouse$Figures", "addsUp", "(LFigureHouse$Page;I)Z"⟩ ⟨"FigureHouse$Figures", "addsUp", "(LFigureHouse$Page;I)Z"⟩ ∈ lw_tbl := List.mem_append_left _ (List.mem_of_getElem? (i := 29) rfl)
set_option maxRecDepth 100000 in
theorem wd_p30 : Cond.selects "FigureHouse" ⟨"FigureHouse", "firstSlipped", "(ILFigureHouse$Page;II)I"⟩ ⟨"FigureHouse", "firstSlipped", "(ILFigureHouse$Page;II)I"⟩ ∈ lw_tbl := List.mem_append_left _ (List.mem_of_getElem? (i := 30) rfl)
set_option maxRecDepth 100000 in
theorem wd_p31 : Cond.selects "FigureHouse" ⟨"FigureHouse", "isExplained", "(III)Z"⟩ ⟨"FigureHouse", "isExplained", "(III)Z"⟩ ∈ lw_tbl := List.mem_append_left _ (List.mem_of_getElem? (i := 31) rfl)
set_option maxRecDepth 100000 in
theorem wd_p32 : Cond.selects "FigureHouse$Search" ⟨"FigureHouse$Search", "seek", "(II)V"⟩ ⟨"FigureHouse$Search", "seek", "(II)V"⟩ ∈ lw_tbl := List.mem_append_left _ (List.mem_of_getElem? (i := 32) rfl)
set_option maxRecDepth 100000 in
theorem wd_p33 : Cond.selects "FigureHouse$Search" ⟨"FigureHouse$Search", "keep", "(I)V"⟩ ⟨"FigureHouse$Search", "keep", "(I)V"⟩ ∈ lw_tbl := List.mem_append_left _ (List.mem_of_getElem? (i := 33) rfl)
set_option maxRecDepth 100000 in
theorem wd_p34 : Cond.selects "FigureHouse$Search" ⟨"FigureHouse$Search", "blame", "(II)V"⟩ ⟨"FigureHouse$Search", "blame", "(II)V"⟩ ∈ lw_tbl := List.mem_append_left _ (List.mem_of_getElem? (i := 34) rfl)
set_option maxRecDepth 100000 in
theorem wd_p35 : Cond.selects "FigureHouse$Search" ⟨"FigureHouse$Search", "addTo", "(IIJ)V"⟩ ⟨"FigureHouse$Search", "addTo", "(IIJ)V"⟩ ∈ lw_tbl := List.mem_append_left _ (List.mem_of_getElem? (i := 35) rfl)
set_option maxRecDepth 100000 in
theorem wd_p36 : Cond.selects "FigureHouse$Page" ⟨"FigureHouse$Page", "pressedAt", "(II)J"⟩ ⟨"FigureHouse$Page", "pressedAt", "(II)J"⟩ ∈ lw_tbl := List.mem_append_left _ (List.mem_of_getElem? (i := 36) rfl)
set_option maxRecDepth 100000 in
theorem wd_p37 : Cond.selects "FigureHouse" ⟨"FigureHouse", "plateWith", "(II)LFigureHouse$Page;"⟩ ⟨"FigureHouse", "plateWith", "(II)LFigureHouse$Page;"⟩ ∈ lw_tbl := List.mem_append_left _ (List.mem_of_getElem? (i := 37) rfl)
set_option maxRecDepth 100000 in
theorem wd_p38 : Cond.selects "FigureHouse" ⟨"FigureHouse", "countsAs", "(ILFigureHouse$Page;IJ)Z"⟩ ⟨"FigureHouse", "countsAs", "(ILFigureHouse$Page;IJ)Z"⟩ ∈ lw_tbl := List.mem_append_left _ (List.mem_of_getElem? (i := 38) rfl)
set_option maxRecDepth 100000 in
theorem wd_p39 : Cond.selects "FigureHouse" ⟨"FigureHouse", "sheetAt", "(I)LFigureHouse$Sheet;"⟩ ⟨"FigureHouse", "sheetAt", "(I)LFigureHouse$Sheet;"⟩ ∈ lw_tbl := List.mem_append_left _ (List.mem_of_getElem? (i := 39) rfl)
set_option maxRecDepth 100000 in
theorem wd_p40 : Cond.selects "FigureHouse$Planner" ⟨"FigureHouse$Planner", "pivotsOf", "(II)I"⟩ ⟨"FigureHouse$Planner", "pivotsOf", "(II)I"⟩ ∈ lw_tbl := List.mem_append_left _ (List.mem_of_getElem? (i := 40) rfl)
set_option maxRecDepth 100000 in
theorem wd_p41 : Cond.selects "FigureHouse$Planner" ⟨"FigureHouse$Planner", "keepsAll", "(III)Z"⟩ ⟨"FigureHouse$Planner", "keepsAll", "(III)Z"⟩ ∈ lw_tbl := List.mem_append_left _ (List.mem_of_getElem? (i := 41) rfl)
set_option maxRecDepth 100000 in
theorem wd_p42 : Cond.selects "FigureHouse$Planner" ⟨"FigureHouse$Planner", "reachOf", "(III)I"⟩ ⟨"FigureHouse$Planner", "reachOf", "(III)I"⟩ ∈ lw_tbl := List.mem_append_left _ (List.mem_of_getElem? (i := 42) rfl)
set_option maxRecDepth 100000 in
theorem wd_p43 : Cond.selects "FigureHouse$Planner" ⟨"FigureHouse$Planner", "nextMade", "(I)J"⟩ ⟨"FigureHouse$Planner", "nextMade", "(I)J"⟩ ∈ lw_tbl := List.mem_append_left _ (List.mem_of_getElem? (i := 43) rfl)
set_option maxRecDepth 100000 in
theorem wd_p44 : Cond.selects "FigureHouse$Planner" ⟨"FigureHouse$Planner", "takePivot", "(IJ)V"⟩ ⟨"FigureHouse$Planner", "takePivot", "(IJ)V"⟩ ∈ lw_tbl := List.mem_append_left _ (List.mem_of_getElem? (i := 44) rfl)
set_option maxRecDepth 100000 in
theorem wd_p45 : Cond.selects "FigureHouse" ⟨"FigureHouse", "slipsMended", "()I"⟩ ⟨"FigureHouse", "slipsMended", "()I"⟩ ∈ lw_tbl := List.mem_append_left _ (List.mem_of_getElem? (i := 45) rfl)
set_option maxRecDepth 100000 in
theorem wd_p46 : Cond.selects "FigureHouse" ⟨"FigureHouse", "pagesSet", "()I"⟩ ⟨"FigureHouse", "pagesSet", "()I"⟩ ∈ lw_tbl := List.mem_append_left _ (List.mem_of_getElem? (i := 46) rfl)
set_option maxRecDepth 100000 in
theorem wd_p47 : Cond.selects "java/lang/Throwable" ⟨"java/lang/Throwable", "fillInStackTrace", "(I)Ljava/lang/Throwable;"⟩ ⟨"java/lang/Throwable", "fillInStackTrace", "(I)Ljava/lang/Throwable;"⟩ ∈ lw_tbl := List.mem_append_left _ (List.mem_of_getElem? (i := 47) rfl)
set_option maxRecDepth 100000 in
theorem wd_p48 : Cond.selects "FigureHouseModel" ⟨"FigureHouseModel", "isFunction", "(III)Z"⟩ ⟨"FigureHouseModel", "isFunction", "(III)Z"⟩ ∈ lw_tbl := List.mem_append_left _ (List.mem_of_getElem? (i := 48) rfl)
set_option maxRecDepth 100000 in
theorem wd_p49 : Cond.selects "FigureHouseModel" ⟨"FigureHouseModel", "exactOf", "(III)J"⟩ ⟨"FigureHouseModel", "exactOf", "(III)J"⟩ ∈ lw_tbl := List.mem_append_left _ (List.mem_of_getElem? (i := 49) rfl)
set_option maxRecDepth 100000 in
theorem wd_p50 : Cond.selects "FigureHouseModel" ⟨"FigureHouseModel", "under", "(III)J"⟩ ⟨"FigureHouseModel", "under", "(III)J"⟩ ∈ lw_tbl := List.mem_append_left _ (List.mem_of_getElem? (i := 50) rfl)
set_option maxRecDepth 100000 in
theorem wd_p51 : Cond.selects "FigureHouseModel" ⟨"FigureHouseModel", "above", "(III)J"⟩ ⟨"FigureHouseModel", "above", "(III)J"⟩ ∈ lw_tbl := List.mem_append_left _ (List.mem_of_getElem? (i := 51) rfl)
set_option maxRecDepth 100000 in
theorem wd_p52 : Cond.selects "FigureHouseModel" ⟨"FigureHouseModel", "below", "(II)J"⟩ ⟨"FigureHouseModel", "below", "(II)J"⟩ ∈ lw_tbl := List.mem_append_left _ (List.mem_of_getElem? (i := 52) rfl)
set_option maxRecDepth 100000 in
theorem wd_p53 : Cond.selects "FigureHouseModel" ⟨"FigureHouseModel", "nearestOf", "(IIII)J"⟩ ⟨"FigureHouseModel", "nearestOf", "(IIII)J"⟩ ∈ lw_tbl := List.mem_append_left _ (List.mem_of_getElem? (i := 53) rfl)
set_option maxRecDepth 100000 in
theorem wd_p54 : Cond.selects "FigureHouseModel" ⟨"FigureHouseModel", "clause", "()V"⟩ ⟨"FigureHouseModel", "clause", "()V"⟩ ∈ lw_tbl := List.mem_append_left _ (List.mem_of_getElem? (i := 54) rfl)
set_option maxRecDepth 100000 in
theorem wd_p55 : Cond.selects "FigureHouseModel" ⟨"FigureHouseModel", "look", "()I"⟩ ⟨"FigureHouseModel", "look", "()I"⟩ ∈ lw_tbl := List.mem_append_left _ (List.mem_of_getElem? (i := 55) rfl)
set_option maxRecDepth 100000 in
theorem wd_p56 : Cond.selects "FigureHouseModel" ⟨"FigureHouseModel", "bad", "()V"⟩ ⟨"FigureHouseModel", "bad", "()V"⟩ ∈ lw_tbl := List.mem_append_left _ (List.mem_of_getElem? (i := 56) rfl)
set_option maxRecDepth 100000 in
theorem wd_p57 : Cond.selects "FigureHouseModel" ⟨"FigureHouseModel", "say", "(I)V"⟩ ⟨"FigureHouseModel", "say", "(I)V"⟩ ∈ lw_tbl := List.mem_append_left _ (List.mem_of_getElem? (i := 57) rfl)
set_option maxRecDepth 100000 in
theorem wd_p58 : Cond.selects "FigureHouseModel" ⟨"FigureHouseModel", "sum", "()V"⟩ ⟨"FigureHouseModel", "sum", "()V"⟩ ∈ lw_tbl := List.mem_append_left _ (List.mem_of_getElem? (i := 58) rfl)
set_option maxRecDepth 100000 in
theorem wd_p59 : Cond.selects "FigureHouseModel" ⟨"FigureHouseModel", "term", "()V"⟩ ⟨"FigureHouseModel", "term", "()V"⟩ ∈ lw_tbl := List.mem_append_left _ (List.mem_of_getElem? (i := 59) rfl)
set_option maxRecDepth 100000 in
theorem wd_p60 : Cond.selects "FigureHouseModel" ⟨"FigureHouseModel", "atom", "()V"⟩ ⟨"FigureHouseModel", "atom", "()V"⟩ ∈ lw_tbl := List.mem_append_left _ (List.mem_of_getElem? (i := 60) rfl)
set_option maxRecDepth 100000 in
theorem wd_p61 : Cond.selects "FigureHouseModel" ⟨"FigureHouseModel", "opens", "()Z"⟩ ⟨"FigureHouseModel", "opens", "()Z"⟩ ∈ lw_tbl := List.mem_append_left _ (List.mem_of_getElem? (i := 61) rfl)
set_option maxRecDepth 100000 in
theorem wd_p62 : Cond.selects "FigureHouseModel" ⟨"FigureHouseModel", "closes", "(I)V"⟩ ⟨"FigureHouseModel", "closes", "(I)V"⟩ ∈ lw_tbl := List.mem_append_left _ (List.mem_of_getElem? (i := 62) rfl)
set_option maxRecDepth 100000 in
theorem wd_p63 : Cond.selects "FigureHouseModel" ⟨"FigureHouseModel", "number", "()V"⟩ ⟨"FigureHouseModel", "number", "()V"⟩ ∈ lw_tbl := List.mem_append_left _ (List.mem_of_getElem? (i := 63) rfl)
set_option maxRecDepth 100000 in
theorem wd_p64 : Cond.selects "FigureHouseModel" ⟨"FigureHouseModel", "condition", "(Z)V"⟩ ⟨"FigureHouseModel", "condition", "(Z)V"⟩ ∈ lw_tbl := List.mem_append_left _ (List.mem_of_getElem? (i := 64) rfl)
set_option maxRecDepth 100000 in
theorem wd_p65 : Cond.selects "FigureHouseModel" ⟨"FigureHouseModel", "part", "(Z)V"⟩ ⟨"FigureHouseModel", "part", "(Z)V"⟩ ∈ lw_tbl := List.mem_append_left _ (List.mem_of_getElem? (i := 65) rfl)
set_option maxRecDepth 100000 in
theorem wd_p66 : Cond.selects "FigureHouseModel" ⟨"FigureHouseModel", "compare", "()V"⟩ ⟨"FigureHouseModel", "compare", "()V"⟩ ∈ lw_tbl := List.mem_append_left _ (List.mem_of_getElem? (i := 66) rfl)
set_option maxRecDepth 100000 in
theorem wd_p67 : Cond.selects "FigureHouseModel" ⟨"FigureHouseModel", "unit", "()V"⟩ ⟨"FigureHouseModel", "unit", "()V"⟩ ∈ lw_tbl := List.mem_append_left _ (List.mem_of_getElem? (i := 67) rfl)
set_option maxRecDepth 100000 in
theorem wd_p68 : Cond.selects "FigureHouseModel" ⟨"FigureHouseModel", "worthOf", "(IIIII)I"⟩ ⟨"FigureHouseModel", "worthOf", "(IIIII)I"⟩ ∈ lw_tbl := List.mem_append_left _ (List.mem_of_getElem? (i := 68) rfl)
set_option maxRecDepth 100000 in
theorem wd_p69 : Cond.selects "FigureHouseModel" ⟨"FigureHouseModel", "work", "()I"⟩ ⟨"FigureHouseModel", "work", "()I"⟩ ∈ lw_tbl := List.mem_append_left _ (List.mem_of_getElem? (i := 69) rfl)
set_option maxRecDepth 100000 in
theorem wd_p70 : Cond.selects "FigureHouseModel" ⟨"FigureHouseModel", "label", "(II)I"⟩ ⟨"FigureHouseModel", "label", "(II)I"⟩ ∈ lw_tbl := List.mem_append_left _ (List.mem_of_getElem? (i := 70) rfl)
set_option maxRecDepth 100000 in
theorem wd_p71 : Cond.selects "FigureHouseModel" ⟨"FigureHouseModel", "isPage", "(I)Z"⟩ ⟨"FigureHouseModel", "isPage", "(I)Z"⟩ ∈ lw_tbl := List.mem_append_left _ (List.mem_of_getElem? (i := 71) rfl)
set_option maxRecDepth 100000 in
theorem wd_p72 : Cond.selects "FigureHouseModel" ⟨"FigureHouseModel", "blocks", "(I)I"⟩ ⟨"FigureHouseModel", "blocks", "(I)I"⟩ ∈ lw_tbl := List.mem_append_left _ (List.mem_of_getElem? (i := 72) rfl)
set_option maxRecDepth 100000 in
theorem wd_p73 : Cond.selects "FigureHouseModel" ⟨"FigureHouseModel", "pivots", "(I)I"⟩ ⟨"FigureHouseModel", "pivots", "(I)I"⟩ ∈ lw_tbl := List.mem_append_left _ (List.mem_of_getElem? (i := 73) rfl)
set_option maxRecDepth 100000 in
theorem wd_p74 : Cond.selects "FigureHouseModel" ⟨"FigureHouseModel", "isMade", "(II)Z"⟩ ⟨"FigureHouseModel", "isMade", "(II)Z"⟩ ∈ lw_tbl := List.mem_append_left _ (List.mem_of_getElem? (i := 74) rfl)
set_option maxRecDepth 100000 in
theorem wd_p75 : Cond.selects "FigureHouseModel" ⟨"FigureHouseModel", "placeOf", "(II)I"⟩ ⟨"FigureHouseModel", "placeOf", "(II)I"⟩ ∈ lw_tbl := List.mem_append_left _ (List.mem_of_getElem? (i := 75) rfl)
set_option maxRecDepth 100000 in
theorem wd_p76 : Cond.selects "FigureHouseModel" ⟨"FigureHouseModel", "isLine", "(II)Z"⟩ ⟨"FigureHouseModel", "isLine", "(II)Z"⟩ ∈ lw_tbl := List.mem_append_left _ (List.mem_of_getElem? (i := 76) rfl)
set_option maxRecDepth 100000 in
theorem wd_p77 : Cond.selects "FigureHouseModel" ⟨"FigureHouseModel", "xOf", "(II)I"⟩ ⟨"FigureHouseModel", "xOf", "(II)I"⟩ ∈ lw_tbl := List.mem_append_left _ (List.mem_of_getElem? (i := 77) rfl)
set_option maxRecDepth 100000 in
theorem wd_p78 : Cond.selects "FigureHouseModel" ⟨"FigureHouseModel", "isColumn", "(II)Z"⟩ ⟨"FigureHouseModel", "isColumn", "(II)Z"⟩ ∈ lw_tbl := List.mem_append_left _ (List.mem_of_getElem? (i := 78) rfl)
set_option maxRecDepth 100000 in
theorem wd_p79 : Cond.selects "FigureHouseModel" ⟨"FigureHouseModel", "trueNumber", "(II)J"⟩ ⟨"FigureHouseModel", "trueNumber", "(II)J"⟩ ∈ lw_tbl := List.mem_append_left _ (List.mem_of_getElem? (i := 79) rfl)
set_option maxRecDepth 100000 in
theorem wd_p80 : Cond.selects "FigureHouseModel" ⟨"FigureHouseModel", "makeTrue", "(I)V"⟩ ⟨"FigureHouseModel", "makeTrue", "(I)V"⟩ ∈ lw_tbl := List.mem_append_left _ (List.mem_of_getElem? (i := 80) rfl)
set_option maxRecDepth 100000 in
theorem wd_p81 : Cond.selects "FigureHouseModel" ⟨"FigureHouseModel", "clear", "()V"⟩ ⟨"FigureHouseModel", "clear", "()V"⟩ ∈ lw_tbl := List.mem_append_left _ (List.mem_of_getElem? (i := 81) rfl)
set_option maxRecDepth 100000 in
theorem wd_p82 : Cond.selects "FigureHouseModel" ⟨"FigureHouseModel", "makePage", "(I)V"⟩ ⟨"FigureHouseModel", "makePage", "(I)V"⟩ ∈ lw_tbl := List.mem_append_left _ (List.mem_of_getElem? (i := 82) rfl)
set_option maxRecDepth 100000 in
theorem wd_p83 : Cond.selects "FigureHouseModel" ⟨"FigureHouseModel", "make", "(IIIIIII)V"⟩ ⟨"FigureHouseModel", "make", "(IIIIIII)V"⟩ ∈ lw_tbl := List.mem_append_left _ (List.mem_of_getElem? (i := 83) rfl)
set_option maxRecDepth 100000 in
theorem wd_p84 : Cond.selects "FigureHouseModel" ⟨"FigureHouseModel", "isKnowing", "(I)Z"⟩ ⟨"FigureHouseModel", "isKnowing", "(I)Z"⟩ ∈ lw_tbl := List.mem_append_left _ (List.mem_of_getElem? (i := 84) rfl)
set_option maxRecDepth 100000 in
theorem wd_p85 : Cond.selects "FigureHouseModel" ⟨"FigureHouseModel", "makeAs", "(II)V"⟩ ⟨"FigureHouseModel", "makeAs", "(II)V"⟩ ∈ lw_tbl := List.mem_append_left _ (List.mem_of_getElem? (i := 85) rfl)
set_option maxRecDepth 100000 in
theorem wd_p86 : Cond.selects "FigureHouseModel" ⟨"FigureHouseModel", "counts", "(II)Z"⟩ ⟨"FigureHouseModel", "counts", "(II)Z"⟩ ∈ lw_tbl := List.mem_append_left _ (List.mem_of_getElem? (i := 86) rfl)
set_option maxRecDepth 100000 in
theorem wd_p87 : Cond.selects "FigureHouseModel" ⟨"FigureHouseModel", "keptOf", "(IJ)J"⟩ ⟨"FigureHouseModel", "keptOf", "(IJ)J"⟩ ∈ lw_tbl := List.mem_append_left _ (List.mem_of_getElem? (i := 87) rfl)
set_option maxRecDepth 100000 in
theorem wd_p88 : Cond.selects "FigureHouseModel" ⟨"FigureHouseModel", "rightOf", "(II)J"⟩ ⟨"FigureHouseModel", "rightOf", "(II)J"⟩ ∈ lw_tbl := List.mem_append_left _ (List.mem_of_getElem? (i := 88) rfl)
set_option maxRecDepth 100000 in
theorem wd_p89 : Cond.selects "FigureHouseModel" ⟨"FigureHouseModel", "nearestAt", "(II)J"⟩ ⟨"FigureHouseModel", "nearestAt", "(II)J"⟩ ∈ lw_tbl := List.mem_append_left _ (List.mem_of_getElem? (i := 89) rfl)
set_option maxRecDepth 100000 in
theorem wd_p90 : Cond.selects "FigureHouseModel" ⟨"FigureHouseModel", "boundOf", "(II)J"⟩ ⟨"FigureHouseModel", "boundOf", "(II)J"⟩ ∈ lw_tbl := List.mem_append_left _ (List.mem_of_getElem? (i := 90) rfl)
set_option maxRecDepth 100000 in
theorem wd_p91 : Cond.selects "FigureHouseModel" ⟨"FigureHouseModel", "holds", "(II)Z"⟩ ⟨"FigureHouseModel", "holds", "(II)Z"⟩ ∈ lw_tbl := List.mem_append_left _ (List.mem_of_getElem? (i := 91) rfl)
set_option maxRecDepth 100000 in
theorem wd_p92 : Cond.selects "FigureHouseModel" ⟨"FigureHouseModel", "difference", "(II)J"⟩ ⟨"FigureHouseModel", "difference", "(II)J"⟩ ∈ lw_tbl := List.mem_append_left _ (List.mem_of_getElem? (i := 92) rfl)
set_option maxRecDepth 100000 in
theorem wd_p93 : Cond.selects "FigureHouseModel" ⟨"FigureHouseModel", "failing", "(I)I"⟩ ⟨"FigureHouseModel", "failing", "(I)I"⟩ ∈ lw_tbl := List.mem_append_left _ (List.mem_of_getElem? (i := 93) rfl)
set_option maxRecDepth 100000 in
theorem wd_p94 : Cond.selects "FigureHouseModel" ⟨"FigureHouseModel", "keepTruth", "(I)V"⟩ ⟨"FigureHouseModel", "keepTruth", "(I)V"⟩ ∈ lw_tbl := List.mem_append_left _ (List.mem_of_getElem? (i := 94) rfl)
set_option maxRecDepth 100000 in
theorem wd_p95 : Cond.selects "FigureHouseModel" ⟨"FigureHouseModel", "findLeast", "(III)Z"⟩ ⟨"FigureHouseModel", "findLeast", "(III)Z"⟩ ∈ lw_tbl := List.mem_append_left _ (List.mem_of_getElem? (i := 95) rfl)
set_option maxRecDepth 100000 in
theorem wd_p96 : Cond.selects "FigureHouseModel" ⟨"FigureHouseModel", "seek", "(II)V"⟩ ⟨"FigureHouseModel", "seek", "(II)V"⟩ ∈ lw_tbl := List.mem_append_left _ (List.mem_of_getElem? (i := 96) rfl)
set_option maxRecDepth 100000 in
theorem wd_p97 : Cond.selects "FigureHouseModel" ⟨"FigureHouseModel", "mark", "(IIJ)V"⟩ ⟨"FigureHouseModel", "mark", "(IIJ)V"⟩ ∈ lw_tbl := List.mem_append_left _ (List.mem_of_getElem? (i := 97) rfl)
set_option maxRecDepth 100000 in
theorem wd_p98 : Cond.selects "FigureHouseModel" ⟨"FigureHouseModel", "isPlate", "(I)Z"⟩ ⟨"FigureHouseModel", "isPlate", "(I)Z"⟩ ∈ lw_tbl := List.mem_append_left _ (List.mem_of_getElem? (i := 98) rfl)
set_option maxRecDepth 100000 in
theorem wd_p99 : Cond.selects "FigureHouseModel" ⟨"FigureHouseModel", "printedAt", "(II)J"⟩ ⟨"FigureHouseModel", "printedAt", "(II)J"⟩ ∈ lw_tbl := List.mem_append_left _ (List.mem_of_getElem? (i := 99) rfl)
set_option maxRecDepth 100000 in
theorem wd_p100 : Cond.selects "FigureHouseModel" ⟨"FigureHouseModel", "isCopy", "(I)Z"⟩ ⟨"FigureHouseModel", "isCopy", "(I)Z"⟩ ∈ lw_tbl := List.mem_append_left _ (List.mem_of_getElem? (i := 100) rfl)
set_option maxRecDepth 100000 in
theorem wd_p101 : Cond.selects "FigureHouseModel" ⟨"FigureHouseModel", "isSheet", "(I)Z"⟩ ⟨"FigureHouseModel", "isSheet", "(I)Z"⟩ ∈ lw_tbl := List.mem_append_left _ (List.mem_of_getElem? (i := 101) rfl)
set_option maxRecDepth 100000 in
theorem wd_p102 : Cond.selects "FigureHouseModel" ⟨"FigureHouseModel", "isRight", "(IIIIIIIII)Z"⟩ ⟨"FigureHouseModel", "isRight", "(IIIIIIIII)Z"⟩ ∈ lw_tbl := List.mem_append_left _ (List.mem_of_getElem? (i := 102) rfl)
