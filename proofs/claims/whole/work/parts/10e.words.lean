set_option maxRecDepth 100000 in
theorem wx_313 : (Jvm.Cond.laysStatic "java/util/ArrayList" "DEFAULTCAPACITY_EMPTY_ELEMENTDATA" "[Ljava/lang/Object;") ∈ lw_tbl := tb_1 (List.mem_of_getElem? (i := 213) rfl)
set_option maxRecDepth 100000 in
theorem wx_459 : (Jvm.Cond.sameMethod "java/lang/Object" "java/lang/Object" "getClass" "()Ljava/lang/Class;") ∈ lw_tbl := tb_2 (List.mem_of_getElem? (i := 119) rfl)
set_option maxRecDepth 100000 in
theorem wx_460 : (Jvm.Cond.selects "FigureHouse" ({ cls := "java/lang/Object", name := "getClass", desc := "()Ljava/lang/Class;" } : Jvm.MethodName) ({ cls := "java/lang/Object", name := "getClass", desc := "()Ljava/lang/Class;" } : Jvm.MethodName)) ∈ lw_tbl := tb_2 (List.mem_of_getElem? (i := 120) rfl)
set_option maxRecDepth 100000 in
theorem wx_461 : (Jvm.Cond.selects "FigureHouse$Curve" ({ cls := "java/lang/Object", name := "getClass", desc := "()Ljava/lang/Class;" } : Jvm.MethodName) ({ cls := "java/lang/Object", name := "getClass", desc := "()Ljava/lang/Class;" } : Jvm.MethodName)) ∈ lw_tbl := tb_2 (List.mem_of_getElem? (i := 121) rfl)
set_option maxRecDepth 100000 in
theorem wx_462 : (Jvm.Cond.selects "FigureHouse$Erratum" ({ cls := "java/lang/Object", name := "getClass", desc := "()Ljava/lang/Class;" } : Jvm.MethodName) ({ cls := "java/lang/Object", name := "getClass", desc := "()Ljava/lang/Class;" } : Jvm.MethodName)) ∈ lw_tbl := tb_2 (List.mem_of_getElem? (i := 122) rfl)
set_option maxRecDepth 100000 in
theorem wx_463 : (Jvm.Cond.selects "FigureHouse$Figures" ({ cls := "java/lang/Object", name := "getClass", desc := "()Ljava/lang/Class;" } : Jvm.MethodName) ({ cls := "java/lang/Object", name := "getClass", desc := "()Ljava/lang/Class;" } : Jvm.MethodName)) ∈ lw_tbl := tb_2 (List.mem_of_getElem? (i := 123) rfl)
set_option maxRecDepth 100000 in
theorem wx_464 : (Jvm.Cond.selects "FigureHouse$Page" ({ cls := "java/lang/Object", name := "getClass", desc := "()Ljava/lang/Class;" } : Jvm.MethodName) ({ cls := "java/lang/Object", name := "getClass", desc := "()Ljava/lang/Class;" } : Jvm.MethodName)) ∈ lw_tbl := tb_2 (List.mem_of_getElem? (i := 124) rfl)
set_option maxRecDepth 100000 in
theorem wx_465 : (Jvm.Cond.selects "FigureHouse$Planner" ({ cls := "java/lang/Object", name := "getClass", desc := "()Ljava/lang/Class;" } : Jvm.MethodName) ({ cls := "java/lang/Object", name := "getClass", desc := "()Ljava/lang/Class;" } : Jvm.MethodName)) ∈ lw_tbl := tb_2 (List.mem_of_getElem? (i := 125) rfl)
set_option maxRecDepth 100000 in
theorem wx_466 : (Jvm.Cond.selects "FigureHouse$Reader" ({ cls := "java/lang/Object", name := "getClass", desc := "()Ljava/lang/Class;" } : Jvm.MethodName) ({ cls := "java/lang/Object", name := "getClass", desc := "()Ljava/lang/Class;" } : Jvm.MethodName)) ∈ lw_tbl := tb_2 (List.mem_of_getElem? (i := 126) rfl)
set_option maxRecDepth 100000 in
theorem wx_467 : (Jvm.Cond.selects "FigureHouse$Search" ({ cls := "java/lang/Object", name := "getClass", desc := "()Ljava/lang/Class;" } : Jvm.MethodName) ({ cls := "java/lang/Object", name := "getClass", desc := "()Ljava/lang/Class;" } : Jvm.MethodName)) ∈ lw_tbl := tb_2 (List.mem_of_getElem? (i := 127) rfl)
set_option maxRecDepth 100000 in
theorem wx_468 : (Jvm.Cond.selects "FigureHouse$Sheet" ({ cls := "java/lang/Object", name := "getClass", desc := "()Ljava/lang/Class;" } : Jvm.MethodName) ({ cls := "java/lang/Object", name := "getClass", desc := "()Ljava/lang/Class;" } : Jvm.MethodName)) ∈ lw_tbl := tb_2 (List.mem_of_getElem? (i := 128) rfl)
set_option maxRecDepth 100000 in
theorem wx_469 : (Jvm.Cond.selects "FigureHouse$Slip" ({ cls := "java/lang/Object", name := "getClass", desc := "()Ljava/lang/Class;" } : Jvm.MethodName) ({ cls := "java/lang/Object", name := "getClass", desc := "()Ljava/lang/Class;" } : Jvm.MethodName)) ∈ lw_tbl := tb_2 (List.mem_of_getElem? (i := 129) rfl)
set_option maxRecDepth 100000 in
theorem wx_470 : (Jvm.Cond.selects "FigureHouse$Table" ({ cls := "java/lang/Object", name := "getClass", desc := "()Ljava/lang/Class;" } : Jvm.MethodName) ({ cls := "java/lang/Object", name := "getClass", desc := "()Ljava/lang/Class;" } : Jvm.MethodName)) ∈ lw_tbl := tb_2 (List.mem_of_getElem? (i := 130) rfl)
set_option maxRecDepth 100000 in
theorem wx_471 : (Jvm.Cond.selects "FigureHouse$Text" ({ cls := "java/lang/Object", name := "getClass", desc := "()Ljava/lang/Class;" } : Jvm.MethodName) ({ cls := "java/lang/Object", name := "getClass", desc := "()Ljava/lang/Class;" } : Jvm.MethodName)) ∈ lw_tbl := tb_2 (List.mem_of_getElem? (i := 131) rfl)
set_option maxRecDepth 100000 in
theorem wx_472 : (Jvm.Cond.selects "FigureHouseModel" ({ cls := "java/lang/Object", name := "getClass", desc := "()Ljava/lang/Class;" } : Jvm.MethodName) ({ cls := "java/lang/Object", name := "getClass", desc := "()Ljava/lang/Class;" } : Jvm.MethodName)) ∈ lw_tbl := tb_2 (List.mem_of_getElem? (i := 132) rfl)
set_option maxRecDepth 100000 in
theorem wx_473 : (Jvm.Cond.selects "java/util/ArrayList" ({ cls := "java/lang/Object", name := "getClass", desc := "()Ljava/lang/Class;" } : Jvm.MethodName) ({ cls := "java/lang/Object", name := "getClass", desc := "()Ljava/lang/Class;" } : Jvm.MethodName)) ∈ lw_tbl := tb_2 (List.mem_of_getElem? (i := 133) rfl)
set_option maxRecDepth 100000 in
theorem wx_474 : (Jvm.Cond.selects "java/util/NoSuchElementException" ({ cls := "java/lang/Object", name := "getClass", desc := "()Ljava/lang/Class;" } : Jvm.MethodName) ({ cls := "java/lang/Object", name := "getClass", desc := "()Ljava/lang/Class;" } : Jvm.MethodName)) ∈ lw_tbl := tb_2 (List.mem_of_getElem? (i := 134) rfl)
set_option maxRecDepth 100000 in
theorem wx_475 : (Jvm.Cond.native ({ cls := "java/lang/Object", name := "getClass", desc := "()Ljava/lang/Class;" } : Jvm.MethodName)) ∈ lw_tbl := tb_2 (List.mem_of_getElem? (i := 135) rfl)
set_option maxRecDepth 100000 in
theorem wx_480 : (Jvm.Cond.arrayOver (Jvm.ClassFile.FieldType.object "java/lang/Object")) ∈ lw_tbl := tb_2 (List.mem_of_getElem? (i := 140) rfl)
set_option maxRecDepth 100000 in
theorem wx_487 : (Jvm.Cond.native ({ cls := "java/lang/System", name := "arraycopy", desc := "(Ljava/lang/Object;ILjava/lang/Object;II)V" } : Jvm.MethodName)) ∈ lw_tbl := tb_2 (List.mem_of_getElem? (i := 147) rfl)
set_option maxRecDepth 100000 in
theorem wx_522 : (Jvm.Cond.laysStatic "FigureHouse" "TENS" "[J") ∈ lw_tbl := tb_2 (List.mem_of_getElem? (i := 182) rfl)
set_option maxRecDepth 100000 in
theorem wx_1326 : (Jvm.Cond.castable "java/util/NoSuchElementException" "java/util/NoSuchElementException") ∈ lw_tbl := tb_6 (List.mem_of_getElem? (i := 26) rfl)
set_option maxRecDepth 100000 in
theorem wx_1327 : (Jvm.Cond.declares ({ cls := "java/lang/RuntimeException", name := "<init>", desc := "()V" } : Jvm.MethodName)) ∈ lw_tbl := tb_6 (List.mem_of_getElem? (i := 27) rfl)
set_option maxRecDepth 100000 in
theorem wx_1328 : (Jvm.Cond.declares ({ cls := "java/lang/RuntimeException", name := "<init>", desc := "(Ljava/lang/String;)V" } : Jvm.MethodName)) ∈ lw_tbl := tb_6 (List.mem_of_getElem? (i := 28) rfl)
set_option maxRecDepth 100000 in
theorem wx_1329 : (Jvm.Cond.declares ({ cls := "java/lang/Exception", name := "<init>", desc := "()V" } : Jvm.MethodName)) ∈ lw_tbl := tb_6 (List.mem_of_getElem? (i := 29) rfl)
set_option maxRecDepth 100000 in
theorem wx_1330 : (Jvm.Cond.declares ({ cls := "java/lang/Exception", name := "<init>", desc := "(Ljava/lang/String;)V" } : Jvm.MethodName)) ∈ lw_tbl := tb_6 (List.mem_of_getElem? (i := 30) rfl)
set_option maxRecDepth 100000 in
theorem wx_1331 : (Jvm.Cond.declares ({ cls := "java/lang/Throwable", name := "<init>", desc := "()V" } : Jvm.MethodName)) ∈ lw_tbl := tb_6 (List.mem_of_getElem? (i := 31) rfl)
set_option maxRecDepth 100000 in
theorem wx_1332 : (Jvm.Cond.declares ({ cls := "java/lang/Throwable", name := "<init>", desc := "(Ljava/lang/String;)V" } : Jvm.MethodName)) ∈ lw_tbl := tb_6 (List.mem_of_getElem? (i := 32) rfl)
set_option maxRecDepth 100000 in
theorem wx_1351 : (Jvm.Cond.laysStatic "java/lang/Throwable" "UNASSIGNED_STACK" "[Ljava/lang/StackTraceElement;") ∈ lw_tbl := tb_6 (List.mem_of_getElem? (i := 51) rfl)
set_option maxRecDepth 100000 in
theorem wx_1353 : (Jvm.Cond.laysStatic "java/lang/Throwable" "SUPPRESSED_SENTINEL" "Ljava/util/List;") ∈ lw_tbl := tb_6 (List.mem_of_getElem? (i := 53) rfl)
set_option maxRecDepth 100000 in
theorem wx_1362 : (Jvm.Cond.native ({ cls := "java/lang/Throwable", name := "fillInStackTrace", desc := "(I)Ljava/lang/Throwable;" } : Jvm.MethodName)) ∈ lw_tbl := tb_6 (List.mem_of_getElem? (i := 62) rfl)
set_option maxRecDepth 100000 in
theorem wx_2237 : (Jvm.Cond.castable "FigureHouse" "java/lang/Object") ∈ lw_tbl := tb_9 (List.mem_of_getElem? (i := 217) rfl)
set_option maxRecDepth 100000 in
theorem wx_2238 : (Jvm.Cond.castable "FigureHouse$Text" "java/lang/Object") ∈ lw_tbl := tb_9 (List.mem_of_getElem? (i := 218) rfl)
set_option maxRecDepth 100000 in
theorem wx_2239 : (Jvm.Cond.castable "FigureHouse$Reader" "java/lang/Object") ∈ lw_tbl := tb_9 (List.mem_of_getElem? (i := 219) rfl)
set_option maxRecDepth 100000 in
theorem wx_2240 : (Jvm.Cond.castable "FigureHouse$Figures" "java/lang/Object") ∈ lw_tbl := tb_9 (List.mem_of_getElem? (i := 220) rfl)
set_option maxRecDepth 100000 in
theorem wx_2241 : (Jvm.Cond.castable "FigureHouse$Search" "java/lang/Object") ∈ lw_tbl := tb_9 (List.mem_of_getElem? (i := 221) rfl)
set_option maxRecDepth 100000 in
theorem wx_2242 : (Jvm.Cond.castable "FigureHouse$Planner" "java/lang/Object") ∈ lw_tbl := tb_9 (List.mem_of_getElem? (i := 222) rfl)
set_option maxRecDepth 100000 in
theorem wx_2243 : (Jvm.Cond.castable "java/util/ArrayList" "java/lang/Object") ∈ lw_tbl := tb_9 (List.mem_of_getElem? (i := 223) rfl)
set_option maxRecDepth 100000 in
theorem wx_2244 : (Jvm.Cond.castable "FigureHouseModel" "java/lang/Object") ∈ lw_tbl := tb_9 (List.mem_of_getElem? (i := 224) rfl)
set_option maxRecDepth 100000 in
theorem wx_2245 : (Jvm.Cond.castable "FigureHouse$Curve" "java/lang/Object") ∈ lw_tbl := tb_9 (List.mem_of_getElem? (i := 225) rfl)
set_option maxRecDepth 100000 in
theorem wx_2246 : (Jvm.Cond.castable "java/util/NoSuchElementException" "java/lang/Object") ∈ lw_tbl := tb_9 (List.mem_of_getElem? (i := 226) rfl)
set_option maxRecDepth 100000 in
theorem wx_2247 : (Jvm.Cond.castable "FigureHouse$Page" "java/lang/Object") ∈ lw_tbl := tb_9 (List.mem_of_getElem? (i := 227) rfl)
set_option maxRecDepth 100000 in
theorem wx_2248 : (Jvm.Cond.castable "FigureHouse$Slip" "java/lang/Object") ∈ lw_tbl := tb_9 (List.mem_of_getElem? (i := 228) rfl)
set_option maxRecDepth 100000 in
theorem wx_2249 : (Jvm.Cond.castable "FigureHouse$Table" "java/lang/Object") ∈ lw_tbl := tb_9 (List.mem_of_getElem? (i := 229) rfl)
set_option maxRecDepth 100000 in
theorem wx_2250 : (Jvm.Cond.castable "FigureHouse$Erratum" "java/lang/Object") ∈ lw_tbl := tb_9 (List.mem_of_getElem? (i := 230) rfl)
set_option maxRecDepth 100000 in
theorem wx_2251 : (Jvm.Cond.castable "FigureHouse$Sheet" "java/lang/Object") ∈ lw_tbl := tb_9 (List.mem_of_getElem? (i := 231) rfl)
set_option maxRecDepth 100000 in
theorem wx_2252 : (Jvm.Cond.castable "java/lang/Throwable" "java/lang/Object") ∈ lw_tbl := tb_9 (List.mem_of_getElem? (i := 232) rfl)
set_option maxRecDepth 100000 in
theorem wx_2253 : (Jvm.Cond.sameMethod "[Ljava/lang/Object;" "java/lang/Object" "getClass" "()Ljava/lang/Class;") ∈ lw_tbl := tb_9 (List.mem_of_getElem? (i := 233) rfl)
set_option maxRecDepth 100000 in
theorem wx_2254 : (Jvm.Cond.selects "[Ljava/lang/Object;" ({ cls := "java/lang/Object", name := "getClass", desc := "()Ljava/lang/Class;" } : Jvm.MethodName) ({ cls := "java/lang/Object", name := "getClass", desc := "()Ljava/lang/Class;" } : Jvm.MethodName)) ∈ lw_tbl := tb_9 (List.mem_of_getElem? (i := 234) rfl)
set_option maxRecDepth 100000 in
theorem wx_2255 : (Jvm.Cond.declares ({ cls := "java/lang/Object", name := "getClass", desc := "()Ljava/lang/Class;" } : Jvm.MethodName)) ∈ lw_tbl := tb_9 (List.mem_of_getElem? (i := 235) rfl)
set_option maxRecDepth 100000 in
theorem wx_2256 : (Jvm.Cond.castable "[I" "java/lang/Object") ∈ lw_tbl := tb_9 (List.mem_of_getElem? (i := 236) rfl)
set_option maxRecDepth 100000 in
theorem wx_2257 : (Jvm.Cond.castable "[J" "java/lang/Object") ∈ lw_tbl := tb_9 (List.mem_of_getElem? (i := 237) rfl)
set_option maxRecDepth 100000 in
theorem wx_2258 : (Jvm.Cond.castable "[Ljava/lang/Object;" "java/lang/Object") ∈ lw_tbl := tb_9 (List.mem_of_getElem? (i := 238) rfl)
set_option maxRecDepth 100000 in
theorem wx_2259 : (Jvm.Cond.castable "[Z" "java/lang/Object") ∈ lw_tbl := tb_9 (List.mem_of_getElem? (i := 239) rfl)
set_option maxRecDepth 100000 in
theorem MW_J7_copyOf_6403c : MW yJ7_copyOf_6403c cJ7_copyOf_6403c 4 (some (.array (.object "java/lang/Object"))) 3 := ⟨⟨by decide +kernel, by decide +kernel⟩, by decide +kernel, tb_2 (List.mem_of_getElem? (i := 138) rfl), wd_102⟩
set_option maxRecDepth 100000 in
theorem MW_J7_copyOf_1904c : MW yJ7_copyOf_1904c cJ7_copyOf_1904c 2 (some (.array (.object "java/lang/Object"))) 2 := ⟨⟨by decide +kernel, by decide +kernel⟩, by decide +kernel, tb_2 (List.mem_of_getElem? (i := 116) rfl), wd_102⟩
set_option maxRecDepth 100000 in
theorem MW_Jx4a65c_grow_92f84 : MW yJx4a65c_grow_92f84 cJx4a65c_grow_92f84 4 (some (.array (.object "java/lang/Object"))) 1 := ⟨⟨by decide +kernel, by decide +kernel⟩, by decide +kernel, tb_2 (List.mem_of_getElem? (i := 105) rfl), wd_111⟩
set_option maxRecDepth 100000 in
theorem MW_Jx4a65c_grow_d5877 : MW yJx4a65c_grow_d5877 cJx4a65c_grow_d5877 1 (some (.array (.object "java/lang/Object"))) 0 := ⟨⟨by decide +kernel, by decide +kernel⟩, by decide +kernel, tb_2 (List.mem_of_getElem? (i := 101) rfl), wd_111⟩
theorem okT_0 : okT 0 := by
  intro k hk
  match k, hk with
  | 0, _ => exact Or.inl rfl
  | 1, _ => exact Or.inr (Or.inr (Or.inr (Or.inr ⟨_, rfl⟩)))
  | 2, _ => exact Or.inl rfl
  | k + 3, h => exact absurd h (by have : (cRec 0).2.2 = 3 := rfl; omega)
theorem okT_1 : okT 1 := by
  intro k hk
  match k, hk with
  | 0, _ => exact Or.inl rfl
  | 1, _ => exact Or.inl rfl
  | 2, _ => exact Or.inl rfl
  | k + 3, h => exact absurd h (by have : (cRec 1).2.2 = 3 := rfl; omega)
theorem okT_2 : okT 2 := by
  intro k hk
  match k, hk with
  | 0, _ => exact Or.inl rfl
  | 1, _ => exact Or.inl rfl
  | 2, _ => exact Or.inr (Or.inr (Or.inl rfl))
  | 3, _ => exact Or.inr (Or.inr (Or.inl rfl))
  | k + 4, h => exact absurd h (by have : (cRec 2).2.2 = 4 := rfl; omega)
theorem okT_3 : okT 3 := by
  intro k hk
  match k, hk with
  | 0, _ => exact Or.inr (Or.inr (Or.inr (Or.inr ⟨_, rfl⟩)))
  | 1, _ => exact Or.inr (Or.inr (Or.inr (Or.inr ⟨_, rfl⟩)))
  | 2, _ => exact Or.inr (Or.inr (Or.inr (Or.inr ⟨_, rfl⟩)))
  | k + 3, h => exact absurd h (by have : (cRec 3).2.2 = 3 := rfl; omega)
theorem okT_4 : okT 4 := by
  intro k hk
  match k, hk with
  | 0, _ => exact Or.inl rfl
  | 1, _ => exact Or.inl rfl
  | 2, _ => exact Or.inl rfl
  | 3, _ => exact Or.inl rfl
  | 4, _ => exact Or.inl rfl
  | 5, _ => exact Or.inl rfl
  | 6, _ => exact Or.inl rfl
  | 7, _ => exact Or.inl rfl
  | 8, _ => exact Or.inl rfl
  | 9, _ => exact Or.inr (Or.inr (Or.inr (Or.inr ⟨_, rfl⟩)))
  | 10, _ => exact Or.inr (Or.inr (Or.inr (Or.inr ⟨_, rfl⟩)))
  | 11, _ => exact Or.inr (Or.inr (Or.inr (Or.inr ⟨_, rfl⟩)))
  | 12, _ => exact Or.inr (Or.inr (Or.inr (Or.inr ⟨_, rfl⟩)))
  | 13, _ => exact Or.inr (Or.inr (Or.inr (Or.inr ⟨_, rfl⟩)))
  | 14, _ => exact Or.inr (Or.inr (Or.inr (Or.inr ⟨_, rfl⟩)))
  | 15, _ => exact Or.inr (Or.inr (Or.inr (Or.inr ⟨_, rfl⟩)))
  | 16, _ => exact Or.inr (Or.inr (Or.inr (Or.inr ⟨_, rfl⟩)))
  | 17, _ => exact Or.inr (Or.inr (Or.inr (Or.inr ⟨_, rfl⟩)))
  | 18, _ => exact Or.inr (Or.inr (Or.inr (Or.inr ⟨_, rfl⟩)))
  | k + 19, h => exact absurd h (by have : (cRec 4).2.2 = 19 := rfl; omega)
theorem okT_5 : okT 5 := by
  intro k hk
  match k, hk with
  | 0, _ => exact Or.inr (Or.inr (Or.inr (Or.inr ⟨_, rfl⟩)))
  | 1, _ => exact Or.inr (Or.inr (Or.inr (Or.inr ⟨_, rfl⟩)))
  | 2, _ => exact Or.inr (Or.inr (Or.inr (Or.inr ⟨_, rfl⟩)))
  | 3, _ => exact Or.inr (Or.inr (Or.inr (Or.inr ⟨_, rfl⟩)))
  | 4, _ => exact Or.inl rfl
  | 5, _ => exact Or.inl rfl
  | 6, _ => exact Or.inl rfl
  | 7, _ => exact Or.inl rfl
  | 8, _ => exact Or.inl rfl
  | 9, _ => exact Or.inl rfl
  | 10, _ => exact Or.inl rfl
  | k + 11, h => exact absurd h (by have : (cRec 5).2.2 = 11 := rfl; omega)
theorem okT_6 : okT 6 := by
  intro k hk
  match k, hk with
  | 0, _ => exact Or.inr (Or.inr (Or.inr (Or.inl ⟨_, rfl⟩)))
  | 1, _ => exact Or.inl rfl
  | 2, _ => exact Or.inl rfl
  | 3, _ => exact Or.inr (Or.inr (Or.inl rfl))
  | 4, _ => exact Or.inr (Or.inr (Or.inl rfl))
  | 5, _ => exact Or.inr (Or.inr (Or.inl rfl))
  | 6, _ => exact Or.inr (Or.inr (Or.inl rfl))
  | k + 7, h => exact absurd h (by have : (cRec 6).2.2 = 7 := rfl; omega)
theorem okT_7 : okT 7 := by
  intro k hk
  match k, hk with
  | 0, _ => exact Or.inr (Or.inr (Or.inr (Or.inr ⟨_, rfl⟩)))
  | 1, _ => exact Or.inr (Or.inr (Or.inr (Or.inr ⟨_, rfl⟩)))
  | 2, _ => exact Or.inr (Or.inr (Or.inr (Or.inr ⟨_, rfl⟩)))
  | 3, _ => exact Or.inr (Or.inr (Or.inr (Or.inr ⟨_, rfl⟩)))
  | 4, _ => exact Or.inr (Or.inr (Or.inr (Or.inr ⟨_, rfl⟩)))
  | 5, _ => exact Or.inr (Or.inr (Or.inr (Or.inr ⟨_, rfl⟩)))
  | 6, _ => exact Or.inr (Or.inr (Or.inr (Or.inr ⟨_, rfl⟩)))
  | 7, _ => exact Or.inl rfl
  | 8, _ => exact Or.inl rfl
  | 9, _ => exact Or.inl rfl
  | 10, _ => exact Or.inl rfl
  | k + 11, h => exact absurd h (by have : (cRec 7).2.2 = 11 := rfl; omega)
theorem okT_8 : okT 8 := by
  intro k hk
  match k, hk with
  | 0, _ => exact Or.inl rfl
  | 1, _ => exact Or.inr (Or.inr (Or.inr (Or.inr ⟨_, rfl⟩)))
  | 2, _ => exact Or.inr (Or.inl rfl)
  | k + 3, h => exact absurd h (by have : (cRec 8).2.2 = 3 := rfl; omega)
theorem okT_9 : okT 9 := by
  intro k hk
  match k, hk with
  | 0, _ => exact Or.inl rfl
  | 1, _ => exact Or.inl rfl
  | 2, _ => exact Or.inl rfl
  | 3, _ => exact Or.inl rfl
  | 4, _ => exact Or.inl rfl
  | 5, _ => exact Or.inl rfl
  | k + 6, h => exact absurd h (by have : (cRec 9).2.2 = 6 := rfl; omega)
theorem okT_10 : okT 10 := by
  intro k hk
  match k, hk with
  | 0, _ => exact Or.inl rfl
  | 1, _ => exact Or.inr (Or.inr (Or.inr (Or.inr ⟨_, rfl⟩)))
  | k + 2, h => exact absurd h (by have : (cRec 10).2.2 = 2 := rfl; omega)
theorem okT_11 : okT 11 := by
  intro k hk
  match k, hk with
  | 0, _ => exact Or.inr (Or.inr (Or.inr (Or.inr ⟨_, rfl⟩)))
  | 1, _ => exact Or.inl rfl
  | k + 2, h => exact absurd h (by have : (cRec 11).2.2 = 2 := rfl; omega)
theorem okT_12 : okT 12 := by
  intro k hk
  match k, hk with
  | 0, _ => exact Or.inl rfl
  | 1, _ => exact Or.inl rfl
  | 2, _ => exact Or.inl rfl
  | 3, _ => exact Or.inl rfl
  | 4, _ => exact Or.inl rfl
  | 5, _ => exact Or.inl rfl
  | 6, _ => exact Or.inr (Or.inr (Or.inr (Or.inr ⟨_, rfl⟩)))
  | 7, _ => exact Or.inr (Or.inr (Or.inr (Or.inl ⟨_, rfl⟩)))
  | 8, _ => exact Or.inr (Or.inr (Or.inr (Or.inl ⟨_, rfl⟩)))
  | 9, _ => exact Or.inr (Or.inr (Or.inr (Or.inl ⟨_, rfl⟩)))
  | 10, _ => exact Or.inr (Or.inr (Or.inr (Or.inl ⟨_, rfl⟩)))
  | 11, _ => exact Or.inr (Or.inr (Or.inr (Or.inl ⟨_, rfl⟩)))
  | 12, _ => exact Or.inr (Or.inr (Or.inr (Or.inl ⟨_, rfl⟩)))
  | 13, _ => exact Or.inr (Or.inr (Or.inr (Or.inl ⟨_, rfl⟩)))
  | 14, _ => exact Or.inr (Or.inr (Or.inr (Or.inl ⟨_, rfl⟩)))
  | 15, _ => exact Or.inr (Or.inr (Or.inr (Or.inl ⟨_, rfl⟩)))
  | 16, _ => exact Or.inr (Or.inr (Or.inr (Or.inl ⟨_, rfl⟩)))
  | 17, _ => exact Or.inr (Or.inr (Or.inr (Or.inl ⟨_, rfl⟩)))
  | 18, _ => exact Or.inr (Or.inr (Or.inr (Or.inl ⟨_, rfl⟩)))
  | 19, _ => exact Or.inr (Or.inr (Or.inr (Or.inl ⟨_, rfl⟩)))
  | k + 20, h => exact absurd h (by have : (cRec 12).2.2 = 20 := rfl; omega)
