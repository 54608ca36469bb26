set_option maxRecDepth 100000 in
theorem wx_313 : (Jvm.Cond.laysStatic "java/util/ArrayList" "DEFAULTCAPACITY_EMPTY_ELEMENTDATA" "[Ljava/lang/Object;") ∈ lw_tbl := tb_1 (List.mem_of_getElem? (i := 213) rfl)
set_option maxRecDepth 100000 in
theorem wx_318 : (Jvm.Cond.sameField "java/util/ArrayList" "java/util/AbstractList" "modCount" "I") ∈ lw_tbl := tb_1 (List.mem_of_getElem? (i := 218) rfl)
set_option maxRecDepth 100000 in
theorem wx_459 : (Jvm.Cond.sameMethod "java/lang/Object" "java/lang/Object" "getClass" "()Ljava/lang/Class;") ∈ lw_tbl := tb_2 (List.mem_of_getElem? (i := 119) rfl)
set_option maxRecDepth 100000 in
theorem wx_460 : (Jvm.Cond.selects "FigureHouse" ({ cls := "java/lang/Object", name := "getClass", desc := "()Ljava/lang/Class;" } : Jvm.MethodName) ({ cls := "java/lang/Object", name := "getClass", desc := "()Ljava/lang/Class;" } : Jvm.MethodName)) ∈ lw_tbl := tb_2 (List.mem_of_getElem? (i := 120) rfl)
set_option maxRecDepth 100000 in
theorem wx_461 : (Jvm.Cond.selects "FigureHouse$Curve" ({ cls := "java/lang/Object", name := "getClass", desc := "()Ljava/lang/Class;" } : Jvm.MethodName) ({ cls := "java/lang/Object", name := "getClass", desc := "()Ljava/lang/Class;" } : Jvm.MethodName)) ∈ lw_tbl := tb_2 (List.mem_of_getElem? (i := 121) rfl)
set_option maxRecDepth 100000 in
theorem wx_462 : (Jvm.Cond.selects "FigureHouse$Erratum" ({ cls := "java/lang/Object", name := "getClass", desc := "()Ljava/lang/Class;" } : Jvm.MethodName) ({ cls := "java/lang/Object", name := "getClass", desc := "()Ljava/lang/Class;" } : Jvm.MethodName)) ∈ lw_tbl := tb_2 (List.mem_of_getElem? (i := 122) rfl)
set_option maxRecDepth 100000 in
theorem wx_463 : (Jvm.Cond.selects "FigureHouse$Figures" ({ cls := "java/lang/Object", name := "getClass", desc := "()Ljava/lang/Class;" } : Jvm.MethodName) ({ cls := "java/lang/Object", name := "getClass", desc := "()Ljava/lang/Class;" } : Jvm.MethodName)) ∈ lw_tbl := tb_2 (List.mem_of_getElem? (i := 123) rfl)
set_option maxRecDepth 100000 in
theorem wx_464 : (Jvm.Cond.selects "FigureHouse$Page" ({ cls := "java/lang/Object", name := "getClass", desc := "()Ljava/lang/Class;" } : Jvm.MethodName) ({ cls := "java/lang/Object", name := "getClass", desc := "()Ljava/lang/Class;" } : Jvm.MethodName)) ∈ lw_tbl := tb_2 (List.mem_of_getElem? (i := 124) rfl)
set_option maxRecDepth 100000 in
theorem wx_465 : (Jvm.Cond.selects "FigureHouse$Planner" ({ cls := "java/lang/Object", name := "getClass", desc := "()Ljava/lang/Class;" } : Jvm.MethodName) ({ cls := "java/lang/Object", name := "getClass", desc := "()Ljava/lang/Class;" } : Jvm.MethodName)) ∈ lw_tbl := tb_2 (List.mem_of_getElem? (i := 125) rfl)
set_option maxRecDepth 100000 in
theorem wx_466 : (Jvm.Cond.selects "FigureHouse$Reader" ({ cls := "java/lang/Object", name := "getClass", desc := "()Ljava/lang/Class;" } : Jvm.MethodName) ({ cls := "java/lang/Object", name := "getClass", desc := "()Ljava/lang/Class;" } : Jvm.MethodName)) ∈ lw_tbl := tb_2 (List.mem_of_getElem? (i := 126) rfl)
set_option maxRecDepth 100000 in
theorem wx_467 : (Jvm.Cond.selects "FigureHouse$Search" ({ cls := "java/lang/Object", name := "getClass", desc := "()Ljava/lang/Class;" } : Jvm.MethodName) ({ cls := "java/lang/Object", name := "getClass", desc := "()Ljava/lang/Class;" } : Jvm.MethodName)) ∈ lw_tbl := tb_2 (List.mem_of_getElem? (i := 127) rfl)
set_option maxRecDepth 100000 in
theorem wx_468 : (Jvm.Cond.selects "FigureHouse$Sheet" ({ cls := "java/lang/Object", name := "getClass", desc := "()Ljava/lang/Class;" } : Jvm.MethodName) ({ cls := "java/lang/Object", name := "getClass", desc := "()Ljava/lang/Class;" } : Jvm.MethodName)) ∈ lw_tbl := tb_2 (List.mem_of_getElem? (i := 128) rfl)
set_option maxRecDepth 100000 in
theorem wx_469 : (Jvm.Cond.selects "FigureHouse$Slip" ({ cls := "java/lang/Object", name := "getClass", desc := "()Ljava/lang/Class;" } : Jvm.MethodName) ({ cls := "java/lang/Object", name := "getClass", desc := "()Ljava/lang/Class;" } : Jvm.MethodName)) ∈ lw_tbl := tb_2 (List.mem_of_getElem? (i := 129) rfl)
set_option maxRecDepth 100000 in
theorem wx_470 : (Jvm.Cond.selects "FigureHouse$Table" ({ cls := "java/lang/Object", name := "getClass", desc := "()Ljava/lang/Class;" } : Jvm.MethodName) ({ cls := "java/lang/Object", name := "getClass", desc := "()Ljava/lang/Class;" } : Jvm.MethodName)) ∈ lw_tbl := tb_2 (List.mem_of_getElem? (i := 130) rfl)
set_option maxRecDepth 100000 in
theorem wx_471 : (Jvm.Cond.selects "FigureHouse$Text" ({ cls := "java/lang/Object", name := "getClass", desc := "()Ljava/lang/Class;" } : Jvm.MethodName) ({ cls := "java/lang/Object", name := "getClass", desc := "()Ljava/lang/Class;" } : Jvm.MethodName)) ∈ lw_tbl := tb_2 (List.mem_of_getElem? (i := 131) rfl)
set_option maxRecDepth 100000 in
theorem wx_472 : (Jvm.Cond.selects "FigureHouseModel" ({ cls := "java/lang/Object", name := "getClass", desc := "()Ljava/lang/Class;" } : Jvm.MethodName) ({ cls := "java/lang/Object", name := "getClass", desc := "()Ljava/lang/Class;" } : Jvm.MethodName)) ∈ lw_tbl := tb_2 (List.mem_of_getElem? (i := 132) rfl)
set_option maxRecDepth 100000 in
theorem wx_473 : (Jvm.Cond.selects "java/util/ArrayList" ({ cls := "java/lang/Object", name := "getClass", desc := "()Ljava/lang/Class;" } : Jvm.MethodName) ({ cls := "java/lang/Object", name := "getClass", desc := "()Ljava/lang/Class;" } : Jvm.MethodName)) ∈ lw_tbl := tb_2 (List.mem_of_getElem? (i := 133) rfl)
set_option maxRecDepth 100000 in
theorem wx_474 : (Jvm.Cond.selects "java/util/NoSuchElementException" ({ cls := "java/lang/Object", name := "getClass", desc := "()Ljava/lang/Class;" } : Jvm.MethodName) ({ cls := "java/lang/Object", name := "getClass", desc := "()Ljava/lang/Class;" } : Jvm.MethodName)) ∈ lw_tbl := tb_2 (List.mem_of_getElem? (i := 134) rfl)
set_option maxRecDepth 100000 in
theorem wx_475 : (Jvm.Cond.native ({ cls := "java/lang/Object", name := "getClass", desc := "()Ljava/lang/Class;" } : Jvm.MethodName)) ∈ lw_tbl := tb_2 (List.mem_of_getElem? (i := 135) rfl)
set_option maxRecDepth 100000 in
theorem wx_480 : (Jvm.Cond.arrayOver (Jvm.ClassFile.FieldType.object "java/lang/Object")) ∈ lw_tbl := tb_2 (List.mem_of_getElem? (i := 140) rfl)
set_option maxRecDepth 100000 in
theorem wx_487 : (Jvm.Cond.native ({ cls := "java/lang/System", name := "arraycopy", desc := "(Ljava/lang/Object;ILjava/lang/Object;II)V" } : Jvm.MethodName)) ∈ lw_tbl := tb_2 (List.mem_of_getElem? (i := 147) rfl)
set_option maxRecDepth 100000 in
theorem wx_522 : (Jvm.Cond.laysStatic "FigureHouse" "TENS" "[J") ∈ lw_tbl := tb_2 (List.mem_of_getElem? (i := 182) rfl)
set_option maxRecDepth 100000 in
theorem wx_1344 : (Jvm.Cond.castable "java/util/NoSuchElementException" "java/util/NoSuchElementException") ∈ lw_tbl := tb_6 (List.mem_of_getElem? (i := 44) rfl)
set_option maxRecDepth 100000 in
theorem wx_1345 : (Jvm.Cond.declares ({ cls := "java/lang/RuntimeException", name := "<init>", desc := "()V" } : Jvm.MethodName)) ∈ lw_tbl := tb_6 (List.mem_of_getElem? (i := 45) rfl)
set_option maxRecDepth 100000 in
theorem wx_1346 : (Jvm.Cond.declares ({ cls := "java/lang/RuntimeException", name := "<init>", desc := "(Ljava/lang/String;)V" } : Jvm.MethodName)) ∈ lw_tbl := tb_6 (List.mem_of_getElem? (i := 46) rfl)
set_option maxRecDepth 100000 in
theorem wx_1347 : (Jvm.Cond.declares ({ cls := "java/lang/Exception", name := "<init>", desc := "()V" } : Jvm.MethodName)) ∈ lw_tbl := tb_6 (List.mem_of_getElem? (i := 47) rfl)
set_option maxRecDepth 100000 in
theorem wx_1348 : (Jvm.Cond.declares ({ cls := "java/lang/Exception", name := "<init>", desc := "(Ljava/lang/String;)V" } : Jvm.MethodName)) ∈ lw_tbl := tb_6 (List.mem_of_getElem? (i := 48) rfl)
set_option maxRecDepth 100000 in
theorem wx_1349 : (Jvm.Cond.declares ({ cls := "java/lang/Throwable", name := "<init>", desc := "()V" } : Jvm.MethodName)) ∈ lw_tbl := tb_6 (List.mem_of_getElem? (i := 49) rfl)
set_option maxRecDepth 100000 in
theorem wx_1350 : (Jvm.Cond.declares ({ cls := "java/lang/Throwable", name := "<init>", desc := "(Ljava/lang/String;)V" } : Jvm.MethodName)) ∈ lw_tbl := tb_6 (List.mem_of_getElem? (i := 50) rfl)
set_option maxRecDepth 100000 in
theorem wx_1369 : (Jvm.Cond.laysStatic "java/lang/Throwable" "UNASSIGNED_STACK" "[Ljava/lang/StackTraceElement;") ∈ lw_tbl := tb_6 (List.mem_of_getElem? (i := 69) rfl)
set_option maxRecDepth 100000 in
theorem wx_1371 : (Jvm.Cond.laysStatic "java/lang/Throwable" "SUPPRESSED_SENTINEL" "Ljava/util/List;") ∈ lw_tbl := tb_6 (List.mem_of_getElem? (i := 71) rfl)
set_option maxRecDepth 100000 in
theorem wx_1380 : (Jvm.Cond.native ({ cls := "java/lang/Throwable", name := "fillInStackTrace", desc := "(I)Ljava/lang/Throwable;" } : Jvm.MethodName)) ∈ lw_tbl := tb_6 (List.mem_of_getElem? (i := 80) rfl)
set_option maxRecDepth 100000 in
theorem wx_2255 : (Jvm.Cond.castable "FigureHouse" "java/lang/Object") ∈ lw_tbl := tb_9 (List.mem_of_getElem? (i := 235) rfl)
set_option maxRecDepth 100000 in
theorem wx_2256 : (Jvm.Cond.castable "FigureHouse$Text" "java/lang/Object") ∈ lw_tbl := tb_9 (List.mem_of_getElem? (i := 236) rfl)
set_option maxRecDepth 100000 in
theorem wx_2257 : (Jvm.Cond.castable "FigureHouse$Reader" "java/lang/Object") ∈ lw_tbl := tb_9 (List.mem_of_getElem? (i := 237) rfl)
set_option maxRecDepth 100000 in
theorem wx_2258 : (Jvm.Cond.castable "FigureHouse$Figures" "java/lang/Object") ∈ lw_tbl := tb_9 (List.mem_of_getElem? (i := 238) rfl)
set_option maxRecDepth 100000 in
theorem wx_2259 : (Jvm.Cond.castable "FigureHouse$Search" "java/lang/Object") ∈ lw_tbl := tb_9 (List.mem_of_getElem? (i := 239) rfl)
set_option maxRecDepth 100000 in
theorem wx_2260 : (Jvm.Cond.castable "FigureHouse$Planner" "java/lang/Object") ∈ lw_tbl := tb_10 (List.mem_of_getElem? (i := 0) rfl)
set_option maxRecDepth 100000 in
theorem wx_2261 : (Jvm.Cond.castable "java/util/ArrayList" "java/lang/Object") ∈ lw_tbl := tb_10 (List.mem_of_getElem? (i := 1) rfl)
set_option maxRecDepth 100000 in
theorem wx_2262 : (Jvm.Cond.castable "FigureHouseModel" "java/lang/Object") ∈ lw_tbl := tb_10 (List.mem_of_getElem? (i := 2) rfl)
set_option maxRecDepth 100000 in
theorem wx_2263 : (Jvm.Cond.castable "FigureHouse$Curve" "java/lang/Object") ∈ lw_tbl := tb_10 (List.mem_of_getElem? (i := 3) rfl)
set_option maxRecDepth 100000 in
theorem wx_2264 : (Jvm.Cond.castable "java/util/NoSuchElementException" "java/lang/Object") ∈ lw_tbl := tb_10 (List.mem_of_getElem? (i := 4) rfl)
set_option maxRecDepth 100000 in
theorem wx_2265 : (Jvm.Cond.castable "FigureHouse$Page" "java/lang/Object") ∈ lw_tbl := tb_10 (List.mem_of_getElem? (i := 5) rfl)
set_option maxRecDepth 100000 in
theorem wx_2266 : (Jvm.Cond.castable "FigureHouse$Slip" "java/lang/Object") ∈ lw_tbl := tb_10 (List.mem_of_getElem? (i := 6) rfl)
set_option maxRecDepth 100000 in
theorem wx_2267 : (Jvm.Cond.castable "FigureHouse$Table" "java/lang/Object") ∈ lw_tbl := tb_10 (List.mem_of_getElem? (i := 7) rfl)
set_option maxRecDepth 100000 in
theorem wx_2268 : (Jvm.Cond.castable "FigureHouse$Erratum" "java/lang/Object") ∈ lw_tbl := tb_10 (List.mem_of_getElem? (i := 8) rfl)
set_option maxRecDepth 100000 in
theorem wx_2269 : (Jvm.Cond.castable "FigureHouse$Sheet" "java/lang/Object") ∈ lw_tbl := tb_10 (List.mem_of_getElem? (i := 9) rfl)
set_option maxRecDepth 100000 in
theorem wx_2270 : (Jvm.Cond.castable "java/lang/Throwable" "java/lang/Object") ∈ lw_tbl := tb_10 (List.mem_of_getElem? (i := 10) rfl)
set_option maxRecDepth 100000 in
theorem wx_2271 : (Jvm.Cond.sameMethod "[Ljava/lang/Object;" "java/lang/Object" "getClass" "()Ljava/lang/Class;") ∈ lw_tbl := tb_10 (List.mem_of_getElem? (i := 11) rfl)
set_option maxRecDepth 100000 in
theorem wx_2272 : (Jvm.Cond.selects "[Ljava/lang/Object;" ({ cls := "java/lang/Object", name := "getClass", desc := "()Ljava/lang/Class;" } : Jvm.MethodName) ({ cls := "java/lang/Object", name := "getClass", desc := "()Ljava/lang/Class;" } : Jvm.MethodName)) ∈ lw_tbl := tb_10 (List.mem_of_getElem? (i := 12) rfl)
set_option maxRecDepth 100000 in
theorem wx_2273 : (Jvm.Cond.declares ({ cls := "java/lang/Object", name := "getClass", desc := "()Ljava/lang/Class;" } : Jvm.MethodName)) ∈ lw_tbl := tb_10 (List.mem_of_getElem? (i := 13) rfl)
set_option maxRecDepth 100000 in
theorem wx_2274 : (Jvm.Cond.castable "[I" "java/lang/Object") ∈ lw_tbl := tb_10 (List.mem_of_getElem? (i := 14) rfl)
set_option maxRecDepth 100000 in
theorem wx_2275 : (Jvm.Cond.castable "[J" "java/lang/Object") ∈ lw_tbl := tb_10 (List.mem_of_getElem? (i := 15) rfl)
set_option maxRecDepth 100000 in
theorem wx_2276 : (Jvm.Cond.castable "[Ljava/lang/Object;" "java/lang/Object") ∈ lw_tbl := tb_10 (List.mem_of_getElem? (i := 16) rfl)
set_option maxRecDepth 100000 in
theorem wx_2277 : (Jvm.Cond.castable "[Z" "java/lang/Object") ∈ lw_tbl := tb_10 (List.mem_of_getElem? (i := 17) rfl)
set_option maxRecDepth 100000 in
theorem MW_J7_copyOf_6403c : MW yJ7_copyOf_6403c cJ7_copyOf_6403c 4 (some (.array (.object "java/lang/Object"))) 3 := ⟨⟨by decide +kernel, by decide +kernel⟩, by decide +kernel, tb_2 (List.mem_of_getElem? (i := 138) rfl), wd_102⟩
set_option maxRecDepth 100000 in
theorem MW_J7_copyOf_1904c : MW yJ7_copyOf_1904c cJ7_copyOf_1904c 2 (some (.array (.object "java/lang/Object"))) 2 := ⟨⟨by decide +kernel, by decide +kernel⟩, by decide +kernel, tb_2 (List.mem_of_getElem? (i := 116) rfl), wd_102⟩
set_option maxRecDepth 100000 in
theorem MW_Jx4a65c_grow_92f84 : MW yJx4a65c_grow_92f84 cJx4a65c_grow_92f84 4 (some (.array (.object "java/lang/Object"))) 1 := ⟨⟨by decide +kernel, by decide +kernel⟩, by decide +kernel, tb_2 (List.mem_of_getElem? (i := 105) rfl), wd_111⟩
set_option maxRecDepth 100000 in
theorem MW_Jx4a65c_grow_d5877 : MW yJx4a65c_grow_d5877 cJx4a65c_grow_d5877 1 (some (.array (.object "java/lang/Object"))) 0 := ⟨⟨by decide +kernel, by decide +kernel⟩, by decide +kernel, tb_2 (List.mem_of_getElem? (i := 101) rfl), wd_111⟩
theorem okT_0 : okT 0 := by
  intro k hk
  match k, hk with
  | 0, _ => exact Or.inl rfl
  | 1, _ => exact Or.inr (Or.inr (Or.inr (Or.inr ⟨_, rfl⟩)))
  | 2, _ => exact Or.inl rfl
  | k + 3, h => exact absurd h (by have : (cRec 0).2.2 = 3 := rfl; omega)
theorem okT_1 : okT 1 := by
  intro k hk
  match k, hk with
  | 0, _ => exact Or.inl rfl
  | 1, _ => exact Or.inl rfl
  | 2, _ => exact Or.inl rfl
  | k + 3, h => exact absurd h (by have : (cRec 1).2.2 = 3 := rfl; omega)
theorem okT_2 : okT 2 := by
  intro k hk
  match k, hk with
  | 0, _ => exact Or.inl rfl
  | 1, _ => exact Or.inl rfl
  | 2, _ => exact Or.inr (Or.inr (Or.inl rfl))
  | 3, _ => exact Or.inr (Or.inr (Or.inl rfl))
  | k + 4, h => exact absurd h (by have : (cRec 2).2.2 = 4 := rfl; omega)
theorem okT_3 : okT 3 := by
  intro k hk
  match k, hk with
  | 0, _ => exact Or.inr (Or.inr (Or.inr (Or.inr ⟨_, rfl⟩)))
  | 1, _ => exact Or.inr (Or.inr (Or.inr (Or.inr ⟨_, rfl⟩)))
  | 2, _ => exact Or.inr (Or.inr (Or.inr (Or.inr ⟨_, rfl⟩)))
  | k + 3, h => exact absurd h (by have : (cRec 3).2.2 = 3 := rfl; omega)
theorem okT_4 : okT 4 := by
  intro k hk
  match k, hk with
  | 0, _ => exact Or.inl rfl
  | 1, _ => exact Or.inl rfl
  | 2, _ => exact Or.inl rfl
  | 3, _ => exact Or.inl rfl
  | 4, _ => exact Or.inl rfl
  | 5, _ => exact Or.inl rfl
  | 6, _ => exact Or.inl rfl
  | 7, _ => exact Or.inl rfl
  | 8, _ => exact Or.inl rfl
  | 9, _ => exact Or.inr (Or.inr (Or.inr (Or.inr ⟨_, rfl⟩)))
  | 10, _ => exact Or.inr (Or.inr (Or.inr (Or.inr ⟨_, rfl⟩)))
  | 11, _ => exact Or.inr (Or.inr (Or.inr (Or.inr ⟨_, rfl⟩)))
  | 12, _ => exact Or.inr (Or.inr (Or.inr (Or.inr ⟨_, rfl⟩)))
  | 13, _ => exact Or.inr (Or.inr (Or.inr (Or.inr ⟨_, rfl⟩)))
  | 14, _ => exact Or.inr (Or.inr (Or.inr (Or.inr ⟨_, rfl⟩)))
  | 15, _ => exact Or.inr (Or.inr (Or.inr (Or.inr ⟨_, rfl⟩)))
  | 16, _ => exact Or.inr (Or.inr (Or.inr (Or.inr ⟨_, rfl⟩)))
  | 17, _ => exact Or.inr (Or.inr (Or.inr (Or.inr ⟨_, rfl⟩)))
  | 18, _ => exact Or.inr (Or.inr (Or.inr (Or.inr ⟨_, rfl⟩)))
  | k + 19, h => exact absurd h (by have : (cRec 4).2.2 = 19 := rfl; omega)
theorem okT_5 : okT 5 := by
  intro k hk
  match k, hk with
  | 0, _ => exact Or.inr (Or.inr (Or.inr (Or.inr ⟨_, rfl⟩)))
  | 1, _ => exact Or.inr (Or.inr (Or.inr (Or.inr ⟨_, rfl⟩)))
  | 2, _ => exact Or.inr (Or.inr (Or.inr (Or.inr ⟨_, rfl⟩)))
  | 3, _ => exact Or.inr (Or.inr (Or.inr (Or.inr ⟨_, rfl⟩)))
  | 4, _ => exact Or.inl rfl
  | 5, _ => exact Or.inl rfl
  | 6, _ => exact Or.inl rfl
  | 7, _ => exact Or.inl rfl
  | 8, _ => exact Or.inl rfl
  | 9, _ => exact Or.inl rfl
  | 10, _ => exact Or.inl rfl
  | k + 11, h => exact absurd h (by have : (cRec 5).2.2 = 11 := rfl; omega)
theorem okT_6 : okT 6 := by
  intro k hk
  match k, hk with
  | 0, _ => exact Or.inr (Or.inr (Or.inr (Or.inl ⟨_, rfl⟩)))
  | 1, _ => exact Or.inl rfl
  | 2, _ => exact Or.inl rfl
  | 3, _ => exact Or.inr (Or.inr (Or.inl rfl))
  | 4, _ => exact Or.inr (Or.inr (Or.inl rfl))
  | 5, _ => exact Or.inr (Or.inr (Or.inl rfl))
  | 6, _ => exact Or.inr (Or.inr (Or.inl rfl))
  | k + 7, h => exact absurd h (by have : (cRec 6).2.2 = 7 := rfl; omega)
theorem okT_7 : okT 7 := by
  intro k hk
  match k, hk with
  | 0, _ => exact Or.inr (Or.inr (Or.inr (Or.inr ⟨_, rfl⟩)))
  | 1, _ => exact Or.inr (Or.inr (Or.inr (Or.inr ⟨_, rfl⟩)))
  | 2, _ => exact Or.inr (Or.inr (Or.inr (Or.inr ⟨_, rfl⟩)))
  | 3, _ => exact Or.inr (Or.inr (Or.inr (Or.inr ⟨_, rfl⟩)))
  | 4, _ => exact Or.inr (Or.inr (Or.inr (Or.inr ⟨_, rfl⟩)))
  | 5, _ => exact Or.inr (Or.inr (Or.inr (Or.inr ⟨_, rfl⟩)))
  | 6, _ => exact Or.inr (Or.inr (Or.inr (Or.inr ⟨_, rfl⟩)))
  | 7, _ => exact Or.inl rfl
  | 8, _ => exact Or.inl rfl
  | 9, _ => exact Or.inl rfl
  | 10, _ => exact Or.inl rfl
  | k + 11, h => exact absurd h (by have : (cRec 7).2.2 = 11 := rfl; omega)
theorem okT_8 : okT 8 := by
  intro k hk
  match k, hk with
  | 0, _ => exact Or.inl rfl
  | 1, _ => exact Or.inr (Or.inr (Or.inr (Or.inr ⟨_, rfl⟩)))
  | 2, _ => exact Or.inr (Or.inl rfl)
  | k + 3, h => exact absurd h (by have : (cRec 8).2.2 = 3 := rfl; omega)
theorem okT_9 : okT 9 := by
  intro k hk
  match k, hk with
  | 0, _ => exact Or.inl rfl
  | 1, _ => exact Or.inl rfl
  | 2, _ => exact Or.inl rfl
  | 3, _ => exact Or.inl rfl
  | 4, _ => exact Or.inl rfl
  | 5, _ => exact Or.inl rfl
  | k + 6, h => exact absurd h (by have : (cRec 9).2.2 = 6 := rfl; omega)
theorem okT_10 : okT 10 := by
  intro k hk
  match k, hk with
  | 0, _ => exact Or.inl rfl
  | 1, _ => exact Or.inr (Or.inr (Or.inr (Or.inr ⟨_, rfl⟩)))
  | k + 2, h => exact absurd h (by have : (cRec 10).2.2 = 2 := rfl; omega)
theorem okT_11 : okT 11 := by
  intro k hk
  match k, hk with
  | 0, _ => exact Or.inr (Or.inr (Or.inr (Or.inr ⟨_, rfl⟩)))
  | 1, _ => exact Or.inl rfl
  | k + 2, h => exact absurd h (by have : (cRec 11).2.2 = 2 := rfl; omega)
theorem okT_12 : okT 12 := by
  intro k hk
  match k, hk with
  | 0, _ => exact Or.inl rfl
  | 1, _ => exact Or.inl rfl
  | 2, _ => exact Or.inl rfl
  | 3, _ => exact Or.inl rfl
  | 4, _ => exact Or.inl rfl
  | 5, _ => exact Or.inl rfl
  | 6, _ => exact Or.inr (Or.inr (Or.inr (Or.inr ⟨_, rfl⟩)))
  | 7, _ => exact Or.inr (Or.inr (Or.inr (Or.inl ⟨_, rfl⟩)))
  | 8, _ => exact Or.inr (Or.inr (Or.inr (Or.inl ⟨_, rfl⟩)))
  | 9, _ => exact Or.inr (Or.inr (Or.inr (Or.inl ⟨_, rfl⟩)))
  | 10, _ => exact Or.inr (Or.inr (Or.inr (Or.inl ⟨_, rfl⟩)))
  | 11, _ => exact Or.inr (Or.inr (Or.inr (Or.inl ⟨_, rfl⟩)))
  | 12, _ => exact Or.inr (Or.inr (Or.inr (Or.inl ⟨_, rfl⟩)))
  | 13, _ => exact Or.inr (Or.inr (Or.inr (Or.inl ⟨_, rfl⟩)))
  | 14, _ => exact Or.inr (Or.inr (Or.inr (Or.inl ⟨_, rfl⟩)))
  | 15, _ => exact Or.inr (Or.inr (Or.inr (Or.inl ⟨_, rfl⟩)))
  | 16, _ => exact Or.inr (Or.inr (Or.inr (Or.inl ⟨_, rfl⟩)))
  | 17, _ => exact Or.inr (Or.inr (Or.inr (Or.inl ⟨_, rfl⟩)))
  | 18, _ => exact Or.inr (Or.inr (Or.inr (Or.inl ⟨_, rfl⟩)))
  | 19, _ => exact Or.inr (Or.inr (Or.inr (Or.inl ⟨_, rfl⟩)))
  | k + 20, h => exact absurd h (by have : (cRec 12).2.2 = 20 := rfl; omega)
section CLS2
variable {z : ZT} {l : Launch} {g : GP} {nL : Nat} {cells slots : Nat} {Q : State → Prop} {pc : Nat} {lo : List (Nat × AV)} {st rest : List AV} {kd : Int → Nat} {ln : Int → Int} {mem : Int → Int → Int} {sz : Nat} {cc : ByteArray} {own : String} {R : Room}
theorem jgetS (hF : FX z l g nL cc own R) {a : Int} {index : Nat} {ref : String} (c k t : Nat) (ki : Int) (hki : ki = (k : Int)) (hc : c < 14) (hk : k < (cRec c).2.2) (ht : tagOf (cty c k) = t) (hm : Cond.fieldLink own index ref ((cRec c).2.1 k).2.1 ((cRec c).2.1 k).2.2.1 ∈ lw_tbl) (hsm : Cond.sameField ref ((cRec c).2.1 k).1 ((cRec c).2.1 k).2.1 ((cRec c).2.1 k).2.2.1 ∈ lw_tbl) (hd : decode cc pc = .ok (.getfield index, 3)) (ha : kd a = c + 1)
    (kk : J z g nL cells slots Q (pc + 3) lo ((t, mem a ki) :: rest) kd ln mem sz) : J z g nL cells slots Q pc lo ((2, a) :: rest) kd ln mem sz := by
  subst hki
  obtain ⟨p, l', e, R', s, m, args, below, meth, cd⟩ := z
  obtain ⟨hx, hb, hml, hown, hW, hG, -⟩ := hF
  intro ls H locs hl hR hq
  obtain ⟨a0, a1⟩ := hR.2.2.2.2.1 a (by rw [ha]; omega)
  obtain ⟨n, rfl⟩ := Int.eq_ofNat_of_zero_le a0
  obtain ⟨c1, c2, c3, c4⟩ := CK_all c hc
  obtain ⟨cell, q1, q2, q3, q4⟩ := (hR.2.2.2.1 n (by omega)).1 c ha hc
  obtain ⟨hS, hfc, kC, hkC, hkind⟩ := u_Kn_moved hW.alike (hG.2.1 c _ c1)
  obtain ⟨cf, kf, fi, f, hi, hsl⟩ := hS k hk
  have hts : ∀ w ∈ u_ws (cRec c).1 (cRec c).2.1 (cRec c).2.2, w.before args s = true := fun w hw => hts_at hG hW (c2 w hw) (by
    obtain ⟨j, -, rfl⟩ := List.mem_map.mp hw
    unfold u_lay
    split <;> rfl)
  refine W.getf hx hb hown (hts_at hG hW hm rfl) (u_same (hts_at (args := args) hG hW hsm rfl) _ hi) (u_facts hfc hkC (u_lays hts (fun _ h => h) hk) hi).1 q1 (by rw [q3]; exact fun h => by cases h) (v := cv g (tagOf (cty c k), mem n k)) ?_ rfl rfl hd ?_
  · rw [hsl]
    exact q4 k hk
  · subst ht
    exact kk ls H locs hl hR hq
theorem jputS (hF : FX z l g nL cc own R) {a x : Int} {index : Nat} {ref : String} (c k t : Nat) (ki : Int) (hki : ki = (k : Int)) (hc : c < 14) (hk : k < (cRec c).2.2) (ht : tagOf (cty c k) = t) (hm : Cond.fieldLink own index ref ((cRec c).2.1 k).2.1 ((cRec c).2.1 k).2.2.1 ∈ lw_tbl) (hsm : Cond.sameField ref ((cRec c).2.1 k).1 ((cRec c).2.1 k).2.1 ((cRec c).2.1 k).2.2.1 ∈ lw_tbl) (hd : decode cc pc = .ok (.putfield index, 3)) (hfin : ((cRec c).2.1 k).2.2.2 = false) (hT : cty c k = .int ∨ cty c k = .boolean ∨ cty c k = .long ∨ (∃ n, cty c k = .object n) ∨ ∃ t, cty c k = .array t) (ha : kd a = c + 1) (hB : cty c k = .boolean → x = 0 ∨ x = 1)
    (kk : J z g nL cells slots Q (pc + 3) lo rest kd ln (set2 mem a ki x) sz) : J z g nL cells slots Q pc lo ((t, x) :: (2, a) :: rest) kd ln mem sz := by
  subst hki
  obtain ⟨p, l', e, R', s, m, args, below, meth, cd⟩ := z
  obtain ⟨hx, hb, hml, hown, hW, hG, -⟩ := hF
  intro ls H locs hl hR hq
  obtain ⟨a0, a1⟩ := hR.2.2.2.2.1 a (by rw [ha]; omega)
  obtain ⟨n, rfl⟩ := Int.eq_ofNat_of_zero_le a0
  have hn3 : 3 ≤ n := by
    obtain ⟨k0, k1, k2⟩ := hR.2.2.2.2.2
    rcases Nat.lt_or_ge n 3 with h | h
    · match n, h with
      | 0, _ => have : kd 0 = c + 1 := ha; omega
      | 1, _ => have : kd 1 = c + 1 := ha; omega
      | 2, _ => have : kd 2 = c + 1 := ha; omega
    · exact h
  obtain ⟨c1, c2, c3, c4⟩ := CK_all c hc
  obtain ⟨cell, q1, q2, q3, q4⟩ := (hR.2.2.2.1 n (by omega)).1 c ha hc
  have hKn := u_Kn_moved hW.alike (hG.2.1 c _ c1)
  obtain ⟨hS, hfc, kC, hkC, hkind⟩ := id hKn
  obtain ⟨cf, kf, fi, f, hi, hsl⟩ := hS k hk
  have hts : ∀ w ∈ u_ws (cRec c).1 (cRec c).2.1 (cRec c).2.2, w.before args s = true := fun w hw => hts_at hG hW (c2 w hw) (by
    obtain ⟨j, -, rfl⟩ := List.mem_map.mp hw
    unfold u_lay
    split <;> rfl)
  have hst := (u_facts hfc hkC (u_lays hts (fun _ h => h) hk) hi).1
  have hlay := hts _ (u_in_lay hk)
  unfold u_lay at hlay
  rw [if_neg (by rw [hfin]; decide)] at hlay
  obtain ⟨n1, n2⟩ := fits_cty (g := g) (x := x) hB hT
  have h6 := u_store hfc hkC hkind hlay hi (c3 k hk) n1 n2
  have hap := va_apart (D := gD g) (cl := vwCl) (tys := []) (own := own) (ci := c) hts (fun _ h => h) (cty c) c3 c4 ⟨fun c' q' h' => u_Kn_moved hW.alike (hG.2.1 c' q' h'), fun k q h => by simp at h⟩ c1
  subst ht
  refine W.putK (a := adr g n) (v := cv g (tagOf (cty c k), x)) hx hb (f := f) ⟨hown, hts_at hG hW hm rfl, ⟨_, _, _, u_same (hts_at (args := args) hG hW hsm rfl) _ hi⟩, hst⟩ (by rw [q2]; exact h6) q1 q3 (by rw [hsl]; exact k2_hasslot (q4 k hk)) rfl rfl hd fun H' e1 e2 e3 => ?_
  rw [hsl] at e1 ⊢
  refine kk ls H' _ hl (hR.put hG hn3 e2 e3 (fun b hb => ?_) ⟨fun c' h1 h2 => ?_, fun k' h1 h2 => ?_⟩) (fun q hq' => ?_)
  · funext j
    unfold set2
    rw [if_neg (fun h => hb h.1)]
  · have hcc : c' = c := by omega
    subst hcc
    refine t_OB.to (V := updV (fun k => cv g (tagOf (cty c' k), mem n k)) k (cv g (tagOf (cty c' k), x))) ⟨_, e1, q2, q3, t_set q4 hap hk _⟩ (fun j _ => ?_)
    unfold updV set2
    by_cases hj : j = k
    · subst hj
      simp
    · have : ¬ ((j : Int) = (k : Int)) := by omega
      simp [hj, this]
  · omega
  · rcases List.mem_append.mp hq' with h | h
    · exact hq q h
    · rw [List.mem_singleton.mp h]
      exact adr_base hn3
end CLS2
