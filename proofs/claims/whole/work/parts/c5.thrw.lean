section THRW
abbrev NSE : String := "java/util/NoSuchElementException"
abbrev NSn : List String := ["java/lang/RuntimeException", "java/lang/Exception"]
set_option maxRecDepth 100000 in
theorem at0_eq : vx_at0 "FigureHouse" 175 NSE NSn = [121, 1367, 1376, 1378, 1381, 1383, 1368, 1369, 136, 137, 1370, 1375, 1379, 1395, 1357, 1396, 1359, 1397, 1361, 1371, 1373, 1363, 1385, 1386, 1387, 1388, 1348, 1388, 1389, 1390, 1391, 1350, 1391, 1392, 1393, 1368, 1352, 1384, 1346, 1347, 1354, 1355, 1356, 1358, 1360, 1362, 1366, 1365, 1364].filterMap (fun i => lw_tbl[i]?) := by decide +kernel
theorem at0_in : ∀ w ∈ vx_at0 "FigureHouse" 175 NSE NSn, w ∈ lw_tbl := by
  intro w hw
  rw [at0_eq] at hw
  obtain ⟨i, -, hi⟩ := List.mem_filterMap.mp hw
  exact List.mem_of_getElem? hi
/-- words that a warmed machine keeps -/
def thrW : Cond → Bool
  | .declares _ => true
  | .castable _ _ => true
  | w => goodWord w
set_option maxRecDepth 100000 in
theorem at0_ok : ∀ w ∈ vx_at0 "FigureHouse" 175 NSE NSn, thrW w = true := by decide +kernel
set_option maxRecDepth 100000 in
theorem at0_ot : ∀ w ∈ Cond.classLink "FigureHouse" 173 NSE :: Cond.initialized NSE :: vx_at0 "FigureHouse" 175 NSE NSn, vx_ot w = true := by decide +kernel
end THRW
