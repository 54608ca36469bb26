section THRW
abbrev NSE : String := "java/util/NoSuchElementException"
abbrev NSn : List String := ["java/lang/RuntimeException", "java/lang/Exception"]
set_option maxRecDepth 100000 in
theorem at0_eq : vx_at0 "FigureHouse" 177 NSE NSn = [118, 1346, 1355, 1357, 1360, 1362, 1347, 1348, 133, 134, 1349, 1354, 1358, 1374, 1336, 1375, 1338, 1376, 1340, 1350, 1352, 1342, 1364, 1365, 1366, 1367, 1327, 1367, 1368, 1369, 1370, 1329, 1370, 1371, 1372, 1347, 1331, 1363, 1325, 1326, 1333, 1334, 1335, 1337, 1339, 1341, 1345, 1344, 1343].filterMap (fun i => lw_tbl[i]?) := by decide +kernel
theorem at0_in : ∀ w ∈ vx_at0 "FigureHouse" 177 NSE NSn, w ∈ lw_tbl := by
  intro w hw
  rw [at0_eq] at hw
  obtain ⟨i, -, hi⟩ := List.mem_filterMap.mp hw
  exact List.mem_of_getElem? hi
/-- words that a warmed machine keeps -/
def thrW : Cond → Bool
  | .declares _ => true
  | .castable _ _ => true
  | w => goodWord w
set_option maxRecDepth 100000 in
theorem at0_ok : ∀ w ∈ vx_at0 "FigureHouse" 177 NSE NSn, thrW w = true := by decide +kernel
set_option maxRecDepth 100000 in
theorem at0_ot : ∀ w ∈ Cond.classLink "FigureHouse" 175 NSE :: Cond.initialized NSE :: vx_at0 "FigureHouse" 177 NSE NSn, vx_ot w = true := by decide +kernel
end THRW
