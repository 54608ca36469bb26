/-- what the tables say of method y, of n arguments -/
def MW (y : MethodName) (cy : ByteArray) (nLy : Nat) (ret : Option FieldType) (n : Nat) : Prop :=
  (y.cls ≠ "java/lang/invoke/MethodHandle" ∧ y.cls ≠ "java/lang/invoke/VarHandle") ∧ (parseMethodDescriptor y.desc).map (fun d => d.parameters.length) = some n ∧ Cond.code y cy nLy ret ∈ lw_tbl ∧ Cond.initialized y.cls ∈ lw_tbl
set_option maxRecDepth 100000 in
theorem MW_X0_init : MW yX0_init cX0_init 4 none 3 := ⟨⟨by decide +kernel, by decide +kernel⟩, by decide +kernel, tb_2 (List.mem_of_getElem? (i := 78) rfl), wd_113⟩
set_option maxRecDepth 100000 in
theorem MW_X11_ten : MW yX11_ten cX11_ten 1 (some .long) 1 := ⟨⟨by decide +kernel, by decide +kernel⟩, by decide +kernel, tb_2 (List.mem_of_getElem? (i := 180) rfl), wd_101⟩
set_option maxRecDepth 100000 in
theorem MW_X11_rootOf : MW yX11_rootOf cX11_rootOf 9 (some .long) 1 := ⟨⟨by decide +kernel, by decide +kernel⟩, by decide +kernel, tb_2 (List.mem_of_getElem? (i := 185) rfl), wd_101⟩
set_option maxRecDepth 100000 in
theorem MW_X0_quartersAt : MW yX0_quartersAt cX0_quartersAt 8 (some .long) 1 := ⟨⟨by decide +kernel, by decide +kernel⟩, by decide +kernel, tb_2 (List.mem_of_getElem? (i := 176) rfl), wd_113⟩
set_option maxRecDepth 100000 in
theorem MW_X1_init : MW yX1_init cX1_init 7 none 4 := ⟨⟨by decide +kernel, by decide +kernel⟩, by decide +kernel, tb_5 (List.mem_of_getElem? (i := 127) rfl), wd_125⟩
set_option maxRecDepth 100000 in
theorem MW_X2_init : MW yX2_init cX2_init 1 none 0 := ⟨⟨by decide +kernel, by decide +kernel⟩, by decide +kernel, tb_1 (List.mem_of_getElem? (i := 96) rfl), wd_106⟩
set_option maxRecDepth 100000 in
theorem MW_J7_fill_d0a16 : MW yJ7_fill_d0a16 cJ7_fill_d0a16 5 none 2 := ⟨⟨by decide +kernel, by decide +kernel⟩, by decide +kernel, tb_3 (List.mem_of_getElem? (i := 229) rfl), wd_102⟩
set_option maxRecDepth 100000 in
theorem MW_X2_begin : MW yX2_begin cX2_begin 1 none 0 := ⟨⟨by decide +kernel, by decide +kernel⟩, by decide +kernel, tb_3 (List.mem_of_getElem? (i := 226) rfl), wd_106⟩
set_option maxRecDepth 100000 in
theorem MW_X11_within : MW yX11_within cX11_within 3 (some .boolean) 3 := ⟨⟨by decide +kernel, by decide +kernel⟩, by decide +kernel, tb_2 (List.mem_of_getElem? (i := 53) rfl), wd_101⟩
set_option maxRecDepth 100000 in
theorem MW_X2_add : MW yX2_add cX2_add 6 none 3 := ⟨⟨by decide +kernel, by decide +kernel⟩, by decide +kernel, tb_4 (List.mem_of_getElem? (i := 135) rfl), wd_106⟩
set_option maxRecDepth 100000 in
theorem MW_X3_blockOf : MW yX3_blockOf cX3_blockOf 2 (some .int) 1 := ⟨⟨by decide +kernel, by decide +kernel⟩, by decide +kernel, tb_3 (List.mem_of_getElem? (i := 212) rfl), wd_122⟩
set_option maxRecDepth 100000 in
theorem MW_X3_blocks : MW yX3_blocks cX3_blocks 1 (some .int) 0 := ⟨⟨by decide +kernel, by decide +kernel⟩, by decide +kernel, tb_3 (List.mem_of_getElem? (i := 237) rfl), wd_122⟩
set_option maxRecDepth 100000 in
theorem MW_X3_endOf : MW yX3_endOf cX3_endOf 3 (some .int) 1 := ⟨⟨by decide +kernel, by decide +kernel⟩, by decide +kernel, tb_4 (List.mem_of_getElem? (i := 9) rfl), wd_122⟩
set_option maxRecDepth 100000 in
theorem MW_X3_startOf : MW yX3_startOf cX3_startOf 2 (some .int) 1 := ⟨⟨by decide +kernel, by decide +kernel⟩, by decide +kernel, tb_4 (List.mem_of_getElem? (i := 13) rfl), wd_122⟩
set_option maxRecDepth 100000 in
theorem MW_X3_madeFrom : MW yX3_madeFrom cX3_madeFrom 2 (some .int) 1 := ⟨⟨by decide +kernel, by decide +kernel⟩, by decide +kernel, tb_4 (List.mem_of_getElem? (i := 5) rfl), wd_122⟩
set_option maxRecDepth 100000 in
theorem MW_X2_difference : MW yX2_difference cX2_difference 8 (some .long) 2 := ⟨⟨by decide +kernel, by decide +kernel⟩, by decide +kernel, tb_4 (List.mem_of_getElem? (i := 20) rfl), wd_106⟩
set_option maxRecDepth 100000 in
theorem MW_X2_makeLine : MW yX2_makeLine cX2_makeLine 6 none 2 := ⟨⟨by decide +kernel, by decide +kernel⟩, by decide +kernel, tb_4 (List.mem_of_getElem? (i := 24) rfl), wd_106⟩
set_option maxRecDepth 100000 in
theorem MW_X2_makeBlock : MW yX2_makeBlock cX2_makeBlock 6 none 2 := ⟨⟨by decide +kernel, by decide +kernel⟩, by decide +kernel, tb_4 (List.mem_of_getElem? (i := 1) rfl), wd_106⟩
set_option maxRecDepth 100000 in
theorem MW_X2_make : MW yX2_make cX2_make 4 none 1 := ⟨⟨by decide +kernel, by decide +kernel⟩, by decide +kernel, tb_3 (List.mem_of_getElem? (i := 233) rfl), wd_106⟩
set_option maxRecDepth 100000 in
theorem MW_J9_floorDiv_f86c9 : MW yJ9_floorDiv_f86c9 cJ9_floorDiv_f86c9 6 (some .long) 2 := ⟨⟨by decide +kernel, by decide +kernel⟩, by decide +kernel, tb_2 (List.mem_of_getElem? (i := 198) rfl), wd_104⟩
set_option maxRecDepth 100000 in
theorem MW_X11_wholeBy : MW yX11_wholeBy cX11_wholeBy 4 (some .long) 2 := ⟨⟨by decide +kernel, by decide +kernel⟩, by decide +kernel, tb_2 (List.mem_of_getElem? (i := 195) rfl), wd_101⟩
set_option maxRecDepth 100000 in
theorem MW_J9_floorMod_f86c9 : MW yJ9_floorMod_f86c9 cJ9_floorMod_f86c9 6 (some .long) 2 := ⟨⟨by decide +kernel, by decide +kernel⟩, by decide +kernel, tb_2 (List.mem_of_getElem? (i := 208) rfl), wd_104⟩
set_option maxRecDepth 100000 in
theorem MW_X11_restBy : MW yX11_restBy cX11_restBy 4 (some .long) 2 := ⟨⟨by decide +kernel, by decide +kernel⟩, by decide +kernel, tb_2 (List.mem_of_getElem? (i := 205) rfl), wd_101⟩
set_option maxRecDepth 100000 in
theorem MW_X11_rounded : MW yX11_rounded cX11_rounded 9 (some .long) 3 := ⟨⟨by decide +kernel, by decide +kernel⟩, by decide +kernel, tb_2 (List.mem_of_getElem? (i := 215) rfl), wd_101⟩
set_option maxRecDepth 100000 in
theorem MW_X2_keptOf : MW yX2_keptOf cX2_keptOf 3 (some .long) 2 := ⟨⟨by decide +kernel, by decide +kernel⟩, by decide +kernel, tb_4 (List.mem_of_getElem? (i := 170) rfl), wd_106⟩
set_option maxRecDepth 100000 in
theorem MW_X3_isMade : MW yX3_isMade cX3_isMade 2 (some .boolean) 1 := ⟨⟨by decide +kernel, by decide +kernel⟩, by decide +kernel, tb_4 (List.mem_of_getElem? (i := 72) rfl), wd_122⟩
set_option maxRecDepth 100000 in
theorem MW_X2_addsUp : MW yX2_addsUp cX2_addsUp 7 (some .boolean) 2 := ⟨⟨by decide +kernel, by decide +kernel⟩, by decide +kernel, tb_4 (List.mem_of_getElem? (i := 155) rfl), wd_106⟩
set_option maxRecDepth 100000 in
theorem MW_X2_holds : MW yX2_holds cX2_holds 3 (some .boolean) 2 := ⟨⟨by decide +kernel, by decide +kernel⟩, by decide +kernel, tb_4 (List.mem_of_getElem? (i := 151) rfl), wd_106⟩
set_option maxRecDepth 100000 in
theorem MW_X2_failsFrom : MW yX2_failsFrom cX2_failsFrom 6 (some .int) 3 := ⟨⟨by decide +kernel, by decide +kernel⟩, by decide +kernel, tb_4 (List.mem_of_getElem? (i := 147) rfl), wd_106⟩
set_option maxRecDepth 100000 in
theorem MW_X2_failsMoreBy : MW yX2_failsMoreBy cX2_failsMoreBy 8 (some .int) 2 := ⟨⟨by decide +kernel, by decide +kernel⟩, by decide +kernel, tb_4 (List.mem_of_getElem? (i := 210) rfl), wd_106⟩
set_option maxRecDepth 100000 in
theorem MW_X3_init : MW yX3_init cX3_init 4 none 3 := ⟨⟨by decide +kernel, by decide +kernel⟩, by decide +kernel, tb_3 (List.mem_of_getElem? (i := 112) rfl), wd_122⟩
set_option maxRecDepth 100000 in
theorem MW_X5_open : MW yX5_open cX5_open 2 none 1 := ⟨⟨by decide +kernel, by decide +kernel⟩, by decide +kernel, tb_1 (List.mem_of_getElem? (i := 69) rfl), wd_105⟩
set_option maxRecDepth 100000 in
theorem MW_X5_nextSign : MW yX5_nextSign cX5_nextSign 1 (some .int) 0 := ⟨⟨by decide +kernel, by decide +kernel⟩, by decide +kernel, tb_3 (List.mem_of_getElem? (i := 3) rfl), wd_105⟩
set_option maxRecDepth 100000 in
theorem MW_X5_refuse : MW yX5_refuse cX5_refuse 1 none 0 := ⟨⟨by decide +kernel, by decide +kernel⟩, by decide +kernel, tb_3 (List.mem_of_getElem? (i := 10) rfl), wd_105⟩
set_option maxRecDepth 100000 in
theorem MW_X5_demand : MW yX5_demand cX5_demand 2 none 1 := ⟨⟨by decide +kernel, by decide +kernel⟩, by decide +kernel, tb_3 (List.mem_of_getElem? (i := 14) rfl), wd_105⟩
set_option maxRecDepth 100000 in
theorem MW_X5_opensUnit : MW yX5_opensUnit cX5_opensUnit 1 (some .boolean) 1 := ⟨⟨by decide +kernel, by decide +kernel⟩, by decide +kernel, tb_3 (List.mem_of_getElem? (i := 21) rfl), wd_105⟩
set_option maxRecDepth 100000 in
theorem MW_X5_isDigit : MW yX5_isDigit cX5_isDigit 1 (some .boolean) 1 := ⟨⟨by decide +kernel, by decide +kernel⟩, by decide +kernel, tb_3 (List.mem_of_getElem? (i := 36) rfl), wd_105⟩
set_option maxRecDepth 100000 in
theorem MW_X5_number : MW yX5_number cX5_number 4 (some .long) 0 := ⟨⟨by decide +kernel, by decide +kernel⟩, by decide +kernel, tb_3 (List.mem_of_getElem? (i := 40) rfl), wd_105⟩
set_option maxRecDepth 100000 in
theorem MW_X5_accepts : MW yX5_accepts cX5_accepts 2 (some .boolean) 1 := ⟨⟨by decide +kernel, by decide +kernel⟩, by decide +kernel, tb_3 (List.mem_of_getElem? (i := 45) rfl), wd_105⟩
set_option maxRecDepth 100000 in
theorem MW_X5_cut : MW yX5_cut cX5_cut 2 (some .long) 1 := ⟨⟨by decide +kernel, by decide +kernel⟩, by decide +kernel, tb_3 (List.mem_of_getElem? (i := 48) rfl), wd_105⟩
set_option maxRecDepth 100000 in
theorem MW_X5_quotient : MW yX5_quotient cX5_quotient 4 (some .long) 2 := ⟨⟨by decide +kernel, by decide +kernel⟩, by decide +kernel, tb_3 (List.mem_of_getElem? (i := 59) rfl), wd_105⟩
set_option maxRecDepth 100000 in
theorem MW_X5_remainder : MW yX5_remainder cX5_remainder 4 (some .long) 2 := ⟨⟨by decide +kernel, by decide +kernel⟩, by decide +kernel, tb_3 (List.mem_of_getElem? (i := 62) rfl), wd_105⟩
set_option maxRecDepth 100000 in
theorem MW_X5_atom : MW yX5_atom cX5_atom 5 (some .long) 1 := ⟨⟨by decide +kernel, by decide +kernel⟩, by decide +kernel, tb_3 (List.mem_of_getElem? (i := 33) rfl), wd_105⟩
set_option maxRecDepth 100000 in
theorem MW_X5_sum : MW yX5_sum cX5_sum 5 (some .long) 1 := ⟨⟨by decide +kernel, by decide +kernel⟩, by decide +kernel, tb_3 (List.mem_of_getElem? (i := 25) rfl), wd_105⟩
set_option maxRecDepth 100000 in
theorem MW_X5_term : MW yX5_term cX5_term 5 (some .long) 1 := ⟨⟨by decide +kernel, by decide +kernel⟩, by decide +kernel, tb_3 (List.mem_of_getElem? (i := 29) rfl), wd_105⟩
set_option maxRecDepth 100000 in
theorem MW_X5_compares : MW yX5_compares cX5_compares 1 (some .boolean) 1 := ⟨⟨by decide +kernel, by decide +kernel⟩, by decide +kernel, tb_3 (List.mem_of_getElem? (i := 65) rfl), wd_105⟩
set_option maxRecDepth 100000 in
theorem MW_X5_demandComparing : MW yX5_demandComparing cX5_demandComparing 2 (some .int) 0 := ⟨⟨by decide +kernel, by decide +kernel⟩, by decide +kernel, tb_3 (List.mem_of_getElem? (i := 77) rfl), wd_105⟩
set_option maxRecDepth 100000 in
theorem MW_X5_compared : MW yX5_compared cX5_compared 5 (some .boolean) 3 := ⟨⟨by decide +kernel, by decide +kernel⟩, by decide +kernel, tb_3 (List.mem_of_getElem? (i := 80) rfl), wd_105⟩
set_option maxRecDepth 100000 in
theorem MW_X5_condition : MW yX5_condition cX5_condition 6 (some .boolean) 1 := ⟨⟨by decide +kernel, by decide +kernel⟩, by decide +kernel, tb_3 (List.mem_of_getElem? (i := 69) rfl), wd_105⟩
set_option maxRecDepth 100000 in
theorem MW_X5_negated : MW yX5_negated cX5_negated 2 (some .boolean) 1 := ⟨⟨by decide +kernel, by decide +kernel⟩, by decide +kernel, tb_3 (List.mem_of_getElem? (i := 84) rfl), wd_105⟩
set_option maxRecDepth 100000 in
theorem MW_X5_parenthesised : MW yX5_parenthesised cX5_parenthesised 3 (some .boolean) 1 := ⟨⟨by decide +kernel, by decide +kernel⟩, by decide +kernel, tb_3 (List.mem_of_getElem? (i := 88) rfl), wd_105⟩
set_option maxRecDepth 100000 in
theorem MW_X5_unit : MW yX5_unit cX5_unit 7 (some .boolean) 1 := ⟨⟨by decide +kernel, by decide +kernel⟩, by decide +kernel, tb_3 (List.mem_of_getElem? (i := 73) rfl), wd_105⟩
set_option maxRecDepth 100000 in
theorem MW_X5_readsClause : MW yX5_readsClause cX5_readsClause 3 (some .boolean) 0 := ⟨⟨by decide +kernel, by decide +kernel⟩, by decide +kernel, tb_3 (List.mem_of_getElem? (i := 18) rfl), wd_105⟩
set_option maxRecDepth 100000 in
theorem MW_X5_toNextClause : MW yX5_toNextClause cX5_toNextClause 1 none 0 := ⟨⟨by decide +kernel, by decide +kernel⟩, by decide +kernel, tb_3 (List.mem_of_getElem? (i := 199) rfl), wd_105⟩
set_option maxRecDepth 100000 in
theorem MW_X5_worthOf : MW yX5_worthOf cX5_worthOf 8 (some .int) 5 := ⟨⟨by decide +kernel, by decide +kernel⟩, by decide +kernel, tb_3 (List.mem_of_getElem? (i := 195) rfl), wd_105⟩
set_option maxRecDepth 100000 in
theorem MW_X3_xOf : MW yX3_xOf cX3_xOf 2 (some .int) 1 := ⟨⟨by decide +kernel, by decide +kernel⟩, by decide +kernel, tb_3 (List.mem_of_getElem? (i := 204) rfl), wd_122⟩
set_option maxRecDepth 100000 in
theorem MW_X3_followsHead : MW yX3_followsHead cX3_followsHead 3 (some .boolean) 2 := ⟨⟨by decide +kernel, by decide +kernel⟩, by decide +kernel, tb_3 (List.mem_of_getElem? (i := 191) rfl), wd_122⟩
set_option maxRecDepth 100000 in
theorem MW_X11_isHand : MW yX11_isHand cX11_isHand 1 (some .boolean) 1 := ⟨⟨by decide +kernel, by decide +kernel⟩, by decide +kernel, tb_3 (List.mem_of_getElem? (i := 215) rfl), wd_101⟩
set_option maxRecDepth 100000 in
theorem MW_X3_followsLines : MW yX3_followsLines cX3_followsLines 6 (some .boolean) 2 := ⟨⟨by decide +kernel, by decide +kernel⟩, by decide +kernel, tb_3 (List.mem_of_getElem? (i := 208) rfl), wd_122⟩
set_option maxRecDepth 100000 in
theorem MW_X11_unitOf : MW yX11_unitOf cX11_unitOf 1 (some .long) 1 := ⟨⟨by decide +kernel, by decide +kernel⟩, by decide +kernel, tb_2 (List.mem_of_getElem? (i := 190) rfl), wd_101⟩
set_option maxRecDepth 100000 in
theorem MW_X3_reckon : MW yX3_reckon cX3_reckon 5 none 1 := ⟨⟨by decide +kernel, by decide +kernel⟩, by decide +kernel, tb_3 (List.mem_of_getElem? (i := 219) rfl), wd_122⟩
set_option maxRecDepth 100000 in
theorem MW_X3_pivots : MW yX3_pivots cX3_pivots 3 (some .int) 0 := ⟨⟨by decide +kernel, by decide +kernel⟩, by decide +kernel, tb_4 (List.mem_of_getElem? (i := 43) rfl), wd_122⟩
set_option maxRecDepth 100000 in
theorem MW_X3_told : MW yX3_told cX3_told 2 (some .int) 1 := ⟨⟨by decide +kernel, by decide +kernel⟩, by decide +kernel, tb_4 (List.mem_of_getElem? (i := 38) rfl), wd_122⟩
set_option maxRecDepth 100000 in
theorem MW_X3_toldOf : MW yX3_toldOf cX3_toldOf 3 (some .int) 2 := ⟨⟨by decide +kernel, by decide +kernel⟩, by decide +kernel, tb_4 (List.mem_of_getElem? (i := 60) rfl), wd_122⟩
set_option maxRecDepth 100000 in
theorem MW_X3_hasLine : MW yX3_hasLine cX3_hasLine 2 (some .boolean) 1 := ⟨⟨by decide +kernel, by decide +kernel⟩, by decide +kernel, tb_4 (List.mem_of_getElem? (i := 56) rfl), wd_122⟩
set_option maxRecDepth 100000 in
theorem MW_X3_canSlip : MW yX3_canSlip cX3_canSlip 3 (some .boolean) 2 := ⟨⟨by decide +kernel, by decide +kernel⟩, by decide +kernel, tb_4 (List.mem_of_getElem? (i := 68) rfl), wd_122⟩
set_option maxRecDepth 100000 in
theorem MW_X3_hasColumn : MW yX3_hasColumn cX3_hasColumn 4 (some .boolean) 2 := ⟨⟨by decide +kernel, by decide +kernel⟩, by decide +kernel, tb_6 (List.mem_of_getElem? (i := 121) rfl), wd_122⟩
set_option maxRecDepth 100000 in
theorem MW_X11_choose : MW yX11_choose cX11_choose 5 (some .long) 2 := ⟨⟨by decide +kernel, by decide +kernel⟩, by decide +kernel, tb_4 (List.mem_of_getElem? (i := 183) rfl), wd_101⟩
set_option maxRecDepth 100000 in
theorem MW_X3_boundOf : MW yX3_boundOf cX3_boundOf 6 (some .long) 1 := ⟨⟨by decide +kernel, by decide +kernel⟩, by decide +kernel, tb_4 (List.mem_of_getElem? (i := 180) rfl), wd_122⟩
set_option maxRecDepth 100000 in
theorem MW_X3_isSet : MW yX3_isSet cX3_isSet 1 (some .boolean) 0 := ⟨⟨by decide +kernel, by decide +kernel⟩, by decide +kernel, tb_5 (List.mem_of_getElem? (i := 82) rfl), wd_122⟩
set_option maxRecDepth 100000 in
theorem MW_X3_setEmpty : MW yX3_setEmpty cX3_setEmpty 1 none 0 := ⟨⟨by decide +kernel, by decide +kernel⟩, by decide +kernel, tb_5 (List.mem_of_getElem? (i := 65) rfl), wd_122⟩
set_option maxRecDepth 100000 in
theorem MW_X3_setLine : MW yX3_setLine cX3_setLine 4 none 2 := ⟨⟨by decide +kernel, by decide +kernel⟩, by decide +kernel, tb_5 (List.mem_of_getElem? (i := 70) rfl), wd_122⟩
set_option maxRecDepth 100000 in
theorem MW_X3_pressedAt : MW yX3_pressedAt cX3_pressedAt 3 (some .long) 2 := ⟨⟨by decide +kernel, by decide +kernel⟩, by decide +kernel, tb_5 (List.mem_of_getElem? (i := 59) rfl), wd_122⟩
set_option maxRecDepth 100000 in
theorem MW_X3_isPressed : MW yX3_isPressed cX3_isPressed 3 (some .boolean) 2 := ⟨⟨by decide +kernel, by decide +kernel⟩, by decide +kernel, tb_5 (List.mem_of_getElem? (i := 55) rfl), wd_122⟩
set_option maxRecDepth 100000 in
theorem MW_X3_pressFigure : MW yX3_pressFigure cX3_pressFigure 6 none 3 := ⟨⟨by decide +kernel, by decide +kernel⟩, by decide +kernel, tb_5 (List.mem_of_getElem? (i := 87) rfl), wd_122⟩
set_option maxRecDepth 100000 in
theorem MW_X3_pressSlips : MW yX3_pressSlips cX3_pressSlips 4 (some .int) 0 := ⟨⟨by decide +kernel, by decide +kernel⟩, by decide +kernel, tb_5 (List.mem_of_getElem? (i := 51) rfl), wd_122⟩
set_option maxRecDepth 100000 in
theorem MW_X3_printedOf : MW yX3_printedOf cX3_printedOf 7 (some .long) 1 := ⟨⟨by decide +kernel, by decide +kernel⟩, by decide +kernel, tb_5 (List.mem_of_getElem? (i := 96) rfl), wd_122⟩
set_option maxRecDepth 100000 in
theorem MW_X4_init : MW yX4_init cX4_init 1 none 0 := ⟨⟨by decide +kernel, by decide +kernel⟩, by decide +kernel, tb_1 (List.mem_of_getElem? (i := 160) rfl), wd_108⟩
set_option maxRecDepth 100000 in
theorem MW_X4_reckon : MW yX4_reckon cX4_reckon 11 none 6 := ⟨⟨by decide +kernel, by decide +kernel⟩, by decide +kernel, tb_5 (List.mem_of_getElem? (i := 229) rfl), wd_108⟩
set_option maxRecDepth 100000 in
theorem MW_J7_fill_53178 : MW yJ7_fill_53178 cJ7_fill_53178 4 none 2 := ⟨⟨by decide +kernel, by decide +kernel⟩, by decide +kernel, tb_1 (List.mem_of_getElem? (i := 37) rfl), wd_102⟩
set_option maxRecDepth 100000 in
theorem MW_X4_pivotsOf : MW yX4_pivotsOf cX4_pivotsOf 3 (some .int) 2 := ⟨⟨by decide +kernel, by decide +kernel⟩, by decide +kernel, tb_6 (List.mem_of_getElem? (i := 3) rfl), wd_108⟩
set_option maxRecDepth 100000 in
theorem MW_X4_nextMade : MW yX4_nextMade cX4_nextMade 3 (some .long) 1 := ⟨⟨by decide +kernel, by decide +kernel⟩, by decide +kernel, tb_6 (List.mem_of_getElem? (i := 16) rfl), wd_108⟩
set_option maxRecDepth 100000 in
theorem MW_X4_takePivot : MW yX4_takePivot cX4_takePivot 9 none 2 := ⟨⟨by decide +kernel, by decide +kernel⟩, by decide +kernel, tb_6 (List.mem_of_getElem? (i := 20) rfl), wd_108⟩
set_option maxRecDepth 100000 in
theorem MW_X4_reachOf : MW yX4_reachOf cX4_reachOf 9 (some .int) 3 := ⟨⟨by decide +kernel, by decide +kernel⟩, by decide +kernel, tb_6 (List.mem_of_getElem? (i := 11) rfl), wd_108⟩
set_option maxRecDepth 100000 in
theorem MW_X4_keepsAll : MW yX4_keepsAll cX4_keepsAll 5 (some .boolean) 3 := ⟨⟨by decide +kernel, by decide +kernel⟩, by decide +kernel, tb_6 (List.mem_of_getElem? (i := 7) rfl), wd_108⟩
set_option maxRecDepth 100000 in
theorem MW_X4_findsOne : MW yX4_findsOne cX4_findsOne 7 (some .boolean) 1 := ⟨⟨by decide +kernel, by decide +kernel⟩, by decide +kernel, tb_5 (List.mem_of_getElem? (i := 237) rfl), wd_108⟩
set_option maxRecDepth 100000 in
theorem MW_X10_init : MW yX10_init cX10_init 2 none 1 := ⟨⟨by decide +kernel, by decide +kernel⟩, by decide +kernel, tb_1 (List.mem_of_getElem? (i := 42) rfl), wd_103⟩
set_option maxRecDepth 100000 in
theorem MW_X5_init : MW yX5_init cX5_init 1 none 0 := ⟨⟨by decide +kernel, by decide +kernel⟩, by decide +kernel, tb_1 (List.mem_of_getElem? (i := 62) rfl), wd_105⟩
set_option maxRecDepth 100000 in
theorem MW_X11_isLabel : MW yX11_isLabel cX11_isLabel 1 (some .boolean) 1 := ⟨⟨by decide +kernel, by decide +kernel⟩, by decide +kernel, tb_3 (List.mem_of_getElem? (i := 6) rfl), wd_101⟩
set_option maxRecDepth 100000 in
theorem MW_X5_faultIn : MW yX5_faultIn cX5_faultIn 4 (some .int) 1 := ⟨⟨by decide +kernel, by decide +kernel⟩, by decide +kernel, tb_2 (List.mem_of_getElem? (i := 239) rfl), wd_105⟩
set_option maxRecDepth 100000 in
theorem MW_X6_init : MW yX6_init cX6_init 1 none 0 := ⟨⟨by decide +kernel, by decide +kernel⟩, by decide +kernel, tb_1 (List.mem_of_getElem? (i := 115) rfl), wd_107⟩
set_option maxRecDepth 100000 in
theorem MW_X6_addTo : MW yX6_addTo cX6_addTo 8 none 3 := ⟨⟨by decide +kernel, by decide +kernel⟩, by decide +kernel, tb_5 (List.mem_of_getElem? (i := 16) rfl), wd_107⟩
set_option maxRecDepth 100000 in
theorem MW_X6_keep : MW yX6_keep cX6_keep 3 none 1 := ⟨⟨by decide +kernel, by decide +kernel⟩, by decide +kernel, tb_5 (List.mem_of_getElem? (i := 8) rfl), wd_107⟩
set_option maxRecDepth 100000 in
theorem MW_X6_blame : MW yX6_blame cX6_blame 8 none 2 := ⟨⟨by decide +kernel, by decide +kernel⟩, by decide +kernel, tb_5 (List.mem_of_getElem? (i := 12) rfl), wd_107⟩
set_option maxRecDepth 100000 in
theorem MW_X6_seek : MW yX6_seek cX6_seek 4 none 2 := ⟨⟨by decide +kernel, by decide +kernel⟩, by decide +kernel, tb_5 (List.mem_of_getElem? (i := 4) rfl), wd_107⟩
set_option maxRecDepth 100000 in
theorem MW_X6_explains : MW yX6_explains cX6_explains 6 (some .boolean) 3 := ⟨⟨by decide +kernel, by decide +kernel⟩, by decide +kernel, tb_4 (List.mem_of_getElem? (i := 237) rfl), wd_107⟩
set_option maxRecDepth 100000 in
theorem MW_X7_init : MW yX7_init cX7_init 2 none 1 := ⟨⟨by decide +kernel, by decide +kernel⟩, by decide +kernel, tb_5 (List.mem_of_getElem? (i := 179) rfl), wd_126⟩
set_option maxRecDepth 100000 in
theorem MW_X7_cut : MW yX7_cut cX7_cut 2 (some .long) 1 := ⟨⟨by decide +kernel, by decide +kernel⟩, by decide +kernel, tb_5 (List.mem_of_getElem? (i := 206) rfl), wd_126⟩
set_option maxRecDepth 100000 in
theorem MW_X8_init : MW yX8_init cX8_init 6 none 5 := ⟨⟨by decide +kernel, by decide +kernel⟩, by decide +kernel, tb_4 (List.mem_of_getElem? (i := 79) rfl), wd_123⟩
set_option maxRecDepth 100000 in
theorem MW_X8_isMendedBy : MW yX8_isMendedBy cX8_isMendedBy 2 (some .boolean) 1 := ⟨⟨by decide +kernel, by decide +kernel⟩, by decide +kernel, tb_4 (List.mem_of_getElem? (i := 131) rfl), wd_123⟩
set_option maxRecDepth 100000 in
theorem MW_X8_isKnownIn : MW yX8_isKnownIn cX8_isKnownIn 2 (some .boolean) 1 := ⟨⟨by decide +kernel, by decide +kernel⟩, by decide +kernel, tb_4 (List.mem_of_getElem? (i := 127) rfl), wd_123⟩
set_option maxRecDepth 100000 in
theorem MW_X9_init : MW yX9_init cX9_init 2 none 1 := ⟨⟨by decide +kernel, by decide +kernel⟩, by decide +kernel, tb_5 (List.mem_of_getElem? (i := 108) rfl), wd_124⟩
set_option maxRecDepth 100000 in
theorem MW_X10_addBytes : MW yX10_addBytes cX10_addBytes 4 none 1 := ⟨⟨by decide +kernel, by decide +kernel⟩, by decide +kernel, tb_2 (List.mem_of_getElem? (i := 227) rfl), wd_103⟩
set_option maxRecDepth 100000 in
theorem MW_X10_twin : MW yX10_twin cX10_twin 2 (some (.object "FigureHouse$Text")) 0 := ⟨⟨by decide +kernel, by decide +kernel⟩, by decide +kernel, tb_3 (List.mem_of_getElem? (i := 96) rfl), wd_103⟩
set_option maxRecDepth 100000 in
theorem MW_Jxa1e45_init_da8c8 : MW yJxa1e45_init_da8c8 cJxa1e45_init_da8c8 1 none 0 := ⟨⟨by decide +kernel, by decide +kernel⟩, by decide +kernel, tb_1 (List.mem_of_getElem? (i := 210) rfl), wd_109⟩
set_option maxRecDepth 100000 in
theorem MW_Jxc12de_init_da8c8 : MW yJxc12de_init_da8c8 cJxc12de_init_da8c8 1 none 0 := ⟨⟨by decide +kernel, by decide +kernel⟩, by decide +kernel, tb_1 (List.mem_of_getElem? (i := 207) rfl), wd_110⟩
set_option maxRecDepth 100000 in
theorem MW_Jx4a65c_init_da8c8 : MW yJx4a65c_init_da8c8 cJx4a65c_init_da8c8 1 none 0 := ⟨⟨by decide +kernel, by decide +kernel⟩, by decide +kernel, tb_1 (List.mem_of_getElem? (i := 204) rfl), wd_111⟩
set_option maxRecDepth 100000 in
theorem MW_X11_init : MW yX11_init cX11_init 1 none 0 := ⟨⟨by decide +kernel, by decide +kernel⟩, by decide +kernel, tb_1 (List.mem_of_getElem? (i := 31) rfl), wd_101⟩
set_option maxRecDepth 100000 in
theorem MW_X11_days : MW yX11_days cX11_days 2 (some .int) 1 := ⟨⟨by decide +kernel, by decide +kernel⟩, by decide +kernel, tb_2 (List.mem_of_getElem? (i := 50) rfl), wd_101⟩
set_option maxRecDepth 100000 in
theorem MW_X11_isDay : MW yX11_isDay cX11_isDay 2 (some .boolean) 1 := ⟨⟨by decide +kernel, by decide +kernel⟩, by decide +kernel, tb_2 (List.mem_of_getElem? (i := 61) rfl), wd_101⟩
set_option maxRecDepth 100000 in
theorem MW_X11_as : MW yX11_as cX11_as 2 (some .boolean) 1 := ⟨⟨by decide +kernel, by decide +kernel⟩, by decide +kernel, tb_2 (List.mem_of_getElem? (i := 57) rfl), wd_101⟩
set_option maxRecDepth 100000 in
theorem MW_X11_known : MW yX11_known cX11_known 1 (some .int) 0 := ⟨⟨by decide +kernel, by decide +kernel⟩, by decide +kernel, tb_2 (List.mem_of_getElem? (i := 65) rfl), wd_101⟩
set_option maxRecDepth 100000 in
theorem MW_Jx4a65c_size_8abf5 : MW yJx4a65c_size_8abf5 cJx4a65c_size_8abf5 1 (some .int) 0 := ⟨⟨by decide +kernel, by decide +kernel⟩, by decide +kernel, tb_2 (List.mem_of_getElem? (i := 73) rfl), wd_111⟩
set_option maxRecDepth 100000 in
theorem MW_J8_hugeLength_7cf53 : MW yJ8_hugeLength_7cf53 cJ8_hugeLength_7cf53 3 (some .int) 2 := ⟨⟨by decide +kernel, by decide +kernel⟩, by decide +kernel, tb_2 (List.mem_of_getElem? (i := 113) rfl), wd_114⟩
set_option maxRecDepth 100000 in
theorem MW_J8_newLength_cabcc : MW yJ8_newLength_cabcc cJ8_newLength_cabcc 4 (some .int) 3 := ⟨⟨by decide +kernel, by decide +kernel⟩, by decide +kernel, tb_2 (List.mem_of_getElem? (i := 108) rfl), wd_114⟩
set_option maxRecDepth 100000 in
theorem MW_Jx4a65c_add_72be8 : MW yJx4a65c_add_72be8 cJx4a65c_add_72be8 4 none 3 := ⟨⟨by decide +kernel, by decide +kernel⟩, by decide +kernel, tb_2 (List.mem_of_getElem? (i := 97) rfl), wd_111⟩
set_option maxRecDepth 100000 in
theorem MW_Jx4a65c_add_9ea2d : MW yJx4a65c_add_9ea2d cJx4a65c_add_9ea2d 2 (some .boolean) 1 := ⟨⟨by decide +kernel, by decide +kernel⟩, by decide +kernel, tb_2 (List.mem_of_getElem? (i := 93) rfl), wd_111⟩
set_option maxRecDepth 100000 in
theorem MW_X11_function : MW yX11_function cX11_function 4 (some .int) 3 := ⟨⟨by decide +kernel, by decide +kernel⟩, by decide +kernel, tb_2 (List.mem_of_getElem? (i := 69) rfl), wd_101⟩
set_option maxRecDepth 100000 in
theorem MW_J3_checkIndex_8e157 : MW yJ3_checkIndex_8e157 cJ3_checkIndex_8e157 3 (some .int) 3 := ⟨⟨by decide +kernel, by decide +kernel⟩, by decide +kernel, tb_2 (List.mem_of_getElem? (i := 167) rfl), wd_117⟩
set_option maxRecDepth 100000 in
theorem MW_J15_checkIndex_7cf53 : MW yJ15_checkIndex_7cf53 cJ15_checkIndex_7cf53 2 (some .int) 2 := ⟨⟨by decide +kernel, by decide +kernel⟩, by decide +kernel, tb_2 (List.mem_of_getElem? (i := 164) rfl), wd_116⟩
set_option maxRecDepth 100000 in
theorem MW_Jx4a65c_elementData_915e3 : MW yJx4a65c_elementData_915e3 cJx4a65c_elementData_915e3 2 (some (.object "java/lang/Object")) 1 := ⟨⟨by decide +kernel, by decide +kernel⟩, by decide +kernel, tb_2 (List.mem_of_getElem? (i := 171) rfl), wd_111⟩
set_option maxRecDepth 100000 in
theorem MW_Jx4a65c_get_915e3 : MW yJx4a65c_get_915e3 cJx4a65c_get_915e3 2 (some (.object "java/lang/Object")) 1 := ⟨⟨by decide +kernel, by decide +kernel⟩, by decide +kernel, tb_2 (List.mem_of_getElem? (i := 161) rfl), wd_111⟩
set_option maxRecDepth 100000 in
theorem MW_X11_curveAt : MW yX11_curveAt cX11_curveAt 5 (some (.object "FigureHouse$Curve")) 3 := ⟨⟨by decide +kernel, by decide +kernel⟩, by decide +kernel, tb_2 (List.mem_of_getElem? (i := 157) rfl), wd_101⟩
set_option maxRecDepth 100000 in
theorem MW_X11_exact : MW yX11_exact cX11_exact 5 (some .long) 3 := ⟨⟨by decide +kernel, by decide +kernel⟩, by decide +kernel, tb_2 (List.mem_of_getElem? (i := 153) rfl), wd_101⟩
set_option maxRecDepth 100000 in
theorem MW_X11_whole : MW yX11_whole cX11_whole 5 (some .int) 3 := ⟨⟨by decide +kernel, by decide +kernel⟩, by decide +kernel, tb_2 (List.mem_of_getElem? (i := 202) rfl), wd_101⟩
set_option maxRecDepth 100000 in
theorem MW_X11_nearest : MW yX11_nearest cX11_nearest 5 (some .long) 3 := ⟨⟨by decide +kernel, by decide +kernel⟩, by decide +kernel, tb_2 (List.mem_of_getElem? (i := 212) rfl), wd_101⟩
set_option maxRecDepth 100000 in
theorem MW_X11_bytesIn : MW yX11_bytesIn cX11_bytesIn 3 (some .int) 1 := ⟨⟨by decide +kernel, by decide +kernel⟩, by decide +kernel, tb_2 (List.mem_of_getElem? (i := 223) rfl), wd_101⟩
set_option maxRecDepth 100000 in
theorem MW_X11_feed : MW yX11_feed cX11_feed 7 (some .int) 5 := ⟨⟨by decide +kernel, by decide +kernel⟩, by decide +kernel, tb_2 (List.mem_of_getElem? (i := 220) rfl), wd_101⟩
set_option maxRecDepth 100000 in
theorem MW_X11_end : MW yX11_end cX11_end 2 (some .boolean) 1 := ⟨⟨by decide +kernel, by decide +kernel⟩, by decide +kernel, tb_2 (List.mem_of_getElem? (i := 231) rfl), wd_101⟩
set_option maxRecDepth 100000 in
theorem MW_X11_fault : MW yX11_fault cX11_fault 1 (some .int) 0 := ⟨⟨by decide +kernel, by decide +kernel⟩, by decide +kernel, tb_2 (List.mem_of_getElem? (i := 235) rfl), wd_101⟩
set_option maxRecDepth 100000 in
theorem MW_X11_plan : MW yX11_plan cX11_plan 1 (some .int) 0 := ⟨⟨by decide +kernel, by decide +kernel⟩, by decide +kernel, tb_3 (List.mem_of_getElem? (i := 92) rfl), wd_101⟩
set_option maxRecDepth 100000 in
theorem MW_X11_planAt : MW yX11_planAt cX11_planAt 2 (some (.object "FigureHouse$Text")) 1 := ⟨⟨by decide +kernel, by decide +kernel⟩, by decide +kernel, tb_3 (List.mem_of_getElem? (i := 107) rfl), wd_101⟩
set_option maxRecDepth 100000 in
theorem MW_X11_worth : MW yX11_worth cX11_worth 7 (some .int) 5 := ⟨⟨by decide +kernel, by decide +kernel⟩, by decide +kernel, tb_6 (List.mem_of_getElem? (i := 40) rfl), wd_101⟩
set_option maxRecDepth 100000 in
theorem MW_X11_page : MW yX11_page cX11_page 7 (some .int) 4 := ⟨⟨by decide +kernel, by decide +kernel⟩, by decide +kernel, tb_3 (List.mem_of_getElem? (i := 103) rfl), wd_101⟩
set_option maxRecDepth 100000 in
theorem MW_X11_pageAt : MW yX11_pageAt cX11_pageAt 2 (some (.object "FigureHouse$Page")) 1 := ⟨⟨by decide +kernel, by decide +kernel⟩, by decide +kernel, tb_4 (List.mem_of_getElem? (i := 34) rfl), wd_101⟩
set_option maxRecDepth 100000 in
theorem MW_X11_paged : MW yX11_paged cX11_paged 4 (some .int) 2 := ⟨⟨by decide +kernel, by decide +kernel⟩, by decide +kernel, tb_4 (List.mem_of_getElem? (i := 30) rfl), wd_101⟩
set_option maxRecDepth 100000 in
theorem MW_X11_pageWith : MW yX11_pageWith cX11_pageWith 4 (some (.object "FigureHouse$Page")) 2 := ⟨⟨by decide +kernel, by decide +kernel⟩, by decide +kernel, tb_4 (List.mem_of_getElem? (i := 52) rfl), wd_101⟩
set_option maxRecDepth 100000 in
theorem MW_X11_lined : MW yX11_lined cX11_lined 5 (some .int) 3 := ⟨⟨by decide +kernel, by decide +kernel⟩, by decide +kernel, tb_4 (List.mem_of_getElem? (i := 48) rfl), wd_101⟩
set_option maxRecDepth 100000 in
theorem MW_X11_trueOf : MW yX11_trueOf cX11_trueOf 4 (some .long) 2 := ⟨⟨by decide +kernel, by decide +kernel⟩, by decide +kernel, tb_6 (List.mem_of_getElem? (i := 110) rfl), wd_101⟩
set_option maxRecDepth 100000 in
theorem MW_X11_madePage : MW yX11_madePage cX11_madePage 6 (some (.object "FigureHouse$Page")) 2 := ⟨⟨by decide +kernel, by decide +kernel⟩, by decide +kernel, tb_4 (List.mem_of_getElem? (i := 123) rfl), wd_101⟩
set_option maxRecDepth 100000 in
theorem MW_X11_madeWith : MW yX11_madeWith cX11_madeWith 4 (some (.object "FigureHouse$Page")) 3 := ⟨⟨by decide +kernel, by decide +kernel⟩, by decide +kernel, tb_4 (List.mem_of_getElem? (i := 119) rfl), wd_101⟩
set_option maxRecDepth 100000 in
theorem MW_X11_figure : MW yX11_figure cX11_figure 6 (some .long) 4 := ⟨⟨by decide +kernel, by decide +kernel⟩, by decide +kernel, tb_6 (List.mem_of_getElem? (i := 117) rfl), wd_101⟩
set_option maxRecDepth 100000 in
theorem MW_X11_slip : MW yX11_slip cX11_slip 6 (some .int) 4 := ⟨⟨by decide +kernel, by decide +kernel⟩, by decide +kernel, tb_4 (List.mem_of_getElem? (i := 64) rfl), wd_101⟩
set_option maxRecDepth 100000 in
theorem MW_X11_mend : MW yX11_mend cX11_mend 2 (some .boolean) 1 := ⟨⟨by decide +kernel, by decide +kernel⟩, by decide +kernel, tb_4 (List.mem_of_getElem? (i := 111) rfl), wd_101⟩
set_option maxRecDepth 100000 in
theorem MW_X11_wasMended : MW yX11_wasMended cX11_wasMended 6 (some .boolean) 3 := ⟨⟨by decide +kernel, by decide +kernel⟩, by decide +kernel, tb_4 (List.mem_of_getElem? (i := 139) rfl), wd_101⟩
set_option maxRecDepth 100000 in
theorem MW_X11_kind : MW yX11_kind cX11_kind 6 (some .int) 3 := ⟨⟨by decide +kernel, by decide +kernel⟩, by decide +kernel, tb_4 (List.mem_of_getElem? (i := 115) rfl), wd_101⟩
set_option maxRecDepth 100000 in
theorem MW_X11_kept : MW yX11_kept cX11_kept 5 (some .long) 3 := ⟨⟨by decide +kernel, by decide +kernel⟩, by decide +kernel, tb_6 (List.mem_of_getElem? (i := 128) rfl), wd_101⟩
set_option maxRecDepth 100000 in
theorem MW_X11_right : MW yX11_right cX11_right 4 (some .long) 2 := ⟨⟨by decide +kernel, by decide +kernel⟩, by decide +kernel, tb_6 (List.mem_of_getElem? (i := 135) rfl), wd_101⟩
set_option maxRecDepth 100000 in
theorem MW_X11_wrong : MW yX11_wrong cX11_wrong 6 (some .int) 2 := ⟨⟨by decide +kernel, by decide +kernel⟩, by decide +kernel, tb_4 (List.mem_of_getElem? (i := 166) rfl), wd_101⟩
set_option maxRecDepth 100000 in
theorem MW_X11_stray : MW yX11_stray cX11_stray 4 (some .long) 2 := ⟨⟨by decide +kernel, by decide +kernel⟩, by decide +kernel, tb_6 (List.mem_of_getElem? (i := 142) rfl), wd_101⟩
set_option maxRecDepth 100000 in
theorem MW_X11_bound : MW yX11_bound cX11_bound 4 (some .long) 2 := ⟨⟨by decide +kernel, by decide +kernel⟩, by decide +kernel, tb_4 (List.mem_of_getElem? (i := 176) rfl), wd_101⟩
set_option maxRecDepth 100000 in
theorem MW_X11_drift : MW yX11_drift cX11_drift 2 (some .boolean) 1 := ⟨⟨by decide +kernel, by decide +kernel⟩, by decide +kernel, tb_4 (List.mem_of_getElem? (i := 188) rfl), wd_101⟩
set_option maxRecDepth 100000 in
theorem MW_X11_safe : MW yX11_safe cX11_safe 8 (some .int) 2 := ⟨⟨by decide +kernel, by decide +kernel⟩, by decide +kernel, tb_4 (List.mem_of_getElem? (i := 192) rfl), wd_101⟩
set_option maxRecDepth 100000 in
theorem MW_X11_check : MW yX11_check cX11_check 5 (some .int) 3 := ⟨⟨by decide +kernel, by decide +kernel⟩, by decide +kernel, tb_4 (List.mem_of_getElem? (i := 197) rfl), wd_101⟩
set_option maxRecDepth 100000 in
theorem MW_X11_fails : MW yX11_fails cX11_fails 4 (some .int) 2 := ⟨⟨by decide +kernel, by decide +kernel⟩, by decide +kernel, tb_4 (List.mem_of_getElem? (i := 202) rfl), wd_101⟩
set_option maxRecDepth 100000 in
theorem MW_X11_unseen : MW yX11_unseen cX11_unseen 8 (some .int) 2 := ⟨⟨by decide +kernel, by decide +kernel⟩, by decide +kernel, tb_4 (List.mem_of_getElem? (i := 206) rfl), wd_101⟩
set_option maxRecDepth 100000 in
theorem MW_X11_firstSlipped : MW yX11_firstSlipped cX11_firstSlipped 8 (some .int) 4 := ⟨⟨by decide +kernel, by decide +kernel⟩, by decide +kernel, tb_4 (List.mem_of_getElem? (i := 221) rfl), wd_101⟩
set_option maxRecDepth 100000 in
theorem MW_X11_healed : MW yX11_healed cX11_healed 8 (some .int) 2 := ⟨⟨by decide +kernel, by decide +kernel⟩, by decide +kernel, tb_4 (List.mem_of_getElem? (i := 216) rfl), wd_101⟩
set_option maxRecDepth 100000 in
theorem MW_X11_spread : MW yX11_spread cX11_spread 5 (some .int) 3 := ⟨⟨by decide +kernel, by decide +kernel⟩, by decide +kernel, tb_4 (List.mem_of_getElem? (i := 225) rfl), wd_101⟩
set_option maxRecDepth 100000 in
theorem MW_X11_isExplained : MW yX11_isExplained cX11_isExplained 5 (some .boolean) 3 := ⟨⟨by decide +kernel, by decide +kernel⟩, by decide +kernel, tb_4 (List.mem_of_getElem? (i := 233) rfl), wd_101⟩
set_option maxRecDepth 100000 in
theorem MW_X11_least : MW yX11_least cX11_least 4 (some .int) 3 := ⟨⟨by decide +kernel, by decide +kernel⟩, by decide +kernel, tb_4 (List.mem_of_getElem? (i := 229) rfl), wd_101⟩
set_option maxRecDepth 100000 in
theorem MW_X11_ways : MW yX11_ways cX11_ways 4 (some .int) 3 := ⟨⟨by decide +kernel, by decide +kernel⟩, by decide +kernel, tb_5 (List.mem_of_getElem? (i := 20) rfl), wd_101⟩
set_option maxRecDepth 100000 in
theorem MW_X11_first : MW yX11_first cX11_first 6 (some .long) 5 := ⟨⟨by decide +kernel, by decide +kernel⟩, by decide +kernel, tb_5 (List.mem_of_getElem? (i := 24) rfl), wd_101⟩
set_option maxRecDepth 100000 in
theorem MW_X11_rate : MW yX11_rate cX11_rate 7 (some .int) 1 := ⟨⟨by decide +kernel, by decide +kernel⟩, by decide +kernel, tb_5 (List.mem_of_getElem? (i := 29) rfl), wd_101⟩
set_option maxRecDepth 100000 in
theorem MW_X11_shut : MW yX11_shut cX11_shut 6 (some .int) 3 := ⟨⟨by decide +kernel, by decide +kernel⟩, by decide +kernel, tb_5 (List.mem_of_getElem? (i := 34) rfl), wd_101⟩
set_option maxRecDepth 100000 in
theorem MW_X11_doubled : MW yX11_doubled cX11_doubled 8 (some .boolean) 5 := ⟨⟨by decide +kernel, by decide +kernel⟩, by decide +kernel, tb_5 (List.mem_of_getElem? (i := 38) rfl), wd_101⟩
set_option maxRecDepth 100000 in
theorem MW_X11_left : MW yX11_left cX11_left 3 (some .int) 2 := ⟨⟨by decide +kernel, by decide +kernel⟩, by decide +kernel, tb_5 (List.mem_of_getElem? (i := 42) rfl), wd_101⟩
set_option maxRecDepth 100000 in
theorem MW_X11_set : MW yX11_set cX11_set 4 (some .boolean) 1 := ⟨⟨by decide +kernel, by decide +kernel⟩, by decide +kernel, tb_5 (List.mem_of_getElem? (i := 46) rfl), wd_101⟩
set_option maxRecDepth 100000 in
theorem MW_X11_plateWith : MW yX11_plateWith cX11_plateWith 4 (some (.object "FigureHouse$Page")) 2 := ⟨⟨by decide +kernel, by decide +kernel⟩, by decide +kernel, tb_5 (List.mem_of_getElem? (i := 78) rfl), wd_101⟩
set_option maxRecDepth 100000 in
theorem MW_X11_press : MW yX11_press cX11_press 7 (some .boolean) 4 := ⟨⟨by decide +kernel, by decide +kernel⟩, by decide +kernel, tb_5 (List.mem_of_getElem? (i := 74) rfl), wd_101⟩
set_option maxRecDepth 100000 in
theorem MW_X11_printed : MW yX11_printed cX11_printed 4 (some .long) 2 := ⟨⟨by decide +kernel, by decide +kernel⟩, by decide +kernel, tb_6 (List.mem_of_getElem? (i := 149) rfl), wd_101⟩
set_option maxRecDepth 100000 in
theorem MW_X11_proof : MW yX11_proof cX11_proof 7 (some .int) 2 := ⟨⟨by decide +kernel, by decide +kernel⟩, by decide +kernel, tb_5 (List.mem_of_getElem? (i := 92) rfl), wd_101⟩
set_option maxRecDepth 100000 in
theorem MW_X11_copy : MW yX11_copy cX11_copy 5 (some .int) 1 := ⟨⟨by decide +kernel, by decide +kernel⟩, by decide +kernel, tb_5 (List.mem_of_getElem? (i := 103) rfl), wd_101⟩
set_option maxRecDepth 100000 in
theorem MW_X11_erratum : MW yX11_erratum cX11_erratum 7 (some .int) 4 := ⟨⟨by decide +kernel, by decide +kernel⟩, by decide +kernel, tb_5 (List.mem_of_getElem? (i := 122) rfl), wd_101⟩
set_option maxRecDepth 100000 in
theorem MW_X11_apply : MW yX11_apply cX11_apply 5 (some .int) 2 := ⟨⟨by decide +kernel, by decide +kernel⟩, by decide +kernel, tb_5 (List.mem_of_getElem? (i := 149) rfl), wd_101⟩
set_option maxRecDepth 100000 in
theorem MW_X11_copied : MW yX11_copied cX11_copied 3 (some .long) 2 := ⟨⟨by decide +kernel, by decide +kernel⟩, by decide +kernel, tb_6 (List.mem_of_getElem? (i := 156) rfl), wd_101⟩
set_option maxRecDepth 100000 in
theorem MW_X11_errors : MW yX11_errors cX11_errors 6 (some .int) 1 := ⟨⟨by decide +kernel, by decide +kernel⟩, by decide +kernel, tb_5 (List.mem_of_getElem? (i := 153) rfl), wd_101⟩
set_option maxRecDepth 100000 in
theorem MW_X11_other : MW yX11_other cX11_other 3 (some .int) 1 := ⟨⟨by decide +kernel, by decide +kernel⟩, by decide +kernel, tb_5 (List.mem_of_getElem? (i := 157) rfl), wd_101⟩
set_option maxRecDepth 100000 in
theorem MW_X11_tell : MW yX11_tell cX11_tell 5 (some .boolean) 3 := ⟨⟨by decide +kernel, by decide +kernel⟩, by decide +kernel, tb_5 (List.mem_of_getElem? (i := 162) rfl), wd_101⟩
set_option maxRecDepth 100000 in
theorem MW_X11_countsAs : MW yX11_countsAs cX11_countsAs 8 (some .boolean) 4 := ⟨⟨by decide +kernel, by decide +kernel⟩, by decide +kernel, tb_5 (List.mem_of_getElem? (i := 170) rfl), wd_101⟩
set_option maxRecDepth 100000 in
theorem MW_X11_compare : MW yX11_compare cX11_compare 7 (some .int) 2 := ⟨⟨by decide +kernel, by decide +kernel⟩, by decide +kernel, tb_5 (List.mem_of_getElem? (i := 166) rfl), wd_101⟩
set_option maxRecDepth 100000 in
theorem MW_X11_sheet : MW yX11_sheet cX11_sheet 2 (some .int) 1 := ⟨⟨by decide +kernel, by decide +kernel⟩, by decide +kernel, tb_5 (List.mem_of_getElem? (i := 174) rfl), wd_101⟩
set_option maxRecDepth 100000 in
theorem MW_X11_sheetAt : MW yX11_sheetAt cX11_sheetAt 2 (some (.object "FigureHouse$Sheet")) 1 := ⟨⟨by decide +kernel, by decide +kernel⟩, by decide +kernel, tb_5 (List.mem_of_getElem? (i := 200) rfl), wd_101⟩
set_option maxRecDepth 100000 in
theorem MW_X11_put : MW yX11_put cX11_put 5 (some .boolean) 3 := ⟨⟨by decide +kernel, by decide +kernel⟩, by decide +kernel, tb_5 (List.mem_of_getElem? (i := 196) rfl), wd_101⟩
set_option maxRecDepth 100000 in
theorem MW_X11_lose : MW yX11_lose cX11_lose 3 (some .boolean) 1 := ⟨⟨by decide +kernel, by decide +kernel⟩, by decide +kernel, tb_5 (List.mem_of_getElem? (i := 210) rfl), wd_101⟩
set_option maxRecDepth 100000 in
theorem MW_X11_take : MW yX11_take cX11_take 9 (some .int) 4 := ⟨⟨by decide +kernel, by decide +kernel⟩, by decide +kernel, tb_5 (List.mem_of_getElem? (i := 214) rfl), wd_101⟩
set_option maxRecDepth 100000 in
theorem MW_X11_hours : MW yX11_hours cX11_hours 2 (some .boolean) 1 := ⟨⟨by decide +kernel, by decide +kernel⟩, by decide +kernel, tb_5 (List.mem_of_getElem? (i := 221) rfl), wd_101⟩
set_option maxRecDepth 100000 in
theorem MW_X11_best : MW yX11_best cX11_best 8 (some .int) 7 := ⟨⟨by decide +kernel, by decide +kernel⟩, by decide +kernel, tb_5 (List.mem_of_getElem? (i := 225) rfl), wd_101⟩
set_option maxRecDepth 100000 in
theorem MW_X11_slipsMended : MW yX11_slipsMended cX11_slipsMended 3 (some .int) 0 := ⟨⟨by decide +kernel, by decide +kernel⟩, by decide +kernel, tb_6 (List.mem_of_getElem? (i := 28) rfl), wd_101⟩
set_option maxRecDepth 100000 in
theorem MW_X11_pagesSet : MW yX11_pagesSet cX11_pagesSet 3 (some .int) 0 := ⟨⟨by decide +kernel, by decide +kernel⟩, by decide +kernel, tb_6 (List.mem_of_getElem? (i := 32) rfl), wd_101⟩
set_option maxRecDepth 100000 in
theorem MW_X11_count : MW yX11_count cX11_count 2 (some .int) 1 := ⟨⟨by decide +kernel, by decide +kernel⟩, by decide +kernel, tb_6 (List.mem_of_getElem? (i := 24) rfl), wd_101⟩
set_option maxRecDepth 100000 in
theorem MW_X12_in : MW yX12_in cX12_in 3 (some .boolean) 3 := ⟨⟨by decide +kernel, by decide +kernel⟩, by decide +kernel, tb_7 (List.mem_of_getElem? (i := 205) rfl), wd_112⟩
set_option maxRecDepth 100000 in
theorem MW_X12_init : MW yX12_init cX12_init 1 none 0 := ⟨⟨by decide +kernel, by decide +kernel⟩, by decide +kernel, tb_6 (List.mem_of_getElem? (i := 161) rfl), wd_112⟩
set_option maxRecDepth 100000 in
theorem MW_X12_thrown : MW yX12_thrown cX12_thrown 1 (some .int) 0 := ⟨⟨by decide +kernel, by decide +kernel⟩, by decide +kernel, tb_7 (List.mem_of_getElem? (i := 198) rfl), wd_112⟩
set_option maxRecDepth 100000 in
theorem MW_X12_days : MW yX12_days cX12_days 2 (some .int) 1 := ⟨⟨by decide +kernel, by decide +kernel⟩, by decide +kernel, tb_7 (List.mem_of_getElem? (i := 202) rfl), wd_112⟩
set_option maxRecDepth 100000 in
theorem MW_X12_as : MW yX12_as cX12_as 2 (some .boolean) 1 := ⟨⟨by decide +kernel, by decide +kernel⟩, by decide +kernel, tb_7 (List.mem_of_getElem? (i := 209) rfl), wd_112⟩
set_option maxRecDepth 100000 in
theorem MW_X12_known : MW yX12_known cX12_known 1 (some .int) 0 := ⟨⟨by decide +kernel, by decide +kernel⟩, by decide +kernel, tb_7 (List.mem_of_getElem? (i := 213) rfl), wd_112⟩
set_option maxRecDepth 100000 in
theorem MW_X12_isKnowing : MW yX12_isKnowing cX12_isKnowing 2 (some .boolean) 1 := ⟨⟨by decide +kernel, by decide +kernel⟩, by decide +kernel, tb_8 (List.mem_of_getElem? (i := 227) rfl), wd_112⟩
set_option maxRecDepth 100000 in
theorem MW_X12_ten : MW yX12_ten cX12_ten 4 (some .long) 1 := ⟨⟨by decide +kernel, by decide +kernel⟩, by decide +kernel, tb_7 (List.mem_of_getElem? (i := 236) rfl), wd_112⟩
set_option maxRecDepth 100000 in
theorem MW_X12_function : MW yX12_function cX12_function 4 (some .int) 3 := ⟨⟨by decide +kernel, by decide +kernel⟩, by decide +kernel, tb_7 (List.mem_of_getElem? (i := 217) rfl), wd_112⟩
set_option maxRecDepth 100000 in
theorem MW_X12_root : MW yX12_root cX12_root 8 (some .long) 1 := ⟨⟨by decide +kernel, by decide +kernel⟩, by decide +kernel, tb_8 (List.mem_of_getElem? (i := 0) rfl), wd_112⟩
set_option maxRecDepth 100000 in
theorem MW_X12_under : MW yX12_under cX12_under 4 (some .long) 3 := ⟨⟨by decide +kernel, by decide +kernel⟩, by decide +kernel, tb_7 (List.mem_of_getElem? (i := 233) rfl), wd_112⟩
set_option maxRecDepth 100000 in
theorem MW_X12_above : MW yX12_above cX12_above 4 (some .long) 3 := ⟨⟨by decide +kernel, by decide +kernel⟩, by decide +kernel, tb_8 (List.mem_of_getElem? (i := 6) rfl), wd_112⟩
set_option maxRecDepth 100000 in
theorem MW_X12_below : MW yX12_below cX12_below 3 (some .long) 2 := ⟨⟨by decide +kernel, by decide +kernel⟩, by decide +kernel, tb_8 (List.mem_of_getElem? (i := 11) rfl), wd_112⟩
set_option maxRecDepth 100000 in
theorem MW_X12_exactOf : MW yX12_exactOf cX12_exactOf 4 (some .long) 3 := ⟨⟨by decide +kernel, by decide +kernel⟩, by decide +kernel, tb_7 (List.mem_of_getElem? (i := 229) rfl), wd_112⟩
set_option maxRecDepth 100000 in
theorem MW_X12_nearestBy : MW yX12_nearestBy cX12_nearestBy 9 (some .long) 3 := ⟨⟨by decide +kernel, by decide +kernel⟩, by decide +kernel, tb_8 (List.mem_of_getElem? (i := 28) rfl), wd_112⟩
set_option maxRecDepth 100000 in
theorem MW_X12_nearestOf : MW yX12_nearestOf cX12_nearestOf 9 (some .long) 4 := ⟨⟨by decide +kernel, by decide +kernel⟩, by decide +kernel, tb_8 (List.mem_of_getElem? (i := 25) rfl), wd_112⟩
set_option maxRecDepth 100000 in
theorem MW_X12_isFunction : MW yX12_isFunction cX12_isFunction 4 (some .boolean) 3 := ⟨⟨by decide +kernel, by decide +kernel⟩, by decide +kernel, tb_7 (List.mem_of_getElem? (i := 225) rfl), wd_112⟩
set_option maxRecDepth 100000 in
theorem MW_X12_exact : MW yX12_exact cX12_exact 4 (some .long) 3 := ⟨⟨by decide +kernel, by decide +kernel⟩, by decide +kernel, tb_7 (List.mem_of_getElem? (i := 221) rfl), wd_112⟩
set_option maxRecDepth 100000 in
theorem MW_X12_whole : MW yX12_whole cX12_whole 6 (some .int) 3 := ⟨⟨by decide +kernel, by decide +kernel⟩, by decide +kernel, tb_8 (List.mem_of_getElem? (i := 17) rfl), wd_112⟩
set_option maxRecDepth 100000 in
theorem MW_X12_nearest : MW yX12_nearest cX12_nearest 4 (some .long) 3 := ⟨⟨by decide +kernel, by decide +kernel⟩, by decide +kernel, tb_8 (List.mem_of_getElem? (i := 21) rfl), wd_112⟩
set_option maxRecDepth 100000 in
theorem MW_X12_byteOf : MW yX12_byteOf cX12_byteOf 7 (some .int) 6 := ⟨⟨by decide +kernel, by decide +kernel⟩, by decide +kernel, tb_8 (List.mem_of_getElem? (i := 36) rfl), wd_112⟩
set_option maxRecDepth 100000 in
theorem MW_X12_feed : MW yX12_feed cX12_feed 9 (some .int) 5 := ⟨⟨by decide +kernel, by decide +kernel⟩, by decide +kernel, tb_8 (List.mem_of_getElem? (i := 33) rfl), wd_112⟩
set_option maxRecDepth 100000 in
theorem MW_X12_end : MW yX12_end cX12_end 2 (some .boolean) 1 := ⟨⟨by decide +kernel, by decide +kernel⟩, by decide +kernel, tb_8 (List.mem_of_getElem? (i := 40) rfl), wd_112⟩
set_option maxRecDepth 100000 in
theorem MW_X12_look : MW yX12_look cX12_look 1 (some .int) 0 := ⟨⟨by decide +kernel, by decide +kernel⟩, by decide +kernel, tb_8 (List.mem_of_getElem? (i := 52) rfl), wd_112⟩
set_option maxRecDepth 100000 in
theorem MW_X12_bad : MW yX12_bad cX12_bad 1 none 0 := ⟨⟨by decide +kernel, by decide +kernel⟩, by decide +kernel, tb_8 (List.mem_of_getElem? (i := 59) rfl), wd_112⟩
set_option maxRecDepth 100000 in
theorem MW_X12_say : MW yX12_say cX12_say 2 none 1 := ⟨⟨by decide +kernel, by decide +kernel⟩, by decide +kernel, tb_8 (List.mem_of_getElem? (i := 63) rfl), wd_112⟩
set_option maxRecDepth 100000 in
theorem MW_X12_isDigit : MW yX12_isDigit cX12_isDigit 1 (some .boolean) 1 := ⟨⟨by decide +kernel, by decide +kernel⟩, by decide +kernel, tb_8 (List.mem_of_getElem? (i := 90) rfl), wd_112⟩
set_option maxRecDepth 100000 in
theorem MW_X12_isLabel : MW yX12_isLabel cX12_isLabel 1 (some .boolean) 1 := ⟨⟨by decide +kernel, by decide +kernel⟩, by decide +kernel, tb_8 (List.mem_of_getElem? (i := 55) rfl), wd_112⟩
set_option maxRecDepth 100000 in
theorem MW_X12_opens : MW yX12_opens cX12_opens 1 (some .boolean) 0 := ⟨⟨by decide +kernel, by decide +kernel⟩, by decide +kernel, tb_8 (List.mem_of_getElem? (i := 79) rfl), wd_112⟩
set_option maxRecDepth 100000 in
theorem MW_X12_closes : MW yX12_closes cX12_closes 2 none 1 := ⟨⟨by decide +kernel, by decide +kernel⟩, by decide +kernel, tb_8 (List.mem_of_getElem? (i := 83) rfl), wd_112⟩
set_option maxRecDepth 100000 in
theorem MW_X12_number : MW yX12_number cX12_number 3 none 0 := ⟨⟨by decide +kernel, by decide +kernel⟩, by decide +kernel, tb_8 (List.mem_of_getElem? (i := 87) rfl), wd_112⟩
set_option maxRecDepth 100000 in
theorem MW_X12_atom : MW yX12_atom cX12_atom 2 none 0 := ⟨⟨by decide +kernel, by decide +kernel⟩, by decide +kernel, tb_8 (List.mem_of_getElem? (i := 75) rfl), wd_112⟩
set_option maxRecDepth 100000 in
theorem MW_X12_sum : MW yX12_sum cX12_sum 2 none 0 := ⟨⟨by decide +kernel, by decide +kernel⟩, by decide +kernel, tb_8 (List.mem_of_getElem? (i := 67) rfl), wd_112⟩
set_option maxRecDepth 100000 in
theorem MW_X12_term : MW yX12_term cX12_term 2 none 0 := ⟨⟨by decide +kernel, by decide +kernel⟩, by decide +kernel, tb_8 (List.mem_of_getElem? (i := 71) rfl), wd_112⟩
set_option maxRecDepth 100000 in
theorem MW_X12_isSign : MW yX12_isSign cX12_isSign 1 (some .boolean) 1 := ⟨⟨by decide +kernel, by decide +kernel⟩, by decide +kernel, tb_8 (List.mem_of_getElem? (i := 93) rfl), wd_112⟩
set_option maxRecDepth 100000 in
theorem MW_X12_compare : MW yX12_compare cX12_compare 2 none 0 := ⟨⟨by decide +kernel, by decide +kernel⟩, by decide +kernel, tb_8 (List.mem_of_getElem? (i := 105) rfl), wd_112⟩
set_option maxRecDepth 100000 in
theorem MW_X12_condition : MW yX12_condition cX12_condition 2 none 1 := ⟨⟨by decide +kernel, by decide +kernel⟩, by decide +kernel, tb_8 (List.mem_of_getElem? (i := 97) rfl), wd_112⟩
set_option maxRecDepth 100000 in
theorem MW_X12_part : MW yX12_part cX12_part 2 none 1 := ⟨⟨by decide +kernel, by decide +kernel⟩, by decide +kernel, tb_8 (List.mem_of_getElem? (i := 101) rfl), wd_112⟩
set_option maxRecDepth 100000 in
theorem MW_X12_unit : MW yX12_unit cX12_unit 2 none 0 := ⟨⟨by decide +kernel, by decide +kernel⟩, by decide +kernel, tb_8 (List.mem_of_getElem? (i := 109) rfl), wd_112⟩
set_option maxRecDepth 100000 in
theorem MW_X12_clause : MW yX12_clause cX12_clause 6 none 0 := ⟨⟨by decide +kernel, by decide +kernel⟩, by decide +kernel, tb_8 (List.mem_of_getElem? (i := 48) rfl), wd_112⟩
set_option maxRecDepth 100000 in
theorem MW_X12_fault : MW yX12_fault cX12_fault 1 (some .int) 0 := ⟨⟨by decide +kernel, by decide +kernel⟩, by decide +kernel, tb_8 (List.mem_of_getElem? (i := 44) rfl), wd_112⟩
set_option maxRecDepth 100000 in
theorem MW_X12_plan : MW yX12_plan cX12_plan 2 (some .int) 0 := ⟨⟨by decide +kernel, by decide +kernel⟩, by decide +kernel, tb_8 (List.mem_of_getElem? (i := 113) rfl), wd_112⟩
set_option maxRecDepth 100000 in
theorem MW_X12_bounded : MW yX12_bounded cX12_bounded 2 (some .int) 1 := ⟨⟨by decide +kernel, by decide +kernel⟩, by decide +kernel, tb_8 (List.mem_of_getElem? (i := 132) rfl), wd_112⟩
set_option maxRecDepth 100000 in
theorem MW_X12_both : MW yX12_both cX12_both 3 (some .int) 3 := ⟨⟨by decide +kernel, by decide +kernel⟩, by decide +kernel, tb_8 (List.mem_of_getElem? (i := 129) rfl), wd_112⟩
set_option maxRecDepth 100000 in
theorem MW_X12_work : MW yX12_work cX12_work 3 (some .int) 0 := ⟨⟨by decide +kernel, by decide +kernel⟩, by decide +kernel, tb_8 (List.mem_of_getElem? (i := 126) rfl), wd_112⟩
set_option maxRecDepth 100000 in
theorem MW_X12_worthOf : MW yX12_worthOf cX12_worthOf 9 (some .int) 5 := ⟨⟨by decide +kernel, by decide +kernel⟩, by decide +kernel, tb_8 (List.mem_of_getElem? (i := 122) rfl), wd_112⟩
set_option maxRecDepth 100000 in
theorem MW_X12_worth : MW yX12_worth cX12_worth 6 (some .int) 5 := ⟨⟨by decide +kernel, by decide +kernel⟩, by decide +kernel, tb_8 (List.mem_of_getElem? (i := 118) rfl), wd_112⟩
set_option maxRecDepth 100000 in
theorem MW_X12_label : MW yX12_label cX12_label 3 (some .int) 2 := ⟨⟨by decide +kernel, by decide +kernel⟩, by decide +kernel, tb_8 (List.mem_of_getElem? (i := 144) rfl), wd_112⟩
set_option maxRecDepth 100000 in
theorem MW_X12_page : MW yX12_page cX12_page 14 (some .int) 4 := ⟨⟨by decide +kernel, by decide +kernel⟩, by decide +kernel, tb_8 (List.mem_of_getElem? (i := 140) rfl), wd_112⟩
set_option maxRecDepth 100000 in
theorem MW_X12_isPage : MW yX12_isPage cX12_isPage 2 (some .boolean) 1 := ⟨⟨by decide +kernel, by decide +kernel⟩, by decide +kernel, tb_8 (List.mem_of_getElem? (i := 153) rfl), wd_112⟩
set_option maxRecDepth 100000 in
theorem MW_X12_isLine : MW yX12_isLine cX12_isLine 3 (some .boolean) 2 := ⟨⟨by decide +kernel, by decide +kernel⟩, by decide +kernel, tb_8 (List.mem_of_getElem? (i := 177) rfl), wd_112⟩
set_option maxRecDepth 100000 in
theorem MW_X12_placeOf : MW yX12_placeOf cX12_placeOf 3 (some .int) 2 := ⟨⟨by decide +kernel, by decide +kernel⟩, by decide +kernel, tb_8 (List.mem_of_getElem? (i := 169) rfl), wd_112⟩
set_option maxRecDepth 100000 in
theorem MW_X12_isMade : MW yX12_isMade cX12_isMade 3 (some .boolean) 2 := ⟨⟨by decide +kernel, by decide +kernel⟩, by decide +kernel, tb_8 (List.mem_of_getElem? (i := 165) rfl), wd_112⟩
set_option maxRecDepth 100000 in
theorem MW_X12_xOf : MW yX12_xOf cX12_xOf 3 (some .int) 2 := ⟨⟨by decide +kernel, by decide +kernel⟩, by decide +kernel, tb_8 (List.mem_of_getElem? (i := 181) rfl), wd_112⟩
set_option maxRecDepth 100000 in
theorem MW_X12_blocks : MW yX12_blocks cX12_blocks 2 (some .int) 1 := ⟨⟨by decide +kernel, by decide +kernel⟩, by decide +kernel, tb_8 (List.mem_of_getElem? (i := 157) rfl), wd_112⟩
set_option maxRecDepth 100000 in
theorem MW_X12_pivots : MW yX12_pivots cX12_pivots 4 (some .int) 1 := ⟨⟨by decide +kernel, by decide +kernel⟩, by decide +kernel, tb_8 (List.mem_of_getElem? (i := 161) rfl), wd_112⟩
set_option maxRecDepth 100000 in
theorem MW_X12_paged : MW yX12_paged cX12_paged 3 (some .int) 2 := ⟨⟨by decide +kernel, by decide +kernel⟩, by decide +kernel, tb_8 (List.mem_of_getElem? (i := 149) rfl), wd_112⟩
set_option maxRecDepth 100000 in
theorem MW_X12_lined : MW yX12_lined cX12_lined 5 (some .int) 3 := ⟨⟨by decide +kernel, by decide +kernel⟩, by decide +kernel, tb_8 (List.mem_of_getElem? (i := 173) rfl), wd_112⟩
set_option maxRecDepth 100000 in
theorem MW_X12_make : MW yX12_make cX12_make 12 none 7 := ⟨⟨by decide +kernel, by decide +kernel⟩, by decide +kernel, tb_8 (List.mem_of_getElem? (i := 219) rfl), wd_112⟩
set_option maxRecDepth 100000 in
theorem MW_X12_makePage : MW yX12_makePage cX12_makePage 2 none 1 := ⟨⟨by decide +kernel, by decide +kernel⟩, by decide +kernel, tb_8 (List.mem_of_getElem? (i := 215) rfl), wd_112⟩
set_option maxRecDepth 100000 in
theorem MW_X12_clear : MW yX12_clear cX12_clear 2 none 0 := ⟨⟨by decide +kernel, by decide +kernel⟩, by decide +kernel, tb_8 (List.mem_of_getElem? (i := 211) rfl), wd_112⟩
set_option maxRecDepth 100000 in
theorem MW_X12_slot : MW yX12_slot cX12_slot 1 (some .int) 1 := ⟨⟨by decide +kernel, by decide +kernel⟩, by decide +kernel, tb_8 (List.mem_of_getElem? (i := 238) rfl), wd_112⟩
set_option maxRecDepth 100000 in
theorem MW_X12_counts : MW yX12_counts cX12_counts 3 (some .boolean) 2 := ⟨⟨by decide +kernel, by decide +kernel⟩, by decide +kernel, tb_8 (List.mem_of_getElem? (i := 235) rfl), wd_112⟩
set_option maxRecDepth 100000 in
theorem MW_X12_makeAs : MW yX12_makeAs cX12_makeAs 4 none 2 := ⟨⟨by decide +kernel, by decide +kernel⟩, by decide +kernel, tb_8 (List.mem_of_getElem? (i := 231) rfl), wd_112⟩
set_option maxRecDepth 100000 in
theorem MW_X12_makeTrue : MW yX12_makeTrue cX12_makeTrue 2 none 1 := ⟨⟨by decide +kernel, by decide +kernel⟩, by decide +kernel, tb_8 (List.mem_of_getElem? (i := 207) rfl), wd_112⟩
set_option maxRecDepth 100000 in
theorem MW_X12_isColumn : MW yX12_isColumn cX12_isColumn 3 (some .boolean) 2 := ⟨⟨by decide +kernel, by decide +kernel⟩, by decide +kernel, tb_8 (List.mem_of_getElem? (i := 189) rfl), wd_112⟩
set_option maxRecDepth 100000 in
theorem MW_X12_slip : MW yX12_slip cX12_slip 5 (some .int) 4 := ⟨⟨by decide +kernel, by decide +kernel⟩, by decide +kernel, tb_8 (List.mem_of_getElem? (i := 185) rfl), wd_112⟩
set_option maxRecDepth 100000 in
theorem MW_X12_mend : MW yX12_mend cX12_mend 2 (some .boolean) 1 := ⟨⟨by decide +kernel, by decide +kernel⟩, by decide +kernel, tb_8 (List.mem_of_getElem? (i := 195) rfl), wd_112⟩
set_option maxRecDepth 100000 in
theorem MW_X12_trueNumber : MW yX12_trueNumber cX12_trueNumber 3 (some .long) 2 := ⟨⟨by decide +kernel, by decide +kernel⟩, by decide +kernel, tb_8 (List.mem_of_getElem? (i := 203) rfl), wd_112⟩
set_option maxRecDepth 100000 in
theorem MW_X12_trueOf : MW yX12_trueOf cX12_trueOf 3 (some .long) 2 := ⟨⟨by decide +kernel, by decide +kernel⟩, by decide +kernel, tb_8 (List.mem_of_getElem? (i := 199) rfl), wd_112⟩
set_option maxRecDepth 100000 in
theorem MW_X12_figure : MW yX12_figure cX12_figure 6 (some .long) 4 := ⟨⟨by decide +kernel, by decide +kernel⟩, by decide +kernel, tb_8 (List.mem_of_getElem? (i := 223) rfl), wd_112⟩
set_option maxRecDepth 100000 in
theorem MW_X12_keptOf : MW yX12_keptOf cX12_keptOf 4 (some .long) 2 := ⟨⟨by decide +kernel, by decide +kernel⟩, by decide +kernel, tb_9 (List.mem_of_getElem? (i := 6) rfl), wd_112⟩
set_option maxRecDepth 100000 in
theorem MW_X12_kept : MW yX12_kept cX12_kept 4 (some .long) 3 := ⟨⟨by decide +kernel, by decide +kernel⟩, by decide +kernel, tb_9 (List.mem_of_getElem? (i := 2) rfl), wd_112⟩
set_option maxRecDepth 100000 in
theorem MW_X12_rightOf : MW yX12_rightOf cX12_rightOf 3 (some .long) 2 := ⟨⟨by decide +kernel, by decide +kernel⟩, by decide +kernel, tb_9 (List.mem_of_getElem? (i := 14) rfl), wd_112⟩
set_option maxRecDepth 100000 in
theorem MW_X12_right : MW yX12_right cX12_right 3 (some .long) 2 := ⟨⟨by decide +kernel, by decide +kernel⟩, by decide +kernel, tb_9 (List.mem_of_getElem? (i := 10) rfl), wd_112⟩
set_option maxRecDepth 100000 in
theorem MW_X12_wrong : MW yX12_wrong cX12_wrong 5 (some .int) 2 := ⟨⟨by decide +kernel, by decide +kernel⟩, by decide +kernel, tb_9 (List.mem_of_getElem? (i := 18) rfl), wd_112⟩
set_option maxRecDepth 100000 in
theorem MW_X12_nearestAt : MW yX12_nearestAt cX12_nearestAt 3 (some .long) 2 := ⟨⟨by decide +kernel, by decide +kernel⟩, by decide +kernel, tb_9 (List.mem_of_getElem? (i := 26) rfl), wd_112⟩
set_option maxRecDepth 100000 in
theorem MW_X12_stray : MW yX12_stray cX12_stray 3 (some .long) 2 := ⟨⟨by decide +kernel, by decide +kernel⟩, by decide +kernel, tb_9 (List.mem_of_getElem? (i := 22) rfl), wd_112⟩
set_option maxRecDepth 100000 in
theorem MW_X12_choose : MW yX12_choose cX12_choose 5 (some .long) 2 := ⟨⟨by decide +kernel, by decide +kernel⟩, by decide +kernel, tb_9 (List.mem_of_getElem? (i := 37) rfl), wd_112⟩
set_option maxRecDepth 100000 in
theorem MW_X12_boundOf : MW yX12_boundOf cX12_boundOf 8 (some .long) 2 := ⟨⟨by decide +kernel, by decide +kernel⟩, by decide +kernel, tb_9 (List.mem_of_getElem? (i := 34) rfl), wd_112⟩
set_option maxRecDepth 100000 in
theorem MW_X12_bound : MW yX12_bound cX12_bound 3 (some .long) 2 := ⟨⟨by decide +kernel, by decide +kernel⟩, by decide +kernel, tb_9 (List.mem_of_getElem? (i := 30) rfl), wd_112⟩
set_option maxRecDepth 100000 in
theorem MW_X12_drift : MW yX12_drift cX12_drift 2 (some .boolean) 1 := ⟨⟨by decide +kernel, by decide +kernel⟩, by decide +kernel, tb_9 (List.mem_of_getElem? (i := 41) rfl), wd_112⟩
set_option maxRecDepth 100000 in
theorem MW_X12_safe : MW yX12_safe cX12_safe 7 (some .int) 2 := ⟨⟨by decide +kernel, by decide +kernel⟩, by decide +kernel, tb_9 (List.mem_of_getElem? (i := 45) rfl), wd_112⟩
set_option maxRecDepth 100000 in
theorem MW_X12_difference : MW yX12_difference cX12_difference 6 (some .long) 2 := ⟨⟨by decide +kernel, by decide +kernel⟩, by decide +kernel, tb_9 (List.mem_of_getElem? (i := 59) rfl), wd_112⟩
set_option maxRecDepth 100000 in
theorem MW_X12_holds : MW yX12_holds cX12_holds 10 (some .boolean) 2 := ⟨⟨by decide +kernel, by decide +kernel⟩, by decide +kernel, tb_9 (List.mem_of_getElem? (i := 55) rfl), wd_112⟩
set_option maxRecDepth 100000 in
theorem MW_X12_failing : MW yX12_failing cX12_failing 4 (some .int) 1 := ⟨⟨by decide +kernel, by decide +kernel⟩, by decide +kernel, tb_9 (List.mem_of_getElem? (i := 67) rfl), wd_112⟩
set_option maxRecDepth 100000 in
theorem MW_X12_check : MW yX12_check cX12_check 4 (some .int) 3 := ⟨⟨by decide +kernel, by decide +kernel⟩, by decide +kernel, tb_9 (List.mem_of_getElem? (i := 51) rfl), wd_112⟩
set_option maxRecDepth 100000 in
theorem MW_X12_fails : MW yX12_fails cX12_fails 3 (some .int) 2 := ⟨⟨by decide +kernel, by decide +kernel⟩, by decide +kernel, tb_9 (List.mem_of_getElem? (i := 63) rfl), wd_112⟩
set_option maxRecDepth 100000 in
theorem MW_X12_kind : MW yX12_kind cX12_kind 5 (some .int) 3 := ⟨⟨by decide +kernel, by decide +kernel⟩, by decide +kernel, tb_9 (List.mem_of_getElem? (i := 71) rfl), wd_112⟩
set_option maxRecDepth 100000 in
theorem MW_X12_unseen : MW yX12_unseen cX12_unseen 5 (some .int) 2 := ⟨⟨by decide +kernel, by decide +kernel⟩, by decide +kernel, tb_9 (List.mem_of_getElem? (i := 75) rfl), wd_112⟩
set_option maxRecDepth 100000 in
theorem MW_X12_keepTruth : MW yX12_keepTruth cX12_keepTruth 3 none 1 := ⟨⟨by decide +kernel, by decide +kernel⟩, by decide +kernel, tb_9 (List.mem_of_getElem? (i := 83) rfl), wd_112⟩
set_option maxRecDepth 100000 in
theorem MW_X12_healed : MW yX12_healed cX12_healed 7 (some .int) 2 := ⟨⟨by decide +kernel, by decide +kernel⟩, by decide +kernel, tb_9 (List.mem_of_getElem? (i := 79) rfl), wd_112⟩
set_option maxRecDepth 100000 in
theorem MW_X12_spread : MW yX12_spread cX12_spread 6 (some .int) 3 := ⟨⟨by decide +kernel, by decide +kernel⟩, by decide +kernel, tb_9 (List.mem_of_getElem? (i := 87) rfl), wd_112⟩
set_option maxRecDepth 100000 in
theorem MW_X12_mark : MW yX12_mark cX12_mark 6 none 3 := ⟨⟨by decide +kernel, by decide +kernel⟩, by decide +kernel, tb_9 (List.mem_of_getElem? (i := 104) rfl), wd_112⟩
set_option maxRecDepth 100000 in
theorem MW_X12_seek : MW yX12_seek cX12_seek 8 none 2 := ⟨⟨by decide +kernel, by decide +kernel⟩, by decide +kernel, tb_9 (List.mem_of_getElem? (i := 100) rfl), wd_112⟩
set_option maxRecDepth 100000 in
theorem MW_X12_findLeast : MW yX12_findLeast cX12_findLeast 5 (some .boolean) 3 := ⟨⟨by decide +kernel, by decide +kernel⟩, by decide +kernel, tb_9 (List.mem_of_getElem? (i := 95) rfl), wd_112⟩
set_option maxRecDepth 100000 in
theorem MW_X12_least : MW yX12_least cX12_least 4 (some .int) 3 := ⟨⟨by decide +kernel, by decide +kernel⟩, by decide +kernel, tb_9 (List.mem_of_getElem? (i := 91) rfl), wd_112⟩
set_option maxRecDepth 100000 in
theorem MW_X12_ways : MW yX12_ways cX12_ways 4 (some .int) 3 := ⟨⟨by decide +kernel, by decide +kernel⟩, by decide +kernel, tb_9 (List.mem_of_getElem? (i := 108) rfl), wd_112⟩
set_option maxRecDepth 100000 in
theorem MW_X12_first : MW yX12_first cX12_first 6 (some .long) 5 := ⟨⟨by decide +kernel, by decide +kernel⟩, by decide +kernel, tb_9 (List.mem_of_getElem? (i := 112) rfl), wd_112⟩
set_option maxRecDepth 100000 in
theorem MW_X12_isHand : MW yX12_isHand cX12_isHand 1 (some .boolean) 1 := ⟨⟨by decide +kernel, by decide +kernel⟩, by decide +kernel, tb_9 (List.mem_of_getElem? (i := 120) rfl), wd_112⟩
set_option maxRecDepth 100000 in
theorem MW_X12_rate : MW yX12_rate cX12_rate 8 (some .int) 1 := ⟨⟨by decide +kernel, by decide +kernel⟩, by decide +kernel, tb_9 (List.mem_of_getElem? (i := 117) rfl), wd_112⟩
set_option maxRecDepth 100000 in
theorem MW_X12_shut : MW yX12_shut cX12_shut 5 (some .int) 3 := ⟨⟨by decide +kernel, by decide +kernel⟩, by decide +kernel, tb_9 (List.mem_of_getElem? (i := 124) rfl), wd_112⟩
set_option maxRecDepth 100000 in
theorem MW_X12_doubled : MW yX12_doubled cX12_doubled 6 (some .boolean) 5 := ⟨⟨by decide +kernel, by decide +kernel⟩, by decide +kernel, tb_9 (List.mem_of_getElem? (i := 128) rfl), wd_112⟩
set_option maxRecDepth 100000 in
theorem MW_X12_left : MW yX12_left cX12_left 5 (some .int) 2 := ⟨⟨by decide +kernel, by decide +kernel⟩, by decide +kernel, tb_9 (List.mem_of_getElem? (i := 132) rfl), wd_112⟩
set_option maxRecDepth 100000 in
theorem MW_X12_isPlate : MW yX12_isPlate cX12_isPlate 2 (some .boolean) 1 := ⟨⟨by decide +kernel, by decide +kernel⟩, by decide +kernel, tb_9 (List.mem_of_getElem? (i := 145) rfl), wd_112⟩
set_option maxRecDepth 100000 in
theorem MW_X12_set : MW yX12_set cX12_set 4 (some .boolean) 1 := ⟨⟨by decide +kernel, by decide +kernel⟩, by decide +kernel, tb_9 (List.mem_of_getElem? (i := 136) rfl), wd_112⟩
set_option maxRecDepth 100000 in
theorem MW_X12_press : MW yX12_press cX12_press 7 (some .boolean) 4 := ⟨⟨by decide +kernel, by decide +kernel⟩, by decide +kernel, tb_9 (List.mem_of_getElem? (i := 141) rfl), wd_112⟩
set_option maxRecDepth 100000 in
theorem MW_X12_printedAt : MW yX12_printedAt cX12_printedAt 10 (some .long) 2 := ⟨⟨by decide +kernel, by decide +kernel⟩, by decide +kernel, tb_9 (List.mem_of_getElem? (i := 153) rfl), wd_112⟩
set_option maxRecDepth 100000 in
theorem MW_X12_printed : MW yX12_printed cX12_printed 3 (some .long) 2 := ⟨⟨by decide +kernel, by decide +kernel⟩, by decide +kernel, tb_9 (List.mem_of_getElem? (i := 149) rfl), wd_112⟩
set_option maxRecDepth 100000 in
theorem MW_X12_proof : MW yX12_proof cX12_proof 6 (some .int) 2 := ⟨⟨by decide +kernel, by decide +kernel⟩, by decide +kernel, tb_9 (List.mem_of_getElem? (i := 157) rfl), wd_112⟩
set_option maxRecDepth 100000 in
theorem MW_X12_copy : MW yX12_copy cX12_copy 3 (some .int) 1 := ⟨⟨by decide +kernel, by decide +kernel⟩, by decide +kernel, tb_9 (List.mem_of_getElem? (i := 161) rfl), wd_112⟩
set_option maxRecDepth 100000 in
theorem MW_X12_erratum : MW yX12_erratum cX12_erratum 7 (some .int) 4 := ⟨⟨by decide +kernel, by decide +kernel⟩, by decide +kernel, tb_9 (List.mem_of_getElem? (i := 165) rfl), wd_112⟩
set_option maxRecDepth 100000 in
theorem MW_X12_isCopy : MW yX12_isCopy cX12_isCopy 2 (some .boolean) 1 := ⟨⟨by decide +kernel, by decide +kernel⟩, by decide +kernel, tb_9 (List.mem_of_getElem? (i := 173) rfl), wd_112⟩
set_option maxRecDepth 100000 in
theorem MW_X12_apply : MW yX12_apply cX12_apply 4 (some .int) 2 := ⟨⟨by decide +kernel, by decide +kernel⟩, by decide +kernel, tb_9 (List.mem_of_getElem? (i := 169) rfl), wd_112⟩
set_option maxRecDepth 100000 in
theorem MW_X12_copied : MW yX12_copied cX12_copied 3 (some .long) 2 := ⟨⟨by decide +kernel, by decide +kernel⟩, by decide +kernel, tb_9 (List.mem_of_getElem? (i := 177) rfl), wd_112⟩
set_option maxRecDepth 100000 in
theorem MW_X12_errors : MW yX12_errors cX12_errors 5 (some .int) 1 := ⟨⟨by decide +kernel, by decide +kernel⟩, by decide +kernel, tb_9 (List.mem_of_getElem? (i := 181) rfl), wd_112⟩
set_option maxRecDepth 100000 in
theorem MW_X12_other : MW yX12_other cX12_other 2 (some .int) 1 := ⟨⟨by decide +kernel, by decide +kernel⟩, by decide +kernel, tb_9 (List.mem_of_getElem? (i := 185) rfl), wd_112⟩
set_option maxRecDepth 100000 in
theorem MW_X12_tell : MW yX12_tell cX12_tell 5 (some .boolean) 3 := ⟨⟨by decide +kernel, by decide +kernel⟩, by decide +kernel, tb_9 (List.mem_of_getElem? (i := 189) rfl), wd_112⟩
set_option maxRecDepth 100000 in
theorem MW_X12_compare_ : MW yX12_compare_ cX12_compare_ 15 (some .int) 2 := ⟨⟨by decide +kernel, by decide +kernel⟩, by decide +kernel, tb_9 (List.mem_of_getElem? (i := 193) rfl), wd_112⟩
set_option maxRecDepth 100000 in
theorem MW_X12_sheet : MW yX12_sheet cX12_sheet 2 (some .int) 1 := ⟨⟨by decide +kernel, by decide +kernel⟩, by decide +kernel, tb_9 (List.mem_of_getElem? (i := 197) rfl), wd_112⟩
set_option maxRecDepth 100000 in
theorem MW_X12_isSheet : MW yX12_isSheet cX12_isSheet 2 (some .boolean) 1 := ⟨⟨by decide +kernel, by decide +kernel⟩, by decide +kernel, tb_9 (List.mem_of_getElem? (i := 205) rfl), wd_112⟩
set_option maxRecDepth 100000 in
theorem MW_X12_put : MW yX12_put cX12_put 4 (some .boolean) 3 := ⟨⟨by decide +kernel, by decide +kernel⟩, by decide +kernel, tb_9 (List.mem_of_getElem? (i := 201) rfl), wd_112⟩
set_option maxRecDepth 100000 in
theorem MW_X12_lose : MW yX12_lose cX12_lose 2 (some .boolean) 1 := ⟨⟨by decide +kernel, by decide +kernel⟩, by decide +kernel, tb_9 (List.mem_of_getElem? (i := 211) rfl), wd_112⟩
set_option maxRecDepth 100000 in
theorem MW_X12_take : MW yX12_take cX12_take 7 (some .int) 4 := ⟨⟨by decide +kernel, by decide +kernel⟩, by decide +kernel, tb_9 (List.mem_of_getElem? (i := 215) rfl), wd_112⟩
set_option maxRecDepth 100000 in
theorem MW_X12_hours : MW yX12_hours cX12_hours 2 (some .boolean) 1 := ⟨⟨by decide +kernel, by decide +kernel⟩, by decide +kernel, tb_9 (List.mem_of_getElem? (i := 220) rfl), wd_112⟩
set_option maxRecDepth 100000 in
theorem MW_X12_isRight : MW yX12_isRight cX12_isRight 11 (some .boolean) 9 := ⟨⟨by decide +kernel, by decide +kernel⟩, by decide +kernel, tb_9 (List.mem_of_getElem? (i := 228) rfl), wd_112⟩
set_option maxRecDepth 100000 in
theorem MW_X12_best : MW yX12_best cX12_best 17 (some .int) 7 := ⟨⟨by decide +kernel, by decide +kernel⟩, by decide +kernel, tb_9 (List.mem_of_getElem? (i := 224) rfl), wd_112⟩
set_option maxRecDepth 100000 in
theorem MW_X12_count : MW yX12_count cX12_count 5 (some .int) 1 := ⟨⟨by decide +kernel, by decide +kernel⟩, by decide +kernel, tb_9 (List.mem_of_getElem? (i := 232) rfl), wd_112⟩
set_option maxRecDepth 100000 in
theorem MW_J9_abs_067f4 : MW yJ9_abs_067f4 cJ9_abs_067f4 2 (some .long) 1 := ⟨⟨by decide +kernel, by decide +kernel⟩, by decide +kernel, tb_4 (List.mem_of_getElem? (i := 160) rfl), wd_104⟩
set_option maxRecDepth 100000 in
theorem MW_J9_max_7cf53 : MW yJ9_max_7cf53 cJ9_max_7cf53 2 (some .int) 2 := ⟨⟨by decide +kernel, by decide +kernel⟩, by decide +kernel, tb_1 (List.mem_of_getElem? (i := 46) rfl), wd_104⟩
set_option maxRecDepth 100000 in
theorem MW_J9_max_f86c9 : MW yJ9_max_f86c9 cJ9_max_f86c9 4 (some .long) 2 := ⟨⟨by decide +kernel, by decide +kernel⟩, by decide +kernel, tb_3 (List.mem_of_getElem? (i := 56) rfl), wd_104⟩
set_option maxRecDepth 100000 in
theorem MW_J9_min_7cf53 : MW yJ9_min_7cf53 cJ9_min_7cf53 2 (some .int) 2 := ⟨⟨by decide +kernel, by decide +kernel⟩, by decide +kernel, tb_2 (List.mem_of_getElem? (i := 144) rfl), wd_104⟩
set_option maxRecDepth 100000 in
theorem MW_J9_min_f86c9 : MW yJ9_min_f86c9 cJ9_min_f86c9 4 (some .long) 2 := ⟨⟨by decide +kernel, by decide +kernel⟩, by decide +kernel, tb_3 (List.mem_of_getElem? (i := 53) rfl), wd_104⟩
