section CASE
set_option maxHeartbeats 4000000 in
set_option maxRecDepth 100000 in
theorem lc_36 {z : ZT} {l : Launch} {g : GP} {cells slots : Nat} {Q : State → Prop} {kd : Int → Nat} {ln : Int → Int} {mem : Int → Int → Int} {sz : Nat} {L i : Int} {S : Int → Int} (hF : FX z l g 8 code "FigureHouseLaw" room_1) (hG : GH g) (hl : l.stackTraces = false) (hTH : THW g) (hTN : TNS g) (hEM : EMP g) (mi : Nat) (hMi : va_Mi "[Ljava/lang/Object;" mi (gs g)) (hS : SCR g L S) (hi : 0 ≤ i ∧ i + 8 ≤ L) (hrm : (∀ k : Nat, k ≤ cells + 40 → k ≤ room_1.cells) ∧ ∀ k : Nat, k ≤ slots + 2000 → k ≤ room_1.slots) (hx : LINV kd ln mem sz) (kk : ∀ (kd' : Int → Nat) (ln' : Int → Int) (mem' : Int → Int → Int) (sz' : Nat), LINV kd' ln' mem' sz' → J z g 8 (cells + 40) (slots + 2000) Q 3057 [(0, (2, 2)), (1, (2, 3)), (2, (2, 35)), (3, (2, 100)), (4, (0, i))] [] kd' ln' mem' sz') : J z g 8 cells slots Q 1973 [(0, (2, 2)), (1, (2, 3)), (2, (2, 35)), (3, (2, 100)), (4, (0, i))] [] kd ln mem sz := by
  obtain ⟨tg, hI, hzz⟩ := id hx.1
  refine jblk hF [(.aload_n 1, 1), (.aload_n 0, 1), (.iload 4, 2), (.iconst 1, 1), (.iadd, 1)] (by decide +kernel) (pc' := 1979) (lo' := [(0, (2, 2)), (1, (2, 3)), (2, (2, 35)), (3, (2, 100)), (4, (0, i))]) (st' := [(0, i + 1), (2, 2), (2, 3)]) rfl ?_
  refine jsld hF hS (by decide +kernel) (by omega) (by omega) ?_
  refine jblk hF [(.aload_n 0, 1), (.iload 4, 2), (.iconst 2, 1), (.iadd, 1)] (by decide +kernel) (pc' := 1985) (lo' := [(0, (2, 2)), (1, (2, 3)), (2, (2, 35)), (3, (2, 100)), (4, (0, i))]) (st' := [(0, i + 2), (2, 2), (0, S (i + 1)), (2, 3)]) rfl ?_
  refine jsld hF hS (by decide +kernel) (by omega) (by omega) ?_
  refine jblk hF [(.aload_n 0, 1), (.iload 4, 2), (.iconst 3, 1), (.iadd, 1)] (by decide +kernel) (pc' := 1991) (lo' := [(0, (2, 2)), (1, (2, 3)), (2, (2, 35)), (3, (2, 100)), (4, (0, i))]) (st' := [(0, i + 3), (2, 2), (0, S (i + 2)), (0, S (i + 1)), (2, 3)]) rfl ?_
  refine jsld hF hS (by decide +kernel) (by omega) (by omega) ?_
  refine jcallV hF (c_X11_shut hG hI.1.2.1 hI.1.2.2.2.1 (S (i + 1)) (S (i + 2)) (S (i + 3)) tg hI (hS.2 (i + 1)) (hS.2 (i + 2)) (hS.2 (i + 3))) MW_X11_shut 12 (by decide) hI.1.2.1.k3 wd_1091 wd_1092 wd_1093 (by decide +kernel) [] rfl rfl (by decide) (Nat.le_of_ble_eq_true rfl) ⟨hrm.1 _ (by omega), hrm.2 _ (by omega)⟩ (kV ?_)
  have hM : MI mem ∧ SR mem := ⟨hI.2.1, hI.1.2.2.1⟩
  have hSK := hI.1.1
  refine jblk hF [(.aload_n 2, 1), (.aload_n 0, 1), (.iload 4, 2), (.iconst 1, 1), (.iadd, 1)] (by decide +kernel) (pc' := 2001) (lo' := [(0, (2, 2)), (1, (2, 3)), (2, (2, 35)), (3, (2, 100)), (4, (0, i))]) (st' := [(0, i + 1), (2, 2), (2, 35), (0, shutV mem (S (i + 1)) (S (i + 2)) (S (i + 3)))]) rfl ?_
  refine jsld hF hS (by decide +kernel) (by omega) (by omega) ?_
  refine jblk hF [(.aload_n 0, 1), (.iload 4, 2), (.iconst 2, 1), (.iadd, 1)] (by decide +kernel) (pc' := 2007) (lo' := [(0, (2, 2)), (1, (2, 3)), (2, (2, 35)), (3, (2, 100)), (4, (0, i))]) (st' := [(0, i + 2), (2, 2), (0, S (i + 1)), (2, 35), (0, shutV mem (S (i + 1)) (S (i + 2)) (S (i + 3)))]) rfl ?_
  refine jsld hF hS (by decide +kernel) (by omega) (by omega) ?_
  refine jblk hF [(.aload_n 0, 1), (.iload 4, 2), (.iconst 3, 1), (.iadd, 1)] (by decide +kernel) (pc' := 2013) (lo' := [(0, (2, 2)), (1, (2, 3)), (2, (2, 35)), (3, (2, 100)), (4, (0, i))]) (st' := [(0, i + 3), (2, 2), (0, S (i + 2)), (0, S (i + 1)), (2, 35), (0, shutV mem (S (i + 1)) (S (i + 2)) (S (i + 3)))]) rfl ?_
  refine jsld hF hS (by decide +kernel) (by omega) (by omega) ?_
  refine jcallV hF (c_X12_shut hG hSK hM.2 (S (i + 1)) (S (i + 2)) (S (i + 3)) (hS.2 (i + 1)) (hS.2 (i + 2)) (hS.2 (i + 3)) hM.1.pgs hM.1.lh) MW_X12_shut 13 (by decide) hSK.k35 wd_2141 wd_2142 wd_2143 (by decide +kernel) [(0, shutV mem (S (i + 1)) (S (i + 2)) (S (i + 3)))] rfl rfl (by decide) (Nat.le_of_ble_eq_true rfl) ⟨hrm.1 _ (by omega), hrm.2 _ (by omega)⟩ (kV ?_)
  have hst : (shutV mem (S (i + 1)) (S (i + 2)) (S (i + 3))) = (shutV mem (S (i + 1)) (S (i + 2)) (S (i + 3))) ∧ LI kd ln mem sz := ⟨rfl, hx.1⟩
  refine jeqI hF (off := 1040) 3057 (by decide +kernel) (by decide) hst.1 ?_
  refine jwiden (k := cells + 40) (n := slots + 2000) (by omega) (by omega) ?_
  refine jsub [0, 1, 2, 3, 4] rfl ?_
  exact kk kd ln mem sz ⟨hst.2, hx.2⟩
set_option maxHeartbeats 4000000 in
set_option maxRecDepth 100000 in
theorem lc_37 {z : ZT} {l : Launch} {g : GP} {cells slots : Nat} {Q : State → Prop} {kd : Int → Nat} {ln : Int → Int} {mem : Int → Int → Int} {sz : Nat} {L i : Int} {S : Int → Int} (hF : FX z l g 8 code "FigureHouseLaw" room_1) (hG : GH g) (hl : l.stackTraces = false) (hTH : THW g) (hTN : TNS g) (hEM : EMP g) (mi : Nat) (hMi : va_Mi "[Ljava/lang/Object;" mi (gs g)) (hS : SCR g L S) (hi : 0 ≤ i ∧ i + 8 ≤ L) (hrm : (∀ k : Nat, k ≤ cells + 40 → k ≤ room_1.cells) ∧ ∀ k : Nat, k ≤ slots + 2000 → k ≤ room_1.slots) (hx : LINV kd ln mem sz) (kk : ∀ (kd' : Int → Nat) (ln' : Int → Int) (mem' : Int → Int → Int) (sz' : Nat), LINV kd' ln' mem' sz' → J z g 8 (cells + 40) (slots + 2000) Q 3057 [(0, (2, 2)), (1, (2, 3)), (2, (2, 35)), (3, (2, 100)), (4, (0, i))] [] kd' ln' mem' sz') : J z g 8 cells slots Q 2022 [(0, (2, 2)), (1, (2, 3)), (2, (2, 35)), (3, (2, 100)), (4, (0, i))] [] kd ln mem sz := by
  obtain ⟨tg, hI, hzz⟩ := id hx.1
  refine jblk hF [(.aload_n 1, 1), (.aload_n 0, 1), (.iload 4, 2), (.iconst 1, 1), (.iadd, 1)] (by decide +kernel) (pc' := 2028) (lo' := [(0, (2, 2)), (1, (2, 3)), (2, (2, 35)), (3, (2, 100)), (4, (0, i))]) (st' := [(0, i + 1), (2, 2), (2, 3)]) rfl ?_
  refine jsld hF hS (by decide +kernel) (by omega) (by omega) ?_
  refine jblk hF [(.aload_n 0, 1), (.iload 4, 2), (.iconst 2, 1), (.iadd, 1)] (by decide +kernel) (pc' := 2034) (lo' := [(0, (2, 2)), (1, (2, 3)), (2, (2, 35)), (3, (2, 100)), (4, (0, i))]) (st' := [(0, i + 2), (2, 2), (0, S (i + 1)), (2, 3)]) rfl ?_
  refine jsld hF hS (by decide +kernel) (by omega) (by omega) ?_
  refine jblk hF [(.aload_n 0, 1), (.iload 4, 2), (.iconst 3, 1), (.iadd, 1)] (by decide +kernel) (pc' := 2040) (lo' := [(0, (2, 2)), (1, (2, 3)), (2, (2, 35)), (3, (2, 100)), (4, (0, i))]) (st' := [(0, i + 3), (2, 2), (0, S (i + 2)), (0, S (i + 1)), (2, 3)]) rfl ?_
  refine jsld hF hS (by decide +kernel) (by omega) (by omega) ?_
  refine jblk hF [(.aload_n 0, 1), (.iload 4, 2), (.iconst 4, 1), (.iadd, 1)] (by decide +kernel) (pc' := 2046) (lo' := [(0, (2, 2)), (1, (2, 3)), (2, (2, 35)), (3, (2, 100)), (4, (0, i))]) (st' := [(0, i + 4), (2, 2), (0, S (i + 3)), (0, S (i + 2)), (0, S (i + 1)), (2, 3)]) rfl ?_
  refine jsld hF hS (by decide +kernel) (by omega) (by omega) ?_
  refine jblk hF [(.aload_n 0, 1), (.iload 4, 2), (.iconst 5, 1), (.iadd, 1)] (by decide +kernel) (pc' := 2052) (lo' := [(0, (2, 2)), (1, (2, 3)), (2, (2, 35)), (3, (2, 100)), (4, (0, i))]) (st' := [(0, i + 5), (2, 2), (0, S (i + 4)), (0, S (i + 3)), (0, S (i + 2)), (0, S (i + 1)), (2, 3)]) rfl ?_
  refine jsld hF hS (by decide +kernel) (by omega) (by omega) ?_
  refine jcallV hF (c_X11_doubled hG hI.1.2.1 hI.1.2.2.2.1 (S (i + 1)) (S (i + 2)) (S (i + 3)) (S (i + 4)) (S (i + 5)) tg hI (hS.2 (i + 1)) (hS.2 (i + 2)) (hS.2 (i + 3)) (hS.2 (i + 4)) (hS.2 (i + 5))) MW_X11_doubled 12 (by decide) hI.1.2.1.k3 wd_1095 wd_1096 wd_1097 (by decide +kernel) [] rfl rfl (by decide) (Nat.le_of_ble_eq_true rfl) ⟨hrm.1 _ (by omega), hrm.2 _ (by omega)⟩ (kMBw (fun v1 m1 h1 => ?_))
  have hSK := hI.1.1
  have hM := (MD_doubled hI h1).2
  refine jblk hF [(.aload_n 2, 1), (.aload_n 0, 1), (.iload 4, 2), (.iconst 1, 1), (.iadd, 1)] (by decide +kernel) (pc' := 2062) (lo' := [(0, (2, 2)), (1, (2, 3)), (2, (2, 35)), (3, (2, 100)), (4, (0, i))]) (st' := [(0, i + 1), (2, 2), (2, 35), (0, v1)]) rfl ?_
  refine jsld hF hS (by decide +kernel) (by omega) (by omega) ?_
  refine jblk hF [(.aload_n 0, 1), (.iload 4, 2), (.iconst 2, 1), (.iadd, 1)] (by decide +kernel) (pc' := 2068) (lo' := [(0, (2, 2)), (1, (2, 3)), (2, (2, 35)), (3, (2, 100)), (4, (0, i))]) (st' := [(0, i + 2), (2, 2), (0, S (i + 1)), (2, 35), (0, v1)]) rfl ?_
  refine jsld hF hS (by decide +kernel) (by omega) (by omega) ?_
  refine jblk hF [(.aload_n 0, 1), (.iload 4, 2), (.iconst 3, 1), (.iadd, 1)] (by decide +kernel) (pc' := 2074) (lo' := [(0, (2, 2)), (1, (2, 3)), (2, (2, 35)), (3, (2, 100)), (4, (0, i))]) (st' := [(0, i + 3), (2, 2), (0, S (i + 2)), (0, S (i + 1)), (2, 35), (0, v1)]) rfl ?_
  refine jsld hF hS (by decide +kernel) (by omega) (by omega) ?_
  refine jblk hF [(.aload_n 0, 1), (.iload 4, 2), (.iconst 4, 1), (.iadd, 1)] (by decide +kernel) (pc' := 2080) (lo' := [(0, (2, 2)), (1, (2, 3)), (2, (2, 35)), (3, (2, 100)), (4, (0, i))]) (st' := [(0, i + 4), (2, 2), (0, S (i + 3)), (0, S (i + 2)), (0, S (i + 1)), (2, 35), (0, v1)]) rfl ?_
  refine jsld hF hS (by decide +kernel) (by omega) (by omega) ?_
  refine jblk hF [(.aload_n 0, 1), (.iload 4, 2), (.iconst 5, 1), (.iadd, 1)] (by decide +kernel) (pc' := 2086) (lo' := [(0, (2, 2)), (1, (2, 3)), (2, (2, 35)), (3, (2, 100)), (4, (0, i))]) (st' := [(0, i + 5), (2, 2), (0, S (i + 4)), (0, S (i + 3)), (0, S (i + 2)), (0, S (i + 1)), (2, 35), (0, v1)]) rfl ?_
  refine jsld hF hS (by decide +kernel) (by omega) (by omega) ?_
  refine jcallV hF (c_X12_doubled hG hSK hM.2 (S (i + 1)) (S (i + 2)) (S (i + 3)) (S (i + 4)) (S (i + 5)) (hS.2 (i + 1)) (hS.2 (i + 2)) (hS.2 (i + 3)) (hS.2 (i + 4)) (hS.2 (i + 5)) hM.1.dbs) MW_X12_doubled 13 (by decide) hSK.k35 wd_2145 wd_2146 wd_2147 (by decide +kernel) [(0, v1)] rfl rfl (by decide) (Nat.le_of_ble_eq_true rfl) ⟨hrm.1 _ (by omega), hrm.2 _ (by omega)⟩ (kMBw (fun v2 m2 h2 => ?_))
  have hst := ST_doubled hI hzz h1 h2
  refine jeqI hF (off := 967) 3057 (by decide +kernel) (by decide) hst.1 ?_
  refine jwiden (k := cells + 40) (n := slots + 2000) (by omega) (by omega) ?_
  refine jsub [0, 1, 2, 3, 4] rfl ?_
  exact kk kd ln m2 sz ⟨hst.2, hx.2⟩
set_option maxHeartbeats 4000000 in
set_option maxRecDepth 100000 in
theorem lc_38 {z : ZT} {l : Launch} {g : GP} {cells slots : Nat} {Q : State → Prop} {kd : Int → Nat} {ln : Int → Int} {mem : Int → Int → Int} {sz : Nat} {L i : Int} {S : Int → Int} (hF : FX z l g 8 code "FigureHouseLaw" room_1) (hG : GH g) (hl : l.stackTraces = false) (hTH : THW g) (hTN : TNS g) (hEM : EMP g) (mi : Nat) (hMi : va_Mi "[Ljava/lang/Object;" mi (gs g)) (hS : SCR g L S) (hi : 0 ≤ i ∧ i + 8 ≤ L) (hrm : (∀ k : Nat, k ≤ cells + 40 → k ≤ room_1.cells) ∧ ∀ k : Nat, k ≤ slots + 2000 → k ≤ room_1.slots) (hx : LINV kd ln mem sz) (kk : ∀ (kd' : Int → Nat) (ln' : Int → Int) (mem' : Int → Int → Int) (sz' : Nat), LINV kd' ln' mem' sz' → J z g 8 (cells + 40) (slots + 2000) Q 3057 [(0, (2, 2)), (1, (2, 3)), (2, (2, 35)), (3, (2, 100)), (4, (0, i))] [] kd' ln' mem' sz') : J z g 8 cells slots Q 2095 [(0, (2, 2)), (1, (2, 3)), (2, (2, 35)), (3, (2, 100)), (4, (0, i))] [] kd ln mem sz := by
  obtain ⟨tg, hI, hzz⟩ := id hx.1
  refine jblk hF [(.aload_n 1, 1), (.aload_n 0, 1), (.iload 4, 2), (.iconst 1, 1), (.iadd, 1)] (by decide +kernel) (pc' := 2101) (lo' := [(0, (2, 2)), (1, (2, 3)), (2, (2, 35)), (3, (2, 100)), (4, (0, i))]) (st' := [(0, i + 1), (2, 2), (2, 3)]) rfl ?_
  refine jsld hF hS (by decide +kernel) (by omega) (by omega) ?_
  refine jblk hF [(.aload_n 0, 1), (.iload 4, 2), (.iconst 2, 1), (.iadd, 1)] (by decide +kernel) (pc' := 2107) (lo' := [(0, (2, 2)), (1, (2, 3)), (2, (2, 35)), (3, (2, 100)), (4, (0, i))]) (st' := [(0, i + 2), (2, 2), (0, S (i + 1)), (2, 3)]) rfl ?_
  refine jsld hF hS (by decide +kernel) (by omega) (by omega) ?_
  refine jcallV hF (c_X11_left hG hI.1.2.1 hI.1.2.2.2.1 (S (i + 1)) (S (i + 2)) tg hI (hS.2 (i + 1)) (hS.2 (i + 2))) MW_X11_left 12 (by decide) hI.1.2.1.k3 wd_1099 wd_1100 wd_1101 (by decide +kernel) [] rfl rfl (by decide) (Nat.le_of_ble_eq_true rfl) ⟨hrm.1 _ (by omega), hrm.2 _ (by omega)⟩ (kV ?_)
  have hM : MI mem ∧ SR mem := ⟨hI.2.1, hI.1.2.2.1⟩
  have hSK := hI.1.1
  refine jblk hF [(.aload_n 2, 1), (.aload_n 0, 1), (.iload 4, 2), (.iconst 1, 1), (.iadd, 1)] (by decide +kernel) (pc' := 2117) (lo' := [(0, (2, 2)), (1, (2, 3)), (2, (2, 35)), (3, (2, 100)), (4, (0, i))]) (st' := [(0, i + 1), (2, 2), (2, 35), (0, leftV mem (S (i + 1)) (S (i + 2)))]) rfl ?_
  refine jsld hF hS (by decide +kernel) (by omega) (by omega) ?_
  refine jblk hF [(.aload_n 0, 1), (.iload 4, 2), (.iconst 2, 1), (.iadd, 1)] (by decide +kernel) (pc' := 2123) (lo' := [(0, (2, 2)), (1, (2, 3)), (2, (2, 35)), (3, (2, 100)), (4, (0, i))]) (st' := [(0, i + 2), (2, 2), (0, S (i + 1)), (2, 35), (0, leftV mem (S (i + 1)) (S (i + 2)))]) rfl ?_
  refine jsld hF hS (by decide +kernel) (by omega) (by omega) ?_
  refine jcallV hF (c_X12_left hG hSK hM.2 (S (i + 1)) (S (i + 2)) (hS.2 (i + 1)) (hS.2 (i + 2)) hM.1.dbs) MW_X12_left 13 (by decide) hSK.k35 wd_2149 wd_2150 wd_2151 (by decide +kernel) [(0, leftV mem (S (i + 1)) (S (i + 2)))] rfl rfl (by decide) (Nat.le_of_ble_eq_true rfl) ⟨hrm.1 _ (by omega), hrm.2 _ (by omega)⟩ (kV ?_)
  have hst : (leftV mem (S (i + 1)) (S (i + 2))) = (leftV mem (S (i + 1)) (S (i + 2))) ∧ LI kd ln mem sz := ⟨rfl, hx.1⟩
  refine jeqI hF (off := 930) 3057 (by decide +kernel) (by decide) hst.1 ?_
  refine jwiden (k := cells + 40) (n := slots + 2000) (by omega) (by omega) ?_
  refine jsub [0, 1, 2, 3, 4] rfl ?_
  exact kk kd ln mem sz ⟨hst.2, hx.2⟩
set_option maxHeartbeats 4000000 in
set_option maxRecDepth 100000 in
theorem lc_39 {z : ZT} {l : Launch} {g : GP} {cells slots : Nat} {Q : State → Prop} {kd : Int → Nat} {ln : Int → Int} {mem : Int → Int → Int} {sz : Nat} {L i : Int} {S : Int → Int} (hF : FX z l g 8 code "FigureHouseLaw" room_1) (hG : GH g) (hl : l.stackTraces = false) (hTH : THW g) (hTN : TNS g) (hEM : EMP g) (mi : Nat) (hMi : va_Mi "[Ljava/lang/Object;" mi (gs g)) (hS : SCR g L S) (hi : 0 ≤ i ∧ i + 8 ≤ L) (hrm : (∀ k : Nat, k ≤ cells + 40 → k ≤ room_1.cells) ∧ ∀ k : Nat, k ≤ slots + 2000 → k ≤ room_1.slots) (hx : LINV kd ln mem sz) (kk : ∀ (kd' : Int → Nat) (ln' : Int → Int) (mem' : Int → Int → Int) (sz' : Nat), LINV kd' ln' mem' sz' → J z g 8 (cells + 40) (slots + 2000) Q 3057 [(0, (2, 2)), (1, (2, 3)), (2, (2, 35)), (3, (2, 100)), (4, (0, i))] [] kd' ln' mem' sz') : J z g 8 cells slots Q 2132 [(0, (2, 2)), (1, (2, 3)), (2, (2, 35)), (3, (2, 100)), (4, (0, i))] [] kd ln mem sz := by
  obtain ⟨tg, hI, hzz⟩ := id hx.1
  refine jblk hF [(.aload_n 1, 1), (.aload_n 0, 1), (.iload 4, 2), (.iconst 1, 1), (.iadd, 1)] (by decide +kernel) (pc' := 2138) (lo' := [(0, (2, 2)), (1, (2, 3)), (2, (2, 35)), (3, (2, 100)), (4, (0, i))]) (st' := [(0, i + 1), (2, 2), (2, 3)]) rfl ?_
  refine jsld hF hS (by decide +kernel) (by omega) (by omega) ?_
  refine jcallV hF (c_X11_set hG hI.1.2.1 hI.1.2.2.2.1 (S (i + 1)) tg hI hTN (hS.2 (i + 1))) MW_X11_set 12 (by decide) hI.1.2.1.k3 wd_1103 wd_1104 wd_1105 (by decide +kernel) [] rfl rfl (by decide) (Nat.le_of_ble_eq_true rfl) ⟨hrm.1 _ (by omega), hrm.2 _ (by omega)⟩ (kXR (fun v1 kd1 ln1 m1 sz1 hE h1 => ?_))
  have hMD := MD_set hI hE h1
  have hM := hMD.2.2.2
  have hSK := hMD.1
  have hx1 : kd1 100 = 21 ∧ ln1 100 = 1 := ⟨(hE.2 100 (by have := hI.1.2.2.2.2.1; omega)).1.trans hx.2.1, (hE.2 100 (by have := hI.1.2.2.2.2.1; omega)).2.trans hx.2.2⟩
  refine jblk hF [(.aload_n 2, 1), (.aload_n 0, 1), (.iload 4, 2), (.iconst 1, 1), (.iadd, 1)] (by decide +kernel) (pc' := 2148) (lo' := [(0, (2, 2)), (1, (2, 3)), (2, (2, 35)), (3, (2, 100)), (4, (0, i))]) (st' := [(0, i + 1), (2, 2), (2, 35), (0, v1)]) rfl ?_
  refine jsld hF hS (by decide +kernel) (by omega) (by omega) ?_
  refine jcallV hF (c_X12_set hG hSK hM.2 (S (i + 1)) (hS.2 (i + 1)) hM.1.pgs hM.1.sls hM.1.now hM.1.asd hM.1.ist hM.1.prs) MW_X12_set 13 (by decide) hSK.k35 wd_2153 wd_2154 wd_2155 (by decide +kernel) [(0, v1)] rfl rfl (by decide) (Nat.le_of_ble_eq_true rfl) ⟨hrm.1 _ (by omega), hrm.2 _ (by omega)⟩ (kMBw (fun v2 m2 h2 => ?_))
  have hst := ST_set hI hzz hE h1 h2
  refine jeqI hF (off := 905) 3057 (by decide +kernel) (by decide) hst.1 ?_
  refine jwiden (k := cells + 40) (n := slots + 2000) (by omega) (by omega) ?_
  refine jsub [0, 1, 2, 3, 4] rfl ?_
  exact kk kd1 ln1 m2 sz1 ⟨hst.2, hx1⟩
set_option maxHeartbeats 4000000 in
set_option maxRecDepth 100000 in
theorem lc_40 {z : ZT} {l : Launch} {g : GP} {cells slots : Nat} {Q : State → Prop} {kd : Int → Nat} {ln : Int → Int} {mem : Int → Int → Int} {sz : Nat} {L i : Int} {S : Int → Int} (hF : FX z l g 8 code "FigureHouseLaw" room_1) (hG : GH g) (hl : l.stackTraces = false) (hTH : THW g) (hTN : TNS g) (hEM : EMP g) (mi : Nat) (hMi : va_Mi "[Ljava/lang/Object;" mi (gs g)) (hS : SCR g L S) (hi : 0 ≤ i ∧ i + 8 ≤ L) (hrm : (∀ k : Nat, k ≤ cells + 40 → k ≤ room_1.cells) ∧ ∀ k : Nat, k ≤ slots + 2000 → k ≤ room_1.slots) (hx : LINV kd ln mem sz) (kk : ∀ (kd' : Int → Nat) (ln' : Int → Int) (mem' : Int → Int → Int) (sz' : Nat), LINV kd' ln' mem' sz' → J z g 8 (cells + 40) (slots + 2000) Q 3057 [(0, (2, 2)), (1, (2, 3)), (2, (2, 35)), (3, (2, 100)), (4, (0, i))] [] kd' ln' mem' sz') : J z g 8 cells slots Q 2157 [(0, (2, 2)), (1, (2, 3)), (2, (2, 35)), (3, (2, 100)), (4, (0, i))] [] kd ln mem sz := by
  obtain ⟨tg, hI, hzz⟩ := id hx.1
  refine jblk hF [(.aload_n 1, 1), (.aload_n 0, 1), (.iload 4, 2), (.iconst 1, 1), (.iadd, 1)] (by decide +kernel) (pc' := 2163) (lo' := [(0, (2, 2)), (1, (2, 3)), (2, (2, 35)), (3, (2, 100)), (4, (0, i))]) (st' := [(0, i + 1), (2, 2), (2, 3)]) rfl ?_
  refine jsld hF hS (by decide +kernel) (by omega) (by omega) ?_
  refine jblk hF [(.aload_n 0, 1), (.iload 4, 2), (.iconst 2, 1), (.iadd, 1)] (by decide +kernel) (pc' := 2169) (lo' := [(0, (2, 2)), (1, (2, 3)), (2, (2, 35)), (3, (2, 100)), (4, (0, i))]) (st' := [(0, i + 2), (2, 2), (0, S (i + 1)), (2, 3)]) rfl ?_
  refine jsld hF hS (by decide +kernel) (by omega) (by omega) ?_
  refine jblk hF [(.aload_n 0, 1), (.iload 4, 2), (.iconst 3, 1), (.iadd, 1)] (by decide +kernel) (pc' := 2175) (lo' := [(0, (2, 2)), (1, (2, 3)), (2, (2, 35)), (3, (2, 100)), (4, (0, i))]) (st' := [(0, i + 3), (2, 2), (0, S (i + 2)), (0, S (i + 1)), (2, 3)]) rfl ?_
  refine jsld hF hS (by decide +kernel) (by omega) (by omega) ?_
  refine jblk hF [(.aload_n 0, 1), (.iload 4, 2), (.iconst 4, 1), (.iadd, 1)] (by decide +kernel) (pc' := 2181) (lo' := [(0, (2, 2)), (1, (2, 3)), (2, (2, 35)), (3, (2, 100)), (4, (0, i))]) (st' := [(0, i + 4), (2, 2), (0, S (i + 3)), (0, S (i + 2)), (0, S (i + 1)), (2, 3)]) rfl ?_
  refine jsld hF hS (by decide +kernel) (by omega) (by omega) ?_
  refine jcallV hF (c_X11_press hG hI.1.2.1 hI.1.2.2.2.1 (S (i + 1)) (S (i + 2)) (S (i + 3)) (S (i + 4)) tg hI (hS.2 (i + 1)) (hS.2 (i + 2)) (hS.2 (i + 3)) (hS.2 (i + 4))) MW_X11_press 12 (by decide) hI.1.2.1.k3 wd_1131 wd_1132 wd_1133 (by decide +kernel) [] rfl rfl (by decide) (Nat.le_of_ble_eq_true rfl) ⟨hrm.1 _ (by omega), hrm.2 _ (by omega)⟩ (kMBw (fun v1 m1 h1 => ?_))
  have hSK := hI.1.1
  have hM := (MD_press hI h1).2
  refine jblk hF [(.aload_n 2, 1), (.aload_n 0, 1), (.iload 4, 2), (.iconst 1, 1), (.iadd, 1)] (by decide +kernel) (pc' := 2191) (lo' := [(0, (2, 2)), (1, (2, 3)), (2, (2, 35)), (3, (2, 100)), (4, (0, i))]) (st' := [(0, i + 1), (2, 2), (2, 35), (0, v1)]) rfl ?_
  refine jsld hF hS (by decide +kernel) (by omega) (by omega) ?_
  refine jblk hF [(.aload_n 0, 1), (.iload 4, 2), (.iconst 2, 1), (.iadd, 1)] (by decide +kernel) (pc' := 2197) (lo' := [(0, (2, 2)), (1, (2, 3)), (2, (2, 35)), (3, (2, 100)), (4, (0, i))]) (st' := [(0, i + 2), (2, 2), (0, S (i + 1)), (2, 35), (0, v1)]) rfl ?_
  refine jsld hF hS (by decide +kernel) (by omega) (by omega) ?_
  refine jblk hF [(.aload_n 0, 1), (.iload 4, 2), (.iconst 3, 1), (.iadd, 1)] (by decide +kernel) (pc' := 2203) (lo' := [(0, (2, 2)), (1, (2, 3)), (2, (2, 35)), (3, (2, 100)), (4, (0, i))]) (st' := [(0, i + 3), (2, 2), (0, S (i + 2)), (0, S (i + 1)), (2, 35), (0, v1)]) rfl ?_
  refine jsld hF hS (by decide +kernel) (by omega) (by omega) ?_
  refine jblk hF [(.aload_n 0, 1), (.iload 4, 2), (.iconst 4, 1), (.iadd, 1)] (by decide +kernel) (pc' := 2209) (lo' := [(0, (2, 2)), (1, (2, 3)), (2, (2, 35)), (3, (2, 100)), (4, (0, i))]) (st' := [(0, i + 4), (2, 2), (0, S (i + 3)), (0, S (i + 2)), (0, S (i + 1)), (2, 35), (0, v1)]) rfl ?_
  refine jsld hF hS (by decide +kernel) (by omega) (by omega) ?_
  refine jcallV hF (c_X12_press hG hSK hM.2 (S (i + 1)) (S (i + 2)) (S (i + 3)) (S (i + 4)) (hS.2 (i + 1)) (hS.2 (i + 2)) (hS.2 (i + 3)) (hS.2 (i + 4)) hM.1.pgs hM.1.ist hM.1.prs) MW_X12_press 13 (by decide) hSK.k35 wd_2158 wd_2159 wd_2160 (by decide +kernel) [(0, v1)] rfl rfl (by decide) (Nat.le_of_ble_eq_true rfl) ⟨hrm.1 _ (by omega), hrm.2 _ (by omega)⟩ (kMBw (fun v2 m2 h2 => ?_))
  have hst := ST_press hI hzz h1 h2
  refine jeqI hF (off := 844) 3057 (by decide +kernel) (by decide) hst.1 ?_
  refine jwiden (k := cells + 40) (n := slots + 2000) (by omega) (by omega) ?_
  refine jsub [0, 1, 2, 3, 4] rfl ?_
  exact kk kd ln m2 sz ⟨hst.2, hx.2⟩
set_option maxHeartbeats 4000000 in
set_option maxRecDepth 100000 in
theorem lc_41 {z : ZT} {l : Launch} {g : GP} {cells slots : Nat} {Q : State → Prop} {kd : Int → Nat} {ln : Int → Int} {mem : Int → Int → Int} {sz : Nat} {L i : Int} {S : Int → Int} (hF : FX z l g 8 code "FigureHouseLaw" room_1) (hG : GH g) (hl : l.stackTraces = false) (hTH : THW g) (hTN : TNS g) (hEM : EMP g) (mi : Nat) (hMi : va_Mi "[Ljava/lang/Object;" mi (gs g)) (hS : SCR g L S) (hi : 0 ≤ i ∧ i + 8 ≤ L) (hrm : (∀ k : Nat, k ≤ cells + 40 → k ≤ room_1.cells) ∧ ∀ k : Nat, k ≤ slots + 2000 → k ≤ room_1.slots) (hx : LINV kd ln mem sz) (kk : ∀ (kd' : Int → Nat) (ln' : Int → Int) (mem' : Int → Int → Int) (sz' : Nat), LINV kd' ln' mem' sz' → J z g 8 (cells + 40) (slots + 2000) Q 3057 [(0, (2, 2)), (1, (2, 3)), (2, (2, 35)), (3, (2, 100)), (4, (0, i))] [] kd' ln' mem' sz') : J z g 8 cells slots Q 2218 [(0, (2, 2)), (1, (2, 3)), (2, (2, 35)), (3, (2, 100)), (4, (0, i))] [] kd ln mem sz := by
  obtain ⟨tg, hI, hzz⟩ := id hx.1
  refine jblk hF [(.aload_n 1, 1), (.aload_n 0, 1), (.iload 4, 2), (.iconst 1, 1), (.iadd, 1)] (by decide +kernel) (pc' := 2224) (lo' := [(0, (2, 2)), (1, (2, 3)), (2, (2, 35)), (3, (2, 100)), (4, (0, i))]) (st' := [(0, i + 1), (2, 2), (2, 3)]) rfl ?_
  refine jsld hF hS (by decide +kernel) (by omega) (by omega) ?_
  refine jblk hF [(.aload_n 0, 1), (.iload 4, 2), (.iconst 2, 1), (.iadd, 1)] (by decide +kernel) (pc' := 2230) (lo' := [(0, (2, 2)), (1, (2, 3)), (2, (2, 35)), (3, (2, 100)), (4, (0, i))]) (st' := [(0, i + 2), (2, 2), (0, S (i + 1)), (2, 3)]) rfl ?_
  refine jsld hF hS (by decide +kernel) (by omega) (by omega) ?_
  refine jblk hF [(.aload_n 3, 1)] (by decide +kernel) (pc' := 2232) (lo' := [(0, (2, 2)), (1, (2, 3)), (2, (2, 35)), (3, (2, 100)), (4, (0, i))]) (st' := [(2, 100), (0, S (i + 2)), (0, S (i + 1)), (2, 3)]) rfl ?_
  refine jcallSW (n := 4) hF (c_L_printed hG hl hTH hTN hI.1.2.1 hI.1.2.2.2.1 (S (i + 1)) (S (i + 2)) tg hI hx.2 (hS.2 (i + 1)) (hS.2 (i + 2))) cw_printed wd_100 ⟨by decide, by decide⟩ (by decide +kernel) wd_1443 wd_1444 (by decide +kernel) [] rfl rfl (by decide) (Nat.le_of_ble_eq_true rfl) ⟨hrm.1 _ (by omega), hrm.2 _ (by omega)⟩ (kXR (fun v1 kd1 ln1 m1 sz1 hE h1 => ?_))
  have hH := HL_printed hI hzz hE h1
  obtain ⟨hk1, hl1, hI1, hz1, he1, hv1⟩ := hH
  have hSK := hI1.1.1
  have hM : MI m1 ∧ SR m1 := ⟨hI1.2.1, hI1.1.2.2.1⟩
  have hx1 : kd1 100 = 21 ∧ ln1 100 = 1 := by rw [hk1, hl1]; exact hx.2
  refine jblk hF [(.istore 5, 2), (.aload_n 2, 1), (.aload_n 0, 1), (.iload 4, 2), (.iconst 1, 1), (.iadd, 1)] (by decide +kernel) (pc' := 2243) (lo' := [(5, (0, v1)), (0, (2, 2)), (1, (2, 3)), (2, (2, 35)), (3, (2, 100)), (4, (0, i))]) (st' := [(0, i + 1), (2, 2), (2, 35)]) rfl ?_
  refine jsld hF hS (by decide +kernel) (by omega) (by omega) ?_
  refine jblk hF [(.aload_n 0, 1), (.iload 4, 2), (.iconst 2, 1), (.iadd, 1)] (by decide +kernel) (pc' := 2249) (lo' := [(5, (0, v1)), (0, (2, 2)), (1, (2, 3)), (2, (2, 35)), (3, (2, 100)), (4, (0, i))]) (st' := [(0, i + 2), (2, 2), (0, S (i + 1)), (2, 35)]) rfl ?_
  refine jsld hF hS (by decide +kernel) (by omega) (by omega) ?_
  refine jcallV hF (c_X12_printed hG hSK hM.2 (S (i + 1)) (S (i + 2)) (hS.2 (i + 1)) (hS.2 (i + 2)) hM.1.pgs hM.1.ist hM.1.prs hM.1.plb) MW_X12_printed 13 (by decide) hSK.k35 wd_2166 wd_2167 wd_2168 (by decide +kernel) [] rfl rfl (by decide) (Nat.le_of_ble_eq_true rfl) ⟨hrm.1 _ (by omega), hrm.2 _ (by omega)⟩ (kMR (fun v2 m2 h2 => ?_))
  have hT := TL_printed hI1 hz1 he1 h1 h2
  obtain ⟨hI2, hz2, ht2, ho2⟩ := hT
  refine jblk hF [(.lstore 6, 2), (.aload_n 2, 1)] (by decide +kernel) (pc' := 2256) (lo' := [(6, (1, v2)), (5, (0, v1)), (0, (2, 2)), (1, (2, 3)), (2, (2, 35)), (3, (2, 100)), (4, (0, i))]) (st' := [(2, 35)]) rfl ?_
  refine jcallV hF (c_X12_thrown hG hSK hI2.1.2.2.1) MW_X12_thrown 13 (by decide) hSK.k35 wd_1735 wd_1736 wd_1737 (by decide +kernel) [] rfl rfl (by decide) (Nat.le_of_ble_eq_true rfl) ⟨hrm.1 _ (by omega), hrm.2 _ (by omega)⟩ (kV ?_)
  refine jblk hF [(.iload 5, 2)] (by decide +kernel) (pc' := 2261) (lo' := [(6, (1, v2)), (5, (0, v1)), (0, (2, 2)), (1, (2, 3)), (2, (2, 35)), (3, (2, 100)), (4, (0, i))]) (st' := [(0, v1), (0, m2 35 1)]) rfl ?_
  refine jeqI hF (off := 5) 2266 (by decide +kernel) (by decide) ht2 ?_
  refine jblk hF [(.iload 5, 2)] (by decide +kernel) (pc' := 2268) (lo' := [(6, (1, v2)), (5, (0, v1)), (0, (2, 2)), (1, (2, 3)), (2, (2, 35)), (3, (2, 100)), (4, (0, i))]) (st' := [(0, v1)]) rfl ?_
  refine jif_ne hF (off := 14) 2282 (by decide +kernel) (by decide) (by rcases hv1 with u | u <;> rw [u] <;> decide) (fun u => ?_) (fun u => ?_)
  · refine jgoto hF (off := 775) 3057 (by decide +kernel) (by decide) ?_
    refine jwiden (k := cells + 40) (n := slots + 2000) (by omega) (by omega) ?_
    refine jsub [2, 3, 4, 5, 6] rfl ?_
    exact kk kd1 ln1 m2 sz1 ⟨⟨tg, hI2, hz2⟩, hx1⟩
  · refine jblk hF [(.aload_n 3, 1), (.iconst 0, 1)] (by decide +kernel) (pc' := 2273) (lo' := [(6, (1, v2)), (5, (0, v1)), (0, (2, 2)), (1, (2, 3)), (2, (2, 35)), (3, (2, 100)), (4, (0, i))]) (st' := [(0, 0), (2, 100)]) rfl ?_
    refine jlald hF (by decide +kernel) hx1.1 (by decide) (by rw [hx1.2]; decide) ?_
    refine jblk hF [(.lload 6, 2)] (by decide +kernel) (pc' := 2276) (lo' := [(6, (1, v2)), (5, (0, v1)), (0, (2, 2)), (1, (2, 3)), (2, (2, 35)), (3, (2, 100)), (4, (0, i))]) (st' := [(1, v2), (1, m2 100 0)]) rfl ?_
    refine jeqL hF (off := 5) 2282 (by decide +kernel) (by decide +kernel) (by decide) (ho2 u) ?_
    refine jgoto hF (off := 775) 3057 (by decide +kernel) (by decide) ?_
    refine jwiden (k := cells + 40) (n := slots + 2000) (by omega) (by omega) ?_
    refine jsub [2, 3, 4, 5, 6] rfl ?_
    exact kk kd1 ln1 m2 sz1 ⟨⟨tg, hI2, hz2⟩, hx1⟩
end CASE
