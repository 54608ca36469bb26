section CASE
set_option maxHeartbeats 4000000 in
set_option maxRecDepth 100000 in
theorem lc_24 {z : ZT} {l : Launch} {g : GP} {cells slots : Nat} {Q : State → Prop} {kd : Int → Nat} {ln : Int → Int} {mem : Int → Int → Int} {sz : Nat} {L i : Int} {S : Int → Int} (hF : FX z l g 8 code "FigureHouseLaw" room_1) (hG : GH g) (hl : l.stackTraces = false) (hTH : THW g) (hTN : TNS g) (hEM : EMP g) (mi : Nat) (hMi : va_Mi "[Ljava/lang/Object;" mi (gs g)) (hS : SCR g L S) (hi : 0 ≤ i ∧ i + 8 ≤ L) (hrm : (∀ k : Nat, k ≤ cells + 40 → k ≤ room_1.cells) ∧ ∀ k : Nat, k ≤ slots + 2000 → k ≤ room_1.slots) (hx : LINV kd ln mem sz) (kk : ∀ (kd' : Int → Nat) (ln' : Int → Int) (mem' : Int → Int → Int) (sz' : Nat), LINV kd' ln' mem' sz' → J z g 8 (cells + 40) (slots + 2000) Q 3057 [(0, (2, 2)), (1, (2, 3)), (2, (2, 35)), (3, (2, 100)), (4, (0, i))] [] kd' ln' mem' sz') : J z g 8 cells slots Q 1467 [(0, (2, 2)), (1, (2, 3)), (2, (2, 35)), (3, (2, 100)), (4, (0, i))] [] kd ln mem sz := by
  obtain ⟨tg, hI, hzz⟩ := id hx.1
  refine jblk hF [(.aload_n 1, 1), (.aload_n 0, 1), (.iload 4, 2), (.iconst 1, 1), (.iadd, 1)] (by decide +kernel) (pc' := 1473) (lo' := [(0, (2, 2)), (1, (2, 3)), (2, (2, 35)), (3, (2, 100)), (4, (0, i))]) (st' := [(0, i + 1), (2, 2), (2, 3)]) rfl ?_
  refine jsld hF hS (by decide +kernel) (by omega) (by omega) ?_
  refine jblk hF [(.aload_n 0, 1), (.iload 4, 2), (.iconst 2, 1), (.iadd, 1)] (by decide +kernel) (pc' := 1479) (lo' := [(0, (2, 2)), (1, (2, 3)), (2, (2, 35)), (3, (2, 100)), (4, (0, i))]) (st' := [(0, i + 2), (2, 2), (0, S (i + 1)), (2, 3)]) rfl ?_
  refine jsld hF hS (by decide +kernel) (by omega) (by omega) ?_
  refine jcallV hF (c_X11_bound hG hI.1.2.1 hI.1.2.2.2.1 (S (i + 1)) (S (i + 2)) tg hI (hS.2 (i + 1)) (hS.2 (i + 2))) MW_X11_bound 12 (by decide) hI.1.2.1.k3 wd_993 wd_994 wd_995 (by decide +kernel) [] rfl rfl (by decide) (Nat.le_of_ble_eq_true rfl) ⟨hrm.1 _ (by omega), hrm.2 _ (by omega)⟩ (kV ?_)
  have hM : MI mem ∧ SR mem := ⟨hI.2.1, hI.1.2.2.1⟩
  have hSK := hI.1.1
  refine jblk hF [(.aload_n 2, 1), (.aload_n 0, 1), (.iload 4, 2), (.iconst 1, 1), (.iadd, 1)] (by decide +kernel) (pc' := 1489) (lo' := [(0, (2, 2)), (1, (2, 3)), (2, (2, 35)), (3, (2, 100)), (4, (0, i))]) (st' := [(0, i + 1), (2, 2), (2, 35), (1, if isLn mem (S (i + 1)) (S (i + 2)) then boundV mem (S (i + 1)) (S (i + 2)) else -1)]) rfl ?_
  refine jsld hF hS (by decide +kernel) (by omega) (by omega) ?_
  refine jblk hF [(.aload_n 0, 1), (.iload 4, 2), (.iconst 2, 1), (.iadd, 1)] (by decide +kernel) (pc' := 1495) (lo' := [(0, (2, 2)), (1, (2, 3)), (2, (2, 35)), (3, (2, 100)), (4, (0, i))]) (st' := [(0, i + 2), (2, 2), (0, S (i + 1)), (2, 35), (1, if isLn mem (S (i + 1)) (S (i + 2)) then boundV mem (S (i + 1)) (S (i + 2)) else -1)]) rfl ?_
  refine jsld hF hS (by decide +kernel) (by omega) (by omega) ?_
  refine jcallV hF (c_X12_bound hG hSK hM.2 (S (i + 1)) (S (i + 2)) (hS.2 (i + 1)) (hS.2 (i + 2)) hM.1.pgs) MW_X12_bound 13 (by decide) hSK.k35 wd_2047 wd_2048 wd_2049 (by decide +kernel) [(1, if isLn mem (S (i + 1)) (S (i + 2)) then boundV mem (S (i + 1)) (S (i + 2)) else -1)] rfl rfl (by decide) (Nat.le_of_ble_eq_true rfl) ⟨hrm.1 _ (by omega), hrm.2 _ (by omega)⟩ (kV ?_)
  have hst : (if isLn mem (S (i + 1)) (S (i + 2)) then boundV mem (S (i + 1)) (S (i + 2)) else -1) = (if isLn mem (S (i + 1)) (S (i + 2)) then boundV mem (S (i + 1)) (S (i + 2)) else -1) ∧ LI kd ln mem sz := ⟨rfl, hx.1⟩
  refine jeqL hF (off := 1557) 3057 (by decide +kernel) (by decide +kernel) (by decide) hst.1 ?_
  refine jwiden (k := cells + 40) (n := slots + 2000) (by omega) (by omega) ?_
  refine jsub [0, 1, 2, 3, 4] rfl ?_
  exact kk kd ln mem sz ⟨hst.2, hx.2⟩
set_option maxHeartbeats 4000000 in
set_option maxRecDepth 100000 in
theorem lc_25 {z : ZT} {l : Launch} {g : GP} {cells slots : Nat} {Q : State → Prop} {kd : Int → Nat} {ln : Int → Int} {mem : Int → Int → Int} {sz : Nat} {L i : Int} {S : Int → Int} (hF : FX z l g 8 code "FigureHouseLaw" room_1) (hG : GH g) (hl : l.stackTraces = false) (hTH : THW g) (hTN : TNS g) (hEM : EMP g) (mi : Nat) (hMi : va_Mi "[Ljava/lang/Object;" mi (gs g)) (hS : SCR g L S) (hi : 0 ≤ i ∧ i + 8 ≤ L) (hrm : (∀ k : Nat, k ≤ cells + 40 → k ≤ room_1.cells) ∧ ∀ k : Nat, k ≤ slots + 2000 → k ≤ room_1.slots) (hx : LINV kd ln mem sz) (kk : ∀ (kd' : Int → Nat) (ln' : Int → Int) (mem' : Int → Int → Int) (sz' : Nat), LINV kd' ln' mem' sz' → J z g 8 (cells + 40) (slots + 2000) Q 3057 [(0, (2, 2)), (1, (2, 3)), (2, (2, 35)), (3, (2, 100)), (4, (0, i))] [] kd' ln' mem' sz') : J z g 8 cells slots Q 1505 [(0, (2, 2)), (1, (2, 3)), (2, (2, 35)), (3, (2, 100)), (4, (0, i))] [] kd ln mem sz := by
  obtain ⟨tg, hI, hzz⟩ := id hx.1
  refine jblk hF [(.aload_n 1, 1), (.aload_n 0, 1), (.iload 4, 2), (.iconst 1, 1), (.iadd, 1)] (by decide +kernel) (pc' := 1511) (lo' := [(0, (2, 2)), (1, (2, 3)), (2, (2, 35)), (3, (2, 100)), (4, (0, i))]) (st' := [(0, i + 1), (2, 2), (2, 3)]) rfl ?_
  refine jsld hF hS (by decide +kernel) (by omega) (by omega) ?_
  refine jcallV hF (c_X11_drift hG hI.1.2.1 hI.1.2.2.2.1 (S (i + 1)) tg hI (hS.2 (i + 1))) MW_X11_drift 12 (by decide) hI.1.2.1.k3 wd_1005 wd_1006 wd_1007 (by decide +kernel) [] rfl rfl (by decide) (Nat.le_of_ble_eq_true rfl) ⟨hrm.1 _ (by omega), hrm.2 _ (by omega)⟩ (kMBw (fun v1 m1 h1 => ?_))
  have hSK := hI.1.1
  have hM := (MD_drift hI h1).2
  refine jblk hF [(.aload_n 2, 1), (.aload_n 0, 1), (.iload 4, 2), (.iconst 1, 1), (.iadd, 1)] (by decide +kernel) (pc' := 1521) (lo' := [(0, (2, 2)), (1, (2, 3)), (2, (2, 35)), (3, (2, 100)), (4, (0, i))]) (st' := [(0, i + 1), (2, 2), (2, 35), (0, v1)]) rfl ?_
  refine jsld hF hS (by decide +kernel) (by omega) (by omega) ?_
  refine jcallV hF (c_X12_drift hG hSK hM.2 (S (i + 1)) (hS.2 (i + 1))) MW_X12_drift 13 (by decide) hSK.k35 wd_2058 wd_2059 wd_2060 (by decide +kernel) [(0, v1)] rfl rfl (by decide) (Nat.le_of_ble_eq_true rfl) ⟨hrm.1 _ (by omega), hrm.2 _ (by omega)⟩ (kMBw (fun v2 m2 h2 => ?_))
  have hst := ST_drift hI hzz h1 h2
  refine jeqI hF (off := 1532) 3057 (by decide +kernel) (by decide) hst.1 ?_
  refine jwiden (k := cells + 40) (n := slots + 2000) (by omega) (by omega) ?_
  refine jsub [0, 1, 2, 3, 4] rfl ?_
  exact kk kd ln m2 sz ⟨hst.2, hx.2⟩
set_option maxHeartbeats 4000000 in
set_option maxRecDepth 100000 in
theorem lc_26 {z : ZT} {l : Launch} {g : GP} {cells slots : Nat} {Q : State → Prop} {kd : Int → Nat} {ln : Int → Int} {mem : Int → Int → Int} {sz : Nat} {L i : Int} {S : Int → Int} (hF : FX z l g 8 code "FigureHouseLaw" room_1) (hG : GH g) (hl : l.stackTraces = false) (hTH : THW g) (hTN : TNS g) (hEM : EMP g) (mi : Nat) (hMi : va_Mi "[Ljava/lang/Object;" mi (gs g)) (hS : SCR g L S) (hi : 0 ≤ i ∧ i + 8 ≤ L) (hrm : (∀ k : Nat, k ≤ cells + 40 → k ≤ room_1.cells) ∧ ∀ k : Nat, k ≤ slots + 2000 → k ≤ room_1.slots) (hx : LINV kd ln mem sz) (kk : ∀ (kd' : Int → Nat) (ln' : Int → Int) (mem' : Int → Int → Int) (sz' : Nat), LINV kd' ln' mem' sz' → J z g 8 (cells + 40) (slots + 2000) Q 3057 [(0, (2, 2)), (1, (2, 3)), (2, (2, 35)), (3, (2, 100)), (4, (0, i))] [] kd' ln' mem' sz') : J z g 8 cells slots Q 1530 [(0, (2, 2)), (1, (2, 3)), (2, (2, 35)), (3, (2, 100)), (4, (0, i))] [] kd ln mem sz := by
  obtain ⟨tg, hI, hzz⟩ := id hx.1
  refine jblk hF [(.aload_n 1, 1), (.aload_n 0, 1), (.iload 4, 2), (.iconst 1, 1), (.iadd, 1)] (by decide +kernel) (pc' := 1536) (lo' := [(0, (2, 2)), (1, (2, 3)), (2, (2, 35)), (3, (2, 100)), (4, (0, i))]) (st' := [(0, i + 1), (2, 2), (2, 3)]) rfl ?_
  refine jsld hF hS (by decide +kernel) (by omega) (by omega) ?_
  refine jblk hF [(.aload_n 0, 1), (.iload 4, 2), (.iconst 2, 1), (.iadd, 1)] (by decide +kernel) (pc' := 1542) (lo' := [(0, (2, 2)), (1, (2, 3)), (2, (2, 35)), (3, (2, 100)), (4, (0, i))]) (st' := [(0, i + 2), (2, 2), (0, S (i + 1)), (2, 3)]) rfl ?_
  refine jsld hF hS (by decide +kernel) (by omega) (by omega) ?_
  refine jcallV hF (c_X11_safe hG hI.1.2.1 hI.1.2.2.2.1 (S (i + 1)) (S (i + 2)) tg hI hTN (hS.2 (i + 1)) (hS.2 (i + 2))) MW_X11_safe 12 (by decide) hI.1.2.1.k3 wd_1009 wd_1010 wd_1011 (by decide +kernel) [] rfl rfl (by decide) (Nat.le_of_ble_eq_true rfl) ⟨hrm.1 _ (by omega), hrm.2 _ (by omega)⟩ (kV ?_)
  have hM : MI mem ∧ SR mem := ⟨hI.2.1, hI.1.2.2.1⟩
  have hSK := hI.1.1
  refine jblk hF [(.aload_n 2, 1), (.aload_n 0, 1), (.iload 4, 2), (.iconst 1, 1), (.iadd, 1)] (by decide +kernel) (pc' := 1552) (lo' := [(0, (2, 2)), (1, (2, 3)), (2, (2, 35)), (3, (2, 100)), (4, (0, i))]) (st' := [(0, i + 1), (2, 2), (2, 35), (0, safeA mem (S (i + 1)) (S (i + 2)))]) rfl ?_
  refine jsld hF hS (by decide +kernel) (by omega) (by omega) ?_
  refine jblk hF [(.aload_n 0, 1), (.iload 4, 2), (.iconst 2, 1), (.iadd, 1)] (by decide +kernel) (pc' := 1558) (lo' := [(0, (2, 2)), (1, (2, 3)), (2, (2, 35)), (3, (2, 100)), (4, (0, i))]) (st' := [(0, i + 2), (2, 2), (0, S (i + 1)), (2, 35), (0, safeA mem (S (i + 1)) (S (i + 2)))]) rfl ?_
  refine jsld hF hS (by decide +kernel) (by omega) (by omega) ?_
  refine jcallV hF (c_X12_safe hG hSK hM.2 (S (i + 1)) (S (i + 2)) (hS.2 (i + 1)) (hS.2 (i + 2)) hM.1.pgs hM.1.drf) MW_X12_safe 13 (by decide) hSK.k35 wd_2062 wd_2063 wd_2064 (by decide +kernel) [(0, safeA mem (S (i + 1)) (S (i + 2)))] rfl rfl (by decide) (Nat.le_of_ble_eq_true rfl) ⟨hrm.1 _ (by omega), hrm.2 _ (by omega)⟩ (kMR (fun v2 m2 h2 => ?_))
  have hst := ST_safe hI hzz h2
  refine jeqI hF (off := 1495) 3057 (by decide +kernel) (by decide) hst.1 ?_
  refine jwiden (k := cells + 40) (n := slots + 2000) (by omega) (by omega) ?_
  refine jsub [0, 1, 2, 3, 4] rfl ?_
  exact kk kd ln m2 sz ⟨hst.2, hx.2⟩
set_option maxHeartbeats 4000000 in
set_option maxRecDepth 100000 in
theorem lc_27 {z : ZT} {l : Launch} {g : GP} {cells slots : Nat} {Q : State → Prop} {kd : Int → Nat} {ln : Int → Int} {mem : Int → Int → Int} {sz : Nat} {L i : Int} {S : Int → Int} (hF : FX z l g 8 code "FigureHouseLaw" room_1) (hG : GH g) (hl : l.stackTraces = false) (hTH : THW g) (hTN : TNS g) (hEM : EMP g) (mi : Nat) (hMi : va_Mi "[Ljava/lang/Object;" mi (gs g)) (hS : SCR g L S) (hi : 0 ≤ i ∧ i + 8 ≤ L) (hrm : (∀ k : Nat, k ≤ cells + 40 → k ≤ room_1.cells) ∧ ∀ k : Nat, k ≤ slots + 2000 → k ≤ room_1.slots) (hx : LINV kd ln mem sz) (kk : ∀ (kd' : Int → Nat) (ln' : Int → Int) (mem' : Int → Int → Int) (sz' : Nat), LINV kd' ln' mem' sz' → J z g 8 (cells + 40) (slots + 2000) Q 3057 [(0, (2, 2)), (1, (2, 3)), (2, (2, 35)), (3, (2, 100)), (4, (0, i))] [] kd' ln' mem' sz') : J z g 8 cells slots Q 1567 [(0, (2, 2)), (1, (2, 3)), (2, (2, 35)), (3, (2, 100)), (4, (0, i))] [] kd ln mem sz := by
  obtain ⟨tg, hI, hzz⟩ := id hx.1
  refine jblk hF [(.aload_n 1, 1), (.aload_n 0, 1), (.iload 4, 2), (.iconst 1, 1), (.iadd, 1)] (by decide +kernel) (pc' := 1573) (lo' := [(0, (2, 2)), (1, (2, 3)), (2, (2, 35)), (3, (2, 100)), (4, (0, i))]) (st' := [(0, i + 1), (2, 2), (2, 3)]) rfl ?_
  refine jsld hF hS (by decide +kernel) (by omega) (by omega) ?_
  refine jblk hF [(.aload_n 0, 1), (.iload 4, 2), (.iconst 2, 1), (.iadd, 1)] (by decide +kernel) (pc' := 1579) (lo' := [(0, (2, 2)), (1, (2, 3)), (2, (2, 35)), (3, (2, 100)), (4, (0, i))]) (st' := [(0, i + 2), (2, 2), (0, S (i + 1)), (2, 3)]) rfl ?_
  refine jsld hF hS (by decide +kernel) (by omega) (by omega) ?_
  refine jblk hF [(.aload_n 0, 1), (.iload 4, 2), (.iconst 3, 1), (.iadd, 1)] (by decide +kernel) (pc' := 1585) (lo' := [(0, (2, 2)), (1, (2, 3)), (2, (2, 35)), (3, (2, 100)), (4, (0, i))]) (st' := [(0, i + 3), (2, 2), (0, S (i + 2)), (0, S (i + 1)), (2, 3)]) rfl ?_
  refine jsld hF hS (by decide +kernel) (by omega) (by omega) ?_
  refine jcallV hF (c_X11_check hG hI.1.2.1 hI.1.2.2.2.1 (S (i + 1)) (S (i + 2)) (S (i + 3)) tg hI (hS.2 (i + 1)) (hS.2 (i + 2)) (hS.2 (i + 3))) MW_X11_check 12 (by decide) hI.1.2.1.k3 wd_1014 wd_1015 wd_1016 (by decide +kernel) [] rfl rfl (by decide) (Nat.le_of_ble_eq_true rfl) ⟨hrm.1 _ (by omega), hrm.2 _ (by omega)⟩ (kMR (fun v1 m1 h1 => ?_))
  have hSK := hI.1.1
  have hI1 := hI.xscf h1.2.1
  have hM : MI m1 ∧ SR m1 := ⟨hI1.2.1, hI1.1.2.2.1⟩
  refine jblk hF [(.aload_n 2, 1), (.aload_n 0, 1), (.iload 4, 2), (.iconst 1, 1), (.iadd, 1)] (by decide +kernel) (pc' := 1595) (lo' := [(0, (2, 2)), (1, (2, 3)), (2, (2, 35)), (3, (2, 100)), (4, (0, i))]) (st' := [(0, i + 1), (2, 2), (2, 35), (0, v1)]) rfl ?_
  refine jsld hF hS (by decide +kernel) (by omega) (by omega) ?_
  refine jblk hF [(.aload_n 0, 1), (.iload 4, 2), (.iconst 2, 1), (.iadd, 1)] (by decide +kernel) (pc' := 1601) (lo' := [(0, (2, 2)), (1, (2, 3)), (2, (2, 35)), (3, (2, 100)), (4, (0, i))]) (st' := [(0, i + 2), (2, 2), (0, S (i + 1)), (2, 35), (0, v1)]) rfl ?_
  refine jsld hF hS (by decide +kernel) (by omega) (by omega) ?_
  refine jblk hF [(.aload_n 0, 1), (.iload 4, 2), (.iconst 3, 1), (.iadd, 1)] (by decide +kernel) (pc' := 1607) (lo' := [(0, (2, 2)), (1, (2, 3)), (2, (2, 35)), (3, (2, 100)), (4, (0, i))]) (st' := [(0, i + 3), (2, 2), (0, S (i + 2)), (0, S (i + 1)), (2, 35), (0, v1)]) rfl ?_
  refine jsld hF hS (by decide +kernel) (by omega) (by omega) ?_
  refine jcallV hF (c_X12_check hG hSK hM.2 (S (i + 1)) (S (i + 2)) (S (i + 3)) (hS.2 (i + 1)) (hS.2 (i + 2)) (hS.2 (i + 3)) hM.1.pgs hM.1.sls hM.1.now hM.1.chk) MW_X12_check 13 (by decide) hSK.k35 wd_2068 wd_2069 wd_2070 (by decide +kernel) [(0, v1)] rfl rfl (by decide) (Nat.le_of_ble_eq_true rfl) ⟨hrm.1 _ (by omega), hrm.2 _ (by omega)⟩ (kMR (fun v2 m2 h2 => ?_))
  have hst := ST_check hI hzz h1 h2
  refine jeqI hF (off := 1446) 3057 (by decide +kernel) (by decide) hst.1 ?_
  refine jwiden (k := cells + 40) (n := slots + 2000) (by omega) (by omega) ?_
  refine jsub [0, 1, 2, 3, 4] rfl ?_
  exact kk kd ln m2 sz ⟨hst.2, hx.2⟩
set_option maxHeartbeats 4000000 in
set_option maxRecDepth 100000 in
theorem lc_28 {z : ZT} {l : Launch} {g : GP} {cells slots : Nat} {Q : State → Prop} {kd : Int → Nat} {ln : Int → Int} {mem : Int → Int → Int} {sz : Nat} {L i : Int} {S : Int → Int} (hF : FX z l g 8 code "FigureHouseLaw" room_1) (hG : GH g) (hl : l.stackTraces = false) (hTH : THW g) (hTN : TNS g) (hEM : EMP g) (mi : Nat) (hMi : va_Mi "[Ljava/lang/Object;" mi (gs g)) (hS : SCR g L S) (hi : 0 ≤ i ∧ i + 8 ≤ L) (hrm : (∀ k : Nat, k ≤ cells + 40 → k ≤ room_1.cells) ∧ ∀ k : Nat, k ≤ slots + 2000 → k ≤ room_1.slots) (hx : LINV kd ln mem sz) (kk : ∀ (kd' : Int → Nat) (ln' : Int → Int) (mem' : Int → Int → Int) (sz' : Nat), LINV kd' ln' mem' sz' → J z g 8 (cells + 40) (slots + 2000) Q 3057 [(0, (2, 2)), (1, (2, 3)), (2, (2, 35)), (3, (2, 100)), (4, (0, i))] [] kd' ln' mem' sz') : J z g 8 cells slots Q 1616 [(0, (2, 2)), (1, (2, 3)), (2, (2, 35)), (3, (2, 100)), (4, (0, i))] [] kd ln mem sz := by
  obtain ⟨tg, hI, hzz⟩ := id hx.1
  refine jblk hF [(.aload_n 1, 1), (.aload_n 0, 1), (.iload 4, 2), (.iconst 1, 1), (.iadd, 1)] (by decide +kernel) (pc' := 1622) (lo' := [(0, (2, 2)), (1, (2, 3)), (2, (2, 35)), (3, (2, 100)), (4, (0, i))]) (st' := [(0, i + 1), (2, 2), (2, 3)]) rfl ?_
  refine jsld hF hS (by decide +kernel) (by omega) (by omega) ?_
  refine jblk hF [(.aload_n 0, 1), (.iload 4, 2), (.iconst 2, 1), (.iadd, 1)] (by decide +kernel) (pc' := 1628) (lo' := [(0, (2, 2)), (1, (2, 3)), (2, (2, 35)), (3, (2, 100)), (4, (0, i))]) (st' := [(0, i + 2), (2, 2), (0, S (i + 1)), (2, 3)]) rfl ?_
  refine jsld hF hS (by decide +kernel) (by omega) (by omega) ?_
  refine jcallV hF (c_X11_fails hG hI.1.2.1 hI.1.2.2.2.1 (S (i + 1)) (S (i + 2)) tg hI (hS.2 (i + 1)) (hS.2 (i + 2))) MW_X11_fails 12 (by decide) hI.1.2.1.k3 wd_1019 wd_1020 wd_1021 (by decide +kernel) [] rfl rfl (by decide) (Nat.le_of_ble_eq_true rfl) ⟨hrm.1 _ (by omega), hrm.2 _ (by omega)⟩ (kMR (fun v1 m1 h1 => ?_))
  have hSK := hI.1.1
  have hI1 := hI.xscf h1.2.1
  have hM : MI m1 ∧ SR m1 := ⟨hI1.2.1, hI1.1.2.2.1⟩
  refine jblk hF [(.aload_n 2, 1), (.aload_n 0, 1), (.iload 4, 2), (.iconst 1, 1), (.iadd, 1)] (by decide +kernel) (pc' := 1638) (lo' := [(0, (2, 2)), (1, (2, 3)), (2, (2, 35)), (3, (2, 100)), (4, (0, i))]) (st' := [(0, i + 1), (2, 2), (2, 35), (0, v1)]) rfl ?_
  refine jsld hF hS (by decide +kernel) (by omega) (by omega) ?_
  refine jblk hF [(.aload_n 0, 1), (.iload 4, 2), (.iconst 2, 1), (.iadd, 1)] (by decide +kernel) (pc' := 1644) (lo' := [(0, (2, 2)), (1, (2, 3)), (2, (2, 35)), (3, (2, 100)), (4, (0, i))]) (st' := [(0, i + 2), (2, 2), (0, S (i + 1)), (2, 35), (0, v1)]) rfl ?_
  refine jsld hF hS (by decide +kernel) (by omega) (by omega) ?_
  refine jcallV hF (c_X12_fails hG hSK hM.2 (S (i + 1)) (S (i + 2)) (hS.2 (i + 1)) (hS.2 (i + 2)) hM.1.pgs hM.1.sls hM.1.now hM.1.chk) MW_X12_fails 13 (by decide) hSK.k35 wd_2080 wd_2081 wd_2082 (by decide +kernel) [(0, v1)] rfl rfl (by decide) (Nat.le_of_ble_eq_true rfl) ⟨hrm.1 _ (by omega), hrm.2 _ (by omega)⟩ (kMR (fun v2 m2 h2 => ?_))
  have hst := ST_fails hI hzz h1 h2
  refine jeqI hF (off := 1409) 3057 (by decide +kernel) (by decide) hst.1 ?_
  refine jwiden (k := cells + 40) (n := slots + 2000) (by omega) (by omega) ?_
  refine jsub [0, 1, 2, 3, 4] rfl ?_
  exact kk kd ln m2 sz ⟨hst.2, hx.2⟩
set_option maxHeartbeats 4000000 in
set_option maxRecDepth 100000 in
theorem lc_29 {z : ZT} {l : Launch} {g : GP} {cells slots : Nat} {Q : State → Prop} {kd : Int → Nat} {ln : Int → Int} {mem : Int → Int → Int} {sz : Nat} {L i : Int} {S : Int → Int} (hF : FX z l g 8 code "FigureHouseLaw" room_1) (hG : GH g) (hl : l.stackTraces = false) (hTH : THW g) (hTN : TNS g) (hEM : EMP g) (mi : Nat) (hMi : va_Mi "[Ljava/lang/Object;" mi (gs g)) (hS : SCR g L S) (hi : 0 ≤ i ∧ i + 8 ≤ L) (hrm : (∀ k : Nat, k ≤ cells + 40 → k ≤ room_1.cells) ∧ ∀ k : Nat, k ≤ slots + 2000 → k ≤ room_1.slots) (hx : LINV kd ln mem sz) (kk : ∀ (kd' : Int → Nat) (ln' : Int → Int) (mem' : Int → Int → Int) (sz' : Nat), LINV kd' ln' mem' sz' → J z g 8 (cells + 40) (slots + 2000) Q 3057 [(0, (2, 2)), (1, (2, 3)), (2, (2, 35)), (3, (2, 100)), (4, (0, i))] [] kd' ln' mem' sz') : J z g 8 cells slots Q 1653 [(0, (2, 2)), (1, (2, 3)), (2, (2, 35)), (3, (2, 100)), (4, (0, i))] [] kd ln mem sz := by
  obtain ⟨tg, hI, hzz⟩ := id hx.1
  refine jblk hF [(.aload_n 1, 1), (.aload_n 0, 1), (.iload 4, 2), (.iconst 1, 1), (.iadd, 1)] (by decide +kernel) (pc' := 1659) (lo' := [(0, (2, 2)), (1, (2, 3)), (2, (2, 35)), (3, (2, 100)), (4, (0, i))]) (st' := [(0, i + 1), (2, 2), (2, 3)]) rfl ?_
  refine jsld hF hS (by decide +kernel) (by omega) (by omega) ?_
  refine jblk hF [(.aload_n 0, 1), (.iload 4, 2), (.iconst 2, 1), (.iadd, 1)] (by decide +kernel) (pc' := 1665) (lo' := [(0, (2, 2)), (1, (2, 3)), (2, (2, 35)), (3, (2, 100)), (4, (0, i))]) (st' := [(0, i + 2), (2, 2), (0, S (i + 1)), (2, 3)]) rfl ?_
  refine jsld hF hS (by decide +kernel) (by omega) (by omega) ?_
  refine jcallV hF (c_X11_unseen hG hI.1.2.1 hI.1.2.2.2.1 (S (i + 1)) (S (i + 2)) tg hI (hS.2 (i + 1)) (hS.2 (i + 2))) MW_X11_unseen 12 (by decide) hI.1.2.1.k3 wd_1023 wd_1024 wd_1025 (by decide +kernel) [] rfl rfl (by decide) (Nat.le_of_ble_eq_true rfl) ⟨hrm.1 _ (by omega), hrm.2 _ (by omega)⟩ (kMR (fun v1 m1 h1 => ?_))
  have hSK := hI.1.1
  have hI1 := hI.xscf h1.2.1
  have hM : MI m1 ∧ SR m1 := ⟨hI1.2.1, hI1.1.2.2.1⟩
  refine jblk hF [(.aload_n 2, 1), (.aload_n 0, 1), (.iload 4, 2), (.iconst 1, 1), (.iadd, 1)] (by decide +kernel) (pc' := 1675) (lo' := [(0, (2, 2)), (1, (2, 3)), (2, (2, 35)), (3, (2, 100)), (4, (0, i))]) (st' := [(0, i + 1), (2, 2), (2, 35), (0, v1)]) rfl ?_
  refine jsld hF hS (by decide +kernel) (by omega) (by omega) ?_
  refine jblk hF [(.aload_n 0, 1), (.iload 4, 2), (.iconst 2, 1), (.iadd, 1)] (by decide +kernel) (pc' := 1681) (lo' := [(0, (2, 2)), (1, (2, 3)), (2, (2, 35)), (3, (2, 100)), (4, (0, i))]) (st' := [(0, i + 2), (2, 2), (0, S (i + 1)), (2, 35), (0, v1)]) rfl ?_
  refine jsld hF hS (by decide +kernel) (by omega) (by omega) ?_
  refine jcallV hF (c_X12_unseen hG hSK hM.2 (S (i + 1)) (S (i + 2)) (hS.2 (i + 1)) (hS.2 (i + 2)) hM.1.pgs hM.1.sls hM.1.now hM.1.chk) MW_X12_unseen 13 (by decide) hSK.k35 wd_2092 wd_2093 wd_2094 (by decide +kernel) [(0, v1)] rfl rfl (by decide) (Nat.le_of_ble_eq_true rfl) ⟨hrm.1 _ (by omega), hrm.2 _ (by omega)⟩ (kMR (fun v2 m2 h2 => ?_))
  have hst := ST_unseen hI hzz h1 h2
  refine jeqI hF (off := 1372) 3057 (by decide +kernel) (by decide) hst.1 ?_
  refine jwiden (k := cells + 40) (n := slots + 2000) (by omega) (by omega) ?_
  refine jsub [0, 1, 2, 3, 4] rfl ?_
  exact kk kd ln m2 sz ⟨hst.2, hx.2⟩
end CASE
