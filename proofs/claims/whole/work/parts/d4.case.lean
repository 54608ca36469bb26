section CASE
set_option maxHeartbeats 4000000 in
set_option maxRecDepth 100000 in
theorem lc_18 {z : ZT} {l : Launch} {g : GP} {cells slots : Nat} {Q : State → Prop} {kd : Int → Nat} {ln : Int → Int} {mem : Int → Int → Int} {sz : Nat} {L i : Int} {S : Int → Int} (hF : FX z l g 8 code "FigureHouseLaw" room_1) (hG : GH g) (hl : l.stackTraces = false) (hTH : THW g) (hTN : TNS g) (hEM : EMP g) (mi : Nat) (hMi : va_Mi "[Ljava/lang/Object;" mi (gs g)) (hS : SCR g L S) (hi : 0 ≤ i ∧ i + 8 ≤ L) (hrm : (∀ k : Nat, k ≤ cells + 40 → k ≤ room_1.cells) ∧ ∀ k : Nat, k ≤ slots + 2000 → k ≤ room_1.slots) (hx : LINV kd ln mem sz) (kk : ∀ (kd' : Int → Nat) (ln' : Int → Int) (mem' : Int → Int → Int) (sz' : Nat), LINV kd' ln' mem' sz' → J z g 8 (cells + 40) (slots + 2000) Q 3057 [(0, (2, 2)), (1, (2, 3)), (2, (2, 35)), (3, (2, 100)), (4, (0, i))] [] kd' ln' mem' sz') : J z g 8 cells slots Q 1143 [(0, (2, 2)), (1, (2, 3)), (2, (2, 35)), (3, (2, 100)), (4, (0, i))] [] kd ln mem sz := by
  obtain ⟨tg, hI, hzz⟩ := id hx.1
  refine jblk hF [(.aload_n 1, 1), (.aload_n 0, 1), (.iload 4, 2), (.iconst 1, 1), (.iadd, 1)] (by decide +kernel) (pc' := 1149) (lo' := [(0, (2, 2)), (1, (2, 3)), (2, (2, 35)), (3, (2, 100)), (4, (0, i))]) (st' := [(0, i + 1), (2, 2), (2, 3)]) rfl ?_
  refine jsld hF hS (by decide +kernel) (by omega) (by omega) ?_
  refine jcallV hF (c_X11_mend hG hI.1.2.1 hI.1.2.2.2.1 (S (i + 1)) tg hI (hS.2 (i + 1))) MW_X11_mend 12 (by decide) hI.1.2.1.k3 wd_928 wd_929 wd_930 (by decide +kernel) [] rfl rfl (by decide) (Nat.le_of_ble_eq_true rfl) ⟨hrm.1 _ (by omega), hrm.2 _ (by omega)⟩ (kMBw (fun v1 m1 h1 => ?_))
  have hSK := hI.1.1
  have hM := (MD_mend hI h1).2
  refine jblk hF [(.aload_n 2, 1), (.aload_n 0, 1), (.iload 4, 2), (.iconst 1, 1), (.iadd, 1)] (by decide +kernel) (pc' := 1159) (lo' := [(0, (2, 2)), (1, (2, 3)), (2, (2, 35)), (3, (2, 100)), (4, (0, i))]) (st' := [(0, i + 1), (2, 2), (2, 35), (0, v1)]) rfl ?_
  refine jsld hF hS (by decide +kernel) (by omega) (by omega) ?_
  refine jcallV hF (c_X12_mend hG hSK hM.2 (S (i + 1)) (hS.2 (i + 1)) hM.1.sls hM.1.now) MW_X12_mend 13 (by decide) hSK.k35 wd_1972 wd_1973 wd_1974 (by decide +kernel) [(0, v1)] rfl rfl (by decide) (Nat.le_of_ble_eq_true rfl) ⟨hrm.1 _ (by omega), hrm.2 _ (by omega)⟩ (kMBw (fun v2 m2 h2 => ?_))
  have hst := ST_mend hI hzz h1 h2
  refine jeqI hF (off := 1894) 3057 (by decide +kernel) (by decide) hst.1 ?_
  refine jwiden (k := cells + 40) (n := slots + 2000) (by omega) (by omega) ?_
  refine jsub [0, 1, 2, 3, 4] rfl ?_
  exact kk kd ln m2 sz ⟨hst.2, hx.2⟩
set_option maxHeartbeats 4000000 in
set_option maxRecDepth 100000 in
theorem lc_19 {z : ZT} {l : Launch} {g : GP} {cells slots : Nat} {Q : State → Prop} {kd : Int → Nat} {ln : Int → Int} {mem : Int → Int → Int} {sz : Nat} {L i : Int} {S : Int → Int} (hF : FX z l g 8 code "FigureHouseLaw" room_1) (hG : GH g) (hl : l.stackTraces = false) (hTH : THW g) (hTN : TNS g) (hEM : EMP g) (mi : Nat) (hMi : va_Mi "[Ljava/lang/Object;" mi (gs g)) (hS : SCR g L S) (hi : 0 ≤ i ∧ i + 8 ≤ L) (hrm : (∀ k : Nat, k ≤ cells + 40 → k ≤ room_1.cells) ∧ ∀ k : Nat, k ≤ slots + 2000 → k ≤ room_1.slots) (hx : LINV kd ln mem sz) (kk : ∀ (kd' : Int → Nat) (ln' : Int → Int) (mem' : Int → Int → Int) (sz' : Nat), LINV kd' ln' mem' sz' → J z g 8 (cells + 40) (slots + 2000) Q 3057 [(0, (2, 2)), (1, (2, 3)), (2, (2, 35)), (3, (2, 100)), (4, (0, i))] [] kd' ln' mem' sz') : J z g 8 cells slots Q 1168 [(0, (2, 2)), (1, (2, 3)), (2, (2, 35)), (3, (2, 100)), (4, (0, i))] [] kd ln mem sz := by
  obtain ⟨tg, hI, hzz⟩ := id hx.1
  refine jblk hF [(.aload_n 1, 1), (.aload_n 0, 1), (.iload 4, 2), (.iconst 1, 1), (.iadd, 1)] (by decide +kernel) (pc' := 1174) (lo' := [(0, (2, 2)), (1, (2, 3)), (2, (2, 35)), (3, (2, 100)), (4, (0, i))]) (st' := [(0, i + 1), (2, 2), (2, 3)]) rfl ?_
  refine jsld hF hS (by decide +kernel) (by omega) (by omega) ?_
  refine jblk hF [(.aload_n 0, 1), (.iload 4, 2), (.iconst 2, 1), (.iadd, 1)] (by decide +kernel) (pc' := 1180) (lo' := [(0, (2, 2)), (1, (2, 3)), (2, (2, 35)), (3, (2, 100)), (4, (0, i))]) (st' := [(0, i + 2), (2, 2), (0, S (i + 1)), (2, 3)]) rfl ?_
  refine jsld hF hS (by decide +kernel) (by omega) (by omega) ?_
  refine jblk hF [(.aload_n 0, 1), (.iload 4, 2), (.iconst 3, 1), (.iadd, 1)] (by decide +kernel) (pc' := 1186) (lo' := [(0, (2, 2)), (1, (2, 3)), (2, (2, 35)), (3, (2, 100)), (4, (0, i))]) (st' := [(0, i + 3), (2, 2), (0, S (i + 2)), (0, S (i + 1)), (2, 3)]) rfl ?_
  refine jsld hF hS (by decide +kernel) (by omega) (by omega) ?_
  refine jcallV hF (c_X11_kind hG hI.1.2.1 hI.1.2.2.2.1 (S (i + 1)) (S (i + 2)) (S (i + 3)) tg hI (hS.2 (i + 1)) (hS.2 (i + 2)) (hS.2 (i + 3))) MW_X11_kind 12 (by decide) hI.1.2.1.k3 wd_932 wd_933 wd_934 (by decide +kernel) [] rfl rfl (by decide) (Nat.le_of_ble_eq_true rfl) ⟨hrm.1 _ (by omega), hrm.2 _ (by omega)⟩ (kMR (fun v1 m1 h1 => ?_))
  have hSK := hI.1.1
  have hI1 := hI.xscf h1.2.1
  have hM : MI m1 ∧ SR m1 := ⟨hI1.2.1, hI1.1.2.2.1⟩
  refine jblk hF [(.aload_n 2, 1), (.aload_n 0, 1), (.iload 4, 2), (.iconst 1, 1), (.iadd, 1)] (by decide +kernel) (pc' := 1196) (lo' := [(0, (2, 2)), (1, (2, 3)), (2, (2, 35)), (3, (2, 100)), (4, (0, i))]) (st' := [(0, i + 1), (2, 2), (2, 35), (0, v1)]) rfl ?_
  refine jsld hF hS (by decide +kernel) (by omega) (by omega) ?_
  refine jblk hF [(.aload_n 0, 1), (.iload 4, 2), (.iconst 2, 1), (.iadd, 1)] (by decide +kernel) (pc' := 1202) (lo' := [(0, (2, 2)), (1, (2, 3)), (2, (2, 35)), (3, (2, 100)), (4, (0, i))]) (st' := [(0, i + 2), (2, 2), (0, S (i + 1)), (2, 35), (0, v1)]) rfl ?_
  refine jsld hF hS (by decide +kernel) (by omega) (by omega) ?_
  refine jblk hF [(.aload_n 0, 1), (.iload 4, 2), (.iconst 3, 1), (.iadd, 1)] (by decide +kernel) (pc' := 1208) (lo' := [(0, (2, 2)), (1, (2, 3)), (2, (2, 35)), (3, (2, 100)), (4, (0, i))]) (st' := [(0, i + 3), (2, 2), (0, S (i + 2)), (0, S (i + 1)), (2, 35), (0, v1)]) rfl ?_
  refine jsld hF hS (by decide +kernel) (by omega) (by omega) ?_
  refine jcallV hF (c_X12_kind hG hSK hM.2 (S (i + 1)) (S (i + 2)) (S (i + 3)) (hS.2 (i + 1)) (hS.2 (i + 2)) (hS.2 (i + 3)) hM.1.pgs hM.1.sls hM.1.now hM.1.chk) MW_X12_kind 13 (by decide) hSK.k35 wd_2088 wd_2089 wd_2090 (by decide +kernel) [(0, v1)] rfl rfl (by decide) (Nat.le_of_ble_eq_true rfl) ⟨hrm.1 _ (by omega), hrm.2 _ (by omega)⟩ (kMR (fun v2 m2 h2 => ?_))
  have hst := ST_kind hI hzz h1 h2
  refine jeqI hF (off := 1845) 3057 (by decide +kernel) (by decide) hst.1 ?_
  refine jwiden (k := cells + 40) (n := slots + 2000) (by omega) (by omega) ?_
  refine jsub [0, 1, 2, 3, 4] rfl ?_
  exact kk kd ln m2 sz ⟨hst.2, hx.2⟩
set_option maxHeartbeats 4000000 in
set_option maxRecDepth 100000 in
theorem lc_20 {z : ZT} {l : Launch} {g : GP} {cells slots : Nat} {Q : State → Prop} {kd : Int → Nat} {ln : Int → Int} {mem : Int → Int → Int} {sz : Nat} {L i : Int} {S : Int → Int} (hF : FX z l g 8 code "FigureHouseLaw" room_1) (hG : GH g) (hl : l.stackTraces = false) (hTH : THW g) (hTN : TNS g) (hEM : EMP g) (mi : Nat) (hMi : va_Mi "[Ljava/lang/Object;" mi (gs g)) (hS : SCR g L S) (hi : 0 ≤ i ∧ i + 8 ≤ L) (hrm : (∀ k : Nat, k ≤ cells + 40 → k ≤ room_1.cells) ∧ ∀ k : Nat, k ≤ slots + 2000 → k ≤ room_1.slots) (hx : LINV kd ln mem sz) (kk : ∀ (kd' : Int → Nat) (ln' : Int → Int) (mem' : Int → Int → Int) (sz' : Nat), LINV kd' ln' mem' sz' → J z g 8 (cells + 40) (slots + 2000) Q 3057 [(0, (2, 2)), (1, (2, 3)), (2, (2, 35)), (3, (2, 100)), (4, (0, i))] [] kd' ln' mem' sz') : J z g 8 cells slots Q 1217 [(0, (2, 2)), (1, (2, 3)), (2, (2, 35)), (3, (2, 100)), (4, (0, i))] [] kd ln mem sz := by
  obtain ⟨tg, hI, hzz⟩ := id hx.1
  refine jblk hF [(.aload_n 1, 1), (.aload_n 0, 1), (.iload 4, 2), (.iconst 1, 1), (.iadd, 1)] (by decide +kernel) (pc' := 1223) (lo' := [(0, (2, 2)), (1, (2, 3)), (2, (2, 35)), (3, (2, 100)), (4, (0, i))]) (st' := [(0, i + 1), (2, 2), (2, 3)]) rfl ?_
  refine jsld hF hS (by decide +kernel) (by omega) (by omega) ?_
  refine jblk hF [(.aload_n 0, 1), (.iload 4, 2), (.iconst 2, 1), (.iadd, 1)] (by decide +kernel) (pc' := 1229) (lo' := [(0, (2, 2)), (1, (2, 3)), (2, (2, 35)), (3, (2, 100)), (4, (0, i))]) (st' := [(0, i + 2), (2, 2), (0, S (i + 1)), (2, 3)]) rfl ?_
  refine jsld hF hS (by decide +kernel) (by omega) (by omega) ?_
  refine jblk hF [(.aload_n 0, 1), (.iload 4, 2), (.iconst 3, 1), (.iadd, 1)] (by decide +kernel) (pc' := 1235) (lo' := [(0, (2, 2)), (1, (2, 3)), (2, (2, 35)), (3, (2, 100)), (4, (0, i))]) (st' := [(0, i + 3), (2, 2), (0, S (i + 2)), (0, S (i + 1)), (2, 3)]) rfl ?_
  refine jsld hF hS (by decide +kernel) (by omega) (by omega) ?_
  refine jblk hF [(.aload_n 3, 1)] (by decide +kernel) (pc' := 1237) (lo' := [(0, (2, 2)), (1, (2, 3)), (2, (2, 35)), (3, (2, 100)), (4, (0, i))]) (st' := [(2, 100), (0, S (i + 3)), (0, S (i + 2)), (0, S (i + 1)), (2, 3)]) rfl ?_
  refine jcallSW (n := 5) hF (c_L_kept hG hl hTH hTN hI.1.2.1 hI.1.2.2.2.1 (S (i + 1)) (S (i + 2)) (S (i + 3)) tg hI hx.2 (hS.2 (i + 1)) (hS.2 (i + 2)) (hS.2 (i + 3))) cw_kept wd_100 ⟨by decide, by decide⟩ (by decide +kernel) wd_1422 wd_1423 (by decide +kernel) [] rfl rfl (by decide) (Nat.le_of_ble_eq_true rfl) ⟨hrm.1 _ (by omega), hrm.2 _ (by omega)⟩ (kXR (fun v1 kd1 ln1 m1 sz1 hE h1 => ?_))
  have hH := HL_kept hI hzz hE h1
  obtain ⟨hk1, hl1, hI1, hz1, he1, hv1⟩ := hH
  have hSK := hI1.1.1
  have hM : MI m1 ∧ SR m1 := ⟨hI1.2.1, hI1.1.2.2.1⟩
  have hx1 : kd1 100 = 21 ∧ ln1 100 = 1 := by rw [hk1, hl1]; exact hx.2
  refine jblk hF [(.istore 5, 2), (.aload_n 2, 1), (.aload_n 0, 1), (.iload 4, 2), (.iconst 1, 1), (.iadd, 1)] (by decide +kernel) (pc' := 1248) (lo' := [(5, (0, v1)), (0, (2, 2)), (1, (2, 3)), (2, (2, 35)), (3, (2, 100)), (4, (0, i))]) (st' := [(0, i + 1), (2, 2), (2, 35)]) rfl ?_
  refine jsld hF hS (by decide +kernel) (by omega) (by omega) ?_
  refine jblk hF [(.aload_n 0, 1), (.iload 4, 2), (.iconst 2, 1), (.iadd, 1)] (by decide +kernel) (pc' := 1254) (lo' := [(5, (0, v1)), (0, (2, 2)), (1, (2, 3)), (2, (2, 35)), (3, (2, 100)), (4, (0, i))]) (st' := [(0, i + 2), (2, 2), (0, S (i + 1)), (2, 35)]) rfl ?_
  refine jsld hF hS (by decide +kernel) (by omega) (by omega) ?_
  refine jblk hF [(.aload_n 0, 1), (.iload 4, 2), (.iconst 3, 1), (.iadd, 1)] (by decide +kernel) (pc' := 1260) (lo' := [(5, (0, v1)), (0, (2, 2)), (1, (2, 3)), (2, (2, 35)), (3, (2, 100)), (4, (0, i))]) (st' := [(0, i + 3), (2, 2), (0, S (i + 2)), (0, S (i + 1)), (2, 35)]) rfl ?_
  refine jsld hF hS (by decide +kernel) (by omega) (by omega) ?_
  refine jcallV hF (c_X12_kept hG hSK hM.2 (S (i + 1)) (S (i + 2)) (S (i + 3)) (hS.2 (i + 1)) (hS.2 (i + 2)) (hS.2 (i + 3)) hM.1.pgs hM.1.sls hM.1.now) MW_X12_kept 13 (by decide) hSK.k35 wd_2019 wd_2020 wd_2021 (by decide +kernel) [] rfl rfl (by decide) (Nat.le_of_ble_eq_true rfl) ⟨hrm.1 _ (by omega), hrm.2 _ (by omega)⟩ (kMR (fun v2 m2 h2 => ?_))
  have hT := TL_kept hI1 hz1 he1 h1 h2
  obtain ⟨hI2, hz2, ht2, ho2⟩ := hT
  refine jblk hF [(.lstore 6, 2), (.aload_n 2, 1)] (by decide +kernel) (pc' := 1267) (lo' := [(6, (1, v2)), (5, (0, v1)), (0, (2, 2)), (1, (2, 3)), (2, (2, 35)), (3, (2, 100)), (4, (0, i))]) (st' := [(2, 35)]) rfl ?_
  refine jcallV hF (c_X12_thrown hG hSK hI2.1.2.2.1) MW_X12_thrown 13 (by decide) hSK.k35 wd_1735 wd_1736 wd_1737 (by decide +kernel) [] rfl rfl (by decide) (Nat.le_of_ble_eq_true rfl) ⟨hrm.1 _ (by omega), hrm.2 _ (by omega)⟩ (kV ?_)
  refine jblk hF [(.iload 5, 2)] (by decide +kernel) (pc' := 1272) (lo' := [(6, (1, v2)), (5, (0, v1)), (0, (2, 2)), (1, (2, 3)), (2, (2, 35)), (3, (2, 100)), (4, (0, i))]) (st' := [(0, v1), (0, m2 35 1)]) rfl ?_
  refine jeqI hF (off := 5) 1277 (by decide +kernel) (by decide) ht2 ?_
  refine jblk hF [(.iload 5, 2)] (by decide +kernel) (pc' := 1279) (lo' := [(6, (1, v2)), (5, (0, v1)), (0, (2, 2)), (1, (2, 3)), (2, (2, 35)), (3, (2, 100)), (4, (0, i))]) (st' := [(0, v1)]) rfl ?_
  refine jif_ne hF (off := 14) 1293 (by decide +kernel) (by decide) (by rcases hv1 with u | u <;> rw [u] <;> decide) (fun u => ?_) (fun u => ?_)
  · refine jgoto hF (off := 1764) 3057 (by decide +kernel) (by decide) ?_
    refine jwiden (k := cells + 40) (n := slots + 2000) (by omega) (by omega) ?_
    refine jsub [2, 3, 4, 5, 6] rfl ?_
    exact kk kd1 ln1 m2 sz1 ⟨⟨tg, hI2, hz2⟩, hx1⟩
  · refine jblk hF [(.aload_n 3, 1), (.iconst 0, 1)] (by decide +kernel) (pc' := 1284) (lo' := [(6, (1, v2)), (5, (0, v1)), (0, (2, 2)), (1, (2, 3)), (2, (2, 35)), (3, (2, 100)), (4, (0, i))]) (st' := [(0, 0), (2, 100)]) rfl ?_
    refine jlald hF (by decide +kernel) hx1.1 (by decide) (by rw [hx1.2]; decide) ?_
    refine jblk hF [(.lload 6, 2)] (by decide +kernel) (pc' := 1287) (lo' := [(6, (1, v2)), (5, (0, v1)), (0, (2, 2)), (1, (2, 3)), (2, (2, 35)), (3, (2, 100)), (4, (0, i))]) (st' := [(1, v2), (1, m2 100 0)]) rfl ?_
    refine jeqL hF (off := 5) 1293 (by decide +kernel) (by decide +kernel) (by decide) (ho2 u) ?_
    refine jgoto hF (off := 1764) 3057 (by decide +kernel) (by decide) ?_
    refine jwiden (k := cells + 40) (n := slots + 2000) (by omega) (by omega) ?_
    refine jsub [2, 3, 4, 5, 6] rfl ?_
    exact kk kd1 ln1 m2 sz1 ⟨⟨tg, hI2, hz2⟩, hx1⟩
set_option maxHeartbeats 4000000 in
set_option maxRecDepth 100000 in
theorem lc_21 {z : ZT} {l : Launch} {g : GP} {cells slots : Nat} {Q : State → Prop} {kd : Int → Nat} {ln : Int → Int} {mem : Int → Int → Int} {sz : Nat} {L i : Int} {S : Int → Int} (hF : FX z l g 8 code "FigureHouseLaw" room_1) (hG : GH g) (hl : l.stackTraces = false) (hTH : THW g) (hTN : TNS g) (hEM : EMP g) (mi : Nat) (hMi : va_Mi "[Ljava/lang/Object;" mi (gs g)) (hS : SCR g L S) (hi : 0 ≤ i ∧ i + 8 ≤ L) (hrm : (∀ k : Nat, k ≤ cells + 40 → k ≤ room_1.cells) ∧ ∀ k : Nat, k ≤ slots + 2000 → k ≤ room_1.slots) (hx : LINV kd ln mem sz) (kk : ∀ (kd' : Int → Nat) (ln' : Int → Int) (mem' : Int → Int → Int) (sz' : Nat), LINV kd' ln' mem' sz' → J z g 8 (cells + 40) (slots + 2000) Q 3057 [(0, (2, 2)), (1, (2, 3)), (2, (2, 35)), (3, (2, 100)), (4, (0, i))] [] kd' ln' mem' sz') : J z g 8 cells slots Q 1296 [(0, (2, 2)), (1, (2, 3)), (2, (2, 35)), (3, (2, 100)), (4, (0, i))] [] kd ln mem sz := by
  obtain ⟨tg, hI, hzz⟩ := id hx.1
  refine jblk hF [(.aload_n 1, 1), (.aload_n 0, 1), (.iload 4, 2), (.iconst 1, 1), (.iadd, 1)] (by decide +kernel) (pc' := 1302) (lo' := [(0, (2, 2)), (1, (2, 3)), (2, (2, 35)), (3, (2, 100)), (4, (0, i))]) (st' := [(0, i + 1), (2, 2), (2, 3)]) rfl ?_
  refine jsld hF hS (by decide +kernel) (by omega) (by omega) ?_
  refine jblk hF [(.aload_n 0, 1), (.iload 4, 2), (.iconst 2, 1), (.iadd, 1)] (by decide +kernel) (pc' := 1308) (lo' := [(0, (2, 2)), (1, (2, 3)), (2, (2, 35)), (3, (2, 100)), (4, (0, i))]) (st' := [(0, i + 2), (2, 2), (0, S (i + 1)), (2, 3)]) rfl ?_
  refine jsld hF hS (by decide +kernel) (by omega) (by omega) ?_
  refine jblk hF [(.aload_n 3, 1)] (by decide +kernel) (pc' := 1310) (lo' := [(0, (2, 2)), (1, (2, 3)), (2, (2, 35)), (3, (2, 100)), (4, (0, i))]) (st' := [(2, 100), (0, S (i + 2)), (0, S (i + 1)), (2, 3)]) rfl ?_
  refine jcallSW (n := 4) hF (c_L_right hG hl hTH hTN hI.1.2.1 hI.1.2.2.2.1 (S (i + 1)) (S (i + 2)) tg hI hx.2 (hS.2 (i + 1)) (hS.2 (i + 2))) cw_right wd_100 ⟨by decide, by decide⟩ (by decide +kernel) wd_1429 wd_1430 (by decide +kernel) [] rfl rfl (by decide) (Nat.le_of_ble_eq_true rfl) ⟨hrm.1 _ (by omega), hrm.2 _ (by omega)⟩ (kXR (fun v1 kd1 ln1 m1 sz1 hE h1 => ?_))
  have hH := HL_right hI hzz hE h1
  obtain ⟨hk1, hl1, hI1, hz1, he1, hv1⟩ := hH
  have hSK := hI1.1.1
  have hM : MI m1 ∧ SR m1 := ⟨hI1.2.1, hI1.1.2.2.1⟩
  have hx1 : kd1 100 = 21 ∧ ln1 100 = 1 := by rw [hk1, hl1]; exact hx.2
  refine jblk hF [(.istore 5, 2), (.aload_n 2, 1), (.aload_n 0, 1), (.iload 4, 2), (.iconst 1, 1), (.iadd, 1)] (by decide +kernel) (pc' := 1321) (lo' := [(5, (0, v1)), (0, (2, 2)), (1, (2, 3)), (2, (2, 35)), (3, (2, 100)), (4, (0, i))]) (st' := [(0, i + 1), (2, 2), (2, 35)]) rfl ?_
  refine jsld hF hS (by decide +kernel) (by omega) (by omega) ?_
  refine jblk hF [(.aload_n 0, 1), (.iload 4, 2), (.iconst 2, 1), (.iadd, 1)] (by decide +kernel) (pc' := 1327) (lo' := [(5, (0, v1)), (0, (2, 2)), (1, (2, 3)), (2, (2, 35)), (3, (2, 100)), (4, (0, i))]) (st' := [(0, i + 2), (2, 2), (0, S (i + 1)), (2, 35)]) rfl ?_
  refine jsld hF hS (by decide +kernel) (by omega) (by omega) ?_
  refine jcallV hF (c_X12_right hG hSK hM.2 (S (i + 1)) (S (i + 2)) (hS.2 (i + 1)) (hS.2 (i + 2)) hM.1.pgs) MW_X12_right 13 (by decide) hSK.k35 wd_2027 wd_2028 wd_2029 (by decide +kernel) [] rfl rfl (by decide) (Nat.le_of_ble_eq_true rfl) ⟨hrm.1 _ (by omega), hrm.2 _ (by omega)⟩ (kMR (fun v2 m2 h2 => ?_))
  have hT := TL_right hI1 hz1 he1 h1 h2
  obtain ⟨hI2, hz2, ht2, ho2⟩ := hT
  refine jblk hF [(.lstore 6, 2), (.aload_n 2, 1)] (by decide +kernel) (pc' := 1334) (lo' := [(6, (1, v2)), (5, (0, v1)), (0, (2, 2)), (1, (2, 3)), (2, (2, 35)), (3, (2, 100)), (4, (0, i))]) (st' := [(2, 35)]) rfl ?_
  refine jcallV hF (c_X12_thrown hG hSK hI2.1.2.2.1) MW_X12_thrown 13 (by decide) hSK.k35 wd_1735 wd_1736 wd_1737 (by decide +kernel) [] rfl rfl (by decide) (Nat.le_of_ble_eq_true rfl) ⟨hrm.1 _ (by omega), hrm.2 _ (by omega)⟩ (kV ?_)
  refine jblk hF [(.iload 5, 2)] (by decide +kernel) (pc' := 1339) (lo' := [(6, (1, v2)), (5, (0, v1)), (0, (2, 2)), (1, (2, 3)), (2, (2, 35)), (3, (2, 100)), (4, (0, i))]) (st' := [(0, v1), (0, m2 35 1)]) rfl ?_
  refine jeqI hF (off := 5) 1344 (by decide +kernel) (by decide) ht2 ?_
  refine jblk hF [(.iload 5, 2)] (by decide +kernel) (pc' := 1346) (lo' := [(6, (1, v2)), (5, (0, v1)), (0, (2, 2)), (1, (2, 3)), (2, (2, 35)), (3, (2, 100)), (4, (0, i))]) (st' := [(0, v1)]) rfl ?_
  refine jif_ne hF (off := 14) 1360 (by decide +kernel) (by decide) (by rcases hv1 with u | u <;> rw [u] <;> decide) (fun u => ?_) (fun u => ?_)
  · refine jgoto hF (off := 1697) 3057 (by decide +kernel) (by decide) ?_
    refine jwiden (k := cells + 40) (n := slots + 2000) (by omega) (by omega) ?_
    refine jsub [2, 3, 4, 5, 6] rfl ?_
    exact kk kd1 ln1 m2 sz1 ⟨⟨tg, hI2, hz2⟩, hx1⟩
  · refine jblk hF [(.aload_n 3, 1), (.iconst 0, 1)] (by decide +kernel) (pc' := 1351) (lo' := [(6, (1, v2)), (5, (0, v1)), (0, (2, 2)), (1, (2, 3)), (2, (2, 35)), (3, (2, 100)), (4, (0, i))]) (st' := [(0, 0), (2, 100)]) rfl ?_
    refine jlald hF (by decide +kernel) hx1.1 (by decide) (by rw [hx1.2]; decide) ?_
    refine jblk hF [(.lload 6, 2)] (by decide +kernel) (pc' := 1354) (lo' := [(6, (1, v2)), (5, (0, v1)), (0, (2, 2)), (1, (2, 3)), (2, (2, 35)), (3, (2, 100)), (4, (0, i))]) (st' := [(1, v2), (1, m2 100 0)]) rfl ?_
    refine jeqL hF (off := 5) 1360 (by decide +kernel) (by decide +kernel) (by decide) (ho2 u) ?_
    refine jgoto hF (off := 1697) 3057 (by decide +kernel) (by decide) ?_
    refine jwiden (k := cells + 40) (n := slots + 2000) (by omega) (by omega) ?_
    refine jsub [2, 3, 4, 5, 6] rfl ?_
    exact kk kd1 ln1 m2 sz1 ⟨⟨tg, hI2, hz2⟩, hx1⟩
set_option maxHeartbeats 4000000 in
set_option maxRecDepth 100000 in
theorem lc_22 {z : ZT} {l : Launch} {g : GP} {cells slots : Nat} {Q : State → Prop} {kd : Int → Nat} {ln : Int → Int} {mem : Int → Int → Int} {sz : Nat} {L i : Int} {S : Int → Int} (hF : FX z l g 8 code "FigureHouseLaw" room_1) (hG : GH g) (hl : l.stackTraces = false) (hTH : THW g) (hTN : TNS g) (hEM : EMP g) (mi : Nat) (hMi : va_Mi "[Ljava/lang/Object;" mi (gs g)) (hS : SCR g L S) (hi : 0 ≤ i ∧ i + 8 ≤ L) (hrm : (∀ k : Nat, k ≤ cells + 40 → k ≤ room_1.cells) ∧ ∀ k : Nat, k ≤ slots + 2000 → k ≤ room_1.slots) (hx : LINV kd ln mem sz) (kk : ∀ (kd' : Int → Nat) (ln' : Int → Int) (mem' : Int → Int → Int) (sz' : Nat), LINV kd' ln' mem' sz' → J z g 8 (cells + 40) (slots + 2000) Q 3057 [(0, (2, 2)), (1, (2, 3)), (2, (2, 35)), (3, (2, 100)), (4, (0, i))] [] kd' ln' mem' sz') : J z g 8 cells slots Q 1363 [(0, (2, 2)), (1, (2, 3)), (2, (2, 35)), (3, (2, 100)), (4, (0, i))] [] kd ln mem sz := by
  obtain ⟨tg, hI, hzz⟩ := id hx.1
  refine jblk hF [(.aload_n 1, 1), (.aload_n 0, 1), (.iload 4, 2), (.iconst 1, 1), (.iadd, 1)] (by decide +kernel) (pc' := 1369) (lo' := [(0, (2, 2)), (1, (2, 3)), (2, (2, 35)), (3, (2, 100)), (4, (0, i))]) (st' := [(0, i + 1), (2, 2), (2, 3)]) rfl ?_
  refine jsld hF hS (by decide +kernel) (by omega) (by omega) ?_
  refine jblk hF [(.aload_n 0, 1), (.iload 4, 2), (.iconst 2, 1), (.iadd, 1)] (by decide +kernel) (pc' := 1375) (lo' := [(0, (2, 2)), (1, (2, 3)), (2, (2, 35)), (3, (2, 100)), (4, (0, i))]) (st' := [(0, i + 2), (2, 2), (0, S (i + 1)), (2, 3)]) rfl ?_
  refine jsld hF hS (by decide +kernel) (by omega) (by omega) ?_
  refine jcallV hF (c_X11_wrong hG hI.1.2.1 hI.1.2.2.2.1 (S (i + 1)) (S (i + 2)) tg hI hTN (hS.2 (i + 1)) (hS.2 (i + 2))) MW_X11_wrong 12 (by decide) hI.1.2.1.k3 wd_983 wd_984 wd_985 (by decide +kernel) [] rfl rfl (by decide) (Nat.le_of_ble_eq_true rfl) ⟨hrm.1 _ (by omega), hrm.2 _ (by omega)⟩ (kMR (fun v1 m1 h1 => ?_))
  have hSK := hI.1.1
  have hI1 := hI.xscf h1.2.1
  have hM : MI m1 ∧ SR m1 := ⟨hI1.2.1, hI1.1.2.2.1⟩
  refine jblk hF [(.aload_n 2, 1), (.aload_n 0, 1), (.iload 4, 2), (.iconst 1, 1), (.iadd, 1)] (by decide +kernel) (pc' := 1385) (lo' := [(0, (2, 2)), (1, (2, 3)), (2, (2, 35)), (3, (2, 100)), (4, (0, i))]) (st' := [(0, i + 1), (2, 2), (2, 35), (0, v1)]) rfl ?_
  refine jsld hF hS (by decide +kernel) (by omega) (by omega) ?_
  refine jblk hF [(.aload_n 0, 1), (.iload 4, 2), (.iconst 2, 1), (.iadd, 1)] (by decide +kernel) (pc' := 1391) (lo' := [(0, (2, 2)), (1, (2, 3)), (2, (2, 35)), (3, (2, 100)), (4, (0, i))]) (st' := [(0, i + 2), (2, 2), (0, S (i + 1)), (2, 35), (0, v1)]) rfl ?_
  refine jsld hF hS (by decide +kernel) (by omega) (by omega) ?_
  refine jcallV hF (c_X12_wrong hG hSK hM.2 (S (i + 1)) (S (i + 2)) (hS.2 (i + 1)) (hS.2 (i + 2)) hM.1.pgs hM.1.sls hM.1.now) MW_X12_wrong 13 (by decide) hSK.k35 wd_2035 wd_2036 wd_2037 (by decide +kernel) [(0, v1)] rfl rfl (by decide) (Nat.le_of_ble_eq_true rfl) ⟨hrm.1 _ (by omega), hrm.2 _ (by omega)⟩ (kMR (fun v2 m2 h2 => ?_))
  have hst := ST_wrong hI hzz h1 h2
  refine jeqI hF (off := 1662) 3057 (by decide +kernel) (by decide) hst.1 ?_
  refine jwiden (k := cells + 40) (n := slots + 2000) (by omega) (by omega) ?_
  refine jsub [0, 1, 2, 3, 4] rfl ?_
  exact kk kd ln m2 sz ⟨hst.2, hx.2⟩
set_option maxHeartbeats 4000000 in
set_option maxRecDepth 100000 in
theorem lc_23 {z : ZT} {l : Launch} {g : GP} {cells slots : Nat} {Q : State → Prop} {kd : Int → Nat} {ln : Int → Int} {mem : Int → Int → Int} {sz : Nat} {L i : Int} {S : Int → Int} (hF : FX z l g 8 code "FigureHouseLaw" room_1) (hG : GH g) (hl : l.stackTraces = false) (hTH : THW g) (hTN : TNS g) (hEM : EMP g) (mi : Nat) (hMi : va_Mi "[Ljava/lang/Object;" mi (gs g)) (hS : SCR g L S) (hi : 0 ≤ i ∧ i + 8 ≤ L) (hrm : (∀ k : Nat, k ≤ cells + 40 → k ≤ room_1.cells) ∧ ∀ k : Nat, k ≤ slots + 2000 → k ≤ room_1.slots) (hx : LINV kd ln mem sz) (kk : ∀ (kd' : Int → Nat) (ln' : Int → Int) (mem' : Int → Int → Int) (sz' : Nat), LINV kd' ln' mem' sz' → J z g 8 (cells + 40) (slots + 2000) Q 3057 [(0, (2, 2)), (1, (2, 3)), (2, (2, 35)), (3, (2, 100)), (4, (0, i))] [] kd' ln' mem' sz') : J z g 8 cells slots Q 1400 [(0, (2, 2)), (1, (2, 3)), (2, (2, 35)), (3, (2, 100)), (4, (0, i))] [] kd ln mem sz := by
  obtain ⟨tg, hI, hzz⟩ := id hx.1
  refine jblk hF [(.aload_n 1, 1), (.aload_n 0, 1), (.iload 4, 2), (.iconst 1, 1), (.iadd, 1)] (by decide +kernel) (pc' := 1406) (lo' := [(0, (2, 2)), (1, (2, 3)), (2, (2, 35)), (3, (2, 100)), (4, (0, i))]) (st' := [(0, i + 1), (2, 2), (2, 3)]) rfl ?_
  refine jsld hF hS (by decide +kernel) (by omega) (by omega) ?_
  refine jblk hF [(.aload_n 0, 1), (.iload 4, 2), (.iconst 2, 1), (.iadd, 1)] (by decide +kernel) (pc' := 1412) (lo' := [(0, (2, 2)), (1, (2, 3)), (2, (2, 35)), (3, (2, 100)), (4, (0, i))]) (st' := [(0, i + 2), (2, 2), (0, S (i + 1)), (2, 3)]) rfl ?_
  refine jsld hF hS (by decide +kernel) (by omega) (by omega) ?_
  refine jblk hF [(.aload_n 3, 1)] (by decide +kernel) (pc' := 1414) (lo' := [(0, (2, 2)), (1, (2, 3)), (2, (2, 35)), (3, (2, 100)), (4, (0, i))]) (st' := [(2, 100), (0, S (i + 2)), (0, S (i + 1)), (2, 3)]) rfl ?_
  refine jcallSW (n := 4) hF (c_L_stray hG hl hTH hTN hI.1.2.1 hI.1.2.2.2.1 (S (i + 1)) (S (i + 2)) tg hI hx.2 (hS.2 (i + 1)) (hS.2 (i + 2))) cw_stray wd_100 ⟨by decide, by decide⟩ (by decide +kernel) wd_1436 wd_1437 (by decide +kernel) [] rfl rfl (by decide) (Nat.le_of_ble_eq_true rfl) ⟨hrm.1 _ (by omega), hrm.2 _ (by omega)⟩ (kXR (fun v1 kd1 ln1 m1 sz1 hE h1 => ?_))
  have hH := HL_stray hI hzz hE h1
  obtain ⟨hk1, hl1, hI1, hz1, he1, hv1⟩ := hH
  have hSK := hI1.1.1
  have hM : MI m1 ∧ SR m1 := ⟨hI1.2.1, hI1.1.2.2.1⟩
  have hx1 : kd1 100 = 21 ∧ ln1 100 = 1 := by rw [hk1, hl1]; exact hx.2
  refine jblk hF [(.istore 5, 2), (.aload_n 2, 1), (.aload_n 0, 1), (.iload 4, 2), (.iconst 1, 1), (.iadd, 1)] (by decide +kernel) (pc' := 1425) (lo' := [(5, (0, v1)), (0, (2, 2)), (1, (2, 3)), (2, (2, 35)), (3, (2, 100)), (4, (0, i))]) (st' := [(0, i + 1), (2, 2), (2, 35)]) rfl ?_
  refine jsld hF hS (by decide +kernel) (by omega) (by omega) ?_
  refine jblk hF [(.aload_n 0, 1), (.iload 4, 2), (.iconst 2, 1), (.iadd, 1)] (by decide +kernel) (pc' := 1431) (lo' := [(5, (0, v1)), (0, (2, 2)), (1, (2, 3)), (2, (2, 35)), (3, (2, 100)), (4, (0, i))]) (st' := [(0, i + 2), (2, 2), (0, S (i + 1)), (2, 35)]) rfl ?_
  refine jsld hF hS (by decide +kernel) (by omega) (by omega) ?_
  refine jcallV hF (c_X12_stray hG hSK hM.2 (S (i + 1)) (S (i + 2)) (hS.2 (i + 1)) (hS.2 (i + 2)) hM.1.pgs) MW_X12_stray 13 (by decide) hSK.k35 wd_2039 wd_2040 wd_2041 (by decide +kernel) [] rfl rfl (by decide) (Nat.le_of_ble_eq_true rfl) ⟨hrm.1 _ (by omega), hrm.2 _ (by omega)⟩ (kMR (fun v2 m2 h2 => ?_))
  have hT := TL_stray hI1 hz1 he1 h1 h2
  obtain ⟨hI2, hz2, ht2, ho2⟩ := hT
  refine jblk hF [(.lstore 6, 2), (.aload_n 2, 1)] (by decide +kernel) (pc' := 1438) (lo' := [(6, (1, v2)), (5, (0, v1)), (0, (2, 2)), (1, (2, 3)), (2, (2, 35)), (3, (2, 100)), (4, (0, i))]) (st' := [(2, 35)]) rfl ?_
  refine jcallV hF (c_X12_thrown hG hSK hI2.1.2.2.1) MW_X12_thrown 13 (by decide) hSK.k35 wd_1735 wd_1736 wd_1737 (by decide +kernel) [] rfl rfl (by decide) (Nat.le_of_ble_eq_true rfl) ⟨hrm.1 _ (by omega), hrm.2 _ (by omega)⟩ (kV ?_)
  refine jblk hF [(.iload 5, 2)] (by decide +kernel) (pc' := 1443) (lo' := [(6, (1, v2)), (5, (0, v1)), (0, (2, 2)), (1, (2, 3)), (2, (2, 35)), (3, (2, 100)), (4, (0, i))]) (st' := [(0, v1), (0, m2 35 1)]) rfl ?_
  refine jeqI hF (off := 5) 1448 (by decide +kernel) (by decide) ht2 ?_
  refine jblk hF [(.iload 5, 2)] (by decide +kernel) (pc' := 1450) (lo' := [(6, (1, v2)), (5, (0, v1)), (0, (2, 2)), (1, (2, 3)), (2, (2, 35)), (3, (2, 100)), (4, (0, i))]) (st' := [(0, v1)]) rfl ?_
  refine jif_ne hF (off := 14) 1464 (by decide +kernel) (by decide) (by rcases hv1 with u | u <;> rw [u] <;> decide) (fun u => ?_) (fun u => ?_)
  · refine jgoto hF (off := 1593) 3057 (by decide +kernel) (by decide) ?_
    refine jwiden (k := cells + 40) (n := slots + 2000) (by omega) (by omega) ?_
    refine jsub [2, 3, 4, 5, 6] rfl ?_
    exact kk kd1 ln1 m2 sz1 ⟨⟨tg, hI2, hz2⟩, hx1⟩
  · refine jblk hF [(.aload_n 3, 1), (.iconst 0, 1)] (by decide +kernel) (pc' := 1455) (lo' := [(6, (1, v2)), (5, (0, v1)), (0, (2, 2)), (1, (2, 3)), (2, (2, 35)), (3, (2, 100)), (4, (0, i))]) (st' := [(0, 0), (2, 100)]) rfl ?_
    refine jlald hF (by decide +kernel) hx1.1 (by decide) (by rw [hx1.2]; decide) ?_
    refine jblk hF [(.lload 6, 2)] (by decide +kernel) (pc' := 1458) (lo' := [(6, (1, v2)), (5, (0, v1)), (0, (2, 2)), (1, (2, 3)), (2, (2, 35)), (3, (2, 100)), (4, (0, i))]) (st' := [(1, v2), (1, m2 100 0)]) rfl ?_
    refine jeqL hF (off := 5) 1464 (by decide +kernel) (by decide +kernel) (by decide) (ho2 u) ?_
    refine jgoto hF (off := 1593) 3057 (by decide +kernel) (by decide) ?_
    refine jwiden (k := cells + 40) (n := slots + 2000) (by omega) (by omega) ?_
    refine jsub [2, 3, 4, 5, 6] rfl ?_
    exact kk kd1 ln1 m2 sz1 ⟨⟨tg, hI2, hz2⟩, hx1⟩
end CASE
