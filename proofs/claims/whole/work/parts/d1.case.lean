section CASE
set_option maxHeartbeats 4000000 in
set_option maxRecDepth 100000 in
theorem lc_0 {z : ZT} {l : Launch} {g : GP} {cells slots : Nat} {Q : State → Prop} {kd : Int → Nat} {ln : Int → Int} {mem : Int → Int → Int} {sz : Nat} {L i : Int} {S : Int → Int} (hF : FX z l g 8 code "FigureHouseLaw" room_1) (hG : GH g) (hl : l.stackTraces = false) (hTH : THW g) (hTN : TNS g) (hEM : EMP g) (mi : Nat) (hMi : va_Mi "[Ljava/lang/Object;" mi (gs g)) (hS : SCR g L S) (hi : 0 ≤ i ∧ i + 8 ≤ L) (hrm : (∀ k : Nat, k ≤ cells + 40 → k ≤ room_1.cells) ∧ ∀ k : Nat, k ≤ slots + 2000 → k ≤ room_1.slots) (hx : LINV kd ln mem sz) (kk : ∀ (kd' : Int → Nat) (ln' : Int → Int) (mem' : Int → Int → Int) (sz' : Nat), LINV kd' ln' mem' sz' → J z g 8 (cells + 40) (slots + 2000) Q 3057 [(0, (2, 2)), (1, (2, 3)), (2, (2, 35)), (3, (2, 100)), (4, (0, i))] [] kd' ln' mem' sz') : J z g 8 cells slots Q 288 [(0, (2, 2)), (1, (2, 3)), (2, (2, 35)), (3, (2, 100)), (4, (0, i))] [] kd ln mem sz := by
  obtain ⟨tg, hI, hzz⟩ := id hx.1
  refine jblk hF [(.aload_n 1, 1), (.aload_n 0, 1), (.iload 4, 2), (.iconst 1, 1), (.iadd, 1)] (by decide +kernel) (pc' := 294) (lo' := [(0, (2, 2)), (1, (2, 3)), (2, (2, 35)), (3, (2, 100)), (4, (0, i))]) (st' := [(0, i + 1), (2, 2), (2, 3)]) rfl ?_
  refine jsld hF hS (by decide +kernel) (by omega) (by omega) ?_
  refine jcallV hF (c_X11_days hG hI.1.2.1 hI.1.2.2.2.1 (S (i + 1)) tg hI (hS.2 (i + 1))) MW_X11_days 12 (by decide) hI.1.2.1.k3 wd_387 wd_388 wd_389 (by decide +kernel) [] rfl rfl (by decide) (Nat.le_of_ble_eq_true rfl) ⟨hrm.1 _ (by omega), hrm.2 _ (by omega)⟩ (kMR (fun v1 m1 h1 => ?_))
  have hSK := hI.1.1
  have hM := (MD_days hI h1).2
  refine jblk hF [(.aload_n 2, 1), (.aload_n 0, 1), (.iload 4, 2), (.iconst 1, 1), (.iadd, 1)] (by decide +kernel) (pc' := 304) (lo' := [(0, (2, 2)), (1, (2, 3)), (2, (2, 35)), (3, (2, 100)), (4, (0, i))]) (st' := [(0, i + 1), (2, 2), (2, 35), (0, v1)]) rfl ?_
  refine jsld hF hS (by decide +kernel) (by omega) (by omega) ?_
  refine jcallV hF (c_X12_days hG hSK hM.2 (S (i + 1)) (hS.2 (i + 1)) hM.1.now) MW_X12_days 13 (by decide) hSK.k35 wd_1739 wd_1740 wd_1741 (by decide +kernel) [(0, v1)] rfl rfl (by decide) (Nat.le_of_ble_eq_true rfl) ⟨hrm.1 _ (by omega), hrm.2 _ (by omega)⟩ (kMR (fun v2 m2 h2 => ?_))
  have hst := ST_days hI hzz h1 h2
  refine jeqI hF (off := 2749) 3057 (by decide +kernel) (by decide) hst.1 ?_
  refine jwiden (k := cells + 40) (n := slots + 2000) (by omega) (by omega) ?_
  refine jsub [0, 1, 2, 3, 4] rfl ?_
  exact kk kd ln m2 sz ⟨hst.2, hx.2⟩
set_option maxHeartbeats 4000000 in
set_option maxRecDepth 100000 in
theorem lc_1 {z : ZT} {l : Launch} {g : GP} {cells slots : Nat} {Q : State → Prop} {kd : Int → Nat} {ln : Int → Int} {mem : Int → Int → Int} {sz : Nat} {L i : Int} {S : Int → Int} (hF : FX z l g 8 code "FigureHouseLaw" room_1) (hG : GH g) (hl : l.stackTraces = false) (hTH : THW g) (hTN : TNS g) (hEM : EMP g) (mi : Nat) (hMi : va_Mi "[Ljava/lang/Object;" mi (gs g)) (hS : SCR g L S) (hi : 0 ≤ i ∧ i + 8 ≤ L) (hrm : (∀ k : Nat, k ≤ cells + 40 → k ≤ room_1.cells) ∧ ∀ k : Nat, k ≤ slots + 2000 → k ≤ room_1.slots) (hx : LINV kd ln mem sz) (kk : ∀ (kd' : Int → Nat) (ln' : Int → Int) (mem' : Int → Int → Int) (sz' : Nat), LINV kd' ln' mem' sz' → J z g 8 (cells + 40) (slots + 2000) Q 3057 [(0, (2, 2)), (1, (2, 3)), (2, (2, 35)), (3, (2, 100)), (4, (0, i))] [] kd' ln' mem' sz') : J z g 8 cells slots Q 313 [(0, (2, 2)), (1, (2, 3)), (2, (2, 35)), (3, (2, 100)), (4, (0, i))] [] kd ln mem sz := by
  obtain ⟨tg, hI, hzz⟩ := id hx.1
  refine jblk hF [(.aload_n 1, 1), (.aload_n 0, 1), (.iload 4, 2), (.iconst 1, 1), (.iadd, 1)] (by decide +kernel) (pc' := 319) (lo' := [(0, (2, 2)), (1, (2, 3)), (2, (2, 35)), (3, (2, 100)), (4, (0, i))]) (st' := [(0, i + 1), (2, 2), (2, 3)]) rfl ?_
  refine jsld hF hS (by decide +kernel) (by omega) (by omega) ?_
  refine jcallV hF (c_X11_as hG hI.1.2.1 hI.1.2.2.2.1 (S (i + 1)) tg hI (hS.2 (i + 1))) MW_X11_as 12 (by decide) hI.1.2.1.k3 wd_394 wd_395 wd_396 (by decide +kernel) [] rfl rfl (by decide) (Nat.le_of_ble_eq_true rfl) ⟨hrm.1 _ (by omega), hrm.2 _ (by omega)⟩ (kMBw (fun v1 m1 h1 => ?_))
  have hSK := hI.1.1
  have hM := (MD_as hI h1).2
  refine jblk hF [(.aload_n 2, 1), (.aload_n 0, 1), (.iload 4, 2), (.iconst 1, 1), (.iadd, 1)] (by decide +kernel) (pc' := 329) (lo' := [(0, (2, 2)), (1, (2, 3)), (2, (2, 35)), (3, (2, 100)), (4, (0, i))]) (st' := [(0, i + 1), (2, 2), (2, 35), (0, v1)]) rfl ?_
  refine jsld hF hS (by decide +kernel) (by omega) (by omega) ?_
  refine jcallV hF (c_X12_as hG hSK hM.2 (S (i + 1)) (hS.2 (i + 1)) hM.1.now) MW_X12_as 13 (by decide) hSK.k35 wd_1746 wd_1747 wd_1748 (by decide +kernel) [(0, v1)] rfl rfl (by decide) (Nat.le_of_ble_eq_true rfl) ⟨hrm.1 _ (by omega), hrm.2 _ (by omega)⟩ (kMBw (fun v2 m2 h2 => ?_))
  have hst := ST_as hI hzz h1 h2
  refine jeqI hF (off := 2724) 3057 (by decide +kernel) (by decide) hst.1 ?_
  refine jwiden (k := cells + 40) (n := slots + 2000) (by omega) (by omega) ?_
  refine jsub [0, 1, 2, 3, 4] rfl ?_
  exact kk kd ln m2 sz ⟨hst.2, hx.2⟩
set_option maxHeartbeats 4000000 in
set_option maxRecDepth 100000 in
theorem lc_2 {z : ZT} {l : Launch} {g : GP} {cells slots : Nat} {Q : State → Prop} {kd : Int → Nat} {ln : Int → Int} {mem : Int → Int → Int} {sz : Nat} {L i : Int} {S : Int → Int} (hF : FX z l g 8 code "FigureHouseLaw" room_1) (hG : GH g) (hl : l.stackTraces = false) (hTH : THW g) (hTN : TNS g) (hEM : EMP g) (mi : Nat) (hMi : va_Mi "[Ljava/lang/Object;" mi (gs g)) (hS : SCR g L S) (hi : 0 ≤ i ∧ i + 8 ≤ L) (hrm : (∀ k : Nat, k ≤ cells + 40 → k ≤ room_1.cells) ∧ ∀ k : Nat, k ≤ slots + 2000 → k ≤ room_1.slots) (hx : LINV kd ln mem sz) (kk : ∀ (kd' : Int → Nat) (ln' : Int → Int) (mem' : Int → Int → Int) (sz' : Nat), LINV kd' ln' mem' sz' → J z g 8 (cells + 40) (slots + 2000) Q 3057 [(0, (2, 2)), (1, (2, 3)), (2, (2, 35)), (3, (2, 100)), (4, (0, i))] [] kd' ln' mem' sz') : J z g 8 cells slots Q 338 [(0, (2, 2)), (1, (2, 3)), (2, (2, 35)), (3, (2, 100)), (4, (0, i))] [] kd ln mem sz := by
  obtain ⟨tg, hI, hzz⟩ := id hx.1
  refine jblk hF [(.aload_n 1, 1)] (by decide +kernel) (pc' := 339) (lo' := [(0, (2, 2)), (1, (2, 3)), (2, (2, 35)), (3, (2, 100)), (4, (0, i))]) (st' := [(2, 3)]) rfl ?_
  refine jcallV hF (c_X11_known hG hI.1.2.1 hI.1.2.2.2.1 tg hI) MW_X11_known 12 (by decide) hI.1.2.1.k3 wd_402 wd_403 wd_404 (by decide +kernel) [] rfl rfl (by decide) (Nat.le_of_ble_eq_true rfl) ⟨hrm.1 _ (by omega), hrm.2 _ (by omega)⟩ (kV ?_)
  have hM : MI mem ∧ SR mem := ⟨hI.2.1, hI.1.2.2.1⟩
  have hSK := hI.1.1
  refine jblk hF [(.aload_n 2, 1)] (by decide +kernel) (pc' := 343) (lo' := [(0, (2, 2)), (1, (2, 3)), (2, (2, 35)), (3, (2, 100)), (4, (0, i))]) (st' := [(2, 35), (0, knw mem)]) rfl ?_
  refine jcallV hF (c_X12_known hG hSK hM.2 ⟨by have := hM.1.asd; have := hM.1.now; omega, by have := hM.1.asd; have := hM.1.now; omega⟩) MW_X12_known 13 (by decide) hSK.k35 wd_1750 wd_1751 wd_1752 (by decide +kernel) [(0, knw mem)] rfl rfl (by decide) (Nat.le_of_ble_eq_true rfl) ⟨hrm.1 _ (by omega), hrm.2 _ (by omega)⟩ (kV ?_)
  have hst : (knw mem) = (if mem 35 2 = -1 then mem 35 0 else mem 35 2) ∧ LI kd ln mem sz := ⟨rfl, hx.1⟩
  refine jeqI hF (off := 2711) 3057 (by decide +kernel) (by decide) hst.1 ?_
  refine jwiden (k := cells + 40) (n := slots + 2000) (by omega) (by omega) ?_
  refine jsub [0, 1, 2, 3, 4] rfl ?_
  exact kk kd ln mem sz ⟨hst.2, hx.2⟩
set_option maxHeartbeats 4000000 in
set_option maxRecDepth 100000 in
theorem lc_3 {z : ZT} {l : Launch} {g : GP} {cells slots : Nat} {Q : State → Prop} {kd : Int → Nat} {ln : Int → Int} {mem : Int → Int → Int} {sz : Nat} {L i : Int} {S : Int → Int} (hF : FX z l g 8 code "FigureHouseLaw" room_1) (hG : GH g) (hl : l.stackTraces = false) (hTH : THW g) (hTN : TNS g) (hEM : EMP g) (mi : Nat) (hMi : va_Mi "[Ljava/lang/Object;" mi (gs g)) (hS : SCR g L S) (hi : 0 ≤ i ∧ i + 8 ≤ L) (hrm : (∀ k : Nat, k ≤ cells + 40 → k ≤ room_1.cells) ∧ ∀ k : Nat, k ≤ slots + 2000 → k ≤ room_1.slots) (hx : LINV kd ln mem sz) (kk : ∀ (kd' : Int → Nat) (ln' : Int → Int) (mem' : Int → Int → Int) (sz' : Nat), LINV kd' ln' mem' sz' → J z g 8 (cells + 40) (slots + 2000) Q 3057 [(0, (2, 2)), (1, (2, 3)), (2, (2, 35)), (3, (2, 100)), (4, (0, i))] [] kd' ln' mem' sz') : J z g 8 cells slots Q 351 [(0, (2, 2)), (1, (2, 3)), (2, (2, 35)), (3, (2, 100)), (4, (0, i))] [] kd ln mem sz := by
  obtain ⟨tg, hI, hzz⟩ := id hx.1
  refine jblk hF [(.aload_n 1, 1), (.aload_n 0, 1), (.iload 4, 2), (.iconst 1, 1), (.iadd, 1)] (by decide +kernel) (pc' := 357) (lo' := [(0, (2, 2)), (1, (2, 3)), (2, (2, 35)), (3, (2, 100)), (4, (0, i))]) (st' := [(0, i + 1), (2, 2), (2, 3)]) rfl ?_
  refine jsld hF hS (by decide +kernel) (by omega) (by omega) ?_
  refine jblk hF [(.aload_n 0, 1), (.iload 4, 2), (.iconst 2, 1), (.iadd, 1)] (by decide +kernel) (pc' := 363) (lo' := [(0, (2, 2)), (1, (2, 3)), (2, (2, 35)), (3, (2, 100)), (4, (0, i))]) (st' := [(0, i + 2), (2, 2), (0, S (i + 1)), (2, 3)]) rfl ?_
  refine jsld hF hS (by decide +kernel) (by omega) (by omega) ?_
  refine jblk hF [(.aload_n 0, 1), (.iload 4, 2), (.iconst 3, 1), (.iadd, 1)] (by decide +kernel) (pc' := 369) (lo' := [(0, (2, 2)), (1, (2, 3)), (2, (2, 35)), (3, (2, 100)), (4, (0, i))]) (st' := [(0, i + 3), (2, 2), (0, S (i + 2)), (0, S (i + 1)), (2, 3)]) rfl ?_
  refine jsld hF hS (by decide +kernel) (by omega) (by omega) ?_
  refine jcallV hF (c_X11_function hG hI.1.2.1 hI.1.2.2.2.1 (S (i + 1)) (S (i + 2)) (S (i + 3)) tg hI hEM mi hMi (hS.2 (i + 1)) (hS.2 (i + 2)) (hS.2 (i + 3))) MW_X11_function 12 (by decide) hI.1.2.1.k3 wd_406 wd_407 wd_408 (by decide +kernel) [] rfl rfl (by decide) (Nat.le_of_ble_eq_true rfl) ⟨hrm.1 _ (by omega), hrm.2 _ (by omega)⟩ (kXR (fun v1 kd1 ln1 m1 sz1 hE h1 => ?_))
  have hMD := MD_function hI hE h1
  have hM := hMD.2.2.2
  have hSK := hMD.1
  have hx1 : kd1 100 = 21 ∧ ln1 100 = 1 := ⟨(hE.2 100 (by have := hI.1.2.2.2.2.1; omega)).1.trans hx.2.1, (hE.2 100 (by have := hI.1.2.2.2.2.1; omega)).2.trans hx.2.2⟩
  refine jblk hF [(.aload_n 2, 1), (.aload_n 0, 1), (.iload 4, 2), (.iconst 1, 1), (.iadd, 1)] (by decide +kernel) (pc' := 379) (lo' := [(0, (2, 2)), (1, (2, 3)), (2, (2, 35)), (3, (2, 100)), (4, (0, i))]) (st' := [(0, i + 1), (2, 2), (2, 35), (0, v1)]) rfl ?_
  refine jsld hF hS (by decide +kernel) (by omega) (by omega) ?_
  refine jblk hF [(.aload_n 0, 1), (.iload 4, 2), (.iconst 2, 1), (.iadd, 1)] (by decide +kernel) (pc' := 385) (lo' := [(0, (2, 2)), (1, (2, 3)), (2, (2, 35)), (3, (2, 100)), (4, (0, i))]) (st' := [(0, i + 2), (2, 2), (0, S (i + 1)), (2, 35), (0, v1)]) rfl ?_
  refine jsld hF hS (by decide +kernel) (by omega) (by omega) ?_
  refine jblk hF [(.aload_n 0, 1), (.iload 4, 2), (.iconst 3, 1), (.iadd, 1)] (by decide +kernel) (pc' := 391) (lo' := [(0, (2, 2)), (1, (2, 3)), (2, (2, 35)), (3, (2, 100)), (4, (0, i))]) (st' := [(0, i + 3), (2, 2), (0, S (i + 2)), (0, S (i + 1)), (2, 35), (0, v1)]) rfl ?_
  refine jsld hF hS (by decide +kernel) (by omega) (by omega) ?_
  refine jcallV hF (c_X12_function hG hSK hM.2 (S (i + 1)) (S (i + 2)) (S (i + 3)) (hS.2 (i + 1)) (hS.2 (i + 2)) (hS.2 (i + 3)) ⟨hM.1.fns.1, hM.1.fns.2.1⟩) MW_X12_function 13 (by decide) hSK.k35 wd_1754 wd_1755 wd_1756 (by decide +kernel) [(0, v1)] rfl rfl (by decide) (Nat.le_of_ble_eq_true rfl) ⟨hrm.1 _ (by omega), hrm.2 _ (by omega)⟩ (kMR (fun v2 m2 h2 => ?_))
  have hst := ST_function hI hzz hE h1 h2
  refine jeqI hF (off := 2662) 3057 (by decide +kernel) (by decide) hst.1 ?_
  refine jwiden (k := cells + 40) (n := slots + 2000) (by omega) (by omega) ?_
  refine jsub [0, 1, 2, 3, 4] rfl ?_
  exact kk kd1 ln1 m2 sz1 ⟨hst.2, hx1⟩
set_option maxHeartbeats 4000000 in
set_option maxRecDepth 100000 in
theorem lc_4 {z : ZT} {l : Launch} {g : GP} {cells slots : Nat} {Q : State → Prop} {kd : Int → Nat} {ln : Int → Int} {mem : Int → Int → Int} {sz : Nat} {L i : Int} {S : Int → Int} (hF : FX z l g 8 code "FigureHouseLaw" room_1) (hG : GH g) (hl : l.stackTraces = false) (hTH : THW g) (hTN : TNS g) (hEM : EMP g) (mi : Nat) (hMi : va_Mi "[Ljava/lang/Object;" mi (gs g)) (hS : SCR g L S) (hi : 0 ≤ i ∧ i + 8 ≤ L) (hrm : (∀ k : Nat, k ≤ cells + 40 → k ≤ room_1.cells) ∧ ∀ k : Nat, k ≤ slots + 2000 → k ≤ room_1.slots) (hx : LINV kd ln mem sz) (kk : ∀ (kd' : Int → Nat) (ln' : Int → Int) (mem' : Int → Int → Int) (sz' : Nat), LINV kd' ln' mem' sz' → J z g 8 (cells + 40) (slots + 2000) Q 3057 [(0, (2, 2)), (1, (2, 3)), (2, (2, 35)), (3, (2, 100)), (4, (0, i))] [] kd' ln' mem' sz') : J z g 8 cells slots Q 400 [(0, (2, 2)), (1, (2, 3)), (2, (2, 35)), (3, (2, 100)), (4, (0, i))] [] kd ln mem sz := by
  obtain ⟨tg, hI, hzz⟩ := id hx.1
  refine jblk hF [(.aload_n 1, 1), (.aload_n 0, 1), (.iload 4, 2), (.iconst 1, 1), (.iadd, 1)] (by decide +kernel) (pc' := 406) (lo' := [(0, (2, 2)), (1, (2, 3)), (2, (2, 35)), (3, (2, 100)), (4, (0, i))]) (st' := [(0, i + 1), (2, 2), (2, 3)]) rfl ?_
  refine jsld hF hS (by decide +kernel) (by omega) (by omega) ?_
  refine jblk hF [(.aload_n 0, 1), (.iload 4, 2), (.iconst 2, 1), (.iadd, 1)] (by decide +kernel) (pc' := 412) (lo' := [(0, (2, 2)), (1, (2, 3)), (2, (2, 35)), (3, (2, 100)), (4, (0, i))]) (st' := [(0, i + 2), (2, 2), (0, S (i + 1)), (2, 3)]) rfl ?_
  refine jsld hF hS (by decide +kernel) (by omega) (by omega) ?_
  refine jblk hF [(.aload_n 0, 1), (.iload 4, 2), (.iconst 3, 1), (.iadd, 1)] (by decide +kernel) (pc' := 418) (lo' := [(0, (2, 2)), (1, (2, 3)), (2, (2, 35)), (3, (2, 100)), (4, (0, i))]) (st' := [(0, i + 3), (2, 2), (0, S (i + 2)), (0, S (i + 1)), (2, 3)]) rfl ?_
  refine jsld hF hS (by decide +kernel) (by omega) (by omega) ?_
  refine jcallV hF (c_X11_exact hG hI.1.2.1 hI.1.2.2.2.1 (S (i + 1)) (S (i + 2)) (S (i + 3)) tg hI hTN (hS.2 (i + 1)) (hS.2 (i + 2)) (hS.2 (i + 3))) MW_X11_exact 12 (by decide) hI.1.2.1.k3 wd_490 wd_491 wd_492 (by decide +kernel) [] rfl rfl (by decide) (Nat.le_of_ble_eq_true rfl) ⟨hrm.1 _ (by omega), hrm.2 _ (by omega)⟩ (kV ?_)
  have hM : MI mem ∧ SR mem := ⟨hI.2.1, hI.1.2.2.1⟩
  have hSK := hI.1.1
  refine jblk hF [(.aload_n 2, 1), (.aload_n 0, 1), (.iload 4, 2), (.iconst 1, 1), (.iadd, 1)] (by decide +kernel) (pc' := 428) (lo' := [(0, (2, 2)), (1, (2, 3)), (2, (2, 35)), (3, (2, 100)), (4, (0, i))]) (st' := [(0, i + 1), (2, 2), (2, 35), (1, exactA mem (S (i + 1)) (S (i + 2)) (S (i + 3)))]) rfl ?_
  refine jsld hF hS (by decide +kernel) (by omega) (by omega) ?_
  refine jblk hF [(.aload_n 0, 1), (.iload 4, 2), (.iconst 2, 1), (.iadd, 1)] (by decide +kernel) (pc' := 434) (lo' := [(0, (2, 2)), (1, (2, 3)), (2, (2, 35)), (3, (2, 100)), (4, (0, i))]) (st' := [(0, i + 2), (2, 2), (0, S (i + 1)), (2, 35), (1, exactA mem (S (i + 1)) (S (i + 2)) (S (i + 3)))]) rfl ?_
  refine jsld hF hS (by decide +kernel) (by omega) (by omega) ?_
  refine jblk hF [(.aload_n 0, 1), (.iload 4, 2), (.iconst 3, 1), (.iadd, 1)] (by decide +kernel) (pc' := 440) (lo' := [(0, (2, 2)), (1, (2, 3)), (2, (2, 35)), (3, (2, 100)), (4, (0, i))]) (st' := [(0, i + 3), (2, 2), (0, S (i + 2)), (0, S (i + 1)), (2, 35), (1, exactA mem (S (i + 1)) (S (i + 2)) (S (i + 3)))]) rfl ?_
  refine jsld hF hS (by decide +kernel) (by omega) (by omega) ?_
  refine jcallV hF (c_X12_exact hG hSK hM.2 (S (i + 1)) (S (i + 2)) (S (i + 3)) (hS.2 (i + 1)) (hS.2 (i + 2)) (hS.2 (i + 3)) hM.1.fns) MW_X12_exact 13 (by decide) hSK.k35 wd_1758 wd_1759 wd_1760 (by decide +kernel) [(1, exactA mem (S (i + 1)) (S (i + 2)) (S (i + 3)))] rfl rfl (by decide) (Nat.le_of_ble_eq_true rfl) ⟨hrm.1 _ (by omega), hrm.2 _ (by omega)⟩ (kV ?_)
  have hst : (exactA mem (S (i + 1)) (S (i + 2)) (S (i + 3))) = (exactA mem (S (i + 1)) (S (i + 2)) (S (i + 3))) ∧ LI kd ln mem sz := ⟨rfl, hx.1⟩
  refine jeqL hF (off := 2612) 3057 (by decide +kernel) (by decide +kernel) (by decide) hst.1 ?_
  refine jwiden (k := cells + 40) (n := slots + 2000) (by omega) (by omega) ?_
  refine jsub [0, 1, 2, 3, 4] rfl ?_
  exact kk kd ln mem sz ⟨hst.2, hx.2⟩
set_option maxHeartbeats 4000000 in
set_option maxRecDepth 100000 in
theorem lc_5 {z : ZT} {l : Launch} {g : GP} {cells slots : Nat} {Q : State → Prop} {kd : Int → Nat} {ln : Int → Int} {mem : Int → Int → Int} {sz : Nat} {L i : Int} {S : Int → Int} (hF : FX z l g 8 code "FigureHouseLaw" room_1) (hG : GH g) (hl : l.stackTraces = false) (hTH : THW g) (hTN : TNS g) (hEM : EMP g) (mi : Nat) (hMi : va_Mi "[Ljava/lang/Object;" mi (gs g)) (hS : SCR g L S) (hi : 0 ≤ i ∧ i + 8 ≤ L) (hrm : (∀ k : Nat, k ≤ cells + 40 → k ≤ room_1.cells) ∧ ∀ k : Nat, k ≤ slots + 2000 → k ≤ room_1.slots) (hx : LINV kd ln mem sz) (kk : ∀ (kd' : Int → Nat) (ln' : Int → Int) (mem' : Int → Int → Int) (sz' : Nat), LINV kd' ln' mem' sz' → J z g 8 (cells + 40) (slots + 2000) Q 3057 [(0, (2, 2)), (1, (2, 3)), (2, (2, 35)), (3, (2, 100)), (4, (0, i))] [] kd' ln' mem' sz') : J z g 8 cells slots Q 450 [(0, (2, 2)), (1, (2, 3)), (2, (2, 35)), (3, (2, 100)), (4, (0, i))] [] kd ln mem sz := by
  obtain ⟨tg, hI, hzz⟩ := id hx.1
  refine jblk hF [(.aload_n 1, 1), (.aload_n 0, 1), (.iload 4, 2), (.iconst 1, 1), (.iadd, 1)] (by decide +kernel) (pc' := 456) (lo' := [(0, (2, 2)), (1, (2, 3)), (2, (2, 35)), (3, (2, 100)), (4, (0, i))]) (st' := [(0, i + 1), (2, 2), (2, 3)]) rfl ?_
  refine jsld hF hS (by decide +kernel) (by omega) (by omega) ?_
  refine jblk hF [(.aload_n 0, 1), (.iload 4, 2), (.iconst 2, 1), (.iadd, 1)] (by decide +kernel) (pc' := 462) (lo' := [(0, (2, 2)), (1, (2, 3)), (2, (2, 35)), (3, (2, 100)), (4, (0, i))]) (st' := [(0, i + 2), (2, 2), (0, S (i + 1)), (2, 3)]) rfl ?_
  refine jsld hF hS (by decide +kernel) (by omega) (by omega) ?_
  refine jblk hF [(.aload_n 0, 1), (.iload 4, 2), (.iconst 3, 1), (.iadd, 1)] (by decide +kernel) (pc' := 468) (lo' := [(0, (2, 2)), (1, (2, 3)), (2, (2, 35)), (3, (2, 100)), (4, (0, i))]) (st' := [(0, i + 3), (2, 2), (0, S (i + 2)), (0, S (i + 1)), (2, 3)]) rfl ?_
  refine jsld hF hS (by decide +kernel) (by omega) (by omega) ?_
  refine jcallV hF (c_X11_whole hG hI.1.2.1 hI.1.2.2.2.1 (S (i + 1)) (S (i + 2)) (S (i + 3)) tg hI hTN (hS.2 (i + 1)) (hS.2 (i + 2)) (hS.2 (i + 3))) MW_X11_whole 12 (by decide) hI.1.2.1.k3 wd_539 wd_540 wd_541 (by decide +kernel) [] rfl rfl (by decide) (Nat.le_of_ble_eq_true rfl) ⟨hrm.1 _ (by omega), hrm.2 _ (by omega)⟩ (kR (fun v1 h1 => ?_))
  have hM : MI mem ∧ SR mem := ⟨hI.2.1, hI.1.2.2.1⟩
  have hSK := hI.1.1
  refine jblk hF [(.aload_n 2, 1), (.aload_n 0, 1), (.iload 4, 2), (.iconst 1, 1), (.iadd, 1)] (by decide +kernel) (pc' := 478) (lo' := [(0, (2, 2)), (1, (2, 3)), (2, (2, 35)), (3, (2, 100)), (4, (0, i))]) (st' := [(0, i + 1), (2, 2), (2, 35), (0, v1)]) rfl ?_
  refine jsld hF hS (by decide +kernel) (by omega) (by omega) ?_
  refine jblk hF [(.aload_n 0, 1), (.iload 4, 2), (.iconst 2, 1), (.iadd, 1)] (by decide +kernel) (pc' := 484) (lo' := [(0, (2, 2)), (1, (2, 3)), (2, (2, 35)), (3, (2, 100)), (4, (0, i))]) (st' := [(0, i + 2), (2, 2), (0, S (i + 1)), (2, 35), (0, v1)]) rfl ?_
  refine jsld hF hS (by decide +kernel) (by omega) (by omega) ?_
  refine jblk hF [(.aload_n 0, 1), (.iload 4, 2), (.iconst 3, 1), (.iadd, 1)] (by decide +kernel) (pc' := 490) (lo' := [(0, (2, 2)), (1, (2, 3)), (2, (2, 35)), (3, (2, 100)), (4, (0, i))]) (st' := [(0, i + 3), (2, 2), (0, S (i + 2)), (0, S (i + 1)), (2, 35), (0, v1)]) rfl ?_
  refine jsld hF hS (by decide +kernel) (by omega) (by omega) ?_
  refine jcallV hF (c_X12_whole hG hSK hM.2 (S (i + 1)) (S (i + 2)) (S (i + 3)) (hS.2 (i + 1)) (hS.2 (i + 2)) (hS.2 (i + 3)) hM.1.fns) MW_X12_whole 13 (by decide) hSK.k35 wd_1794 wd_1795 wd_1796 (by decide +kernel) [(0, v1)] rfl rfl (by decide) (Nat.le_of_ble_eq_true rfl) ⟨hrm.1 _ (by omega), hrm.2 _ (by omega)⟩ (kR (fun v2 h2 => ?_))
  have hst := ST_whole (hx := hx.1) h1 h2
  refine jeqI hF (off := 2563) 3057 (by decide +kernel) (by decide) hst.1 ?_
  refine jwiden (k := cells + 40) (n := slots + 2000) (by omega) (by omega) ?_
  refine jsub [0, 1, 2, 3, 4] rfl ?_
  exact kk kd ln mem sz ⟨hst.2, hx.2⟩
end CASE
