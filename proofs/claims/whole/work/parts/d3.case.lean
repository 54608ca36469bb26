section CASE
set_option maxHeartbeats 4000000 in
set_option maxRecDepth 100000 in
theorem lc_12 {z : ZT} {l : Launch} {g : GP} {cells slots : Nat} {Q : State → Prop} {kd : Int → Nat} {ln : Int → Int} {mem : Int → Int → Int} {sz : Nat} {L i : Int} {S : Int → Int} (hF : FX z l g 8 code "FigureHouseLaw" room_1) (hG : GH g) (hl : l.stackTraces = false) (hTH : THW g) (hTN : TNS g) (hEM : EMP g) (mi : Nat) (hMi : va_Mi "[Ljava/lang/Object;" mi (gs g)) (hS : SCR g L S) (hi : 0 ≤ i ∧ i + 8 ≤ L) (hrm : (∀ k : Nat, k ≤ cells + 40 → k ≤ room_1.cells) ∧ ∀ k : Nat, k ≤ slots + 2000 → k ≤ room_1.slots) (hx : LINV kd ln mem sz) (kk : ∀ (kd' : Int → Nat) (ln' : Int → Int) (mem' : Int → Int → Int) (sz' : Nat), LINV kd' ln' mem' sz' → J z g 8 (cells + 40) (slots + 2000) Q 3057 [(0, (2, 2)), (1, (2, 3)), (2, (2, 35)), (3, (2, 100)), (4, (0, i))] [] kd' ln' mem' sz') : J z g 8 cells slots Q 777 [(0, (2, 2)), (1, (2, 3)), (2, (2, 35)), (3, (2, 100)), (4, (0, i))] [] kd ln mem sz := by
  obtain ⟨tg, hI, hzz⟩ := id hx.1
  refine jblk hF [(.aload_n 1, 1), (.aload_n 0, 1), (.iload 4, 2), (.iconst 1, 1), (.iadd, 1)] (by decide +kernel) (pc' := 783) (lo' := [(0, (2, 2)), (1, (2, 3)), (2, (2, 35)), (3, (2, 100)), (4, (0, i))]) (st' := [(0, i + 1), (2, 2), (2, 3)]) rfl ?_
  refine jsld hF hS (by decide +kernel) (by omega) (by omega) ?_
  refine jblk hF [(.aload_n 0, 1), (.iload 4, 2), (.iconst 2, 1), (.iadd, 1)] (by decide +kernel) (pc' := 789) (lo' := [(0, (2, 2)), (1, (2, 3)), (2, (2, 35)), (3, (2, 100)), (4, (0, i))]) (st' := [(0, i + 2), (2, 2), (0, S (i + 1)), (2, 3)]) rfl ?_
  refine jsld hF hS (by decide +kernel) (by omega) (by omega) ?_
  refine jblk hF [(.aload_n 0, 1), (.iload 4, 2), (.iconst 3, 1), (.iadd, 1)] (by decide +kernel) (pc' := 795) (lo' := [(0, (2, 2)), (1, (2, 3)), (2, (2, 35)), (3, (2, 100)), (4, (0, i))]) (st' := [(0, i + 3), (2, 2), (0, S (i + 2)), (0, S (i + 1)), (2, 3)]) rfl ?_
  refine jsld hF hS (by decide +kernel) (by omega) (by omega) ?_
  refine jblk hF [(.aload_n 0, 1), (.iload 4, 2), (.iconst 4, 1), (.iadd, 1)] (by decide +kernel) (pc' := 801) (lo' := [(0, (2, 2)), (1, (2, 3)), (2, (2, 35)), (3, (2, 100)), (4, (0, i))]) (st' := [(0, i + 4), (2, 2), (0, S (i + 3)), (0, S (i + 2)), (0, S (i + 1)), (2, 3)]) rfl ?_
  refine jsld hF hS (by decide +kernel) (by omega) (by omega) ?_
  refine jcallV hF (c_X11_page hG hI.1.2.1 hI.1.2.2.2.1 (S (i + 1)) (S (i + 2)) (S (i + 3)) (S (i + 4)) tg hI hTN hEM mi hMi (hS.2 (i + 1)) (hS.2 (i + 2)) (hS.2 (i + 3)) (hS.2 (i + 4))) MW_X11_page 12 (by decide) hI.1.2.1.k3 wd_680 wd_681 wd_682 (by decide +kernel) [] rfl rfl (by decide) (Nat.le_of_ble_eq_true rfl) ⟨hrm.1 _ (by omega), hrm.2 _ (by omega)⟩ (kXR (fun v1 kd1 ln1 m1 sz1 hE h1 => ?_))
  have hMD := MD_page hI hE h1
  have hM := hMD.2.2.2
  have hSK := hMD.1
  have hx1 : kd1 100 = 21 ∧ ln1 100 = 1 := ⟨(hE.2 100 (by have := hI.1.2.2.2.2.1; omega)).1.trans hx.2.1, (hE.2 100 (by have := hI.1.2.2.2.2.1; omega)).2.trans hx.2.2⟩
  have hPLS : PLS m1 (tTT mem) (tLL mem) := by rw [ovr_ex hMD.2.2.1]; exact hI.plsm
  refine jblk hF [(.aload_n 2, 1), (.aload_n 0, 1), (.iload 4, 2), (.iconst 1, 1), (.iadd, 1)] (by decide +kernel) (pc' := 811) (lo' := [(0, (2, 2)), (1, (2, 3)), (2, (2, 35)), (3, (2, 100)), (4, (0, i))]) (st' := [(0, i + 1), (2, 2), (2, 35), (0, v1)]) rfl ?_
  refine jsld hF hS (by decide +kernel) (by omega) (by omega) ?_
  refine jblk hF [(.aload_n 0, 1), (.iload 4, 2), (.iconst 2, 1), (.iadd, 1)] (by decide +kernel) (pc' := 817) (lo' := [(0, (2, 2)), (1, (2, 3)), (2, (2, 35)), (3, (2, 100)), (4, (0, i))]) (st' := [(0, i + 2), (2, 2), (0, S (i + 1)), (2, 35), (0, v1)]) rfl ?_
  refine jsld hF hS (by decide +kernel) (by omega) (by omega) ?_
  refine jblk hF [(.aload_n 0, 1), (.iload 4, 2), (.iconst 3, 1), (.iadd, 1)] (by decide +kernel) (pc' := 823) (lo' := [(0, (2, 2)), (1, (2, 3)), (2, (2, 35)), (3, (2, 100)), (4, (0, i))]) (st' := [(0, i + 3), (2, 2), (0, S (i + 2)), (0, S (i + 1)), (2, 35), (0, v1)]) rfl ?_
  refine jsld hF hS (by decide +kernel) (by omega) (by omega) ?_
  refine jblk hF [(.aload_n 0, 1), (.iload 4, 2), (.iconst 4, 1), (.iadd, 1)] (by decide +kernel) (pc' := 829) (lo' := [(0, (2, 2)), (1, (2, 3)), (2, (2, 35)), (3, (2, 100)), (4, (0, i))]) (st' := [(0, i + 4), (2, 2), (0, S (i + 3)), (0, S (i + 2)), (0, S (i + 1)), (2, 35), (0, v1)]) rfl ?_
  refine jsld hF hS (by decide +kernel) (by omega) (by omega) ?_
  refine jcallV hF (c_X12_page hG hSK hM.2 (S (i + 1)) (S (i + 2)) (S (i + 3)) (S (i + 4)) (hS.2 (i + 1)) (hS.2 (i + 2)) (hS.2 (i + 3)) (hS.2 (i + 4)) ⟨hM.1.fns.1, hM.1.fns.2.1⟩ ⟨hM.1.pgs.1, hM.1.pgs.2.1⟩ (tTT mem) (tLL mem) hPLS) MW_X12_page 13 (by decide) hSK.k35 wd_1917 wd_1918 wd_1919 (by decide +kernel) [(0, v1)] rfl rfl (by decide) (Nat.le_of_ble_eq_true rfl) ⟨hrm.1 _ (by omega), hrm.2 _ (by omega)⟩ (kMR (fun v2 m2 h2 => ?_))
  have hst := ST_page hI hzz hE h1 h2
  refine jeqI hF (off := 2224) 3057 (by decide +kernel) (by decide) hst.1 ?_
  refine jwiden (k := cells + 40) (n := slots + 2000) (by omega) (by omega) ?_
  refine jsub [0, 1, 2, 3, 4] rfl ?_
  exact kk kd1 ln1 m2 sz1 ⟨hst.2, hx1⟩
set_option maxHeartbeats 4000000 in
set_option maxRecDepth 100000 in
theorem lc_13 {z : ZT} {l : Launch} {g : GP} {cells slots : Nat} {Q : State → Prop} {kd : Int → Nat} {ln : Int → Int} {mem : Int → Int → Int} {sz : Nat} {L i : Int} {S : Int → Int} (hF : FX z l g 8 code "FigureHouseLaw" room_1) (hG : GH g) (hl : l.stackTraces = false) (hTH : THW g) (hTN : TNS g) (hEM : EMP g) (mi : Nat) (hMi : va_Mi "[Ljava/lang/Object;" mi (gs g)) (hS : SCR g L S) (hi : 0 ≤ i ∧ i + 8 ≤ L) (hrm : (∀ k : Nat, k ≤ cells + 40 → k ≤ room_1.cells) ∧ ∀ k : Nat, k ≤ slots + 2000 → k ≤ room_1.slots) (hx : LINV kd ln mem sz) (kk : ∀ (kd' : Int → Nat) (ln' : Int → Int) (mem' : Int → Int → Int) (sz' : Nat), LINV kd' ln' mem' sz' → J z g 8 (cells + 40) (slots + 2000) Q 3057 [(0, (2, 2)), (1, (2, 3)), (2, (2, 35)), (3, (2, 100)), (4, (0, i))] [] kd' ln' mem' sz') : J z g 8 cells slots Q 838 [(0, (2, 2)), (1, (2, 3)), (2, (2, 35)), (3, (2, 100)), (4, (0, i))] [] kd ln mem sz := by
  obtain ⟨tg, hI, hzz⟩ := id hx.1
  refine jblk hF [(.aload_n 1, 1), (.aload_n 0, 1), (.iload 4, 2), (.iconst 1, 1), (.iadd, 1)] (by decide +kernel) (pc' := 844) (lo' := [(0, (2, 2)), (1, (2, 3)), (2, (2, 35)), (3, (2, 100)), (4, (0, i))]) (st' := [(0, i + 1), (2, 2), (2, 3)]) rfl ?_
  refine jsld hF hS (by decide +kernel) (by omega) (by omega) ?_
  refine jblk hF [(.aload_n 0, 1), (.iload 4, 2), (.iconst 2, 1), (.iadd, 1)] (by decide +kernel) (pc' := 850) (lo' := [(0, (2, 2)), (1, (2, 3)), (2, (2, 35)), (3, (2, 100)), (4, (0, i))]) (st' := [(0, i + 2), (2, 2), (0, S (i + 1)), (2, 3)]) rfl ?_
  refine jsld hF hS (by decide +kernel) (by omega) (by omega) ?_
  refine jcallV hF (c_X11_paged hG hI.1.2.1 hI.1.2.2.2.1 (S (i + 1)) (S (i + 2)) tg hI (hS.2 (i + 1)) (hS.2 (i + 2))) MW_X11_paged 12 (by decide) hI.1.2.1.k3 wd_847 wd_848 wd_849 (by decide +kernel) [] rfl rfl (by decide) (Nat.le_of_ble_eq_true rfl) ⟨hrm.1 _ (by omega), hrm.2 _ (by omega)⟩ (kV ?_)
  have hM : MI mem ∧ SR mem := ⟨hI.2.1, hI.1.2.2.1⟩
  have hSK := hI.1.1
  refine jblk hF [(.aload_n 2, 1), (.aload_n 0, 1), (.iload 4, 2), (.iconst 1, 1), (.iadd, 1)] (by decide +kernel) (pc' := 860) (lo' := [(0, (2, 2)), (1, (2, 3)), (2, (2, 35)), (3, (2, 100)), (4, (0, i))]) (st' := [(0, i + 1), (2, 2), (2, 35), (0, pagedA mem (S (i + 1)) (S (i + 2)))]) rfl ?_
  refine jsld hF hS (by decide +kernel) (by omega) (by omega) ?_
  refine jblk hF [(.aload_n 0, 1), (.iload 4, 2), (.iconst 2, 1), (.iadd, 1)] (by decide +kernel) (pc' := 866) (lo' := [(0, (2, 2)), (1, (2, 3)), (2, (2, 35)), (3, (2, 100)), (4, (0, i))]) (st' := [(0, i + 2), (2, 2), (0, S (i + 1)), (2, 35), (0, pagedA mem (S (i + 1)) (S (i + 2)))]) rfl ?_
  refine jsld hF hS (by decide +kernel) (by omega) (by omega) ?_
  refine jcallV hF (c_X12_paged hG hSK hM.2 (S (i + 1)) (S (i + 2)) (hS.2 (i + 1)) (hS.2 (i + 2)) hM.1.pgs) MW_X12_paged 13 (by decide) hSK.k35 wd_1926 wd_1927 wd_1928 (by decide +kernel) [(0, pagedA mem (S (i + 1)) (S (i + 2)))] rfl rfl (by decide) (Nat.le_of_ble_eq_true rfl) ⟨hrm.1 _ (by omega), hrm.2 _ (by omega)⟩ (kV ?_)
  have hst : (pagedA mem (S (i + 1)) (S (i + 2))) = (pagedA mem (S (i + 1)) (S (i + 2))) ∧ LI kd ln mem sz := ⟨rfl, hx.1⟩
  refine jeqI hF (off := 2187) 3057 (by decide +kernel) (by decide) hst.1 ?_
  refine jwiden (k := cells + 40) (n := slots + 2000) (by omega) (by omega) ?_
  refine jsub [0, 1, 2, 3, 4] rfl ?_
  exact kk kd ln mem sz ⟨hst.2, hx.2⟩
set_option maxHeartbeats 4000000 in
set_option maxRecDepth 100000 in
theorem lc_14 {z : ZT} {l : Launch} {g : GP} {cells slots : Nat} {Q : State → Prop} {kd : Int → Nat} {ln : Int → Int} {mem : Int → Int → Int} {sz : Nat} {L i : Int} {S : Int → Int} (hF : FX z l g 8 code "FigureHouseLaw" room_1) (hG : GH g) (hl : l.stackTraces = false) (hTH : THW g) (hTN : TNS g) (hEM : EMP g) (mi : Nat) (hMi : va_Mi "[Ljava/lang/Object;" mi (gs g)) (hS : SCR g L S) (hi : 0 ≤ i ∧ i + 8 ≤ L) (hrm : (∀ k : Nat, k ≤ cells + 40 → k ≤ room_1.cells) ∧ ∀ k : Nat, k ≤ slots + 2000 → k ≤ room_1.slots) (hx : LINV kd ln mem sz) (kk : ∀ (kd' : Int → Nat) (ln' : Int → Int) (mem' : Int → Int → Int) (sz' : Nat), LINV kd' ln' mem' sz' → J z g 8 (cells + 40) (slots + 2000) Q 3057 [(0, (2, 2)), (1, (2, 3)), (2, (2, 35)), (3, (2, 100)), (4, (0, i))] [] kd' ln' mem' sz') : J z g 8 cells slots Q 875 [(0, (2, 2)), (1, (2, 3)), (2, (2, 35)), (3, (2, 100)), (4, (0, i))] [] kd ln mem sz := by
  obtain ⟨tg, hI, hzz⟩ := id hx.1
  refine jblk hF [(.aload_n 1, 1), (.aload_n 0, 1), (.iload 4, 2), (.iconst 1, 1), (.iadd, 1)] (by decide +kernel) (pc' := 881) (lo' := [(0, (2, 2)), (1, (2, 3)), (2, (2, 35)), (3, (2, 100)), (4, (0, i))]) (st' := [(0, i + 1), (2, 2), (2, 3)]) rfl ?_
  refine jsld hF hS (by decide +kernel) (by omega) (by omega) ?_
  refine jblk hF [(.aload_n 0, 1), (.iload 4, 2), (.iconst 2, 1), (.iadd, 1)] (by decide +kernel) (pc' := 887) (lo' := [(0, (2, 2)), (1, (2, 3)), (2, (2, 35)), (3, (2, 100)), (4, (0, i))]) (st' := [(0, i + 2), (2, 2), (0, S (i + 1)), (2, 3)]) rfl ?_
  refine jsld hF hS (by decide +kernel) (by omega) (by omega) ?_
  refine jblk hF [(.aload_n 0, 1), (.iload 4, 2), (.iconst 3, 1), (.iadd, 1)] (by decide +kernel) (pc' := 893) (lo' := [(0, (2, 2)), (1, (2, 3)), (2, (2, 35)), (3, (2, 100)), (4, (0, i))]) (st' := [(0, i + 3), (2, 2), (0, S (i + 2)), (0, S (i + 1)), (2, 3)]) rfl ?_
  refine jsld hF hS (by decide +kernel) (by omega) (by omega) ?_
  refine jcallV hF (c_X11_lined hG hI.1.2.1 hI.1.2.2.2.1 (S (i + 1)) (S (i + 2)) (S (i + 3)) tg hI (hS.2 (i + 1)) (hS.2 (i + 2)) (hS.2 (i + 3))) MW_X11_lined 12 (by decide) hI.1.2.1.k3 wd_865 wd_866 wd_867 (by decide +kernel) [] rfl rfl (by decide) (Nat.le_of_ble_eq_true rfl) ⟨hrm.1 _ (by omega), hrm.2 _ (by omega)⟩ (kV ?_)
  have hM : MI mem ∧ SR mem := ⟨hI.2.1, hI.1.2.2.1⟩
  have hSK := hI.1.1
  refine jblk hF [(.aload_n 2, 1), (.aload_n 0, 1), (.iload 4, 2), (.iconst 1, 1), (.iadd, 1)] (by decide +kernel) (pc' := 903) (lo' := [(0, (2, 2)), (1, (2, 3)), (2, (2, 35)), (3, (2, 100)), (4, (0, i))]) (st' := [(0, i + 1), (2, 2), (2, 35), (0, linedA mem (S (i + 1)) (S (i + 2)) (S (i + 3)))]) rfl ?_
  refine jsld hF hS (by decide +kernel) (by omega) (by omega) ?_
  refine jblk hF [(.aload_n 0, 1), (.iload 4, 2), (.iconst 2, 1), (.iadd, 1)] (by decide +kernel) (pc' := 909) (lo' := [(0, (2, 2)), (1, (2, 3)), (2, (2, 35)), (3, (2, 100)), (4, (0, i))]) (st' := [(0, i + 2), (2, 2), (0, S (i + 1)), (2, 35), (0, linedA mem (S (i + 1)) (S (i + 2)) (S (i + 3)))]) rfl ?_
  refine jsld hF hS (by decide +kernel) (by omega) (by omega) ?_
  refine jblk hF [(.aload_n 0, 1), (.iload 4, 2), (.iconst 3, 1), (.iadd, 1)] (by decide +kernel) (pc' := 915) (lo' := [(0, (2, 2)), (1, (2, 3)), (2, (2, 35)), (3, (2, 100)), (4, (0, i))]) (st' := [(0, i + 3), (2, 2), (0, S (i + 2)), (0, S (i + 1)), (2, 35), (0, linedA mem (S (i + 1)) (S (i + 2)) (S (i + 3)))]) rfl ?_
  refine jsld hF hS (by decide +kernel) (by omega) (by omega) ?_
  refine jcallV hF (c_X12_lined hG hSK hM.2 (S (i + 1)) (S (i + 2)) (S (i + 3)) (hS.2 (i + 1)) (hS.2 (i + 2)) (hS.2 (i + 3)) hM.1.pgs) MW_X12_lined 13 (by decide) hSK.k35 wd_1950 wd_1951 wd_1952 (by decide +kernel) [(0, linedA mem (S (i + 1)) (S (i + 2)) (S (i + 3)))] rfl rfl (by decide) (Nat.le_of_ble_eq_true rfl) ⟨hrm.1 _ (by omega), hrm.2 _ (by omega)⟩ (kV ?_)
  have hst : (linedA mem (S (i + 1)) (S (i + 2)) (S (i + 3))) = (linedA mem (S (i + 1)) (S (i + 2)) (S (i + 3))) ∧ LI kd ln mem sz := ⟨rfl, hx.1⟩
  refine jeqI hF (off := 2138) 3057 (by decide +kernel) (by decide) hst.1 ?_
  refine jwiden (k := cells + 40) (n := slots + 2000) (by omega) (by omega) ?_
  refine jsub [0, 1, 2, 3, 4] rfl ?_
  exact kk kd ln mem sz ⟨hst.2, hx.2⟩
set_option maxHeartbeats 4000000 in
set_option maxRecDepth 100000 in
theorem lc_15 {z : ZT} {l : Launch} {g : GP} {cells slots : Nat} {Q : State → Prop} {kd : Int → Nat} {ln : Int → Int} {mem : Int → Int → Int} {sz : Nat} {L i : Int} {S : Int → Int} (hF : FX z l g 8 code "FigureHouseLaw" room_1) (hG : GH g) (hl : l.stackTraces = false) (hTH : THW g) (hTN : TNS g) (hEM : EMP g) (mi : Nat) (hMi : va_Mi "[Ljava/lang/Object;" mi (gs g)) (hS : SCR g L S) (hi : 0 ≤ i ∧ i + 8 ≤ L) (hrm : (∀ k : Nat, k ≤ cells + 40 → k ≤ room_1.cells) ∧ ∀ k : Nat, k ≤ slots + 2000 → k ≤ room_1.slots) (hx : LINV kd ln mem sz) (kk : ∀ (kd' : Int → Nat) (ln' : Int → Int) (mem' : Int → Int → Int) (sz' : Nat), LINV kd' ln' mem' sz' → J z g 8 (cells + 40) (slots + 2000) Q 3057 [(0, (2, 2)), (1, (2, 3)), (2, (2, 35)), (3, (2, 100)), (4, (0, i))] [] kd' ln' mem' sz') : J z g 8 cells slots Q 924 [(0, (2, 2)), (1, (2, 3)), (2, (2, 35)), (3, (2, 100)), (4, (0, i))] [] kd ln mem sz := by
  obtain ⟨tg, hI, hzz⟩ := id hx.1
  refine jblk hF [(.aload_n 1, 1), (.aload_n 0, 1), (.iload 4, 2), (.iconst 1, 1), (.iadd, 1)] (by decide +kernel) (pc' := 930) (lo' := [(0, (2, 2)), (1, (2, 3)), (2, (2, 35)), (3, (2, 100)), (4, (0, i))]) (st' := [(0, i + 1), (2, 2), (2, 3)]) rfl ?_
  refine jsld hF hS (by decide +kernel) (by omega) (by omega) ?_
  refine jblk hF [(.aload_n 0, 1), (.iload 4, 2), (.iconst 2, 1), (.iadd, 1)] (by decide +kernel) (pc' := 936) (lo' := [(0, (2, 2)), (1, (2, 3)), (2, (2, 35)), (3, (2, 100)), (4, (0, i))]) (st' := [(0, i + 2), (2, 2), (0, S (i + 1)), (2, 3)]) rfl ?_
  refine jsld hF hS (by decide +kernel) (by omega) (by omega) ?_
  refine jblk hF [(.aload_n 3, 1)] (by decide +kernel) (pc' := 938) (lo' := [(0, (2, 2)), (1, (2, 3)), (2, (2, 35)), (3, (2, 100)), (4, (0, i))]) (st' := [(2, 100), (0, S (i + 2)), (0, S (i + 1)), (2, 3)]) rfl ?_
  refine jcallSW (n := 4) hF (c_L_trueOf hG hl hTH hTN hI.1.2.1 hI.1.2.2.2.1 (S (i + 1)) (S (i + 2)) tg hI hx.2 (hS.2 (i + 1)) (hS.2 (i + 2))) cw_trueOf wd_100 ⟨by decide, by decide⟩ (by decide +kernel) wd_1404 wd_1405 (by decide +kernel) [] rfl rfl (by decide) (Nat.le_of_ble_eq_true rfl) ⟨hrm.1 _ (by omega), hrm.2 _ (by omega)⟩ (kXR (fun v1 kd1 ln1 m1 sz1 hE h1 => ?_))
  have hH := HL_trueOf hI hzz hE h1
  obtain ⟨hk1, hl1, hI1, hz1, he1, hv1⟩ := hH
  have hSK := hI1.1.1
  have hM : MI m1 ∧ SR m1 := ⟨hI1.2.1, hI1.1.2.2.1⟩
  have hx1 : kd1 100 = 21 ∧ ln1 100 = 1 := by rw [hk1, hl1]; exact hx.2
  refine jblk hF [(.istore 5, 2), (.aload_n 2, 1), (.aload_n 0, 1), (.iload 4, 2), (.iconst 1, 1), (.iadd, 1)] (by decide +kernel) (pc' := 949) (lo' := [(5, (0, v1)), (0, (2, 2)), (1, (2, 3)), (2, (2, 35)), (3, (2, 100)), (4, (0, i))]) (st' := [(0, i + 1), (2, 2), (2, 35)]) rfl ?_
  refine jsld hF hS (by decide +kernel) (by omega) (by omega) ?_
  refine jblk hF [(.aload_n 0, 1), (.iload 4, 2), (.iconst 2, 1), (.iadd, 1)] (by decide +kernel) (pc' := 955) (lo' := [(5, (0, v1)), (0, (2, 2)), (1, (2, 3)), (2, (2, 35)), (3, (2, 100)), (4, (0, i))]) (st' := [(0, i + 2), (2, 2), (0, S (i + 1)), (2, 35)]) rfl ?_
  refine jsld hF hS (by decide +kernel) (by omega) (by omega) ?_
  refine jcallV hF (c_X12_trueOf hG hSK hM.2 (S (i + 1)) (S (i + 2)) (hS.2 (i + 1)) (hS.2 (i + 2)) hM.1.pgs) MW_X12_trueOf 13 (by decide) hSK.k35 wd_1976 wd_1977 wd_1978 (by decide +kernel) [] rfl rfl (by decide) (Nat.le_of_ble_eq_true rfl) ⟨hrm.1 _ (by omega), hrm.2 _ (by omega)⟩ (kMR (fun v2 m2 h2 => ?_))
  have hT := TL_trueOf hI1 hz1 he1 h1 h2
  obtain ⟨hI2, hz2, ht2, ho2⟩ := hT
  refine jblk hF [(.lstore 6, 2), (.aload_n 2, 1)] (by decide +kernel) (pc' := 962) (lo' := [(6, (1, v2)), (5, (0, v1)), (0, (2, 2)), (1, (2, 3)), (2, (2, 35)), (3, (2, 100)), (4, (0, i))]) (st' := [(2, 35)]) rfl ?_
  refine jcallV hF (c_X12_thrown hG hSK hI2.1.2.2.1) MW_X12_thrown 13 (by decide) hSK.k35 wd_1735 wd_1736 wd_1737 (by decide +kernel) [] rfl rfl (by decide) (Nat.le_of_ble_eq_true rfl) ⟨hrm.1 _ (by omega), hrm.2 _ (by omega)⟩ (kV ?_)
  refine jblk hF [(.iload 5, 2)] (by decide +kernel) (pc' := 967) (lo' := [(6, (1, v2)), (5, (0, v1)), (0, (2, 2)), (1, (2, 3)), (2, (2, 35)), (3, (2, 100)), (4, (0, i))]) (st' := [(0, v1), (0, m2 35 1)]) rfl ?_
  refine jeqI hF (off := 5) 972 (by decide +kernel) (by decide) ht2 ?_
  refine jblk hF [(.iload 5, 2)] (by decide +kernel) (pc' := 974) (lo' := [(6, (1, v2)), (5, (0, v1)), (0, (2, 2)), (1, (2, 3)), (2, (2, 35)), (3, (2, 100)), (4, (0, i))]) (st' := [(0, v1)]) rfl ?_
  refine jif_ne hF (off := 14) 988 (by decide +kernel) (by decide) (by rcases hv1 with u | u <;> rw [u] <;> decide) (fun u => ?_) (fun u => ?_)
  · refine jgoto hF (off := 2069) 3057 (by decide +kernel) (by decide) ?_
    refine jwiden (k := cells + 40) (n := slots + 2000) (by omega) (by omega) ?_
    refine jsub [2, 3, 4, 5, 6] rfl ?_
    exact kk kd1 ln1 m2 sz1 ⟨⟨tg, hI2, hz2⟩, hx1⟩
  · refine jblk hF [(.aload_n 3, 1), (.iconst 0, 1)] (by decide +kernel) (pc' := 979) (lo' := [(6, (1, v2)), (5, (0, v1)), (0, (2, 2)), (1, (2, 3)), (2, (2, 35)), (3, (2, 100)), (4, (0, i))]) (st' := [(0, 0), (2, 100)]) rfl ?_
    refine jlald hF (by decide +kernel) hx1.1 (by decide) (by rw [hx1.2]; decide) ?_
    refine jblk hF [(.lload 6, 2)] (by decide +kernel) (pc' := 982) (lo' := [(6, (1, v2)), (5, (0, v1)), (0, (2, 2)), (1, (2, 3)), (2, (2, 35)), (3, (2, 100)), (4, (0, i))]) (st' := [(1, v2), (1, m2 100 0)]) rfl ?_
    refine jeqL hF (off := 5) 988 (by decide +kernel) (by decide +kernel) (by decide) (ho2 u) ?_
    refine jgoto hF (off := 2069) 3057 (by decide +kernel) (by decide) ?_
    refine jwiden (k := cells + 40) (n := slots + 2000) (by omega) (by omega) ?_
    refine jsub [2, 3, 4, 5, 6] rfl ?_
    exact kk kd1 ln1 m2 sz1 ⟨⟨tg, hI2, hz2⟩, hx1⟩
set_option maxHeartbeats 4000000 in
set_option maxRecDepth 100000 in
theorem lc_16 {z : ZT} {l : Launch} {g : GP} {cells slots : Nat} {Q : State → Prop} {kd : Int → Nat} {ln : Int → Int} {mem : Int → Int → Int} {sz : Nat} {L i : Int} {S : Int → Int} (hF : FX z l g 8 code "FigureHouseLaw" room_1) (hG : GH g) (hl : l.stackTraces = false) (hTH : THW g) (hTN : TNS g) (hEM : EMP g) (mi : Nat) (hMi : va_Mi "[Ljava/lang/Object;" mi (gs g)) (hS : SCR g L S) (hi : 0 ≤ i ∧ i + 8 ≤ L) (hrm : (∀ k : Nat, k ≤ cells + 40 → k ≤ room_1.cells) ∧ ∀ k : Nat, k ≤ slots + 2000 → k ≤ room_1.slots) (hx : LINV kd ln mem sz) (kk : ∀ (kd' : Int → Nat) (ln' : Int → Int) (mem' : Int → Int → Int) (sz' : Nat), LINV kd' ln' mem' sz' → J z g 8 (cells + 40) (slots + 2000) Q 3057 [(0, (2, 2)), (1, (2, 3)), (2, (2, 35)), (3, (2, 100)), (4, (0, i))] [] kd' ln' mem' sz') : J z g 8 cells slots Q 991 [(0, (2, 2)), (1, (2, 3)), (2, (2, 35)), (3, (2, 100)), (4, (0, i))] [] kd ln mem sz := by
  obtain ⟨tg, hI, hzz⟩ := id hx.1
  refine jblk hF [(.aload_n 1, 1), (.aload_n 0, 1), (.iload 4, 2), (.iconst 1, 1), (.iadd, 1)] (by decide +kernel) (pc' := 997) (lo' := [(0, (2, 2)), (1, (2, 3)), (2, (2, 35)), (3, (2, 100)), (4, (0, i))]) (st' := [(0, i + 1), (2, 2), (2, 3)]) rfl ?_
  refine jsld hF hS (by decide +kernel) (by omega) (by omega) ?_
  refine jblk hF [(.aload_n 0, 1), (.iload 4, 2), (.iconst 2, 1), (.iadd, 1)] (by decide +kernel) (pc' := 1003) (lo' := [(0, (2, 2)), (1, (2, 3)), (2, (2, 35)), (3, (2, 100)), (4, (0, i))]) (st' := [(0, i + 2), (2, 2), (0, S (i + 1)), (2, 3)]) rfl ?_
  refine jsld hF hS (by decide +kernel) (by omega) (by omega) ?_
  refine jblk hF [(.aload_n 0, 1), (.iload 4, 2), (.iconst 3, 1), (.iadd, 1)] (by decide +kernel) (pc' := 1009) (lo' := [(0, (2, 2)), (1, (2, 3)), (2, (2, 35)), (3, (2, 100)), (4, (0, i))]) (st' := [(0, i + 3), (2, 2), (0, S (i + 2)), (0, S (i + 1)), (2, 3)]) rfl ?_
  refine jsld hF hS (by decide +kernel) (by omega) (by omega) ?_
  refine jblk hF [(.aload_n 0, 1), (.iload 4, 2), (.iconst 4, 1), (.iadd, 1)] (by decide +kernel) (pc' := 1015) (lo' := [(0, (2, 2)), (1, (2, 3)), (2, (2, 35)), (3, (2, 100)), (4, (0, i))]) (st' := [(0, i + 4), (2, 2), (0, S (i + 3)), (0, S (i + 2)), (0, S (i + 1)), (2, 3)]) rfl ?_
  refine jsld hF hS (by decide +kernel) (by omega) (by omega) ?_
  refine jblk hF [(.aload_n 3, 1)] (by decide +kernel) (pc' := 1017) (lo' := [(0, (2, 2)), (1, (2, 3)), (2, (2, 35)), (3, (2, 100)), (4, (0, i))]) (st' := [(2, 100), (0, S (i + 4)), (0, S (i + 3)), (0, S (i + 2)), (0, S (i + 1)), (2, 3)]) rfl ?_
  refine jcallSW (n := 6) hF (c_L_figure hG hl hTH hTN hI.1.2.1 hI.1.2.2.2.1 (S (i + 1)) (S (i + 2)) (S (i + 3)) (S (i + 4)) tg hI hx.2 (hS.2 (i + 1)) (hS.2 (i + 2)) (hS.2 (i + 3)) (hS.2 (i + 4))) cw_figure wd_100 ⟨by decide, by decide⟩ (by decide +kernel) wd_1411 wd_1412 (by decide +kernel) [] rfl rfl (by decide) (Nat.le_of_ble_eq_true rfl) ⟨hrm.1 _ (by omega), hrm.2 _ (by omega)⟩ (kXR (fun v1 kd1 ln1 m1 sz1 hE h1 => ?_))
  have hH := HL_figure hI hzz hE h1
  obtain ⟨hk1, hl1, hI1, hz1, he1, hv1⟩ := hH
  have hSK := hI1.1.1
  have hM : MI m1 ∧ SR m1 := ⟨hI1.2.1, hI1.1.2.2.1⟩
  have hx1 : kd1 100 = 21 ∧ ln1 100 = 1 := by rw [hk1, hl1]; exact hx.2
  refine jblk hF [(.istore 5, 2), (.aload_n 2, 1), (.aload_n 0, 1), (.iload 4, 2), (.iconst 1, 1), (.iadd, 1)] (by decide +kernel) (pc' := 1028) (lo' := [(5, (0, v1)), (0, (2, 2)), (1, (2, 3)), (2, (2, 35)), (3, (2, 100)), (4, (0, i))]) (st' := [(0, i + 1), (2, 2), (2, 35)]) rfl ?_
  refine jsld hF hS (by decide +kernel) (by omega) (by omega) ?_
  refine jblk hF [(.aload_n 0, 1), (.iload 4, 2), (.iconst 2, 1), (.iadd, 1)] (by decide +kernel) (pc' := 1034) (lo' := [(5, (0, v1)), (0, (2, 2)), (1, (2, 3)), (2, (2, 35)), (3, (2, 100)), (4, (0, i))]) (st' := [(0, i + 2), (2, 2), (0, S (i + 1)), (2, 35)]) rfl ?_
  refine jsld hF hS (by decide +kernel) (by omega) (by omega) ?_
  refine jblk hF [(.aload_n 0, 1), (.iload 4, 2), (.iconst 3, 1), (.iadd, 1)] (by decide +kernel) (pc' := 1040) (lo' := [(5, (0, v1)), (0, (2, 2)), (1, (2, 3)), (2, (2, 35)), (3, (2, 100)), (4, (0, i))]) (st' := [(0, i + 3), (2, 2), (0, S (i + 2)), (0, S (i + 1)), (2, 35)]) rfl ?_
  refine jsld hF hS (by decide +kernel) (by omega) (by omega) ?_
  refine jblk hF [(.aload_n 0, 1), (.iload 4, 2), (.iconst 4, 1), (.iadd, 1)] (by decide +kernel) (pc' := 1046) (lo' := [(5, (0, v1)), (0, (2, 2)), (1, (2, 3)), (2, (2, 35)), (3, (2, 100)), (4, (0, i))]) (st' := [(0, i + 4), (2, 2), (0, S (i + 3)), (0, S (i + 2)), (0, S (i + 1)), (2, 35)]) rfl ?_
  refine jsld hF hS (by decide +kernel) (by omega) (by omega) ?_
  refine jcallV hF (c_X12_figure hG hSK hM.2 (S (i + 1)) (S (i + 2)) (S (i + 3)) (S (i + 4)) (hS.2 (i + 1)) (hS.2 (i + 2)) (hS.2 (i + 3)) (hS.2 (i + 4)) hM.1.pgs hM.1.sls hM.1.now) MW_X12_figure 13 (by decide) hSK.k35 wd_2000 wd_2001 wd_2002 (by decide +kernel) [] rfl rfl (by decide) (Nat.le_of_ble_eq_true rfl) ⟨hrm.1 _ (by omega), hrm.2 _ (by omega)⟩ (kMR (fun v2 m2 h2 => ?_))
  have hT := TL_figure hI1 hz1 he1 h1 h2
  obtain ⟨hI2, hz2, ht2, ho2⟩ := hT
  refine jblk hF [(.lstore 6, 2), (.aload_n 2, 1)] (by decide +kernel) (pc' := 1053) (lo' := [(6, (1, v2)), (5, (0, v1)), (0, (2, 2)), (1, (2, 3)), (2, (2, 35)), (3, (2, 100)), (4, (0, i))]) (st' := [(2, 35)]) rfl ?_
  refine jcallV hF (c_X12_thrown hG hSK hI2.1.2.2.1) MW_X12_thrown 13 (by decide) hSK.k35 wd_1735 wd_1736 wd_1737 (by decide +kernel) [] rfl rfl (by decide) (Nat.le_of_ble_eq_true rfl) ⟨hrm.1 _ (by omega), hrm.2 _ (by omega)⟩ (kV ?_)
  refine jblk hF [(.iload 5, 2)] (by decide +kernel) (pc' := 1058) (lo' := [(6, (1, v2)), (5, (0, v1)), (0, (2, 2)), (1, (2, 3)), (2, (2, 35)), (3, (2, 100)), (4, (0, i))]) (st' := [(0, v1), (0, m2 35 1)]) rfl ?_
  refine jeqI hF (off := 5) 1063 (by decide +kernel) (by decide) ht2 ?_
  refine jblk hF [(.iload 5, 2)] (by decide +kernel) (pc' := 1065) (lo' := [(6, (1, v2)), (5, (0, v1)), (0, (2, 2)), (1, (2, 3)), (2, (2, 35)), (3, (2, 100)), (4, (0, i))]) (st' := [(0, v1)]) rfl ?_
  refine jif_ne hF (off := 14) 1079 (by decide +kernel) (by decide) (by rcases hv1 with u | u <;> rw [u] <;> decide) (fun u => ?_) (fun u => ?_)
  · refine jgoto hF (off := 1978) 3057 (by decide +kernel) (by decide) ?_
    refine jwiden (k := cells + 40) (n := slots + 2000) (by omega) (by omega) ?_
    refine jsub [2, 3, 4, 5, 6] rfl ?_
    exact kk kd1 ln1 m2 sz1 ⟨⟨tg, hI2, hz2⟩, hx1⟩
  · refine jblk hF [(.aload_n 3, 1), (.iconst 0, 1)] (by decide +kernel) (pc' := 1070) (lo' := [(6, (1, v2)), (5, (0, v1)), (0, (2, 2)), (1, (2, 3)), (2, (2, 35)), (3, (2, 100)), (4, (0, i))]) (st' := [(0, 0), (2, 100)]) rfl ?_
    refine jlald hF (by decide +kernel) hx1.1 (by decide) (by rw [hx1.2]; decide) ?_
    refine jblk hF [(.lload 6, 2)] (by decide +kernel) (pc' := 1073) (lo' := [(6, (1, v2)), (5, (0, v1)), (0, (2, 2)), (1, (2, 3)), (2, (2, 35)), (3, (2, 100)), (4, (0, i))]) (st' := [(1, v2), (1, m2 100 0)]) rfl ?_
    refine jeqL hF (off := 5) 1079 (by decide +kernel) (by decide +kernel) (by decide) (ho2 u) ?_
    refine jgoto hF (off := 1978) 3057 (by decide +kernel) (by decide) ?_
    refine jwiden (k := cells + 40) (n := slots + 2000) (by omega) (by omega) ?_
    refine jsub [2, 3, 4, 5, 6] rfl ?_
    exact kk kd1 ln1 m2 sz1 ⟨⟨tg, hI2, hz2⟩, hx1⟩
set_option maxHeartbeats 4000000 in
set_option maxRecDepth 100000 in
theorem lc_17 {z : ZT} {l : Launch} {g : GP} {cells slots : Nat} {Q : State → Prop} {kd : Int → Nat} {ln : Int → Int} {mem : Int → Int → Int} {sz : Nat} {L i : Int} {S : Int → Int} (hF : FX z l g 8 code "FigureHouseLaw" room_1) (hG : GH g) (hl : l.stackTraces = false) (hTH : THW g) (hTN : TNS g) (hEM : EMP g) (mi : Nat) (hMi : va_Mi "[Ljava/lang/Object;" mi (gs g)) (hS : SCR g L S) (hi : 0 ≤ i ∧ i + 8 ≤ L) (hrm : (∀ k : Nat, k ≤ cells + 40 → k ≤ room_1.cells) ∧ ∀ k : Nat, k ≤ slots + 2000 → k ≤ room_1.slots) (hx : LINV kd ln mem sz) (kk : ∀ (kd' : Int → Nat) (ln' : Int → Int) (mem' : Int → Int → Int) (sz' : Nat), LINV kd' ln' mem' sz' → J z g 8 (cells + 40) (slots + 2000) Q 3057 [(0, (2, 2)), (1, (2, 3)), (2, (2, 35)), (3, (2, 100)), (4, (0, i))] [] kd' ln' mem' sz') : J z g 8 cells slots Q 1082 [(0, (2, 2)), (1, (2, 3)), (2, (2, 35)), (3, (2, 100)), (4, (0, i))] [] kd ln mem sz := by
  obtain ⟨tg, hI, hzz⟩ := id hx.1
  refine jblk hF [(.aload_n 1, 1), (.aload_n 0, 1), (.iload 4, 2), (.iconst 1, 1), (.iadd, 1)] (by decide +kernel) (pc' := 1088) (lo' := [(0, (2, 2)), (1, (2, 3)), (2, (2, 35)), (3, (2, 100)), (4, (0, i))]) (st' := [(0, i + 1), (2, 2), (2, 3)]) rfl ?_
  refine jsld hF hS (by decide +kernel) (by omega) (by omega) ?_
  refine jblk hF [(.aload_n 0, 1), (.iload 4, 2), (.iconst 2, 1), (.iadd, 1)] (by decide +kernel) (pc' := 1094) (lo' := [(0, (2, 2)), (1, (2, 3)), (2, (2, 35)), (3, (2, 100)), (4, (0, i))]) (st' := [(0, i + 2), (2, 2), (0, S (i + 1)), (2, 3)]) rfl ?_
  refine jsld hF hS (by decide +kernel) (by omega) (by omega) ?_
  refine jblk hF [(.aload_n 0, 1), (.iload 4, 2), (.iconst 3, 1), (.iadd, 1)] (by decide +kernel) (pc' := 1100) (lo' := [(0, (2, 2)), (1, (2, 3)), (2, (2, 35)), (3, (2, 100)), (4, (0, i))]) (st' := [(0, i + 3), (2, 2), (0, S (i + 2)), (0, S (i + 1)), (2, 3)]) rfl ?_
  refine jsld hF hS (by decide +kernel) (by omega) (by omega) ?_
  refine jblk hF [(.aload_n 0, 1), (.iload 4, 2), (.iconst 4, 1), (.iadd, 1)] (by decide +kernel) (pc' := 1106) (lo' := [(0, (2, 2)), (1, (2, 3)), (2, (2, 35)), (3, (2, 100)), (4, (0, i))]) (st' := [(0, i + 4), (2, 2), (0, S (i + 3)), (0, S (i + 2)), (0, S (i + 1)), (2, 3)]) rfl ?_
  refine jsld hF hS (by decide +kernel) (by omega) (by omega) ?_
  refine jcallV hF (c_X11_slip hG hI.1.2.1 hI.1.2.2.2.1 (S (i + 1)) (S (i + 2)) (S (i + 3)) (S (i + 4)) tg hI hEM mi hMi (hS.2 (i + 1)) (hS.2 (i + 2)) (hS.2 (i + 3)) (hS.2 (i + 4))) MW_X11_slip 12 (by decide) hI.1.2.1.k3 wd_881 wd_882 wd_883 (by decide +kernel) [] rfl rfl (by decide) (Nat.le_of_ble_eq_true rfl) ⟨hrm.1 _ (by omega), hrm.2 _ (by omega)⟩ (kXR (fun v1 kd1 ln1 m1 sz1 hE h1 => ?_))
  have hMD := MD_slip hI hE h1
  have hM := hMD.2.2.2
  have hSK := hMD.1
  have hx1 : kd1 100 = 21 ∧ ln1 100 = 1 := ⟨(hE.2 100 (by have := hI.1.2.2.2.2.1; omega)).1.trans hx.2.1, (hE.2 100 (by have := hI.1.2.2.2.2.1; omega)).2.trans hx.2.2⟩
  refine jblk hF [(.aload_n 2, 1), (.aload_n 0, 1), (.iload 4, 2), (.iconst 1, 1), (.iadd, 1)] (by decide +kernel) (pc' := 1116) (lo' := [(0, (2, 2)), (1, (2, 3)), (2, (2, 35)), (3, (2, 100)), (4, (0, i))]) (st' := [(0, i + 1), (2, 2), (2, 35), (0, v1)]) rfl ?_
  refine jsld hF hS (by decide +kernel) (by omega) (by omega) ?_
  refine jblk hF [(.aload_n 0, 1), (.iload 4, 2), (.iconst 2, 1), (.iadd, 1)] (by decide +kernel) (pc' := 1122) (lo' := [(0, (2, 2)), (1, (2, 3)), (2, (2, 35)), (3, (2, 100)), (4, (0, i))]) (st' := [(0, i + 2), (2, 2), (0, S (i + 1)), (2, 35), (0, v1)]) rfl ?_
  refine jsld hF hS (by decide +kernel) (by omega) (by omega) ?_
  refine jblk hF [(.aload_n 0, 1), (.iload 4, 2), (.iconst 3, 1), (.iadd, 1)] (by decide +kernel) (pc' := 1128) (lo' := [(0, (2, 2)), (1, (2, 3)), (2, (2, 35)), (3, (2, 100)), (4, (0, i))]) (st' := [(0, i + 3), (2, 2), (0, S (i + 2)), (0, S (i + 1)), (2, 35), (0, v1)]) rfl ?_
  refine jsld hF hS (by decide +kernel) (by omega) (by omega) ?_
  refine jblk hF [(.aload_n 0, 1), (.iload 4, 2), (.iconst 4, 1), (.iadd, 1)] (by decide +kernel) (pc' := 1134) (lo' := [(0, (2, 2)), (1, (2, 3)), (2, (2, 35)), (3, (2, 100)), (4, (0, i))]) (st' := [(0, i + 4), (2, 2), (0, S (i + 3)), (0, S (i + 2)), (0, S (i + 1)), (2, 35), (0, v1)]) rfl ?_
  refine jsld hF hS (by decide +kernel) (by omega) (by omega) ?_
  refine jcallV hF (c_X12_slip hG hSK hM.2 (S (i + 1)) (S (i + 2)) (S (i + 3)) (S (i + 4)) (hS.2 (i + 1)) (hS.2 (i + 2)) (hS.2 (i + 3)) (hS.2 (i + 4)) hM.1.pgs ⟨hM.1.sls.1, hM.1.sls.2.1⟩) MW_X12_slip 13 (by decide) hSK.k35 wd_1962 wd_1963 wd_1964 (by decide +kernel) [(0, v1)] rfl rfl (by decide) (Nat.le_of_ble_eq_true rfl) ⟨hrm.1 _ (by omega), hrm.2 _ (by omega)⟩ (kMR (fun v2 m2 h2 => ?_))
  have hst := ST_slip hI hzz hE h1 h2
  refine jeqI hF (off := 1919) 3057 (by decide +kernel) (by decide) hst.1 ?_
  refine jwiden (k := cells + 40) (n := slots + 2000) (by omega) (by omega) ?_
  refine jsub [0, 1, 2, 3, 4] rfl ?_
  exact kk kd1 ln1 m2 sz1 ⟨hst.2, hx1⟩
end CASE
