section CASE
set_option maxHeartbeats 4000000 in
set_option maxRecDepth 100000 in
theorem lc_42 {z : ZT} {l : Launch} {g : GP} {cells slots : Nat} {Q : State → Prop} {kd : Int → Nat} {ln : Int → Int} {mem : Int → Int → Int} {sz : Nat} {L i : Int} {S : Int → Int} (hF : FX z l g 8 code "FigureHouseLaw" room_1) (hG : GH g) (hl : l.stackTraces = false) (hTH : THW g) (hTN : TNS g) (hEM : EMP g) (mi : Nat) (hMi : va_Mi "[Ljava/lang/Object;" mi (gs g)) (hS : SCR g L S) (hi : 0 ≤ i ∧ i + 8 ≤ L) (hrm : (∀ k : Nat, k ≤ cells + 40 → k ≤ room_1.cells) ∧ ∀ k : Nat, k ≤ slots + 2000 → k ≤ room_1.slots) (hx : LINV kd ln mem sz) (kk : ∀ (kd' : Int → Nat) (ln' : Int → Int) (mem' : Int → Int → Int) (sz' : Nat), LINV kd' ln' mem' sz' → J z g 8 (cells + 40) (slots + 2000) Q 3057 [(0, (2, 2)), (1, (2, 3)), (2, (2, 35)), (3, (2, 100)), (4, (0, i))] [] kd' ln' mem' sz') : J z g 8 cells slots Q 2285 [(0, (2, 2)), (1, (2, 3)), (2, (2, 35)), (3, (2, 100)), (4, (0, i))] [] kd ln mem sz := by
  obtain ⟨tg, hI, hzz⟩ := id hx.1
  refine jblk hF [(.aload_n 1, 1), (.aload_n 0, 1), (.iload 4, 2), (.iconst 1, 1), (.iadd, 1)] (by decide +kernel) (pc' := 2291) (lo' := [(0, (2, 2)), (1, (2, 3)), (2, (2, 35)), (3, (2, 100)), (4, (0, i))]) (st' := [(0, i + 1), (2, 2), (2, 3)]) rfl ?_
  refine jsld hF hS (by decide +kernel) (by omega) (by omega) ?_
  refine jblk hF [(.aload_n 0, 1), (.iload 4, 2), (.iconst 2, 1), (.iadd, 1)] (by decide +kernel) (pc' := 2297) (lo' := [(0, (2, 2)), (1, (2, 3)), (2, (2, 35)), (3, (2, 100)), (4, (0, i))]) (st' := [(0, i + 2), (2, 2), (0, S (i + 1)), (2, 3)]) rfl ?_
  refine jsld hF hS (by decide +kernel) (by omega) (by omega) ?_
  refine jcallV hF (c_X11_proof hG hI.1.2.1 hI.1.2.2.2.1 (S (i + 1)) (S (i + 2)) tg hI hTN (hS.2 (i + 1)) (hS.2 (i + 2))) MW_X11_proof 12 (by decide) hI.1.2.1.k3 wd_1149 wd_1150 wd_1151 (by decide +kernel) [] rfl rfl (by decide) (Nat.le_of_ble_eq_true rfl) ⟨hrm.1 _ (by omega), hrm.2 _ (by omega)⟩ (kMR (fun v1 m1 h1 => ?_))
  have hSK := hI.1.1
  have hI1 := hI.xscf h1.2.1
  have hM : MI m1 ∧ SR m1 := ⟨hI1.2.1, hI1.1.2.2.1⟩
  refine jblk hF [(.aload_n 2, 1), (.aload_n 0, 1), (.iload 4, 2), (.iconst 1, 1), (.iadd, 1)] (by decide +kernel) (pc' := 2307) (lo' := [(0, (2, 2)), (1, (2, 3)), (2, (2, 35)), (3, (2, 100)), (4, (0, i))]) (st' := [(0, i + 1), (2, 2), (2, 35), (0, v1)]) rfl ?_
  refine jsld hF hS (by decide +kernel) (by omega) (by omega) ?_
  refine jblk hF [(.aload_n 0, 1), (.iload 4, 2), (.iconst 2, 1), (.iadd, 1)] (by decide +kernel) (pc' := 2313) (lo' := [(0, (2, 2)), (1, (2, 3)), (2, (2, 35)), (3, (2, 100)), (4, (0, i))]) (st' := [(0, i + 2), (2, 2), (0, S (i + 1)), (2, 35), (0, v1)]) rfl ?_
  refine jsld hF hS (by decide +kernel) (by omega) (by omega) ?_
  refine jcallV hF (c_X12_proof hG hSK hM.2 (S (i + 1)) (S (i + 2)) (hS.2 (i + 1)) (hS.2 (i + 2)) hM.1.pgs hM.1.sls hM.1.now hM.1.asd hM.1.ist hM.1.prs hM.1.plb) MW_X12_proof 13 (by decide) hSK.k35 wd_2174 wd_2175 wd_2176 (by decide +kernel) [(0, v1)] rfl rfl (by decide) (Nat.le_of_ble_eq_true rfl) ⟨hrm.1 _ (by omega), hrm.2 _ (by omega)⟩ (kMR (fun v2 m2 h2 => ?_))
  have hst := ST_proof hI hzz h1 h2
  refine jeqI hF (off := 740) 3057 (by decide +kernel) (by decide) hst.1 ?_
  refine jwiden (k := cells + 40) (n := slots + 2000) (by omega) (by omega) ?_
  refine jsub [0, 1, 2, 3, 4] rfl ?_
  exact kk kd ln m2 sz ⟨hst.2, hx.2⟩
set_option maxHeartbeats 4000000 in
set_option maxRecDepth 100000 in
theorem lc_43 {z : ZT} {l : Launch} {g : GP} {cells slots : Nat} {Q : State → Prop} {kd : Int → Nat} {ln : Int → Int} {mem : Int → Int → Int} {sz : Nat} {L i : Int} {S : Int → Int} (hF : FX z l g 8 code "FigureHouseLaw" room_1) (hG : GH g) (hl : l.stackTraces = false) (hTH : THW g) (hTN : TNS g) (hEM : EMP g) (mi : Nat) (hMi : va_Mi "[Ljava/lang/Object;" mi (gs g)) (hS : SCR g L S) (hi : 0 ≤ i ∧ i + 8 ≤ L) (hrm : (∀ k : Nat, k ≤ cells + 40 → k ≤ room_1.cells) ∧ ∀ k : Nat, k ≤ slots + 2000 → k ≤ room_1.slots) (hx : LINV kd ln mem sz) (kk : ∀ (kd' : Int → Nat) (ln' : Int → Int) (mem' : Int → Int → Int) (sz' : Nat), LINV kd' ln' mem' sz' → J z g 8 (cells + 40) (slots + 2000) Q 3057 [(0, (2, 2)), (1, (2, 3)), (2, (2, 35)), (3, (2, 100)), (4, (0, i))] [] kd' ln' mem' sz') : J z g 8 cells slots Q 2322 [(0, (2, 2)), (1, (2, 3)), (2, (2, 35)), (3, (2, 100)), (4, (0, i))] [] kd ln mem sz := by
  obtain ⟨tg, hI, hzz⟩ := id hx.1
  refine jblk hF [(.aload_n 1, 1), (.aload_n 0, 1), (.iload 4, 2), (.iconst 1, 1), (.iadd, 1)] (by decide +kernel) (pc' := 2328) (lo' := [(0, (2, 2)), (1, (2, 3)), (2, (2, 35)), (3, (2, 100)), (4, (0, i))]) (st' := [(0, i + 1), (2, 2), (2, 3)]) rfl ?_
  refine jsld hF hS (by decide +kernel) (by omega) (by omega) ?_
  refine jcallV hF (c_X11_copy hG hI.1.2.1 hI.1.2.2.2.1 (S (i + 1)) tg hI hTN hEM mi hMi (hS.2 (i + 1))) MW_X11_copy 12 (by decide) hI.1.2.1.k3 wd_1160 wd_1161 wd_1162 (by decide +kernel) [] rfl rfl (by decide) (Nat.le_of_ble_eq_true rfl) ⟨hrm.1 _ (by omega), hrm.2 _ (by omega)⟩ (kXR (fun v1 kd1 ln1 m1 sz1 hE h1 => ?_))
  have hMD := MD_copy hI hE h1
  have hM := hMD.2.2.2
  have hSK := hMD.1
  have hx1 : kd1 100 = 21 ∧ ln1 100 = 1 := ⟨(hE.2 100 (by have := hI.1.2.2.2.2.1; omega)).1.trans hx.2.1, (hE.2 100 (by have := hI.1.2.2.2.2.1; omega)).2.trans hx.2.2⟩
  refine jblk hF [(.aload_n 2, 1), (.aload_n 0, 1), (.iload 4, 2), (.iconst 1, 1), (.iadd, 1)] (by decide +kernel) (pc' := 2338) (lo' := [(0, (2, 2)), (1, (2, 3)), (2, (2, 35)), (3, (2, 100)), (4, (0, i))]) (st' := [(0, i + 1), (2, 2), (2, 35), (0, v1)]) rfl ?_
  refine jsld hF hS (by decide +kernel) (by omega) (by omega) ?_
  refine jcallV hF (c_X12_copy hG hSK hM.2 (S (i + 1)) (hS.2 (i + 1)) hM.1.pgs hM.1.ist hM.1.prs hM.1.plb hM.1.cps) MW_X12_copy 13 (by decide) hSK.k35 wd_2178 wd_2179 wd_2180 (by decide +kernel) [(0, v1)] rfl rfl (by decide) (Nat.le_of_ble_eq_true rfl) ⟨hrm.1 _ (by omega), hrm.2 _ (by omega)⟩ (kMR (fun v2 m2 h2 => ?_))
  have hst := ST_copy hI hzz hE h1 h2
  refine jeqI hF (off := 715) 3057 (by decide +kernel) (by decide) hst.1 ?_
  refine jwiden (k := cells + 40) (n := slots + 2000) (by omega) (by omega) ?_
  refine jsub [0, 1, 2, 3, 4] rfl ?_
  exact kk kd1 ln1 m2 sz1 ⟨hst.2, hx1⟩
set_option maxHeartbeats 4000000 in
set_option maxRecDepth 100000 in
theorem lc_44 {z : ZT} {l : Launch} {g : GP} {cells slots : Nat} {Q : State → Prop} {kd : Int → Nat} {ln : Int → Int} {mem : Int → Int → Int} {sz : Nat} {L i : Int} {S : Int → Int} (hF : FX z l g 8 code "FigureHouseLaw" room_1) (hG : GH g) (hl : l.stackTraces = false) (hTH : THW g) (hTN : TNS g) (hEM : EMP g) (mi : Nat) (hMi : va_Mi "[Ljava/lang/Object;" mi (gs g)) (hS : SCR g L S) (hi : 0 ≤ i ∧ i + 8 ≤ L) (hrm : (∀ k : Nat, k ≤ cells + 40 → k ≤ room_1.cells) ∧ ∀ k : Nat, k ≤ slots + 2000 → k ≤ room_1.slots) (hx : LINV kd ln mem sz) (kk : ∀ (kd' : Int → Nat) (ln' : Int → Int) (mem' : Int → Int → Int) (sz' : Nat), LINV kd' ln' mem' sz' → J z g 8 (cells + 40) (slots + 2000) Q 3057 [(0, (2, 2)), (1, (2, 3)), (2, (2, 35)), (3, (2, 100)), (4, (0, i))] [] kd' ln' mem' sz') : J z g 8 cells slots Q 2347 [(0, (2, 2)), (1, (2, 3)), (2, (2, 35)), (3, (2, 100)), (4, (0, i))] [] kd ln mem sz := by
  obtain ⟨tg, hI, hzz⟩ := id hx.1
  refine jblk hF [(.aload_n 1, 1), (.aload_n 0, 1), (.iload 4, 2), (.iconst 1, 1), (.iadd, 1)] (by decide +kernel) (pc' := 2353) (lo' := [(0, (2, 2)), (1, (2, 3)), (2, (2, 35)), (3, (2, 100)), (4, (0, i))]) (st' := [(0, i + 1), (2, 2), (2, 3)]) rfl ?_
  refine jsld hF hS (by decide +kernel) (by omega) (by omega) ?_
  refine jblk hF [(.aload_n 0, 1), (.iload 4, 2), (.iconst 2, 1), (.iadd, 1)] (by decide +kernel) (pc' := 2359) (lo' := [(0, (2, 2)), (1, (2, 3)), (2, (2, 35)), (3, (2, 100)), (4, (0, i))]) (st' := [(0, i + 2), (2, 2), (0, S (i + 1)), (2, 3)]) rfl ?_
  refine jsld hF hS (by decide +kernel) (by omega) (by omega) ?_
  refine jblk hF [(.aload_n 0, 1), (.iload 4, 2), (.iconst 3, 1), (.iadd, 1)] (by decide +kernel) (pc' := 2365) (lo' := [(0, (2, 2)), (1, (2, 3)), (2, (2, 35)), (3, (2, 100)), (4, (0, i))]) (st' := [(0, i + 3), (2, 2), (0, S (i + 2)), (0, S (i + 1)), (2, 3)]) rfl ?_
  refine jsld hF hS (by decide +kernel) (by omega) (by omega) ?_
  refine ji2l hF (by decide +kernel) (hS.2 (i + 3)) ?_
  refine jblk hF [(.bipush 32, 2)] (by decide +kernel) (pc' := 2369) (lo' := [(0, (2, 2)), (1, (2, 3)), (2, (2, 35)), (3, (2, 100)), (4, (0, i))]) (st' := [(0, 32), (1, S (i + 3)), (0, S (i + 2)), (0, S (i + 1)), (2, 3)]) rfl ?_
  refine jlshl hF (by decide +kernel) ?_
  obtain ⟨w_1, hw_w_1⟩ : ∃ q : Int, q = flshl (S (i + 3)) 32 := ⟨_, rfl⟩
  rw [← hw_w_1]
  refine jblk hF [(.aload_n 0, 1), (.iload 4, 2), (.iconst 4, 1), (.iadd, 1)] (by decide +kernel) (pc' := 2375) (lo' := [(0, (2, 2)), (1, (2, 3)), (2, (2, 35)), (3, (2, 100)), (4, (0, i))]) (st' := [(0, i + 4), (2, 2), (1, w_1), (0, S (i + 2)), (0, S (i + 1)), (2, 3)]) rfl ?_
  refine jsld hF hS (by decide +kernel) (by omega) (by omega) ?_
  refine ji2l hF (by decide +kernel) (hS.2 (i + 4)) ?_
  refine jldc2 hF 4294967295 (cst_l wd_2253 (by decide)) (by decide +kernel) ?_
  refine jblk hF [(.land, 1)] (by decide +kernel) (pc' := 2381) (lo' := [(0, (2, 2)), (1, (2, 3)), (2, (2, 35)), (3, (2, 100)), (4, (0, i))]) (st' := [(1, fland (S (i + 4)) 4294967295), (1, w_1), (0, S (i + 2)), (0, S (i + 1)), (2, 3)]) rfl ?_
  obtain ⟨w_2, hw_w_2⟩ : ∃ q : Int, q = fland (S (i + 4)) 4294967295 := ⟨_, rfl⟩
  rw [← hw_w_2]
  refine jblk hF [(.lor, 1)] (by decide +kernel) (pc' := 2382) (lo' := [(0, (2, 2)), (1, (2, 3)), (2, (2, 35)), (3, (2, 100)), (4, (0, i))]) (st' := [(1, flor w_1 w_2), (0, S (i + 2)), (0, S (i + 1)), (2, 3)]) rfl ?_
  obtain ⟨w_3, hw_w_3⟩ : ∃ q : Int, q = flor w_1 w_2 := ⟨_, rfl⟩
  rw [← hw_w_3]
  refine jblk hF [(.aload_n 0, 1), (.iload 4, 2), (.iconst 5, 1), (.iadd, 1)] (by decide +kernel) (pc' := 2387) (lo' := [(0, (2, 2)), (1, (2, 3)), (2, (2, 35)), (3, (2, 100)), (4, (0, i))]) (st' := [(0, i + 5), (2, 2), (1, w_3), (0, S (i + 2)), (0, S (i + 1)), (2, 3)]) rfl ?_
  refine jsld hF hS (by decide +kernel) (by omega) (by omega) ?_
  refine ji2l hF (by decide +kernel) (hS.2 (i + 5)) ?_
  refine jblk hF [(.bipush 32, 2)] (by decide +kernel) (pc' := 2391) (lo' := [(0, (2, 2)), (1, (2, 3)), (2, (2, 35)), (3, (2, 100)), (4, (0, i))]) (st' := [(0, 32), (1, S (i + 5)), (1, w_3), (0, S (i + 2)), (0, S (i + 1)), (2, 3)]) rfl ?_
  refine jlshl hF (by decide +kernel) ?_
  obtain ⟨w_4, hw_w_4⟩ : ∃ q : Int, q = flshl (S (i + 5)) 32 := ⟨_, rfl⟩
  rw [← hw_w_4]
  refine jblk hF [(.aload_n 0, 1), (.iload 4, 2), (.bipush 6, 2), (.iadd, 1)] (by decide +kernel) (pc' := 2398) (lo' := [(0, (2, 2)), (1, (2, 3)), (2, (2, 35)), (3, (2, 100)), (4, (0, i))]) (st' := [(0, i + 6), (2, 2), (1, w_4), (1, w_3), (0, S (i + 2)), (0, S (i + 1)), (2, 3)]) rfl ?_
  refine jsld hF hS (by decide +kernel) (by omega) (by omega) ?_
  refine ji2l hF (by decide +kernel) (hS.2 (i + 6)) ?_
  refine jldc2 hF 4294967295 (cst_l wd_2253 (by decide)) (by decide +kernel) ?_
  refine jblk hF [(.land, 1)] (by decide +kernel) (pc' := 2404) (lo' := [(0, (2, 2)), (1, (2, 3)), (2, (2, 35)), (3, (2, 100)), (4, (0, i))]) (st' := [(1, fland (S (i + 6)) 4294967295), (1, w_4), (1, w_3), (0, S (i + 2)), (0, S (i + 1)), (2, 3)]) rfl ?_
  obtain ⟨w_5, hw_w_5⟩ : ∃ q : Int, q = fland (S (i + 6)) 4294967295 := ⟨_, rfl⟩
  rw [← hw_w_5]
  refine jblk hF [(.lor, 1)] (by decide +kernel) (pc' := 2405) (lo' := [(0, (2, 2)), (1, (2, 3)), (2, (2, 35)), (3, (2, 100)), (4, (0, i))]) (st' := [(1, flor w_4 w_5), (1, w_3), (0, S (i + 2)), (0, S (i + 1)), (2, 3)]) rfl ?_
  obtain ⟨w_6, hw_w_6⟩ : ∃ q : Int, q = flor w_4 w_5 := ⟨_, rfl⟩
  rw [← hw_w_6]
  refine jcallV hF (c_X11_erratum hG hI.1.2.1 hI.1.2.2.2.1 (S (i + 1)) (S (i + 2)) w_3 w_6 tg hI hEM mi hMi (hS.2 (i + 1)) (hS.2 (i + 2))) MW_X11_erratum 12 (by decide) hI.1.2.1.k3 wd_1179 wd_1180 wd_1181 (by decide +kernel) [] rfl rfl (by decide) (Nat.le_of_ble_eq_true rfl) ⟨hrm.1 _ (by omega), hrm.2 _ (by omega)⟩ (kXR (fun v1 kd1 ln1 m1 sz1 hE h1 => ?_))
  have hMD := MD_erratum hI hE h1
  have hM := hMD.2.2.2
  have hSK := hMD.1
  have hx1 : kd1 100 = 21 ∧ ln1 100 = 1 := ⟨(hE.2 100 (by have := hI.1.2.2.2.2.1; omega)).1.trans hx.2.1, (hE.2 100 (by have := hI.1.2.2.2.2.1; omega)).2.trans hx.2.2⟩
  refine jblk hF [(.aload_n 2, 1), (.aload_n 0, 1), (.iload 4, 2), (.iconst 1, 1), (.iadd, 1)] (by decide +kernel) (pc' := 2414) (lo' := [(0, (2, 2)), (1, (2, 3)), (2, (2, 35)), (3, (2, 100)), (4, (0, i))]) (st' := [(0, i + 1), (2, 2), (2, 35), (0, v1)]) rfl ?_
  refine jsld hF hS (by decide +kernel) (by omega) (by omega) ?_
  refine jblk hF [(.aload_n 0, 1), (.iload 4, 2), (.iconst 2, 1), (.iadd, 1)] (by decide +kernel) (pc' := 2420) (lo' := [(0, (2, 2)), (1, (2, 3)), (2, (2, 35)), (3, (2, 100)), (4, (0, i))]) (st' := [(0, i + 2), (2, 2), (0, S (i + 1)), (2, 35), (0, v1)]) rfl ?_
  refine jsld hF hS (by decide +kernel) (by omega) (by omega) ?_
  refine jblk hF [(.aload_n 0, 1), (.iload 4, 2), (.iconst 3, 1), (.iadd, 1)] (by decide +kernel) (pc' := 2426) (lo' := [(0, (2, 2)), (1, (2, 3)), (2, (2, 35)), (3, (2, 100)), (4, (0, i))]) (st' := [(0, i + 3), (2, 2), (0, S (i + 2)), (0, S (i + 1)), (2, 35), (0, v1)]) rfl ?_
  refine jsld hF hS (by decide +kernel) (by omega) (by omega) ?_
  refine ji2l hF (by decide +kernel) (hS.2 (i + 3)) ?_
  refine jblk hF [(.bipush 32, 2)] (by decide +kernel) (pc' := 2430) (lo' := [(0, (2, 2)), (1, (2, 3)), (2, (2, 35)), (3, (2, 100)), (4, (0, i))]) (st' := [(0, 32), (1, S (i + 3)), (0, S (i + 2)), (0, S (i + 1)), (2, 35), (0, v1)]) rfl ?_
  refine jlshl hF (by decide +kernel) ?_
  rw [← hw_w_1]
  refine jblk hF [(.aload_n 0, 1), (.iload 4, 2), (.iconst 4, 1), (.iadd, 1)] (by decide +kernel) (pc' := 2436) (lo' := [(0, (2, 2)), (1, (2, 3)), (2, (2, 35)), (3, (2, 100)), (4, (0, i))]) (st' := [(0, i + 4), (2, 2), (1, w_1), (0, S (i + 2)), (0, S (i + 1)), (2, 35), (0, v1)]) rfl ?_
  refine jsld hF hS (by decide +kernel) (by omega) (by omega) ?_
  refine ji2l hF (by decide +kernel) (hS.2 (i + 4)) ?_
  refine jldc2 hF 4294967295 (cst_l wd_2253 (by decide)) (by decide +kernel) ?_
  refine jblk hF [(.land, 1)] (by decide +kernel) (pc' := 2442) (lo' := [(0, (2, 2)), (1, (2, 3)), (2, (2, 35)), (3, (2, 100)), (4, (0, i))]) (st' := [(1, fland (S (i + 4)) 4294967295), (1, w_1), (0, S (i + 2)), (0, S (i + 1)), (2, 35), (0, v1)]) rfl ?_
  rw [← hw_w_2]
  refine jblk hF [(.lor, 1)] (by decide +kernel) (pc' := 2443) (lo' := [(0, (2, 2)), (1, (2, 3)), (2, (2, 35)), (3, (2, 100)), (4, (0, i))]) (st' := [(1, flor w_1 w_2), (0, S (i + 2)), (0, S (i + 1)), (2, 35), (0, v1)]) rfl ?_
  rw [← hw_w_3]
  refine jblk hF [(.aload_n 0, 1), (.iload 4, 2), (.iconst 5, 1), (.iadd, 1)] (by decide +kernel) (pc' := 2448) (lo' := [(0, (2, 2)), (1, (2, 3)), (2, (2, 35)), (3, (2, 100)), (4, (0, i))]) (st' := [(0, i + 5), (2, 2), (1, w_3), (0, S (i + 2)), (0, S (i + 1)), (2, 35), (0, v1)]) rfl ?_
  refine jsld hF hS (by decide +kernel) (by omega) (by omega) ?_
  refine ji2l hF (by decide +kernel) (hS.2 (i + 5)) ?_
  refine jblk hF [(.bipush 32, 2)] (by decide +kernel) (pc' := 2452) (lo' := [(0, (2, 2)), (1, (2, 3)), (2, (2, 35)), (3, (2, 100)), (4, (0, i))]) (st' := [(0, 32), (1, S (i + 5)), (1, w_3), (0, S (i + 2)), (0, S (i + 1)), (2, 35), (0, v1)]) rfl ?_
  refine jlshl hF (by decide +kernel) ?_
  rw [← hw_w_4]
  refine jblk hF [(.aload_n 0, 1), (.iload 4, 2), (.bipush 6, 2), (.iadd, 1)] (by decide +kernel) (pc' := 2459) (lo' := [(0, (2, 2)), (1, (2, 3)), (2, (2, 35)), (3, (2, 100)), (4, (0, i))]) (st' := [(0, i + 6), (2, 2), (1, w_4), (1, w_3), (0, S (i + 2)), (0, S (i + 1)), (2, 35), (0, v1)]) rfl ?_
  refine jsld hF hS (by decide +kernel) (by omega) (by omega) ?_
  refine ji2l hF (by decide +kernel) (hS.2 (i + 6)) ?_
  refine jldc2 hF 4294967295 (cst_l wd_2253 (by decide)) (by decide +kernel) ?_
  refine jblk hF [(.land, 1)] (by decide +kernel) (pc' := 2465) (lo' := [(0, (2, 2)), (1, (2, 3)), (2, (2, 35)), (3, (2, 100)), (4, (0, i))]) (st' := [(1, fland (S (i + 6)) 4294967295), (1, w_4), (1, w_3), (0, S (i + 2)), (0, S (i + 1)), (2, 35), (0, v1)]) rfl ?_
  rw [← hw_w_5]
  refine jblk hF [(.lor, 1)] (by decide +kernel) (pc' := 2466) (lo' := [(0, (2, 2)), (1, (2, 3)), (2, (2, 35)), (3, (2, 100)), (4, (0, i))]) (st' := [(1, flor w_4 w_5), (1, w_3), (0, S (i + 2)), (0, S (i + 1)), (2, 35), (0, v1)]) rfl ?_
  rw [← hw_w_6]
  refine jcallV hF (c_X12_erratum hG hSK hM.2 (S (i + 1)) (S (i + 2)) w_3 w_6 (hS.2 (i + 1)) (hS.2 (i + 2)) hM.1.pgs hM.1.ers) MW_X12_erratum 13 (by decide) hSK.k35 wd_2182 wd_2183 wd_2184 (by decide +kernel) [(0, v1)] rfl rfl (by decide) (Nat.le_of_ble_eq_true rfl) ⟨hrm.1 _ (by omega), hrm.2 _ (by omega)⟩ (kMR (fun v2 m2 h2 => ?_))
  have hst := ST_erratum hI hzz hE h1 h2
  refine jeqI hF (off := 588) 3057 (by decide +kernel) (by decide) hst.1 ?_
  refine jwiden (k := cells + 40) (n := slots + 2000) (by omega) (by omega) ?_
  refine jsub [0, 1, 2, 3, 4] rfl ?_
  exact kk kd1 ln1 m2 sz1 ⟨hst.2, hx1⟩
set_option maxHeartbeats 4000000 in
set_option maxRecDepth 100000 in
theorem lc_45 {z : ZT} {l : Launch} {g : GP} {cells slots : Nat} {Q : State → Prop} {kd : Int → Nat} {ln : Int → Int} {mem : Int → Int → Int} {sz : Nat} {L i : Int} {S : Int → Int} (hF : FX z l g 8 code "FigureHouseLaw" room_1) (hG : GH g) (hl : l.stackTraces = false) (hTH : THW g) (hTN : TNS g) (hEM : EMP g) (mi : Nat) (hMi : va_Mi "[Ljava/lang/Object;" mi (gs g)) (hS : SCR g L S) (hi : 0 ≤ i ∧ i + 8 ≤ L) (hrm : (∀ k : Nat, k ≤ cells + 40 → k ≤ room_1.cells) ∧ ∀ k : Nat, k ≤ slots + 2000 → k ≤ room_1.slots) (hx : LINV kd ln mem sz) (kk : ∀ (kd' : Int → Nat) (ln' : Int → Int) (mem' : Int → Int → Int) (sz' : Nat), LINV kd' ln' mem' sz' → J z g 8 (cells + 40) (slots + 2000) Q 3057 [(0, (2, 2)), (1, (2, 3)), (2, (2, 35)), (3, (2, 100)), (4, (0, i))] [] kd' ln' mem' sz') : J z g 8 cells slots Q 2474 [(0, (2, 2)), (1, (2, 3)), (2, (2, 35)), (3, (2, 100)), (4, (0, i))] [] kd ln mem sz := by
  obtain ⟨tg, hI, hzz⟩ := id hx.1
  refine jblk hF [(.aload_n 1, 1), (.aload_n 0, 1), (.iload 4, 2), (.iconst 1, 1), (.iadd, 1)] (by decide +kernel) (pc' := 2480) (lo' := [(0, (2, 2)), (1, (2, 3)), (2, (2, 35)), (3, (2, 100)), (4, (0, i))]) (st' := [(0, i + 1), (2, 2), (2, 3)]) rfl ?_
  refine jsld hF hS (by decide +kernel) (by omega) (by omega) ?_
  refine jblk hF [(.aload_n 0, 1), (.iload 4, 2), (.iconst 2, 1), (.iadd, 1)] (by decide +kernel) (pc' := 2486) (lo' := [(0, (2, 2)), (1, (2, 3)), (2, (2, 35)), (3, (2, 100)), (4, (0, i))]) (st' := [(0, i + 2), (2, 2), (0, S (i + 1)), (2, 3)]) rfl ?_
  refine jsld hF hS (by decide +kernel) (by omega) (by omega) ?_
  refine jcallV hF (c_X11_apply hG hI.1.2.1 hI.1.2.2.2.1 (S (i + 1)) (S (i + 2)) tg hI (hS.2 (i + 1)) (hS.2 (i + 2))) MW_X11_apply 12 (by decide) hI.1.2.1.k3 wd_1206 wd_1207 wd_1208 (by decide +kernel) [] rfl rfl (by decide) (Nat.le_of_ble_eq_true rfl) ⟨hrm.1 _ (by omega), hrm.2 _ (by omega)⟩ (kMR (fun v1 m1 h1 => ?_))
  have hSK := hI.1.1
  have hM := (MD_apply hI h1).2
  refine jblk hF [(.aload_n 2, 1), (.aload_n 0, 1), (.iload 4, 2), (.iconst 1, 1), (.iadd, 1)] (by decide +kernel) (pc' := 2496) (lo' := [(0, (2, 2)), (1, (2, 3)), (2, (2, 35)), (3, (2, 100)), (4, (0, i))]) (st' := [(0, i + 1), (2, 2), (2, 35), (0, v1)]) rfl ?_
  refine jsld hF hS (by decide +kernel) (by omega) (by omega) ?_
  refine jblk hF [(.aload_n 0, 1), (.iload 4, 2), (.iconst 2, 1), (.iadd, 1)] (by decide +kernel) (pc' := 2502) (lo' := [(0, (2, 2)), (1, (2, 3)), (2, (2, 35)), (3, (2, 100)), (4, (0, i))]) (st' := [(0, i + 2), (2, 2), (0, S (i + 1)), (2, 35), (0, v1)]) rfl ?_
  refine jsld hF hS (by decide +kernel) (by omega) (by omega) ?_
  refine jcallV hF (c_X12_apply hG hSK hM.2 (S (i + 1)) (S (i + 2)) (hS.2 (i + 1)) (hS.2 (i + 2)) hM.1.pgs hM.1.cps hM.1.ers) MW_X12_apply 13 (by decide) hSK.k35 wd_2186 wd_2187 wd_2188 (by decide +kernel) [(0, v1)] rfl rfl (by decide) (Nat.le_of_ble_eq_true rfl) ⟨hrm.1 _ (by omega), hrm.2 _ (by omega)⟩ (kMR (fun v2 m2 h2 => ?_))
  have hst := ST_apply hI hzz h1 h2
  refine jeqI hF (off := 551) 3057 (by decide +kernel) (by decide) hst.1 ?_
  refine jwiden (k := cells + 40) (n := slots + 2000) (by omega) (by omega) ?_
  refine jsub [0, 1, 2, 3, 4] rfl ?_
  exact kk kd ln m2 sz ⟨hst.2, hx.2⟩
set_option maxHeartbeats 4000000 in
set_option maxRecDepth 100000 in
theorem lc_46 {z : ZT} {l : Launch} {g : GP} {cells slots : Nat} {Q : State → Prop} {kd : Int → Nat} {ln : Int → Int} {mem : Int → Int → Int} {sz : Nat} {L i : Int} {S : Int → Int} (hF : FX z l g 8 code "FigureHouseLaw" room_1) (hG : GH g) (hl : l.stackTraces = false) (hTH : THW g) (hTN : TNS g) (hEM : EMP g) (mi : Nat) (hMi : va_Mi "[Ljava/lang/Object;" mi (gs g)) (hS : SCR g L S) (hi : 0 ≤ i ∧ i + 8 ≤ L) (hrm : (∀ k : Nat, k ≤ cells + 40 → k ≤ room_1.cells) ∧ ∀ k : Nat, k ≤ slots + 2000 → k ≤ room_1.slots) (hx : LINV kd ln mem sz) (kk : ∀ (kd' : Int → Nat) (ln' : Int → Int) (mem' : Int → Int → Int) (sz' : Nat), LINV kd' ln' mem' sz' → J z g 8 (cells + 40) (slots + 2000) Q 3057 [(0, (2, 2)), (1, (2, 3)), (2, (2, 35)), (3, (2, 100)), (4, (0, i))] [] kd' ln' mem' sz') : J z g 8 cells slots Q 2511 [(0, (2, 2)), (1, (2, 3)), (2, (2, 35)), (3, (2, 100)), (4, (0, i))] [] kd ln mem sz := by
  obtain ⟨tg, hI, hzz⟩ := id hx.1
  refine jblk hF [(.aload_n 1, 1), (.aload_n 0, 1), (.iload 4, 2), (.iconst 1, 1), (.iadd, 1)] (by decide +kernel) (pc' := 2517) (lo' := [(0, (2, 2)), (1, (2, 3)), (2, (2, 35)), (3, (2, 100)), (4, (0, i))]) (st' := [(0, i + 1), (2, 2), (2, 3)]) rfl ?_
  refine jsld hF hS (by decide +kernel) (by omega) (by omega) ?_
  refine jblk hF [(.aload_n 0, 1), (.iload 4, 2), (.iconst 2, 1), (.iadd, 1)] (by decide +kernel) (pc' := 2523) (lo' := [(0, (2, 2)), (1, (2, 3)), (2, (2, 35)), (3, (2, 100)), (4, (0, i))]) (st' := [(0, i + 2), (2, 2), (0, S (i + 1)), (2, 3)]) rfl ?_
  refine jsld hF hS (by decide +kernel) (by omega) (by omega) ?_
  refine jblk hF [(.aload_n 3, 1)] (by decide +kernel) (pc' := 2525) (lo' := [(0, (2, 2)), (1, (2, 3)), (2, (2, 35)), (3, (2, 100)), (4, (0, i))]) (st' := [(2, 100), (0, S (i + 2)), (0, S (i + 1)), (2, 3)]) rfl ?_
  refine jcallSW (n := 4) hF (c_L_copied hG hl hTH hTN hI.1.2.1 hI.1.2.2.2.1 (S (i + 1)) (S (i + 2)) tg hI hx.2 (hS.2 (i + 1)) (hS.2 (i + 2))) cw_copied wd_100 ⟨by decide, by decide⟩ (by decide +kernel) wd_1450 wd_1451 (by decide +kernel) [] rfl rfl (by decide) (Nat.le_of_ble_eq_true rfl) ⟨hrm.1 _ (by omega), hrm.2 _ (by omega)⟩ (kXR (fun v1 kd1 ln1 m1 sz1 hE h1 => ?_))
  have hH := HL_copied hI hzz hE h1
  obtain ⟨hk1, hl1, hI1, hz1, he1, hv1⟩ := hH
  have hSK := hI1.1.1
  have hM : MI m1 ∧ SR m1 := ⟨hI1.2.1, hI1.1.2.2.1⟩
  have hx1 : kd1 100 = 21 ∧ ln1 100 = 1 := by rw [hk1, hl1]; exact hx.2
  refine jblk hF [(.istore 5, 2), (.aload_n 2, 1), (.aload_n 0, 1), (.iload 4, 2), (.iconst 1, 1), (.iadd, 1)] (by decide +kernel) (pc' := 2536) (lo' := [(5, (0, v1)), (0, (2, 2)), (1, (2, 3)), (2, (2, 35)), (3, (2, 100)), (4, (0, i))]) (st' := [(0, i + 1), (2, 2), (2, 35)]) rfl ?_
  refine jsld hF hS (by decide +kernel) (by omega) (by omega) ?_
  refine jblk hF [(.aload_n 0, 1), (.iload 4, 2), (.iconst 2, 1), (.iadd, 1)] (by decide +kernel) (pc' := 2542) (lo' := [(5, (0, v1)), (0, (2, 2)), (1, (2, 3)), (2, (2, 35)), (3, (2, 100)), (4, (0, i))]) (st' := [(0, i + 2), (2, 2), (0, S (i + 1)), (2, 35)]) rfl ?_
  refine jsld hF hS (by decide +kernel) (by omega) (by omega) ?_
  refine jcallV hF (c_X12_copied hG hSK hM.2 (S (i + 1)) (S (i + 2)) (hS.2 (i + 1)) (hS.2 (i + 2)) hM.1.pgs hM.1.cps) MW_X12_copied 13 (by decide) hSK.k35 wd_2194 wd_2195 wd_2196 (by decide +kernel) [] rfl rfl (by decide) (Nat.le_of_ble_eq_true rfl) ⟨hrm.1 _ (by omega), hrm.2 _ (by omega)⟩ (kMR (fun v2 m2 h2 => ?_))
  have hT := TL_copied hI1 hz1 he1 h1 h2
  obtain ⟨hI2, hz2, ht2, ho2⟩ := hT
  refine jblk hF [(.lstore 6, 2), (.aload_n 2, 1)] (by decide +kernel) (pc' := 2549) (lo' := [(6, (1, v2)), (5, (0, v1)), (0, (2, 2)), (1, (2, 3)), (2, (2, 35)), (3, (2, 100)), (4, (0, i))]) (st' := [(2, 35)]) rfl ?_
  refine jcallV hF (c_X12_thrown hG hSK hI2.1.2.2.1) MW_X12_thrown 13 (by decide) hSK.k35 wd_1735 wd_1736 wd_1737 (by decide +kernel) [] rfl rfl (by decide) (Nat.le_of_ble_eq_true rfl) ⟨hrm.1 _ (by omega), hrm.2 _ (by omega)⟩ (kV ?_)
  refine jblk hF [(.iload 5, 2)] (by decide +kernel) (pc' := 2554) (lo' := [(6, (1, v2)), (5, (0, v1)), (0, (2, 2)), (1, (2, 3)), (2, (2, 35)), (3, (2, 100)), (4, (0, i))]) (st' := [(0, v1), (0, m2 35 1)]) rfl ?_
  refine jeqI hF (off := 5) 2559 (by decide +kernel) (by decide) ht2 ?_
  refine jblk hF [(.iload 5, 2)] (by decide +kernel) (pc' := 2561) (lo' := [(6, (1, v2)), (5, (0, v1)), (0, (2, 2)), (1, (2, 3)), (2, (2, 35)), (3, (2, 100)), (4, (0, i))]) (st' := [(0, v1)]) rfl ?_
  refine jif_ne hF (off := 14) 2575 (by decide +kernel) (by decide) (by rcases hv1 with u | u <;> rw [u] <;> decide) (fun u => ?_) (fun u => ?_)
  · refine jgoto hF (off := 482) 3057 (by decide +kernel) (by decide) ?_
    refine jwiden (k := cells + 40) (n := slots + 2000) (by omega) (by omega) ?_
    refine jsub [2, 3, 4, 5, 6] rfl ?_
    exact kk kd1 ln1 m2 sz1 ⟨⟨tg, hI2, hz2⟩, hx1⟩
  · refine jblk hF [(.aload_n 3, 1), (.iconst 0, 1)] (by decide +kernel) (pc' := 2566) (lo' := [(6, (1, v2)), (5, (0, v1)), (0, (2, 2)), (1, (2, 3)), (2, (2, 35)), (3, (2, 100)), (4, (0, i))]) (st' := [(0, 0), (2, 100)]) rfl ?_
    refine jlald hF (by decide +kernel) hx1.1 (by decide) (by rw [hx1.2]; decide) ?_
    refine jblk hF [(.lload 6, 2)] (by decide +kernel) (pc' := 2569) (lo' := [(6, (1, v2)), (5, (0, v1)), (0, (2, 2)), (1, (2, 3)), (2, (2, 35)), (3, (2, 100)), (4, (0, i))]) (st' := [(1, v2), (1, m2 100 0)]) rfl ?_
    refine jeqL hF (off := 5) 2575 (by decide +kernel) (by decide +kernel) (by decide) (ho2 u) ?_
    refine jgoto hF (off := 482) 3057 (by decide +kernel) (by decide) ?_
    refine jwiden (k := cells + 40) (n := slots + 2000) (by omega) (by omega) ?_
    refine jsub [2, 3, 4, 5, 6] rfl ?_
    exact kk kd1 ln1 m2 sz1 ⟨⟨tg, hI2, hz2⟩, hx1⟩
set_option maxHeartbeats 4000000 in
set_option maxRecDepth 100000 in
theorem lc_47 {z : ZT} {l : Launch} {g : GP} {cells slots : Nat} {Q : State → Prop} {kd : Int → Nat} {ln : Int → Int} {mem : Int → Int → Int} {sz : Nat} {L i : Int} {S : Int → Int} (hF : FX z l g 8 code "FigureHouseLaw" room_1) (hG : GH g) (hl : l.stackTraces = false) (hTH : THW g) (hTN : TNS g) (hEM : EMP g) (mi : Nat) (hMi : va_Mi "[Ljava/lang/Object;" mi (gs g)) (hS : SCR g L S) (hi : 0 ≤ i ∧ i + 8 ≤ L) (hrm : (∀ k : Nat, k ≤ cells + 40 → k ≤ room_1.cells) ∧ ∀ k : Nat, k ≤ slots + 2000 → k ≤ room_1.slots) (hx : LINV kd ln mem sz) (kk : ∀ (kd' : Int → Nat) (ln' : Int → Int) (mem' : Int → Int → Int) (sz' : Nat), LINV kd' ln' mem' sz' → J z g 8 (cells + 40) (slots + 2000) Q 3057 [(0, (2, 2)), (1, (2, 3)), (2, (2, 35)), (3, (2, 100)), (4, (0, i))] [] kd' ln' mem' sz') : J z g 8 cells slots Q 2578 [(0, (2, 2)), (1, (2, 3)), (2, (2, 35)), (3, (2, 100)), (4, (0, i))] [] kd ln mem sz := by
  obtain ⟨tg, hI, hzz⟩ := id hx.1
  refine jblk hF [(.aload_n 1, 1), (.aload_n 0, 1), (.iload 4, 2), (.iconst 1, 1), (.iadd, 1)] (by decide +kernel) (pc' := 2584) (lo' := [(0, (2, 2)), (1, (2, 3)), (2, (2, 35)), (3, (2, 100)), (4, (0, i))]) (st' := [(0, i + 1), (2, 2), (2, 3)]) rfl ?_
  refine jsld hF hS (by decide +kernel) (by omega) (by omega) ?_
  refine jcallV hF (c_X11_errors hG hI.1.2.1 hI.1.2.2.2.1 (S (i + 1)) tg hI (hS.2 (i + 1))) MW_X11_errors 12 (by decide) hI.1.2.1.k3 wd_1210 wd_1211 wd_1212 (by decide +kernel) [] rfl rfl (by decide) (Nat.le_of_ble_eq_true rfl) ⟨hrm.1 _ (by omega), hrm.2 _ (by omega)⟩ (kV ?_)
  have hM : MI mem ∧ SR mem := ⟨hI.2.1, hI.1.2.2.1⟩
  have hSK := hI.1.1
  refine jblk hF [(.aload_n 2, 1), (.aload_n 0, 1), (.iload 4, 2), (.iconst 1, 1), (.iadd, 1)] (by decide +kernel) (pc' := 2594) (lo' := [(0, (2, 2)), (1, (2, 3)), (2, (2, 35)), (3, (2, 100)), (4, (0, i))]) (st' := [(0, i + 1), (2, 2), (2, 35), (0, if isCp mem (S (i + 1)) then erN mem (S (i + 1)) (mem 88 (S (i + 1))) (mem 47 (mem 88 (S (i + 1)))).toNat else -1)]) rfl ?_
  refine jsld hF hS (by decide +kernel) (by omega) (by omega) ?_
  refine jcallV hF (c_X12_errors hG hSK hM.2 (S (i + 1)) (hS.2 (i + 1)) hM.1.pgs hM.1.cps) MW_X12_errors 13 (by decide) hSK.k35 wd_2198 wd_2199 wd_2200 (by decide +kernel) [(0, if isCp mem (S (i + 1)) then erN mem (S (i + 1)) (mem 88 (S (i + 1))) (mem 47 (mem 88 (S (i + 1)))).toNat else -1)] rfl rfl (by decide) (Nat.le_of_ble_eq_true rfl) ⟨hrm.1 _ (by omega), hrm.2 _ (by omega)⟩ (kV ?_)
  have hst : (if isCp mem (S (i + 1)) then erN mem (S (i + 1)) (mem 88 (S (i + 1))) (mem 47 (mem 88 (S (i + 1)))).toNat else -1) = (if isCp mem (S (i + 1)) then erN mem (S (i + 1)) (mem 88 (S (i + 1))) (mem 47 (mem 88 (S (i + 1)))).toNat else -1) ∧ LI kd ln mem sz := ⟨rfl, hx.1⟩
  refine jeqI hF (off := 459) 3057 (by decide +kernel) (by decide) hst.1 ?_
  refine jwiden (k := cells + 40) (n := slots + 2000) (by omega) (by omega) ?_
  refine jsub [0, 1, 2, 3, 4] rfl ?_
  exact kk kd ln mem sz ⟨hst.2, hx.2⟩
end CASE
