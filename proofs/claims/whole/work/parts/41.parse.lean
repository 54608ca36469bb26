section
set_option maxHeartbeats 4000000 in
set_option maxRecDepth 100000 in
theorem c_X12_termO {l : Launch} {g : GP} (hG : GH g) {kd : Int → Nat} {ln : Int → Int} {mem : Int → Int → Int} {sz : Nat} (hS : SK kd ln) (hR : SR mem) (u : Nat) (hPT : PTX mem) (hPC : PC mem u) (hcal : ∀ (mem : Int → Int → Int), SR mem → PTX mem → PC mem u → MT l g yX12_atom cX12_atom 2 none (3 * u + 2) 0 0 [(2, 35)] kd ln mem sz (pMV (fun mem' => SR mem' ∧ (PS mem mem' u 0 0 (atomP (mem 39) (mem 35 11) u (mem 35 12)))) kd ln sz)) : MT l g yX12_term cX12_term 2 none (3 * u + 3) 0 0 [(2, 35)] kd ln mem sz (pMV (fun mem' => SR mem' ∧ (PS mem mem' u 0 0 (termP (mem 39) (mem 35 11) u (mem 35 12)))) kd ln sz) := by
  refine MT_of hG (by decide +kernel) (Nat.le_of_ble_eq_true rfl) (fun z hF hr hn => ?_)
  obtain ⟨pw, pa0, paL, pd, ps0, ps1, pu0, pu6⟩ := id hPC
  have hPT1 := hPT.2.1
  refine jblk hF [(.aload_n 0, 1)] (by decide +kernel) (pc' := 1) (lo' := [(0, (2, 35))]) (st' := [(2, 35)]) rfl ?_
  refine jcallV hF (hcal _ hR (by assumption) (by assumption)) MW_X12_atom 13 (by decide) (by exact hS.k35) wd_1852 wd_1854 wd_p60 (by decide +kernel) [] rfl rfl (rmI (by omega) (by decide)) (Nat.le_of_ble_eq_true rfl) ⟨Nat.le_of_ble_eq_true rfl, Nat.le_of_ble_eq_true rfl⟩ (kMV (fun m_1 h_2 => ?_))
  obtain ⟨hR_m_1, h_2⟩ := h_2
  have hA := h_2
  have hgd := atomP_gd (mem 39) (mem 35 11) u (mem 35 12) pa0 paL
  have hAb := hA.bds hPT hPC (by omega) (by omega) (hgd.b200 pa0 (by omega))
  have hPT2 := hA.ptx hPT
  obtain ⟨a39, a11⟩ := hA.txt
  refine jblk hF [(.aload_n 0, 1)] (by decide +kernel) (pc' := 5) (lo' := [(0, (2, 35))]) (st' := [(2, 35)]) rfl ?_
  refine jcallV hF (c_X12_look hG hS hR_m_1 (by first | exact hPT | assumption) (by omega)) MW_X12_look 13 (by decide) (by exact hS.k35) wd_1829 wd_1831 wd_p55 (by decide +kernel) [] rfl rfl (rmI (by omega) (by decide)) (Nat.le_of_ble_eq_true rfl) ⟨Nat.le_of_ble_eq_true rfl, Nat.le_of_ble_eq_true rfl⟩ (kMR (fun v_5 m_3 h_4 => ?_))
  obtain ⟨hR_m_3, h_4⟩ := h_4
  obtain ⟨hv, hl⟩ := h_4
  have hL := hA.look (by omega) hl
  rw [a39, a11] at hv
  have hsk := skp_f (mem 39) (mem 35 11) (m_1 35 12)
  have hcb : -1 ≤ v_5 ∧ v_5 ≤ 255 := by rw [hv]; unfold chr; split; (have := hPT.2.2 _ (by omega : 0 ≤ skp (mem 39) (mem 35 11) (m_1 35 12)) (by omega); omega); omega
  have hvq : (atomP (mem 39) (mem 35 11) u (mem 35 12)).1 = -1 → v_5 = chr (mem 39) (mem 35 11) (skp (mem 39) (mem 35 11) (atomP (mem 39) (mem 35 11) u (mem 35 12)).2.1) := fun q => by rw [hv, (hA.2.2.1 q).2.1]
  refine jblk hF [(.istore_n 1, 1)] (by decide +kernel) (pc' := 9) (lo' := [(1, (0, v_5)), (0, (2, 35))]) (st' := []) rfl ?_
  have L_7 : ∀ (fu_8 : Nat) (ch : Int) (m3 : Int → Int → Int) (rr : PR) (k : Nat), (SR m3) → (PS mem m3 u 0 0 (bnd rr (fun a c => okP (skp (mem 39) (mem 35 11) a) c))) → (OPJ (mem 39) (mem 35 11) isMul (atomP (mem 39) (mem 35 11) u) (mem 35 12) (termP (mem 39) (mem 35 11) u (mem 35 12)) k rr) → (rr.1 = -1 → ch = chr (mem 39) (mem 35 11) (skp (mem 39) (mem 35 11) rr.2.1)) → (-1 ≤ ch ∧ ch ≤ 255) →  k < fu_8 → J z g 2 0 0 (QM z g 0 0 (pMV (fun mem' => SR mem' ∧ (PS mem mem' u 0 0 (termP (mem 39) (mem 35 11) u (mem 35 12)))) kd ln sz)) 9 [(0, (2, 35)), (1, (0, ch))] [] kd ln m3 sz := by
    intro fu_8
    induction fu_8 with
    | zero => intro ch m3 rr k _ _ _ _ _ hm; omega
    | succ fu_8 ih_6 =>
      intro ch m3 rr k hR_m3 hps hj hch hcb hm
      have h13 := hps.sk1
      have hb3 := hps.bds hPT hPC (by omega) (by omega) (PS.gdb hj.1 pa0 (by omega))
      refine jblk hF [(.aload_n 0, 1)] (by decide +kernel) (pc' := 10) (lo' := [(0, (2, 35)), (1, (0, ch))]) (st' := [(2, 35)]) rfl ?_
      refine jget hF 13 13 0 13 rfl (by decide) (by decide) rfl wd_1476 (by decide +kernel) (by exact hS.k35) ?_
      refine jblk hF [(.iconst (-1), 1)] (by decide +kernel) (pc' := 14) (lo' := [(0, (2, 35)), (1, (0, ch))]) (st' := [(0, (-1)), (0, m3 35 13)]) rfl ?_
      refine jicmp_ne hF (off := 48) 62 (by decide +kernel) (by decide) (by omega) (by decide) (fun h_9 => ?_) (fun h_9 => ?_)
      · refine jvret hF hr (by decide +kernel) ?_
        exact lMV ⟨hR_m3, by first | exact hps.erI (show rr.1 ≠ -1 by omega) (hj.fail (by omega)) | (have hrr : rr.1 = -1 := (by omega); rw [← hj.stop hrr (by rw [← hch hrr]; exact fun q => absurd (of_decide_eq_true q) (by omega))]; exact hps)⟩
      · refine jblk hF [(.iload_n 1, 1), (.bipush 42, 2)] (by decide +kernel) (pc' := 20) (lo' := [(0, (2, 35)), (1, (0, ch))]) (st' := [(0, 42), (0, ch)]) rfl ?_
        refine jicmp_eq hF (off := 15) 35 (by decide +kernel) (by decide) (by omega) (by decide) (fun h_10 => ?_) (fun h_10 => ?_)
        · have hrr : rr.1 = -1 := by omega
          have hcq := hch hrr
          obtain ⟨hk1, hlt, hj2⟩ := hj.next isMul_op (atomP_gd _ _ u) pa0 hrr (by rw [← hcq]; exact decide_eq_true (by omega))
          have hgl := (hj.1.1 hrr).1
          have hsk1 := (skp_f (mem 39) (mem 35 11) rr.2.1).1
          have hV := (hps.okI hrr).adv hlt
          refine jblk hF [(.aload_n 0, 1), (.dup, 1)] (by decide +kernel) (pc' := 37) (lo' := [(0, (2, 35)), (1, (0, ch))]) (st' := [(2, 35), (2, 35)]) rfl ?_
          refine jget hF 13 12 0 12 rfl (by decide) (by decide) rfl wd_1475 (by decide +kernel) (by exact hS.k35) ?_
          refine jblk hF [(.iconst 1, 1), (.iadd, 1)] (by decide +kernel) (pc' := 42) (lo' := [(0, (2, 35)), (1, (0, ch))]) (st' := [(0, (m3 35 12) + 1), (2, 35)]) rfl ?_
          refine jput hF 13 12 0 12 rfl (by decide) (by decide) rfl wd_1475 (by decide +kernel) rfl (Or.inl rfl) (by exact hS.k35) (fun h => by cases h) ?_
          obtain ⟨o39, o11⟩ := hV.txt
          have o12 : (set2 m3 35 12 ((m3 35 12) + 1)) 35 12 = skp (mem 39) (mem 35 11) rr.2.1 + 1 := (hV.2.2.1 rfl).2.1
          have hPT3 := hV.ptx hPT
          have hPC3 : PC (set2 m3 35 12 ((m3 35 12) + 1)) u := hV.pc rfl hPC (by omega) (by omega) (by omega)
          refine jblk hF [(.aload_n 0, 1)] (by decide +kernel) (pc' := 46) (lo' := [(0, (2, 35)), (1, (0, ch))]) (st' := [(2, 35)]) rfl ?_
          refine jcallV hF (hcal _ (SR.s hR_m3 (Or.inr (by decide))) (by assumption) (by assumption)) MW_X12_atom 13 (by decide) (by exact hS.k35) wd_1852 wd_1854 wd_p60 (by decide +kernel) [] rfl rfl (rmI (by omega) (by decide)) (Nat.le_of_ble_eq_true rfl) ⟨Nat.le_of_ble_eq_true rfl, Nat.le_of_ble_eq_true rfl⟩ (kMV (fun m_11 h_12 => ?_))
          obtain ⟨hR_m_11, h_12⟩ := h_12
          have hC := hV.call rfl h_12
          rw [o39, o11, o12] at hC
          have hgd2 := atomP_gd (mem 39) (mem 35 11) u (skp (mem 39) (mem 35 11) rr.2.1 + 1) (by omega) (by omega)
          have hCb := hC.bds hPT hPC (by omega) (by omega) (fun q => by rw [app_er] at q ⊢; exact hgd2.b200 (by omega) (by omega) q)
          refine jblk hF [(.aload_n 0, 1), (.iload_n 1, 1)] (by decide +kernel) (pc' := 51) (lo' := [(0, (2, 35)), (1, (0, ch))]) (st' := [(0, ch), (2, 35)]) rfl ?_
          refine jcallV hF (c_X12_say hG hS hR_m_11 ch (by omega)) MW_X12_say 13 (by decide) (by exact hS.k35) wd_1840 wd_1842 wd_p57 (by decide +kernel) [] rfl rfl (rmI (by omega) (by decide)) (Nat.le_of_ble_eq_true rfl) ⟨Nat.le_of_ble_eq_true rfl, Nat.le_of_ble_eq_true rfl⟩ (kMV (fun m_13 h_14 => ?_))
          obtain ⟨hR_m_13, h_14⟩ := h_14
          have hS1 := (hC.weak (d' := 0 + 1) (Int.le_refl _) (by omega)).say ch
          rw [← h_14, app_say, hcq] at hS1
          have g12 : m_13 35 12 = m_11 35 12 := by rw [h_14, s2_k (by decide), s2_a (by decide)]
          obtain ⟨p39, p11⟩ := hS1.txt
          have hPT4 := hS1.ptx hPT
          refine jblk hF [(.aload_n 0, 1)] (by decide +kernel) (pc' := 55) (lo' := [(0, (2, 35)), (1, (0, ch))]) (st' := [(2, 35)]) rfl ?_
          refine jcallV hF (c_X12_look hG hS hR_m_13 (by first | exact hPT | assumption) (by omega)) MW_X12_look 13 (by decide) (by exact hS.k35) wd_1829 wd_1831 wd_p55 (by decide +kernel) [] rfl rfl (rmI (by omega) (by decide)) (Nat.le_of_ble_eq_true rfl) ⟨Nat.le_of_ble_eq_true rfl, Nat.le_of_ble_eq_true rfl⟩ (kMR (fun v_17 m_15 h_16 => ?_))
          obtain ⟨hR_m_15, h_16⟩ := h_16
          obtain ⟨hv, hl⟩ := h_16
          have hL2 := hS1.look (by omega) hl
          rw [p39, p11] at hv
          have hsk2 := skp_f (mem 39) (mem 35 11) (m_13 35 12)
          have hcb2 : -1 ≤ v_17 ∧ v_17 ≤ 255 := by rw [hv]; unfold chr; split; (have := hPT.2.2 _ (by omega : 0 ≤ skp (mem 39) (mem 35 11) (m_13 35 12)) (by omega); omega); omega
          have hvq2 : (bnd (atomP (mem 39) (mem 35 11) u (skp (mem 39) (mem 35 11) rr.2.1 + 1)) (fun a' c' => okP a' (rr.2.2 ++ c' ++ [chr (mem 39) (mem 35 11) (skp (mem 39) (mem 35 11) rr.2.1)]))).1 = -1 → v_17 = chr (mem 39) (mem 35 11) (skp (mem 39) (mem 35 11) (bnd (atomP (mem 39) (mem 35 11) u (skp (mem 39) (mem 35 11) rr.2.1 + 1)) (fun a' c' => okP a' (rr.2.2 ++ c' ++ [chr (mem 39) (mem 35 11) (skp (mem 39) (mem 35 11) rr.2.1)]))).2.1) := fun q => by rw [hv, (hS1.2.2.1 q).2.1] <;> rfl
          refine jblk hF [(.istore_n 1, 1)] (by decide +kernel) (pc' := 59) (lo' := [(1, (0, v_17)), (0, (2, 35))]) (st' := []) rfl ?_
          refine jgoto hF (off := (-50)) 9 (by decide +kernel) (by decide) ?_
          refine jsub [1, 0] rfl ?_
          refine ih_6 v_17 m_15 (bnd (atomP (mem 39) (mem 35 11) u (skp (mem 39) (mem 35 11) rr.2.1 + 1)) (fun a' c' => okP a' (rr.2.2 ++ c' ++ [chr (mem 39) (mem 35 11) (skp (mem 39) (mem 35 11) rr.2.1)]))) (k - 1) ?_ ?_ ?_ ?_ ?_ ?_
          · exact hR_m_15
          · exact hL2
          · exact hj2
          · exact hvq2
          · omega
          · omega
        · refine jblk hF [(.iload_n 1, 1), (.bipush 47, 2)] (by decide +kernel) (pc' := 26) (lo' := [(0, (2, 35)), (1, (0, ch))]) (st' := [(0, 47), (0, ch)]) rfl ?_
          refine jicmp_eq hF (off := 9) 35 (by decide +kernel) (by decide) (by omega) (by decide) (fun h_18 => ?_) (fun h_18 => ?_)
          · have hrr : rr.1 = -1 := by omega
            have hcq := hch hrr
            obtain ⟨hk1, hlt, hj2⟩ := hj.next isMul_op (atomP_gd _ _ u) pa0 hrr (by rw [← hcq]; exact decide_eq_true (by omega))
            have hgl := (hj.1.1 hrr).1
            have hsk1 := (skp_f (mem 39) (mem 35 11) rr.2.1).1
            have hV := (hps.okI hrr).adv hlt
            refine jblk hF [(.aload_n 0, 1), (.dup, 1)] (by decide +kernel) (pc' := 37) (lo' := [(0, (2, 35)), (1, (0, ch))]) (st' := [(2, 35), (2, 35)]) rfl ?_
            refine jget hF 13 12 0 12 rfl (by decide) (by decide) rfl wd_1475 (by decide +kernel) (by exact hS.k35) ?_
            refine jblk hF [(.iconst 1, 1), (.iadd, 1)] (by decide +kernel) (pc' := 42) (lo' := [(0, (2, 35)), (1, (0, ch))]) (st' := [(0, (m3 35 12) + 1), (2, 35)]) rfl ?_
            refine jput hF 13 12 0 12 rfl (by decide) (by decide) rfl wd_1475 (by decide +kernel) rfl (Or.inl rfl) (by exact hS.k35) (fun h => by cases h) ?_
            obtain ⟨o39, o11⟩ := hV.txt
            have o12 : (set2 m3 35 12 ((m3 35 12) + 1)) 35 12 = skp (mem 39) (mem 35 11) rr.2.1 + 1 := (hV.2.2.1 rfl).2.1
            have hPT3 := hV.ptx hPT
            have hPC3 : PC (set2 m3 35 12 ((m3 35 12) + 1)) u := hV.pc rfl hPC (by omega) (by omega) (by omega)
            refine jblk hF [(.aload_n 0, 1)] (by decide +kernel) (pc' := 46) (lo' := [(0, (2, 35)), (1, (0, ch))]) (st' := [(2, 35)]) rfl ?_
            refine jcallV hF (hcal _ (SR.s hR_m3 (Or.inr (by decide))) (by assumption) (by assumption)) MW_X12_atom 13 (by decide) (by exact hS.k35) wd_1852 wd_1854 wd_p60 (by decide +kernel) [] rfl rfl (rmI (by omega) (by decide)) (Nat.le_of_ble_eq_true rfl) ⟨Nat.le_of_ble_eq_true rfl, Nat.le_of_ble_eq_true rfl⟩ (kMV (fun m_19 h_20 => ?_))
            obtain ⟨hR_m_19, h_20⟩ := h_20
            have hC := hV.call rfl h_20
            rw [o39, o11, o12] at hC
            have hgd2 := atomP_gd (mem 39) (mem 35 11) u (skp (mem 39) (mem 35 11) rr.2.1 + 1) (by omega) (by omega)
            have hCb := hC.bds hPT hPC (by omega) (by omega) (fun q => by rw [app_er] at q ⊢; exact hgd2.b200 (by omega) (by omega) q)
            refine jblk hF [(.aload_n 0, 1), (.iload_n 1, 1)] (by decide +kernel) (pc' := 51) (lo' := [(0, (2, 35)), (1, (0, ch))]) (st' := [(0, ch), (2, 35)]) rfl ?_
            refine jcallV hF (c_X12_say hG hS hR_m_19 ch (by omega)) MW_X12_say 13 (by decide) (by exact hS.k35) wd_1840 wd_1842 wd_p57 (by decide +kernel) [] rfl rfl (rmI (by omega) (by decide)) (Nat.le_of_ble_eq_true rfl) ⟨Nat.le_of_ble_eq_true rfl, Nat.le_of_ble_eq_true rfl⟩ (kMV (fun m_21 h_22 => ?_))
            obtain ⟨hR_m_21, h_22⟩ := h_22
            have hS1 := (hC.weak (d' := 0 + 1) (Int.le_refl _) (by omega)).say ch
            rw [← h_22, app_say, hcq] at hS1
            have g12 : m_21 35 12 = m_19 35 12 := by rw [h_22, s2_k (by decide), s2_a (by decide)]
            obtain ⟨p39, p11⟩ := hS1.txt
            have hPT4 := hS1.ptx hPT
            refine jblk hF [(.aload_n 0, 1)] (by decide +kernel) (pc' := 55) (lo' := [(0, (2, 35)), (1, (0, ch))]) (st' := [(2, 35)]) rfl ?_
            refine jcallV hF (c_X12_look hG hS hR_m_21 (by first | exact hPT | assumption) (by omega)) MW_X12_look 13 (by decide) (by exact hS.k35) wd_1829 wd_1831 wd_p55 (by decide +kernel) [] rfl rfl (rmI (by omega) (by decide)) (Nat.le_of_ble_eq_true rfl) ⟨Nat.le_of_ble_eq_true rfl, Nat.le_of_ble_eq_true rfl⟩ (kMR (fun v_25 m_23 h_24 => ?_))
            obtain ⟨hR_m_23, h_24⟩ := h_24
            obtain ⟨hv, hl⟩ := h_24
            have hL2 := hS1.look (by omega) hl
            rw [p39, p11] at hv
            have hsk2 := skp_f (mem 39) (mem 35 11) (m_21 35 12)
            have hcb2 : -1 ≤ v_25 ∧ v_25 ≤ 255 := by rw [hv]; unfold chr; split; (have := hPT.2.2 _ (by omega : 0 ≤ skp (mem 39) (mem 35 11) (m_21 35 12)) (by omega); omega); omega
            have hvq2 : (bnd (atomP (mem 39) (mem 35 11) u (skp (mem 39) (mem 35 11) rr.2.1 + 1)) (fun a' c' => okP a' (rr.2.2 ++ c' ++ [chr (mem 39) (mem 35 11) (skp (mem 39) (mem 35 11) rr.2.1)]))).1 = -1 → v_25 = chr (mem 39) (mem 35 11) (skp (mem 39) (mem 35 11) (bnd (atomP (mem 39) (mem 35 11) u (skp (mem 39) (mem 35 11) rr.2.1 + 1)) (fun a' c' => okP a' (rr.2.2 ++ c' ++ [chr (mem 39) (mem 35 11) (skp (mem 39) (mem 35 11) rr.2.1)]))).2.1) := fun q => by rw [hv, (hS1.2.2.1 q).2.1] <;> rfl
            refine jblk hF [(.istore_n 1, 1)] (by decide +kernel) (pc' := 59) (lo' := [(1, (0, v_25)), (0, (2, 35))]) (st' := []) rfl ?_
            refine jgoto hF (off := (-50)) 9 (by decide +kernel) (by decide) ?_
            refine jsub [1, 0] rfl ?_
            refine ih_6 v_25 m_23 (bnd (atomP (mem 39) (mem 35 11) u (skp (mem 39) (mem 35 11) rr.2.1 + 1)) (fun a' c' => okP a' (rr.2.2 ++ c' ++ [chr (mem 39) (mem 35 11) (skp (mem 39) (mem 35 11) rr.2.1)]))) (k - 1) ?_ ?_ ?_ ?_ ?_ ?_
            · exact hR_m_23
            · exact hL2
            · exact hj2
            · exact hvq2
            · omega
            · omega
          · refine jblk hF [(.iload_n 1, 1), (.bipush 37, 2)] (by decide +kernel) (pc' := 32) (lo' := [(0, (2, 35)), (1, (0, ch))]) (st' := [(0, 37), (0, ch)]) rfl ?_
            refine jicmp_ne hF (off := 30) 62 (by decide +kernel) (by decide) (by omega) (by decide) (fun h_26 => ?_) (fun h_26 => ?_)
            · refine jvret hF hr (by decide +kernel) ?_
              exact lMV ⟨hR_m3, by first | exact hps.erI (show rr.1 ≠ -1 by omega) (hj.fail (by omega)) | (have hrr : rr.1 = -1 := (by omega); rw [← hj.stop hrr (by rw [← hch hrr]; exact fun q => absurd (of_decide_eq_true q) (by omega))]; exact hps)⟩
            · have hrr : rr.1 = -1 := by omega
              have hcq := hch hrr
              obtain ⟨hk1, hlt, hj2⟩ := hj.next isMul_op (atomP_gd _ _ u) pa0 hrr (by rw [← hcq]; exact decide_eq_true (by omega))
              have hgl := (hj.1.1 hrr).1
              have hsk1 := (skp_f (mem 39) (mem 35 11) rr.2.1).1
              have hV := (hps.okI hrr).adv hlt
              refine jblk hF [(.aload_n 0, 1), (.dup, 1)] (by decide +kernel) (pc' := 37) (lo' := [(0, (2, 35)), (1, (0, ch))]) (st' := [(2, 35), (2, 35)]) rfl ?_
              refine jget hF 13 12 0 12 rfl (by decide) (by decide) rfl wd_1475 (by decide +kernel) (by exact hS.k35) ?_
              refine jblk hF [(.iconst 1, 1), (.iadd, 1)] (by decide +kernel) (pc' := 42) (lo' := [(0, (2, 35)), (1, (0, ch))]) (st' := [(0, (m3 35 12) + 1), (2, 35)]) rfl ?_
              refine jput hF 13 12 0 12 rfl (by decide) (by decide) rfl wd_1475 (by decide +kernel) rfl (Or.inl rfl) (by exact hS.k35) (fun h => by cases h) ?_
              obtain ⟨o39, o11⟩ := hV.txt
              have o12 : (set2 m3 35 12 ((m3 35 12) + 1)) 35 12 = skp (mem 39) (mem 35 11) rr.2.1 + 1 := (hV.2.2.1 rfl).2.1
              have hPT3 := hV.ptx hPT
              have hPC3 : PC (set2 m3 35 12 ((m3 35 12) + 1)) u := hV.pc rfl hPC (by omega) (by omega) (by omega)
              refine jblk hF [(.aload_n 0, 1)] (by decide +kernel) (pc' := 46) (lo' := [(0, (2, 35)), (1, (0, ch))]) (st' := [(2, 35)]) rfl ?_
              refine jcallV hF (hcal _ (SR.s hR_m3 (Or.inr (by decide))) (by assumption) (by assumption)) MW_X12_atom 13 (by decide) (by exact hS.k35) wd_1852 wd_1854 wd_p60 (by decide +kernel) [] rfl rfl (rmI (by omega) (by decide)) (Nat.le_of_ble_eq_true rfl) ⟨Nat.le_of_ble_eq_true rfl, Nat.le_of_ble_eq_true rfl⟩ (kMV (fun m_27 h_28 => ?_))
              obtain ⟨hR_m_27, h_28⟩ := h_28
              have hC := hV.call rfl h_28
              rw [o39, o11, o12] at hC
              have hgd2 := atomP_gd (mem 39) (mem 35 11) u (skp (mem 39) (mem 35 11) rr.2.1 + 1) (by omega) (by omega)
              have hCb := hC.bds hPT hPC (by omega) (by omega) (fun q => by rw [app_er] at q ⊢; exact hgd2.b200 (by omega) (by omega) q)
              refine jblk hF [(.aload_n 0, 1), (.iload_n 1, 1)] (by decide +kernel) (pc' := 51) (lo' := [(0, (2, 35)), (1, (0, ch))]) (st' := [(0, ch), (2, 35)]) rfl ?_
              refine jcallV hF (c_X12_say hG hS hR_m_27 ch (by omega)) MW_X12_say 13 (by decide) (by exact hS.k35) wd_1840 wd_1842 wd_p57 (by decide +kernel) [] rfl rfl (rmI (by omega) (by decide)) (Nat.le_of_ble_eq_true rfl) ⟨Nat.le_of_ble_eq_true rfl, Nat.le_of_ble_eq_true rfl⟩ (kMV (fun m_29 h_30 => ?_))
              obtain ⟨hR_m_29, h_30⟩ := h_30
              have hS1 := (hC.weak (d' := 0 + 1) (Int.le_refl _) (by omega)).say ch
              rw [← h_30, app_say, hcq] at hS1
              have g12 : m_29 35 12 = m_27 35 12 := by rw [h_30, s2_k (by decide), s2_a (by decide)]
              obtain ⟨p39, p11⟩ := hS1.txt
              have hPT4 := hS1.ptx hPT
              refine jblk hF [(.aload_n 0, 1)] (by decide +kernel) (pc' := 55) (lo' := [(0, (2, 35)), (1, (0, ch))]) (st' := [(2, 35)]) rfl ?_
              refine jcallV hF (c_X12_look hG hS hR_m_29 (by first | exact hPT | assumption) (by omega)) MW_X12_look 13 (by decide) (by exact hS.k35) wd_1829 wd_1831 wd_p55 (by decide +kernel) [] rfl rfl (rmI (by omega) (by decide)) (Nat.le_of_ble_eq_true rfl) ⟨Nat.le_of_ble_eq_true rfl, Nat.le_of_ble_eq_true rfl⟩ (kMR (fun v_33 m_31 h_32 => ?_))
              obtain ⟨hR_m_31, h_32⟩ := h_32
              obtain ⟨hv, hl⟩ := h_32
              have hL2 := hS1.look (by omega) hl
              rw [p39, p11] at hv
              have hsk2 := skp_f (mem 39) (mem 35 11) (m_29 35 12)
              have hcb2 : -1 ≤ v_33 ∧ v_33 ≤ 255 := by rw [hv]; unfold chr; split; (have := hPT.2.2 _ (by omega : 0 ≤ skp (mem 39) (mem 35 11) (m_29 35 12)) (by omega); omega); omega
              have hvq2 : (bnd (atomP (mem 39) (mem 35 11) u (skp (mem 39) (mem 35 11) rr.2.1 + 1)) (fun a' c' => okP a' (rr.2.2 ++ c' ++ [chr (mem 39) (mem 35 11) (skp (mem 39) (mem 35 11) rr.2.1)]))).1 = -1 → v_33 = chr (mem 39) (mem 35 11) (skp (mem 39) (mem 35 11) (bnd (atomP (mem 39) (mem 35 11) u (skp (mem 39) (mem 35 11) rr.2.1 + 1)) (fun a' c' => okP a' (rr.2.2 ++ c' ++ [chr (mem 39) (mem 35 11) (skp (mem 39) (mem 35 11) rr.2.1)]))).2.1) := fun q => by rw [hv, (hS1.2.2.1 q).2.1] <;> rfl
              refine jblk hF [(.istore_n 1, 1)] (by decide +kernel) (pc' := 59) (lo' := [(1, (0, v_33)), (0, (2, 35))]) (st' := []) rfl ?_
              refine jgoto hF (off := (-50)) 9 (by decide +kernel) (by decide) ?_
              refine jsub [1, 0] rfl ?_
              refine ih_6 v_33 m_31 (bnd (atomP (mem 39) (mem 35 11) u (skp (mem 39) (mem 35 11) rr.2.1 + 1)) (fun a' c' => okP a' (rr.2.2 ++ c' ++ [chr (mem 39) (mem 35 11) (skp (mem 39) (mem 35 11) rr.2.1)]))) (k - 1) ?_ ?_ ?_ ?_ ?_ ?_
              · exact hR_m_31
              · exact hL2
              · exact hj2
              · exact hvq2
              · omega
              · omega
  refine jsub [1, 0] rfl ?_
  refine L_7 _ v_5 m_3 (atomP (mem 39) (mem 35 11) u (mem 35 12)) 200 ?_ ?_ ?_ ?_ ?_ (Nat.lt_succ_self _)
  · exact hR_m_3
  · exact hL
  · exact OPJ.start hgd (by omega) pa0
  · exact hvq
  · omega
set_option maxHeartbeats 4000000 in
set_option maxRecDepth 100000 in
theorem c_X12_sumO {l : Launch} {g : GP} (hG : GH g) {kd : Int → Nat} {ln : Int → Int} {mem : Int → Int → Int} {sz : Nat} (hS : SK kd ln) (hR : SR mem) (u : Nat) (hPT : PTX mem) (hPC : PC mem u) (hcal : ∀ (mem : Int → Int → Int), SR mem → PTX mem → PC mem u → MT l g yX12_term cX12_term 2 none (3 * u + 3) 0 0 [(2, 35)] kd ln mem sz (pMV (fun mem' => SR mem' ∧ (PS mem mem' u 0 0 (termP (mem 39) (mem 35 11) u (mem 35 12)))) kd ln sz)) : MT l g yX12_sum cX12_sum 2 none (3 * u + 4) 0 0 [(2, 35)] kd ln mem sz (pMV (fun mem' => SR mem' ∧ (PS mem mem' u 0 0 (sumP (mem 39) (mem 35 11) u (mem 35 12)))) kd ln sz) := by
  refine MT_of hG (by decide +kernel) (Nat.le_of_ble_eq_true rfl) (fun z hF hr hn => ?_)
  obtain ⟨pw, pa0, paL, pd, ps0, ps1, pu0, pu6⟩ := id hPC
  have hPT1 := hPT.2.1
  refine jblk hF [(.aload_n 0, 1)] (by decide +kernel) (pc' := 1) (lo' := [(0, (2, 35))]) (st' := [(2, 35)]) rfl ?_
  refine jcallV hF (hcal _ hR (by assumption) (by assumption)) MW_X12_term 13 (by decide) (by exact hS.k35) wd_1848 wd_1850 wd_p59 (by decide +kernel) [] rfl rfl (rmI (by omega) (by decide)) (Nat.le_of_ble_eq_true rfl) ⟨Nat.le_of_ble_eq_true rfl, Nat.le_of_ble_eq_true rfl⟩ (kMV (fun m_1 h_2 => ?_))
  obtain ⟨hR_m_1, h_2⟩ := h_2
  have hA := h_2
  have hgd := termP_gd (mem 39) (mem 35 11) u (mem 35 12) pa0 paL
  have hAb := hA.bds hPT hPC (by omega) (by omega) (hgd.b200 pa0 (by omega))
  have hPT2 := hA.ptx hPT
  obtain ⟨a39, a11⟩ := hA.txt
  refine jblk hF [(.aload_n 0, 1)] (by decide +kernel) (pc' := 5) (lo' := [(0, (2, 35))]) (st' := [(2, 35)]) rfl ?_
  refine jcallV hF (c_X12_look hG hS hR_m_1 (by first | exact hPT | assumption) (by omega)) MW_X12_look 13 (by decide) (by exact hS.k35) wd_1829 wd_1831 wd_p55 (by decide +kernel) [] rfl rfl (rmI (by omega) (by decide)) (Nat.le_of_ble_eq_true rfl) ⟨Nat.le_of_ble_eq_true rfl, Nat.le_of_ble_eq_true rfl⟩ (kMR (fun v_5 m_3 h_4 => ?_))
  obtain ⟨hR_m_3, h_4⟩ := h_4
  obtain ⟨hv, hl⟩ := h_4
  have hL := hA.look (by omega) hl
  rw [a39, a11] at hv
  have hsk := skp_f (mem 39) (mem 35 11) (m_1 35 12)
  have hcb : -1 ≤ v_5 ∧ v_5 ≤ 255 := by rw [hv]; unfold chr; split; (have := hPT.2.2 _ (by omega : 0 ≤ skp (mem 39) (mem 35 11) (m_1 35 12)) (by omega); omega); omega
  have hvq : (termP (mem 39) (mem 35 11) u (mem 35 12)).1 = -1 → v_5 = chr (mem 39) (mem 35 11) (skp (mem 39) (mem 35 11) (termP (mem 39) (mem 35 11) u (mem 35 12)).2.1) := fun q => by rw [hv, (hA.2.2.1 q).2.1]
  refine jblk hF [(.istore_n 1, 1)] (by decide +kernel) (pc' := 9) (lo' := [(1, (0, v_5)), (0, (2, 35))]) (st' := []) rfl ?_
  have L_7 : ∀ (fu_8 : Nat) (ch : Int) (m3 : Int → Int → Int) (rr : PR) (k : Nat), (SR m3) → (PS mem m3 u 0 0 (bnd rr (fun a c => okP (skp (mem 39) (mem 35 11) a) c))) → (OPJ (mem 39) (mem 35 11) isAdd (termP (mem 39) (mem 35 11) u) (mem 35 12) (sumP (mem 39) (mem 35 11) u (mem 35 12)) k rr) → (rr.1 = -1 → ch = chr (mem 39) (mem 35 11) (skp (mem 39) (mem 35 11) rr.2.1)) → (-1 ≤ ch ∧ ch ≤ 255) →  k < fu_8 → J z g 2 0 0 (QM z g 0 0 (pMV (fun mem' => SR mem' ∧ (PS mem mem' u 0 0 (sumP (mem 39) (mem 35 11) u (mem 35 12)))) kd ln sz)) 9 [(0, (2, 35)), (1, (0, ch))] [] kd ln m3 sz := by
    intro fu_8
    induction fu_8 with
    | zero => intro ch m3 rr k _ _ _ _ _ hm; omega
    | succ fu_8 ih_6 =>
      intro ch m3 rr k hR_m3 hps hj hch hcb hm
      have h13 := hps.sk1
      have hb3 := hps.bds hPT hPC (by omega) (by omega) (PS.gdb hj.1 pa0 (by omega))
      refine jblk hF [(.aload_n 0, 1)] (by decide +kernel) (pc' := 10) (lo' := [(0, (2, 35)), (1, (0, ch))]) (st' := [(2, 35)]) rfl ?_
      refine jget hF 13 13 0 13 rfl (by decide) (by decide) rfl wd_1476 (by decide +kernel) (by exact hS.k35) ?_
      refine jblk hF [(.iconst (-1), 1)] (by decide +kernel) (pc' := 14) (lo' := [(0, (2, 35)), (1, (0, ch))]) (st' := [(0, (-1)), (0, m3 35 13)]) rfl ?_
      refine jicmp_ne hF (off := 42) 56 (by decide +kernel) (by decide) (by omega) (by decide) (fun h_9 => ?_) (fun h_9 => ?_)
      · refine jvret hF hr (by decide +kernel) ?_
        exact lMV ⟨hR_m3, by first | exact hps.erI (show rr.1 ≠ -1 by omega) (hj.fail (by omega)) | (have hrr : rr.1 = -1 := (by omega); rw [← hj.stop hrr (by rw [← hch hrr]; exact fun q => absurd (of_decide_eq_true q) (by omega))]; exact hps)⟩
      · refine jblk hF [(.iload_n 1, 1), (.bipush 43, 2)] (by decide +kernel) (pc' := 20) (lo' := [(0, (2, 35)), (1, (0, ch))]) (st' := [(0, 43), (0, ch)]) rfl ?_
        refine jicmp_eq hF (off := 9) 29 (by decide +kernel) (by decide) (by omega) (by decide) (fun h_10 => ?_) (fun h_10 => ?_)
        · have hrr : rr.1 = -1 := by omega
          have hcq := hch hrr
          obtain ⟨hk1, hlt, hj2⟩ := hj.next isAdd_op (termP_gd _ _ u) pa0 hrr (by rw [← hcq]; exact decide_eq_true (by omega))
          have hgl := (hj.1.1 hrr).1
          have hsk1 := (skp_f (mem 39) (mem 35 11) rr.2.1).1
          have hV := (hps.okI hrr).adv hlt
          refine jblk hF [(.aload_n 0, 1), (.dup, 1)] (by decide +kernel) (pc' := 31) (lo' := [(0, (2, 35)), (1, (0, ch))]) (st' := [(2, 35), (2, 35)]) rfl ?_
          refine jget hF 13 12 0 12 rfl (by decide) (by decide) rfl wd_1475 (by decide +kernel) (by exact hS.k35) ?_
          refine jblk hF [(.iconst 1, 1), (.iadd, 1)] (by decide +kernel) (pc' := 36) (lo' := [(0, (2, 35)), (1, (0, ch))]) (st' := [(0, (m3 35 12) + 1), (2, 35)]) rfl ?_
          refine jput hF 13 12 0 12 rfl (by decide) (by decide) rfl wd_1475 (by decide +kernel) rfl (Or.inl rfl) (by exact hS.k35) (fun h => by cases h) ?_
          obtain ⟨o39, o11⟩ := hV.txt
          have o12 : (set2 m3 35 12 ((m3 35 12) + 1)) 35 12 = skp (mem 39) (mem 35 11) rr.2.1 + 1 := (hV.2.2.1 rfl).2.1
          have hPT3 := hV.ptx hPT
          have hPC3 : PC (set2 m3 35 12 ((m3 35 12) + 1)) u := hV.pc rfl hPC (by omega) (by omega) (by omega)
          refine jblk hF [(.aload_n 0, 1)] (by decide +kernel) (pc' := 40) (lo' := [(0, (2, 35)), (1, (0, ch))]) (st' := [(2, 35)]) rfl ?_
          refine jcallV hF (hcal _ (SR.s hR_m3 (Or.inr (by decide))) (by assumption) (by assumption)) MW_X12_term 13 (by decide) (by exact hS.k35) wd_1848 wd_1850 wd_p59 (by decide +kernel) [] rfl rfl (rmI (by omega) (by decide)) (Nat.le_of_ble_eq_true rfl) ⟨Nat.le_of_ble_eq_true rfl, Nat.le_of_ble_eq_true rfl⟩ (kMV (fun m_11 h_12 => ?_))
          obtain ⟨hR_m_11, h_12⟩ := h_12
          have hC := hV.call rfl h_12
          rw [o39, o11, o12] at hC
          have hgd2 := termP_gd (mem 39) (mem 35 11) u (skp (mem 39) (mem 35 11) rr.2.1 + 1) (by omega) (by omega)
          have hCb := hC.bds hPT hPC (by omega) (by omega) (fun q => by rw [app_er] at q ⊢; exact hgd2.b200 (by omega) (by omega) q)
          refine jblk hF [(.aload_n 0, 1), (.iload_n 1, 1)] (by decide +kernel) (pc' := 45) (lo' := [(0, (2, 35)), (1, (0, ch))]) (st' := [(0, ch), (2, 35)]) rfl ?_
          refine jcallV hF (c_X12_say hG hS hR_m_11 ch (by omega)) MW_X12_say 13 (by decide) (by exact hS.k35) wd_1840 wd_1842 wd_p57 (by decide +kernel) [] rfl rfl (rmI (by omega) (by decide)) (Nat.le_of_ble_eq_true rfl) ⟨Nat.le_of_ble_eq_true rfl, Nat.le_of_ble_eq_true rfl⟩ (kMV (fun m_13 h_14 => ?_))
          obtain ⟨hR_m_13, h_14⟩ := h_14
          have hS1 := (hC.weak (d' := 0 + 1) (Int.le_refl _) (by omega)).say ch
          rw [← h_14, app_say, hcq] at hS1
          have g12 : m_13 35 12 = m_11 35 12 := by rw [h_14, s2_k (by decide), s2_a (by decide)]
          obtain ⟨p39, p11⟩ := hS1.txt
          have hPT4 := hS1.ptx hPT
          refine jblk hF [(.aload_n 0, 1)] (by decide +kernel) (pc' := 49) (lo' := [(0, (2, 35)), (1, (0, ch))]) (st' := [(2, 35)]) rfl ?_
          refine jcallV hF (c_X12_look hG hS hR_m_13 (by first | exact hPT | assumption) (by omega)) MW_X12_look 13 (by decide) (by exact hS.k35) wd_1829 wd_1831 wd_p55 (by decide +kernel) [] rfl rfl (rmI (by omega) (by decide)) (Nat.le_of_ble_eq_true rfl) ⟨Nat.le_of_ble_eq_true rfl, Nat.le_of_ble_eq_true rfl⟩ (kMR (fun v_17 m_15 h_16 => ?_))
          obtain ⟨hR_m_15, h_16⟩ := h_16
          obtain ⟨hv, hl⟩ := h_16
          have hL2 := hS1.look (by omega) hl
          rw [p39, p11] at hv
          have hsk2 := skp_f (mem 39) (mem 35 11) (m_13 35 12)
          have hcb2 : -1 ≤ v_17 ∧ v_17 ≤ 255 := by rw [hv]; unfold chr; split; (have := hPT.2.2 _ (by omega : 0 ≤ skp (mem 39) (mem 35 11) (m_13 35 12)) (by omega); omega); omega
          have hvq2 : (bnd (termP (mem 39) (mem 35 11) u (skp (mem 39) (mem 35 11) rr.2.1 + 1)) (fun a' c' => okP a' (rr.2.2 ++ c' ++ [chr (mem 39) (mem 35 11) (skp (mem 39) (mem 35 11) rr.2.1)]))).1 = -1 → v_17 = chr (mem 39) (mem 35 11) (skp (mem 39) (mem 35 11) (bnd (termP (mem 39) (mem 35 11) u (skp (mem 39) (mem 35 11) rr.2.1 + 1)) (fun a' c' => okP a' (rr.2.2 ++ c' ++ [chr (mem 39) (mem 35 11) (skp (mem 39) (mem 35 11) rr.2.1)]))).2.1) := fun q => by rw [hv, (hS1.2.2.1 q).2.1] <;> rfl
          refine jblk hF [(.istore_n 1, 1)] (by decide +kernel) (pc' := 53) (lo' := [(1, (0, v_17)), (0, (2, 35))]) (st' := []) rfl ?_
          refine jgoto hF (off := (-44)) 9 (by decide +kernel) (by decide) ?_
          refine jsub [1, 0] rfl ?_
          refine ih_6 v_17 m_15 (bnd (termP (mem 39) (mem 35 11) u (skp (mem 39) (mem 35 11) rr.2.1 + 1)) (fun a' c' => okP a' (rr.2.2 ++ c' ++ [chr (mem 39) (mem 35 11) (skp (mem 39) (mem 35 11) rr.2.1)]))) (k - 1) ?_ ?_ ?_ ?_ ?_ ?_
          · exact hR_m_15
          · exact hL2
          · exact hj2
          · exact hvq2
          · omega
          · omega
        · refine jblk hF [(.iload_n 1, 1), (.bipush 45, 2)] (by decide +kernel) (pc' := 26) (lo' := [(0, (2, 35)), (1, (0, ch))]) (st' := [(0, 45), (0, ch)]) rfl ?_
          refine jicmp_ne hF (off := 30) 56 (by decide +kernel) (by decide) (by omega) (by decide) (fun h_18 => ?_) (fun h_18 => ?_)
          · refine jvret hF hr (by decide +kernel) ?_
            exact lMV ⟨hR_m3, by first | exact hps.erI (show rr.1 ≠ -1 by omega) (hj.fail (by omega)) | (have hrr : rr.1 = -1 := (by omega); rw [← hj.stop hrr (by rw [← hch hrr]; exact fun q => absurd (of_decide_eq_true q) (by omega))]; exact hps)⟩
          · have hrr : rr.1 = -1 := by omega
            have hcq := hch hrr
            obtain ⟨hk1, hlt, hj2⟩ := hj.next isAdd_op (termP_gd _ _ u) pa0 hrr (by rw [← hcq]; exact decide_eq_true (by omega))
            have hgl := (hj.1.1 hrr).1
            have hsk1 := (skp_f (mem 39) (mem 35 11) rr.2.1).1
            have hV := (hps.okI hrr).adv hlt
            refine jblk hF [(.aload_n 0, 1), (.dup, 1)] (by decide +kernel) (pc' := 31) (lo' := [(0, (2, 35)), (1, (0, ch))]) (st' := [(2, 35), (2, 35)]) rfl ?_
            refine jget hF 13 12 0 12 rfl (by decide) (by decide) rfl wd_1475 (by decide +kernel) (by exact hS.k35) ?_
            refine jblk hF [(.iconst 1, 1), (.iadd, 1)] (by decide +kernel) (pc' := 36) (lo' := [(0, (2, 35)), (1, (0, ch))]) (st' := [(0, (m3 35 12) + 1), (2, 35)]) rfl ?_
            refine jput hF 13 12 0 12 rfl (by decide) (by decide) rfl wd_1475 (by decide +kernel) rfl (Or.inl rfl) (by exact hS.k35) (fun h => by cases h) ?_
            obtain ⟨o39, o11⟩ := hV.txt
            have o12 : (set2 m3 35 12 ((m3 35 12) + 1)) 35 12 = skp (mem 39) (mem 35 11) rr.2.1 + 1 := (hV.2.2.1 rfl).2.1
            have hPT3 := hV.ptx hPT
            have hPC3 : PC (set2 m3 35 12 ((m3 35 12) + 1)) u := hV.pc rfl hPC (by omega) (by omega) (by omega)
            refine jblk hF [(.aload_n 0, 1)] (by decide +kernel) (pc' := 40) (lo' := [(0, (2, 35)), (1, (0, ch))]) (st' := [(2, 35)]) rfl ?_
            refine jcallV hF (hcal _ (SR.s hR_m3 (Or.inr (by decide))) (by assumption) (by assumption)) MW_X12_term 13 (by decide) (by exact hS.k35) wd_1848 wd_1850 wd_p59 (by decide +kernel) [] rfl rfl (rmI (by omega) (by decide)) (Nat.le_of_ble_eq_true rfl) ⟨Nat.le_of_ble_eq_true rfl, Nat.le_of_ble_eq_true rfl⟩ (kMV (fun m_19 h_20 => ?_))
            obtain ⟨hR_m_19, h_20⟩ := h_20
            have hC := hV.call rfl h_20
            rw [o39, o11, o12] at hC
            have hgd2 := termP_gd (mem 39) (mem 35 11) u (skp (mem 39) (mem 35 11) rr.2.1 + 1) (by omega) (by omega)
            have hCb := hC.bds hPT hPC (by omega) (by omega) (fun q => by rw [app_er] at q ⊢; exact hgd2.b200 (by omega) (by omega) q)
            refine jblk hF [(.aload_n 0, 1), (.iload_n 1, 1)] (by decide +kernel) (pc' := 45) (lo' := [(0, (2, 35)), (1, (0, ch))]) (st' := [(0, ch), (2, 35)]) rfl ?_
            refine jcallV hF (c_X12_say hG hS hR_m_19 ch (by omega)) MW_X12_say 13 (by decide) (by exact hS.k35) wd_1840 wd_1842 wd_p57 (by decide +kernel) [] rfl rfl (rmI (by omega) (by decide)) (Nat.le_of_ble_eq_true rfl) ⟨Nat.le_of_ble_eq_true rfl, Nat.le_of_ble_eq_true rfl⟩ (kMV (fun m_21 h_22 => ?_))
            obtain ⟨hR_m_21, h_22⟩ := h_22
            have hS1 := (hC.weak (d' := 0 + 1) (Int.le_refl _) (by omega)).say ch
            rw [← h_22, app_say, hcq] at hS1
            have g12 : m_21 35 12 = m_19 35 12 := by rw [h_22, s2_k (by decide), s2_a (by decide)]
            obtain ⟨p39, p11⟩ := hS1.txt
            have hPT4 := hS1.ptx hPT
            refine jblk hF [(.aload_n 0, 1)] (by decide +kernel) (pc' := 49) (lo' := [(0, (2, 35)), (1, (0, ch))]) (st' := [(2, 35)]) rfl ?_
            refine jcallV hF (c_X12_look hG hS hR_m_21 (by first | exact hPT | assumption) (by omega)) MW_X12_look 13 (by decide) (by exact hS.k35) wd_1829 wd_1831 wd_p55 (by decide +kernel) [] rfl rfl (rmI (by omega) (by decide)) (Nat.le_of_ble_eq_true rfl) ⟨Nat.le_of_ble_eq_true rfl, Nat.le_of_ble_eq_true rfl⟩ (kMR (fun v_25 m_23 h_24 => ?_))
            obtain ⟨hR_m_23, h_24⟩ := h_24
            obtain ⟨hv, hl⟩ := h_24
            have hL2 := hS1.look (by omega) hl
            rw [p39, p11] at hv
            have hsk2 := skp_f (mem 39) (mem 35 11) (m_21 35 12)
            have hcb2 : -1 ≤ v_25 ∧ v_25 ≤ 255 := by rw [hv]; unfold chr; split; (have := hPT.2.2 _ (by omega : 0 ≤ skp (mem 39) (mem 35 11) (m_21 35 12)) (by omega); omega); omega
            have hvq2 : (bnd (termP (mem 39) (mem 35 11) u (skp (mem 39) (mem 35 11) rr.2.1 + 1)) (fun a' c' => okP a' (rr.2.2 ++ c' ++ [chr (mem 39) (mem 35 11) (skp (mem 39) (mem 35 11) rr.2.1)]))).1 = -1 → v_25 = chr (mem 39) (mem 35 11) (skp (mem 39) (mem 35 11) (bnd (termP (mem 39) (mem 35 11) u (skp (mem 39) (mem 35 11) rr.2.1 + 1)) (fun a' c' => okP a' (rr.2.2 ++ c' ++ [chr (mem 39) (mem 35 11) (skp (mem 39) (mem 35 11) rr.2.1)]))).2.1) := fun q => by rw [hv, (hS1.2.2.1 q).2.1] <;> rfl
            refine jblk hF [(.istore_n 1, 1)] (by decide +kernel) (pc' := 53) (lo' := [(1, (0, v_25)), (0, (2, 35))]) (st' := []) rfl ?_
            refine jgoto hF (off := (-44)) 9 (by decide +kernel) (by decide) ?_
            refine jsub [1, 0] rfl ?_
            refine ih_6 v_25 m_23 (bnd (termP (mem 39) (mem 35 11) u (skp (mem 39) (mem 35 11) rr.2.1 + 1)) (fun a' c' => okP a' (rr.2.2 ++ c' ++ [chr (mem 39) (mem 35 11) (skp (mem 39) (mem 35 11) rr.2.1)]))) (k - 1) ?_ ?_ ?_ ?_ ?_ ?_
            · exact hR_m_23
            · exact hL2
            · exact hj2
            · exact hvq2
            · omega
            · omega
  refine jsub [1, 0] rfl ?_
  refine L_7 _ v_5 m_3 (termP (mem 39) (mem 35 11) u (mem 35 12)) 200 ?_ ?_ ?_ ?_ ?_ (Nat.lt_succ_self _)
  · exact hR_m_3
  · exact hL
  · rw [sumP_eq]; exact OPJ.start hgd (by omega) pa0
  · exact hvq
  · omega
theorem c_X12_sumA {l : Launch} {g : GP} (hG : GH g) {kd : Int → Nat} {ln : Int → Int} {sz : Nat} (hS : SK kd ln) : ∀ (u : Nat) (mem : Int → Int → Int), SR mem → PTX mem → PC mem u → MT l g yX12_sum cX12_sum 2 none (3 * u + 4) 0 0 [(2, 35)] kd ln mem sz (pMV (fun mem' => SR mem' ∧ (PS mem mem' u 0 0 (sumP (mem 39) (mem 35 11) u (mem 35 12)))) kd ln sz) := by
  intro u
  induction u with
  | zero => exact fun mem hR hP hC => c_X12_sumO hG hS hR 0 hP hC (fun m2 hR2 hP2 hC2 => c_X12_termO hG hS hR2 0 hP2 hC2 (fun m3 hR3 hP3 hC3 => c_X12_atomO hG hS hR3 0 hP3 hC3 (fun v m4 e => by omega)))
  | succ u ih => exact fun mem hR hP hC => c_X12_sumO hG hS hR (u + 1) hP hC (fun m2 hR2 hP2 hC2 => c_X12_termO hG hS hR2 (u + 1) hP2 hC2 (fun m3 hR3 hP3 hC3 => c_X12_atomO hG hS hR3 (u + 1) hP3 hC3 (fun v m4 e => by
      have : v = u := by omega
      subst this
      exact ih m4)))
end
