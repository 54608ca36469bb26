section
def p1P (T : Int → Int) (L : Int) (u : Nat) (r0 : PR) : PR := bnd (bnd r0 (cmpP T L u)) (opL T L isAnd (unitP T L u) 200)
def c1P (T : Int → Int) (L : Int) (u : Nat) (r0 : PR) : PR := bnd (p1P T L u r0) (opL T L isOr (partP T L u) 200)
theorem cm_gd {T : Int → Int} {L a0 : Int} {u : Nat} {r0 : PR} (h0 : 0 ≤ a0) (h : GD T L a0 r0) : GD T L a0 (bnd r0 (cmpP T L u)) := GD.bnd h0 (Int.le_refl _) h (fun a c h' => cmpP_gd h0 h')
theorem p1_gd {T : Int → Int} {L a0 : Int} {u : Nat} {r0 : PR} (h0 : 0 ≤ a0) (h : GD T L a0 r0) : GD T L a0 (p1P T L u r0) := GD.bnd h0 (Int.le_refl _) (cm_gd h0 h) (fun a c h' => opL_gd isAnd_op (unitP_gd T L u) h0 200 a c h')
theorem cond_c1 {T : Int → Int} {L a : Int} {u : Nat} (hs : skp T L a = a) (h1 : chr T L a ≠ 33) (h2 : chr T L a ≠ 40) : condP T L u a = c1P T L u (sumP T L u a) := by
  rw [condP_eq]
  unfold opW c1P p1P
  show bnd (partP T L u a) _ = _
  unfold partP opW
  rw [show unitP T L u a = bnd (sumP T L u a) (cmpP T L u) by rw [unitP_eq]; unfold unitW; rw [hs, if_neg h1, if_neg h2]]
set_option maxHeartbeats 4000000 in
set_option maxRecDepth 100000 in
theorem c_X12_compare {l : Launch} {g : GP} (hG : GH g) {kd : Int → Nat} {ln : Int → Int} {mem : Int → Int → Int} {sz : Nat} (hS : SK kd ln) (hR : SR mem) (u : Nat) (mem0 : Int → Int → Int) (r0 : PR) (hPT0 : PTX mem0) (hPC0 : PC mem0 u) (hps0 : PS mem0 mem u 0 0 r0) (hg0 : GD (mem0 39) (mem0 35 11) (mem0 35 12) r0) : MT l g yX12_compare cX12_compare 2 none (3 * u + 5) 0 0 [(2, 35)] kd ln mem sz (pMV (fun mem' => SR mem' ∧ (PS mem0 mem' u 0 0 (bnd r0 (cmpP (mem0 39) (mem0 35 11) u)))) kd ln sz) := by
  refine MT_of hG (by decide +kernel) (Nat.le_of_ble_eq_true rfl) (fun z hF hr hn => ?_)
  obtain ⟨pw, pa0, paL, pd, ps0, ps1, pu0, pu6⟩ := id hPC0
  have hPT1 := hPT0.2.1
  have hPT := hps0.ptx hPT0
  have w13 := hps0.w13
  have hbs := hps0.bds hPT0 hPC0 (by omega) (by omega) (hg0.b200 pa0 (by omega))
  obtain ⟨b39, b11⟩ := hps0.txt
  refine jblk hF [(.aload_n 0, 1)] (by decide +kernel) (pc' := 1) (lo' := [(0, (2, 35))]) (st' := [(2, 35)]) rfl ?_
  refine jget hF 13 13 0 13 rfl (by decide) (by decide) rfl wd_1476 (by decide +kernel) (by exact hS.k35) ?_
  refine jblk hF [(.iconst (-1), 1)] (by decide +kernel) (pc' := 5) (lo' := [(0, (2, 35))]) (st' := [(0, (-1)), (0, mem 35 13)]) rfl ?_
  refine jicmp_ne hF (off := 10) 15 (by decide +kernel) (by decide) (by omega) (by decide) (fun h_1 => ?_) (fun h_1 => ?_)
  · refine jblk hF [(.iconst (-1), 1), (.istore_n 1, 1), (.iload_n 1, 1)] (by decide +kernel) (pc' := 18) (lo' := [(1, (0, (-1))), (0, (2, 35))]) (st' := [(0, (-1))]) rfl ?_
    refine jcallS hF (c_X12_isSign hG (-1) (by decide)) MW_X12_isSign wd_1871 wd_1872 (by decide +kernel) [] rfl rfl (rmI (by omega) (by decide)) (Nat.le_of_ble_eq_true rfl) ⟨Nat.le_of_ble_eq_true rfl, Nat.le_of_ble_eq_true rfl⟩ (kB (fun h_2 => absurd h_2 (by omega)) (fun h_2 => ?_))
    refine jif_ne hF (off := 8) 29 (by decide +kernel) (by decide) (by decide) (fun h => absurd h (by decide)) (fun _ => ?_)
    refine jblk hF [(.aload_n 0, 1)] (by decide +kernel) (pc' := 25) (lo' := [(1, (0, (-1))), (0, (2, 35))]) (st' := [(2, 35)]) rfl ?_
    refine jcallV hF (c_X12_bad hG hS hR (by omega)) MW_X12_bad 13 (by decide) (by exact hS.k35) wd_1836 wd_1838 wd_p56 (by decide +kernel) [] rfl rfl (rmI (by omega) (by decide)) (Nat.le_of_ble_eq_true rfl) ⟨Nat.le_of_ble_eq_true rfl, Nat.le_of_ble_eq_true rfl⟩ (kMV (fun m_4 h_5 => ?_))
    obtain ⟨hR_m_4, h_5⟩ := h_5
    have hbb := h_5
    refine jvret hF hr (by decide +kernel) ?_
    exact lMV ⟨hR_m_4, by first | (rw [hbb.2 (by omega), bnd_no (by omega)]; exact hps0.er (by omega) rfl) | (rw [hbb.1 (by omega), bnd_is hrr]; unfold cmpP; rw [← hv, if_neg (by assumption)]; exact hL.bad (by omega) (by omega))⟩
  · refine jblk hF [(.aload_n 0, 1)] (by decide +kernel) (pc' := 9) (lo' := [(0, (2, 35))]) (st' := [(2, 35)]) rfl ?_
    refine jcallV hF (c_X12_look hG hS hR (by first | exact hPT | assumption) (by omega)) MW_X12_look 13 (by decide) (by exact hS.k35) wd_1829 wd_1831 wd_p55 (by decide +kernel) [] rfl rfl (rmI (by omega) (by decide)) (Nat.le_of_ble_eq_true rfl) ⟨Nat.le_of_ble_eq_true rfl, Nat.le_of_ble_eq_true rfl⟩ (kMR (fun v_8 m_6 h_7 => ?_))
    obtain ⟨hR_m_6, h_7⟩ := h_7
    obtain ⟨hv, hl⟩ := h_7
    have hrr : r0.1 = -1 := by omega
    have l13 := hl.1 35 13 (by decide)
    have hL := (hps0.look (by omega) hl).okI hrr
    rw [b39, b11, (hps0.2.2.1 hrr).2.1] at hv
    have hsk := skp_f (mem0 39) (mem0 35 11) r0.2.1
    have hgl := (hg0.1 hrr).1
    have hgL := (hg0.1 hrr).2.1
    have hskL := hsk.2.1 hgL
    have hcb : -1 ≤ v_8 ∧ v_8 ≤ 255 := by rw [hv]; unfold chr; split; (have := hPT0.2.2 _ (by omega : 0 ≤ skp (mem0 39) (mem0 35 11) r0.2.1) (by omega); omega); omega
    have hb2 := hL.bds hPT0 hPC0 (by omega) (by omega) (fun q => absurd rfl q)
    refine jgoto hF (off := 4) 16 (by decide +kernel) (by decide) ?_
    refine jblk hF [(.istore_n 1, 1), (.iload_n 1, 1)] (by decide +kernel) (pc' := 18) (lo' := [(1, (0, v_8)), (0, (2, 35))]) (st' := [(0, v_8)]) rfl ?_
    refine jcallS hF (c_X12_isSign hG v_8 (by omega)) MW_X12_isSign wd_1871 wd_1872 (by decide +kernel) [] rfl rfl (rmI (by omega) (by decide)) (Nat.le_of_ble_eq_true rfl) ⟨Nat.le_of_ble_eq_true rfl, Nat.le_of_ble_eq_true rfl⟩ (kB (fun h_9 => ?_) (fun h_9 => ?_))
    · refine jif_ne hF (off := 8) 29 (by decide +kernel) (by decide) (by decide) (fun _ => ?_) (fun h => absurd h (by decide))
      have hV := hL.adv (chr_lt (mem0 39) (by omega))
      refine jblk hF [(.aload_n 0, 1), (.dup, 1)] (by decide +kernel) (pc' := 31) (lo' := [(1, (0, v_8)), (0, (2, 35))]) (st' := [(2, 35), (2, 35)]) rfl ?_
      refine jget hF 13 12 0 12 rfl (by decide) (by decide) rfl wd_1475 (by decide +kernel) (by exact hS.k35) ?_
      refine jblk hF [(.iconst 1, 1), (.iadd, 1)] (by decide +kernel) (pc' := 36) (lo' := [(1, (0, v_8)), (0, (2, 35))]) (st' := [(0, (m_6 35 12) + 1), (2, 35)]) rfl ?_
      refine jput hF 13 12 0 12 rfl (by decide) (by decide) rfl wd_1475 (by decide +kernel) rfl (Or.inl rfl) (by exact hS.k35) (fun h => by cases h) ?_
      obtain ⟨o39, o11⟩ := hV.txt
      have o12 : (set2 m_6 35 12 ((m_6 35 12) + 1)) 35 12 = skp (mem0 39) (mem0 35 11) r0.2.1 + 1 := (hV.2.2.1 rfl).2.1
      refine jblk hF [(.aload_n 0, 1)] (by decide +kernel) (pc' := 40) (lo' := [(1, (0, v_8)), (0, (2, 35))]) (st' := [(2, 35)]) rfl ?_
      refine jcallV hF (c_X12_sumA hG hS u _ (SR.s hR_m_6 (Or.inr (by decide))) (by exact hV.ptx hPT0) (by exact hV.pc rfl hPC0 (by omega) (by omega) (by omega))) MW_X12_sum 13 (by decide) (by exact hS.k35) wd_1844 wd_1846 wd_p58 (by decide +kernel) [] rfl rfl (rmI (by omega) (by decide)) (Nat.le_of_ble_eq_true rfl) ⟨Nat.le_of_ble_eq_true rfl, Nat.le_of_ble_eq_true rfl⟩ (kMV (fun m_11 h_12 => ?_))
      obtain ⟨hR_m_11, h_12⟩ := h_12
      have hC := hV.call rfl h_12
      rw [o39, o11, o12] at hC
      have hgd2 := sumP_gd (mem0 39) (mem0 35 11) u (skp (mem0 39) (mem0 35 11) r0.2.1 + 1) (by omega) (by have := chr_lt (L := (mem0 35 11)) (a := skp (mem0 39) (mem0 35 11) r0.2.1) (mem0 39) (by omega); omega)
      have hCb := hC.bds hPT0 hPC0 (by omega) (by omega) (fun q => by rw [app_er] at q ⊢; exact hgd2.b200 (by omega) (by omega) q)
      refine jblk hF [(.aload_n 0, 1), (.iload_n 1, 1)] (by decide +kernel) (pc' := 45) (lo' := [(1, (0, v_8)), (0, (2, 35))]) (st' := [(0, v_8), (2, 35)]) rfl ?_
      refine jcallV hF (c_X12_say hG hS hR_m_11 v_8 (by omega)) MW_X12_say 13 (by decide) (by exact hS.k35) wd_1840 wd_1842 wd_p57 (by decide +kernel) [] rfl rfl (rmI (by omega) (by decide)) (Nat.le_of_ble_eq_true rfl) ⟨Nat.le_of_ble_eq_true rfl, Nat.le_of_ble_eq_true rfl⟩ (kMV (fun m_13 h_14 => ?_))
      obtain ⟨hR_m_13, h_14⟩ := h_14
      have hS1 := (hC.weak (d' := 0 + 1) (Int.le_refl _) (by omega)).say v_8
      rw [← h_14, app_say] at hS1
      refine jvret hF hr (by decide +kernel) ?_
      exact lMV ⟨hR_m_13, by (rw [bnd_is hrr]; unfold cmpP; rw [← hv, if_pos (by assumption)]; exact hS1.weak (by omega) (by omega))⟩
    · refine jif_ne hF (off := 8) 29 (by decide +kernel) (by decide) (by decide) (fun h => absurd h (by decide)) (fun _ => ?_)
      refine jblk hF [(.aload_n 0, 1)] (by decide +kernel) (pc' := 25) (lo' := [(1, (0, v_8)), (0, (2, 35))]) (st' := [(2, 35)]) rfl ?_
      refine jcallV hF (c_X12_bad hG hS hR_m_6 (by omega)) MW_X12_bad 13 (by decide) (by exact hS.k35) wd_1836 wd_1838 wd_p56 (by decide +kernel) [] rfl rfl (rmI (by omega) (by decide)) (Nat.le_of_ble_eq_true rfl) ⟨Nat.le_of_ble_eq_true rfl, Nat.le_of_ble_eq_true rfl⟩ (kMV (fun m_16 h_17 => ?_))
      obtain ⟨hR_m_16, h_17⟩ := h_17
      have hbb := h_17
      refine jvret hF hr (by decide +kernel) ?_
      exact lMV ⟨hR_m_16, by first | (rw [hbb.2 (by omega), bnd_no (by omega)]; exact hps0.er (by omega) rfl) | (rw [hbb.1 (by omega), bnd_is hrr]; unfold cmpP; rw [← hv, if_neg (by assumption)]; exact hL.bad (by omega) (by omega))⟩
set_option maxHeartbeats 4000000 in
set_option maxRecDepth 100000 in
theorem c_X12_unitO {l : Launch} {g : GP} (hG : GH g) {kd : Int → Nat} {ln : Int → Int} {mem : Int → Int → Int} {sz : Nat} (hS : SK kd ln) (hR : SR mem) (u : Nat) (hPT : PTX mem) (hPC : PC mem u) (hun : ∀ (v : Nat) (mem : Int → Int → Int), u = v + 1 → SR mem → PTX mem → PC mem v → MT l g yX12_unit cX12_unit 2 none (3 * v + 6) 0 0 [(2, 35)] kd ln mem sz (pMV (fun mem' => SR mem' ∧ (PS mem mem' v 0 0 (unitP (mem 39) (mem 35 11) v (mem 35 12)))) kd ln sz)) (hco : ∀ (v : Nat) (mem : Int → Int → Int), u = v + 1 → SR mem → PTX mem → PC mem v → MT l g yX12_condition cX12_condition 2 none (3 * v + 8) 0 0 [(2, 35), (0, 0)] kd ln mem sz (pMV (fun mem' => SR mem' ∧ (PS mem mem' v 0 0 (condP (mem 39) (mem 35 11) v (mem 35 12)))) kd ln sz)) : MT l g yX12_unit cX12_unit 2 none (3 * u + 6) 0 0 [(2, 35)] kd ln mem sz (pMV (fun mem' => SR mem' ∧ (PS mem mem' u 0 0 (unitP (mem 39) (mem 35 11) u (mem 35 12)))) kd ln sz) := by
  refine MT_of hG (by decide +kernel) (Nat.le_of_ble_eq_true rfl) (fun z hF hr hn => ?_)
  obtain ⟨pw, pa0, paL, pd, ps0, ps1, pu0, pu6⟩ := id hPC
  have hPT1 := hPT.2.1
  refine jblk hF [(.aload_n 0, 1)] (by decide +kernel) (pc' := 1) (lo' := [(0, (2, 35))]) (st' := [(2, 35)]) rfl ?_
  refine jcallV hF (c_X12_look hG hS hR (by first | exact hPT | assumption) (by omega)) MW_X12_look 13 (by decide) (by exact hS.k35) wd_1829 wd_1831 wd_p55 (by decide +kernel) [] rfl rfl (rmI (by omega) (by decide)) (Nat.le_of_ble_eq_true rfl) ⟨Nat.le_of_ble_eq_true rfl, Nat.le_of_ble_eq_true rfl⟩ (kMR (fun v_3 m_1 h_2 => ?_))
  obtain ⟨hR_m_1, h_2⟩ := h_2
  obtain ⟨hv, hl⟩ := h_2
  have hA := (PS.rf (u := 0) hPC).look (by omega) hl
  rw [bnd_ok] at hA
  have hsk := skp_f (mem 39) (mem 35 11) (mem 35 12)
  have hskL := hsk.2.1 paL
  have l13 := hl.1 35 13 (by decide)
  have l14 := hl.1 35 14 (by decide)
  have l15 := hl.1 35 15 (by decide)
  have l12 := hl.2
  have hcb : -1 ≤ v_3 ∧ v_3 ≤ 255 := by rw [hv]; unfold chr; split; (have := hPT.2.2 _ (by omega : 0 ≤ skp (mem 39) (mem 35 11) (mem 35 12)) (by omega); omega); omega
  have hat : unitP (mem 39) (mem 35 11) u (mem 35 12) = unitW (mem 39) (mem 35 11) u (inuP (mem 39) (mem 35 11) u) (incP (mem 39) (mem 35 11) u) (mem 35 12) := by rw [unitP_eq]
  refine jblk hF [(.istore_n 1, 1), (.iload_n 1, 1), (.bipush 33, 2)] (by decide +kernel) (pc' := 8) (lo' := [(1, (0, v_3)), (0, (2, 35))]) (st' := [(0, 33), (0, v_3)]) rfl ?_
  refine jicmp_ne hF (off := 33) 41 (by decide +kernel) (by decide) (by omega) (by decide) (fun h_4 => ?_) (fun h_4 => ?_)
  · refine jblk hF [(.iload_n 1, 1), (.bipush 40, 2)] (by decide +kernel) (pc' := 44) (lo' := [(1, (0, v_3)), (0, (2, 35))]) (st' := [(0, 40), (0, v_3)]) rfl ?_
    refine jicmp_ne hF (off := 24) 68 (by decide +kernel) (by decide) (by omega) (by decide) (fun h_5 => ?_) (fun h_5 => ?_)
    · refine jblk hF [(.aload_n 0, 1)] (by decide +kernel) (pc' := 69) (lo' := [(1, (0, v_3)), (0, (2, 35))]) (st' := [(2, 35)]) rfl ?_
      refine jcallV hF (c_X12_sumA hG hS u _ hR_m_1 (by exact hA.ptx hPT) (by exact hA.pc rfl hPC (by omega) (by omega) (by omega))) MW_X12_sum 13 (by decide) (by exact hS.k35) wd_1844 wd_1846 wd_p58 (by decide +kernel) [] rfl rfl (rmI (by omega) (by decide)) (Nat.le_of_ble_eq_true rfl) ⟨Nat.le_of_ble_eq_true rfl, Nat.le_of_ble_eq_true rfl⟩ (kMV (fun m_6 h_7 => ?_))
      obtain ⟨hR_m_6, h_7⟩ := h_7
      have hNm := hA.call rfl h_7
      obtain ⟨o39, o11⟩ := hA.txt
      rw [o39, o11, l12] at hNm
      have hNo := hNm.okp
      have hNg : GD (mem 39) (mem 35 11) (mem 35 12) (sumP (mem 39) (mem 35 11) u (skp (mem 39) (mem 35 11) (mem 35 12))) := (sumP_gd (mem 39) (mem 35 11) u _ (by omega) hskL).low pa0 hsk.1 (fun i q1 q2 => by rw [hsk.2.2.2 i q1 q2]; decide)
      refine jblk hF [(.aload_n 0, 1)] (by decide +kernel) (pc' := 73) (lo' := [(1, (0, v_3)), (0, (2, 35))]) (st' := [(2, 35)]) rfl ?_
      refine jcallV hF (c_X12_compare hG hS hR_m_6 (by exact u) (by exact mem) (by exact sumP (mem 39) (mem 35 11) u (skp (mem 39) (mem 35 11) (mem 35 12))) (by assumption) (by assumption) (by exact hNo) (by exact hNg)) MW_X12_compare 13 (by decide) (by exact hS.k35) wd_1882 wd_1884 wd_p66 (by decide +kernel) [] rfl rfl (rmI (by omega) (by decide)) (Nat.le_of_ble_eq_true rfl) ⟨Nat.le_of_ble_eq_true rfl, Nat.le_of_ble_eq_true rfl⟩ (kMV (fun m_8 h_9 => ?_))
      obtain ⟨hR_m_8, h_9⟩ := h_9
      refine jvret hF hr (by decide +kernel) ?_
      exact lMV ⟨hR_m_8, by first
          | (rw [hat]; unfold unitW; rw [if_pos (by omega)]; cases u with
             | zero => exact absurd rfl hu
             | succ u => exact hS1.weak (by omega) (by omega))
          | (have hu : u = 0 := (by have := hop.1; by_cases q : u = 0; exact q; exact (this.mpr (by omega)).elim); rw [hat]; unfold unitW; rw [if_pos (by omega), hu, hop.2.2 (by omega) (by omega)]; refine (hA.bad (by omega) (by omega)).er (show (skp (mem 39) (mem 35 11) (mem 35 12)) ≠ -1 by omega) ?_; rw [show inuP (mem 39) (mem 35 11) 0 ((skp (mem 39) (mem 35 11) (mem 35 12)) + 1) = erP (skp (mem 39) (mem 35 11) (mem 35 12)) from congrArg erP (by omega), bnd_er (by omega)])
          | (rw [hat]; unfold unitW; rw [if_neg (by omega), if_pos (by omega)]; cases u with
             | zero => exact absurd rfl hu
             | succ u => exact hC.weak (by omega) (by omega))
          | (have hu : u = 0 := (by have := hop.1; by_cases q : u = 0; exact q; exact (this.mpr (by omega)).elim); rw [hat]; unfold unitW; rw [if_neg (by omega), if_pos (by omega), hu, hop.2.2 (by omega) (by omega)]; refine (hA.bad (by omega) (by omega)).er (show (skp (mem 39) (mem 35 11) (mem 35 12)) ≠ -1 by omega) ?_; rw [show incP (mem 39) (mem 35 11) 0 ((skp (mem 39) (mem 35 11) (mem 35 12)) + 1) = erP (skp (mem 39) (mem 35 11) (mem 35 12)) from congrArg erP (by omega), bnd_er (by omega)])
          | (rw [hat]; unfold unitW; rw [if_neg (by omega), if_neg (by omega)]; assumption)⟩
    · refine jblk hF [(.aload_n 0, 1)] (by decide +kernel) (pc' := 48) (lo' := [(1, (0, v_3)), (0, (2, 35))]) (st' := [(2, 35)]) rfl ?_
      refine jcallV hF (c_X12_opens hG hS hR_m_1 (by omega) (by omega)) MW_X12_opens 13 (by decide) (by exact hS.k35) wd_1856 wd_1858 wd_p61 (by decide +kernel) [] rfl rfl (rmI (by omega) (by decide)) (Nat.le_of_ble_eq_true rfl) ⟨Nat.le_of_ble_eq_true rfl, Nat.le_of_ble_eq_true rfl⟩ (kMB (fun m_10 h_11 => ?_) (fun m_10 h_11 => ?_))
      · obtain ⟨hR_m_10, h_11⟩ := h_11
        have hop := h_11
        refine jif_eq hF (off := 25) 76 (by decide +kernel) (by decide) (by decide) (fun h => absurd h (by decide)) (fun _ => ?_)
        have hu : u ≠ 0 := fun q => by have := hop.1.mp trivial; omega
        have hO := (hA.opn (u := 0) (chr_lt (mem 39) (by omega)))
        rw [← hop.2.1 (hop.1.mp trivial)] at hO
        have hOc : PC m_10 ((u - 1 : Nat) : Int) := hO.pc rfl hPC (by omega) (by omega) (by omega)
        obtain ⟨o39, o11⟩ := hO.txt
        have o12 : m_10 35 12 = skp (mem 39) (mem 35 11) (mem 35 12) + 1 := (hO.2.2.1 rfl).2.1
        refine jblk hF [(.aload_n 0, 1), (.iconst 0, 1)] (by decide +kernel) (pc' := 56) (lo' := [(1, (0, v_3)), (0, (2, 35))]) (st' := [(0, 0), (2, 35)]) rfl ?_
        refine jcallV hF (hco (u - 1) _ (by omega) hR_m_10 (by exact hO.ptx hPT) (by exact hOc)) MW_X12_condition 13 (by decide) (by exact hS.k35) wd_1874 wd_1876 wd_p64 (by decide +kernel) [] rfl rfl (rmI (by omega) (by decide)) (Nat.le_of_ble_eq_true rfl) ⟨Nat.le_of_ble_eq_true rfl, Nat.le_of_ble_eq_true rfl⟩ (kMV (fun m_13 h_14 => ?_))
        obtain ⟨hR_m_13, h_14⟩ := h_14
        have hSm := hO.call rfl h_14
        rw [o39, o11, o12] at hSm
        have hSo := hSm.okp
        have hgd := (condP_gd (mem 39) (mem 35 11) (u - 1) (skp (mem 39) (mem 35 11) (mem 35 12) + 1) (by omega) (by have := chr_lt (L := mem 35 11) (a := skp (mem 39) (mem 35 11) (mem 35 12)) (mem 39) (by omega); omega))
        have hSb := hSo.bds hPT hPC (by omega) (by omega) (hgd.b200 (by omega) (by omega))
        have hSp : m_13 35 13 = -1 → PC m_13 ((u - 1 : Nat) : Int) := fun q => hSo.pc (by rw [← hSo.w13]; exact q) hPC (by omega) (by omega) (by omega)
        refine jblk hF [(.aload_n 0, 1), (.bipush 41, 2)] (by decide +kernel) (pc' := 62) (lo' := [(1, (0, v_3)), (0, (2, 35))]) (st' := [(0, 41), (2, 35)]) rfl ?_
        refine jcallV hF (c_X12_closes hG hS hR_m_13 41 (by exact ((u - 1 : Nat) : Int)) (by decide) (by exact hSo.ptx hPT) (by omega) (by omega) (by exact hSp)) MW_X12_closes 13 (by decide) (by exact hS.k35) wd_1860 wd_1862 wd_p62 (by decide +kernel) [] rfl rfl (rmI (by omega) (by decide)) (Nat.le_of_ble_eq_true rfl) ⟨Nat.le_of_ble_eq_true rfl, Nat.le_of_ble_eq_true rfl⟩ (kMV (fun m_15 h_16 => ?_))
        obtain ⟨hR_m_15, h_16⟩ := h_16
        have hC := hSo.cls (ch := 41) pa0 (by omega) (by omega) (fun q => h_16.1 q) (fun q => h_16.2 q)
        refine jgoto hF (off := 11) 76 (by decide +kernel) (by decide) ?_
        refine jvret hF hr (by decide +kernel) ?_
        exact lMV ⟨hR_m_15, by first
            | (rw [hat]; unfold unitW; rw [if_pos (by omega)]; cases u with
               | zero => exact absurd rfl hu
               | succ u => exact hS1.weak (by omega) (by omega))
            | (have hu : u = 0 := (by have := hop.1; by_cases q : u = 0; exact q; exact (this.mpr (by omega)).elim); rw [hat]; unfold unitW; rw [if_pos (by omega), hu, hop.2.2 (by omega) (by omega)]; refine (hA.bad (by omega) (by omega)).er (show (skp (mem 39) (mem 35 11) (mem 35 12)) ≠ -1 by omega) ?_; rw [show inuP (mem 39) (mem 35 11) 0 ((skp (mem 39) (mem 35 11) (mem 35 12)) + 1) = erP (skp (mem 39) (mem 35 11) (mem 35 12)) from congrArg erP (by omega), bnd_er (by omega)])
            | (rw [hat]; unfold unitW; rw [if_neg (by omega), if_pos (by omega)]; cases u with
               | zero => exact absurd rfl hu
               | succ u => exact hC.weak (by omega) (by omega))
            | (have hu : u = 0 := (by have := hop.1; by_cases q : u = 0; exact q; exact (this.mpr (by omega)).elim); rw [hat]; unfold unitW; rw [if_neg (by omega), if_pos (by omega), hu, hop.2.2 (by omega) (by omega)]; refine (hA.bad (by omega) (by omega)).er (show (skp (mem 39) (mem 35 11) (mem 35 12)) ≠ -1 by omega) ?_; rw [show incP (mem 39) (mem 35 11) 0 ((skp (mem 39) (mem 35 11) (mem 35 12)) + 1) = erP (skp (mem 39) (mem 35 11) (mem 35 12)) from congrArg erP (by omega), bnd_er (by omega)])
            | (rw [hat]; unfold unitW; rw [if_neg (by omega), if_neg (by omega)]; assumption)⟩
      · obtain ⟨hR_m_10, h_11⟩ := h_11
        have hop := h_11
        refine jif_eq hF (off := 25) 76 (by decide +kernel) (by decide) (by decide) (fun _ => ?_) (fun h => absurd h (by decide))
        refine jvret hF hr (by decide +kernel) ?_
        exact lMV ⟨hR_m_10, by first
            | (rw [hat]; unfold unitW; rw [if_pos (by omega)]; cases u with
               | zero => exact absurd rfl hu
               | succ u => exact hS1.weak (by omega) (by omega))
            | (have hu : u = 0 := (by have := hop.1; by_cases q : u = 0; exact q; exact (this.mpr (by omega)).elim); rw [hat]; unfold unitW; rw [if_pos (by omega), hu, hop.2.2 (by omega) (by omega)]; refine (hA.bad (by omega) (by omega)).er (show (skp (mem 39) (mem 35 11) (mem 35 12)) ≠ -1 by omega) ?_; rw [show inuP (mem 39) (mem 35 11) 0 ((skp (mem 39) (mem 35 11) (mem 35 12)) + 1) = erP (skp (mem 39) (mem 35 11) (mem 35 12)) from congrArg erP (by omega), bnd_er (by omega)])
            | (rw [hat]; unfold unitW; rw [if_neg (by omega), if_pos (by omega)]; cases u with
               | zero => exact absurd rfl hu
               | succ u => exact hC.weak (by omega) (by omega))
            | (have hu : u = 0 := (by have := hop.1; by_cases q : u = 0; exact q; exact (this.mpr (by omega)).elim); rw [hat]; unfold unitW; rw [if_neg (by omega), if_pos (by omega), hu, hop.2.2 (by omega) (by omega)]; refine (hA.bad (by omega) (by omega)).er (show (skp (mem 39) (mem 35 11) (mem 35 12)) ≠ -1 by omega) ?_; rw [show incP (mem 39) (mem 35 11) 0 ((skp (mem 39) (mem 35 11) (mem 35 12)) + 1) = erP (skp (mem 39) (mem 35 11) (mem 35 12)) from congrArg erP (by omega), bnd_er (by omega)])
            | (rw [hat]; unfold unitW; rw [if_neg (by omega), if_neg (by omega)]; assumption)⟩
  · refine jblk hF [(.aload_n 0, 1)] (by decide +kernel) (pc' := 12) (lo' := [(1, (0, v_3)), (0, (2, 35))]) (st' := [(2, 35)]) rfl ?_
    refine jcallV hF (c_X12_opens hG hS hR_m_1 (by omega) (by omega)) MW_X12_opens 13 (by decide) (by exact hS.k35) wd_1856 wd_1858 wd_p61 (by decide +kernel) [] rfl rfl (rmI (by omega) (by decide)) (Nat.le_of_ble_eq_true rfl) ⟨Nat.le_of_ble_eq_true rfl, Nat.le_of_ble_eq_true rfl⟩ (kMB (fun m_18 h_19 => ?_) (fun m_18 h_19 => ?_))
    · obtain ⟨hR_m_18, h_19⟩ := h_19
      have hop := h_19
      refine jif_eq hF (off := 61) 76 (by decide +kernel) (by decide) (by decide) (fun h => absurd h (by decide)) (fun _ => ?_)
      have hu : u ≠ 0 := fun q => by have := hop.1.mp trivial; omega
      have hO := (hA.opn (u := 0) (chr_lt (mem 39) (by omega)))
      rw [← hop.2.1 (hop.1.mp trivial)] at hO
      have hOc : PC m_18 ((u - 1 : Nat) : Int) := hO.pc rfl hPC (by omega) (by omega) (by omega)
      obtain ⟨o39, o11⟩ := hO.txt
      have o12 : m_18 35 12 = skp (mem 39) (mem 35 11) (mem 35 12) + 1 := (hO.2.2.1 rfl).2.1
      refine jblk hF [(.aload_n 0, 1)] (by decide +kernel) (pc' := 19) (lo' := [(1, (0, v_3)), (0, (2, 35))]) (st' := [(2, 35)]) rfl ?_
      refine jcallV hF (hun (u - 1) _ (by omega) hR_m_18 (by exact hO.ptx hPT) (by exact hOc)) MW_X12_unit 13 (by decide) (by exact hS.k35) wd_1886 wd_1888 wd_p67 (by decide +kernel) [] rfl rfl (rmI (by omega) (by decide)) (Nat.le_of_ble_eq_true rfl) ⟨Nat.le_of_ble_eq_true rfl, Nat.le_of_ble_eq_true rfl⟩ (kMV (fun m_21 h_22 => ?_))
      obtain ⟨hR_m_21, h_22⟩ := h_22
      have hSm := hO.call rfl h_22
      rw [o39, o11, o12] at hSm
      have hSo := hSm.okp
      have hgd := (unitP_gd (mem 39) (mem 35 11) (u - 1) (skp (mem 39) (mem 35 11) (mem 35 12) + 1) (by omega) (by have := chr_lt (L := mem 35 11) (a := skp (mem 39) (mem 35 11) (mem 35 12)) (mem 39) (by omega); omega))
      have hSb := hSo.bds hPT hPC (by omega) (by omega) (hgd.b200 (by omega) (by omega))
      refine jblk hF [(.aload_n 0, 1), (.dup, 1)] (by decide +kernel) (pc' := 24) (lo' := [(1, (0, v_3)), (0, (2, 35))]) (st' := [(2, 35), (2, 35)]) rfl ?_
      refine jget hF 13 14 0 14 rfl (by decide) (by decide) rfl wd_1477 (by decide +kernel) (by exact hS.k35) ?_
      refine jblk hF [(.iconst 1, 1), (.isub, 1)] (by decide +kernel) (pc' := 29) (lo' := [(1, (0, v_3)), (0, (2, 35))]) (st' := [(0, (m_21 35 14) - 1), (2, 35)]) rfl ?_
      refine jput hF 13 14 0 14 rfl (by decide) (by decide) rfl wd_1477 (by decide +kernel) rfl (Or.inl rfl) (by exact hS.k35) (fun h => by cases h) ?_
      have hD := hSo.deepS
      have g15d : (set2 m_21 35 14 ((m_21 35 14) - 1)) 35 15 = _ := s2_k (by decide)
      refine jblk hF [(.aload_n 0, 1), (.bipush 33, 2)] (by decide +kernel) (pc' := 35) (lo' := [(1, (0, v_3)), (0, (2, 35))]) (st' := [(0, 33), (2, 35)]) rfl ?_
      refine jcallV hF (c_X12_say hG hS (SR.s hR_m_21 (Or.inr (by decide))) 33 (by omega)) MW_X12_say 13 (by decide) (by exact hS.k35) wd_1840 wd_1842 wd_p57 (by decide +kernel) [] rfl rfl (rmI (by omega) (by decide)) (Nat.le_of_ble_eq_true rfl) ⟨Nat.le_of_ble_eq_true rfl, Nat.le_of_ble_eq_true rfl⟩ (kMV (fun m_23 h_24 => ?_))
      obtain ⟨hR_m_23, h_24⟩ := h_24
      have hS1 := (hD.weak (u' := u) (d' := 0 + 1) (by omega) (by omega)).say 33
      rw [← h_24] at hS1
      refine jgoto hF (off := 38) 76 (by decide +kernel) (by decide) ?_
      refine jvret hF hr (by decide +kernel) ?_
      exact lMV ⟨hR_m_23, by first
          | (rw [hat]; unfold unitW; rw [if_pos (by omega)]; cases u with
             | zero => exact absurd rfl hu
             | succ u => exact hS1.weak (by omega) (by omega))
          | (have hu : u = 0 := (by have := hop.1; by_cases q : u = 0; exact q; exact (this.mpr (by omega)).elim); rw [hat]; unfold unitW; rw [if_pos (by omega), hu, hop.2.2 (by omega) (by omega)]; refine (hA.bad (by omega) (by omega)).er (show (skp (mem 39) (mem 35 11) (mem 35 12)) ≠ -1 by omega) ?_; rw [show inuP (mem 39) (mem 35 11) 0 ((skp (mem 39) (mem 35 11) (mem 35 12)) + 1) = erP (skp (mem 39) (mem 35 11) (mem 35 12)) from congrArg erP (by omega), bnd_er (by omega)])
          | (rw [hat]; unfold unitW; rw [if_neg (by omega), if_pos (by omega)]; cases u with
             | zero => exact absurd rfl hu
             | succ u => exact hC.weak (by omega) (by omega))
          | (have hu : u = 0 := (by have := hop.1; by_cases q : u = 0; exact q; exact (this.mpr (by omega)).elim); rw [hat]; unfold unitW; rw [if_neg (by omega), if_pos (by omega), hu, hop.2.2 (by omega) (by omega)]; refine (hA.bad (by omega) (by omega)).er (show (skp (mem 39) (mem 35 11) (mem 35 12)) ≠ -1 by omega) ?_; rw [show incP (mem 39) (mem 35 11) 0 ((skp (mem 39) (mem 35 11) (mem 35 12)) + 1) = erP (skp (mem 39) (mem 35 11) (mem 35 12)) from congrArg erP (by omega), bnd_er (by omega)])
          | (rw [hat]; unfold unitW; rw [if_neg (by omega), if_neg (by omega)]; assumption)⟩
    · obtain ⟨hR_m_18, h_19⟩ := h_19
      have hop := h_19
      refine jif_eq hF (off := 61) 76 (by decide +kernel) (by decide) (by decide) (fun _ => ?_) (fun h => absurd h (by decide))
      refine jvret hF hr (by decide +kernel) ?_
      exact lMV ⟨hR_m_18, by first
          | (rw [hat]; unfold unitW; rw [if_pos (by omega)]; cases u with
             | zero => exact absurd rfl hu
             | succ u => exact hS1.weak (by omega) (by omega))
          | (have hu : u = 0 := (by have := hop.1; by_cases q : u = 0; exact q; exact (this.mpr (by omega)).elim); rw [hat]; unfold unitW; rw [if_pos (by omega), hu, hop.2.2 (by omega) (by omega)]; refine (hA.bad (by omega) (by omega)).er (show (skp (mem 39) (mem 35 11) (mem 35 12)) ≠ -1 by omega) ?_; rw [show inuP (mem 39) (mem 35 11) 0 ((skp (mem 39) (mem 35 11) (mem 35 12)) + 1) = erP (skp (mem 39) (mem 35 11) (mem 35 12)) from congrArg erP (by omega), bnd_er (by omega)])
          | (rw [hat]; unfold unitW; rw [if_neg (by omega), if_pos (by omega)]; cases u with
             | zero => exact absurd rfl hu
             | succ u => exact hC.weak (by omega) (by omega))
          | (have hu : u = 0 := (by have := hop.1; by_cases q : u = 0; exact q; exact (this.mpr (by omega)).elim); rw [hat]; unfold unitW; rw [if_neg (by omega), if_pos (by omega), hu, hop.2.2 (by omega) (by omega)]; refine (hA.bad (by omega) (by omega)).er (show (skp (mem 39) (mem 35 11) (mem 35 12)) ≠ -1 by omega) ?_; rw [show incP (mem 39) (mem 35 11) 0 ((skp (mem 39) (mem 35 11) (mem 35 12)) + 1) = erP (skp (mem 39) (mem 35 11) (mem 35 12)) from congrArg erP (by omega), bnd_er (by omega)])
          | (rw [hat]; unfold unitW; rw [if_neg (by omega), if_neg (by omega)]; assumption)⟩
set_option maxHeartbeats 4000000 in
set_option maxRecDepth 100000 in
theorem c_X12_part0 {l : Launch} {g : GP} (hG : GH g) {kd : Int → Nat} {ln : Int → Int} {mem : Int → Int → Int} {sz : Nat} (hS : SK kd ln) (hR : SR mem) (h : Int) (hh : h = 0) (u : Nat) (hPT : PTX mem) (hPC : PC mem u) (hun : ∀ (mem : Int → Int → Int), SR mem → PTX mem → PC mem u → MT l g yX12_unit cX12_unit 2 none (3 * u + 6) 0 0 [(2, 35)] kd ln mem sz (pMV (fun mem' => SR mem' ∧ (PS mem mem' u 0 0 (unitP (mem 39) (mem 35 11) u (mem 35 12)))) kd ln sz)) : MT l g yX12_part cX12_part 2 none (3 * u + 7) 0 0 [(2, 35), (0, h)] kd ln mem sz (pMV (fun mem' => SR mem' ∧ (PS mem mem' u 0 0 (partP (mem 39) (mem 35 11) u (mem 35 12)))) kd ln sz) := by
  refine MT_of hG (by decide +kernel) (Nat.le_of_ble_eq_true rfl) (fun z hF hr hn => ?_)
  obtain ⟨pw, pa0, paL, pd, ps0, ps1, pu0, pu6⟩ := id hPC
  have hPT1 := hPT.2.1
  refine jblk hF [(.iload_n 1, 1)] (by decide +kernel) (pc' := 1) (lo' := [(0, (2, 35)), (1, (0, h))]) (st' := [(0, h)]) rfl ?_
  refine jif_eq hF (off := 10) 11 (by decide +kernel) (by decide) (by omega) (fun h_1 => ?_) (fun h_1 => ?_)
  · refine jblk hF [(.aload_n 0, 1)] (by decide +kernel) (pc' := 12) (lo' := [(0, (2, 35)), (1, (0, h))]) (st' := [(2, 35)]) rfl ?_
    refine jcallV hF (hun _ hR (by assumption) (by assumption)) MW_X12_unit 13 (by decide) (by exact hS.k35) wd_1886 wd_1888 wd_p67 (by decide +kernel) [] rfl rfl (rmI (by omega) (by decide)) (Nat.le_of_ble_eq_true rfl) ⟨Nat.le_of_ble_eq_true rfl, Nat.le_of_ble_eq_true rfl⟩ (kMV (fun m_2 h_3 => ?_))
    obtain ⟨hR_m_2, h_3⟩ := h_3
    have hA := h_3
    have L_5 : ∀ (fu_6 : Nat)  (m3 : Int → Int → Int) (rr : PR) (k : Nat), (SR m3) → (PS mem m3 u 0 0 rr) → (OPJ (mem 39) (mem 35 11) isAnd (unitP (mem 39) (mem 35 11) u) (mem 35 12) (partP (mem 39) (mem 35 11) u (mem 35 12)) k rr) →  k < fu_6 → J z g 2 0 0 (QM z g 0 0 (pMV (fun mem' => SR mem' ∧ (PS mem mem' u 0 0 (partP (mem 39) (mem 35 11) u (mem 35 12)))) kd ln sz)) 15 [(0, (2, 35))] [] kd ln m3 sz := by
      intro fu_6
      induction fu_6 with
      | zero => intro m3 rr k _ _ _ hm; omega
      | succ fu_6 ih_4 =>
        intro m3 rr k hR_m3 hps hj hm
        have h13 := hps.w13
        have hb3 := hps.bds hPT hPC (by omega) (by omega) (hj.1.b200 pa0 (by omega))
        have hPTm := hps.ptx hPT
        obtain ⟨q39, q11⟩ := hps.txt
        refine jblk hF [(.aload_n 0, 1)] (by decide +kernel) (pc' := 16) (lo' := [(0, (2, 35))]) (st' := [(2, 35)]) rfl ?_
        refine jget hF 13 13 0 13 rfl (by decide) (by decide) rfl wd_1476 (by decide +kernel) (by exact hS.k35) ?_
        refine jblk hF [(.iconst (-1), 1)] (by decide +kernel) (pc' := 20) (lo' := [(0, (2, 35))]) (st' := [(0, (-1)), (0, m3 35 13)]) rfl ?_
        refine jicmp_ne hF (off := 35) 55 (by decide +kernel) (by decide) (by omega) (by decide) (fun h_7 => ?_) (fun h_7 => ?_)
        · refine jvret hF hr (by decide +kernel) ?_
          exact lMV ⟨hR_m3, by first | exact hps.er (show rr.1 ≠ -1 by omega) (hj.fail (by omega)) | (have hrr : rr.1 = -1 := (by omega); rw [← hj.stop hrr (by rw [← hv]; exact fun q => absurd (of_decide_eq_true q) (by omega))]; exact hL)⟩
        · refine jblk hF [(.aload_n 0, 1)] (by decide +kernel) (pc' := 24) (lo' := [(0, (2, 35))]) (st' := [(2, 35)]) rfl ?_
          refine jcallV hF (c_X12_look hG hS hR_m3 (by first | exact hPT | assumption) (by omega)) MW_X12_look 13 (by decide) (by exact hS.k35) wd_1829 wd_1831 wd_p55 (by decide +kernel) [] rfl rfl (rmI (by omega) (by decide)) (Nat.le_of_ble_eq_true rfl) ⟨Nat.le_of_ble_eq_true rfl, Nat.le_of_ble_eq_true rfl⟩ (kMR (fun v_10 m_8 h_9 => ?_))
          obtain ⟨hR_m_8, h_9⟩ := h_9
          obtain ⟨hv, hl⟩ := h_9
          have hrr : rr.1 = -1 := by omega
          have hL := hps.look (by omega) hl
          rw [q39, q11, (hps.2.2.1 hrr).2.1] at hv
          have hsk1 := skp_f (mem 39) (mem 35 11) rr.2.1
          have hgl := (hj.1.1 hrr).1
          have hcb : -1 ≤ v_10 ∧ v_10 ≤ 255 := by rw [hv]; unfold chr; split; (have := hPT.2.2 _ (by omega : 0 ≤ skp (mem 39) (mem 35 11) rr.2.1) (by omega); omega); omega
          refine jblk hF [(.bipush 38, 2)] (by decide +kernel) (pc' := 29) (lo' := [(0, (2, 35))]) (st' := [(0, 38), (0, v_10)]) rfl ?_
          refine jicmp_ne hF (off := 26) 55 (by decide +kernel) (by decide) (by omega) (by decide) (fun h_11 => ?_) (fun h_11 => ?_)
          · refine jvret hF hr (by decide +kernel) ?_
            exact lMV ⟨hR_m_8, by first | exact hps.er (show rr.1 ≠ -1 by omega) (hj.fail (by omega)) | (have hrr : rr.1 = -1 := (by omega); rw [← hj.stop hrr (by rw [← hv]; exact fun q => absurd (of_decide_eq_true q) (by omega))]; exact hL)⟩
          · obtain ⟨hk1, hlt, hj2⟩ := hj.next isAnd_op (unitP_gd _ _ u) pa0 hrr (by rw [← hv]; exact decide_eq_true (by omega))
            have hV := (hL.okI hrr).adv hlt
            refine jblk hF [(.aload_n 0, 1), (.dup, 1)] (by decide +kernel) (pc' := 34) (lo' := [(0, (2, 35))]) (st' := [(2, 35), (2, 35)]) rfl ?_
            refine jget hF 13 12 0 12 rfl (by decide) (by decide) rfl wd_1475 (by decide +kernel) (by exact hS.k35) ?_
            refine jblk hF [(.iconst 1, 1), (.iadd, 1)] (by decide +kernel) (pc' := 39) (lo' := [(0, (2, 35))]) (st' := [(0, (m_8 35 12) + 1), (2, 35)]) rfl ?_
            refine jput hF 13 12 0 12 rfl (by decide) (by decide) rfl wd_1475 (by decide +kernel) rfl (Or.inl rfl) (by exact hS.k35) (fun h => by cases h) ?_
            obtain ⟨o39, o11⟩ := hV.txt
            have o12 : (set2 m_8 35 12 ((m_8 35 12) + 1)) 35 12 = skp (mem 39) (mem 35 11) rr.2.1 + 1 := (hV.2.2.1 rfl).2.1
            have hPT3 := hV.ptx hPT
            have hPC3 : PC (set2 m_8 35 12 ((m_8 35 12) + 1)) u := hV.pc rfl hPC (by omega) (by omega) (by omega)
            refine jblk hF [(.aload_n 0, 1)] (by decide +kernel) (pc' := 43) (lo' := [(0, (2, 35))]) (st' := [(2, 35)]) rfl ?_
            refine jcallV hF (hun _ (SR.s hR_m_8 (Or.inr (by decide))) (by assumption) (by assumption)) MW_X12_unit 13 (by decide) (by exact hS.k35) wd_1886 wd_1888 wd_p67 (by decide +kernel) [] rfl rfl (rmI (by omega) (by decide)) (Nat.le_of_ble_eq_true rfl) ⟨Nat.le_of_ble_eq_true rfl, Nat.le_of_ble_eq_true rfl⟩ (kMV (fun m_12 h_13 => ?_))
            obtain ⟨hR_m_12, h_13⟩ := h_13
            have hC := hV.call rfl h_13
            rw [o39, o11, o12] at hC
            have hgd2 := unitP_gd (mem 39) (mem 35 11) u (skp (mem 39) (mem 35 11) rr.2.1 + 1) (by omega) (by omega)
            have hCb := hC.bds hPT hPC (by omega) (by omega) (fun q => by rw [app_er] at q ⊢; exact hgd2.b200 (by omega) (by omega) q)
            refine jblk hF [(.aload_n 0, 1), (.bipush 38, 2)] (by decide +kernel) (pc' := 49) (lo' := [(0, (2, 35))]) (st' := [(0, 38), (2, 35)]) rfl ?_
            refine jcallV hF (c_X12_say hG hS hR_m_12 38 (by omega)) MW_X12_say 13 (by decide) (by exact hS.k35) wd_1840 wd_1842 wd_p57 (by decide +kernel) [] rfl rfl (rmI (by omega) (by decide)) (Nat.le_of_ble_eq_true rfl) ⟨Nat.le_of_ble_eq_true rfl, Nat.le_of_ble_eq_true rfl⟩ (kMV (fun m_14 h_15 => ?_))
            obtain ⟨hR_m_14, h_15⟩ := h_15
            have hS1 := (hC.weak (d' := 0 + 1) (Int.le_refl _) (by omega)).say 38
            rw [← h_15, app_say, show (38 : Int) = chr (mem 39) (mem 35 11) (skp (mem 39) (mem 35 11) rr.2.1) by omega] at hS1
            refine jgoto hF (off := (-37)) 15 (by decide +kernel) (by decide) ?_
            refine jsub [0] rfl ?_
            refine ih_4 m_14 (bnd (unitP (mem 39) (mem 35 11) u (skp (mem 39) (mem 35 11) rr.2.1 + 1)) (fun a' c' => okP a' (rr.2.2 ++ c' ++ [chr (mem 39) (mem 35 11) (skp (mem 39) (mem 35 11) rr.2.1)]))) (k - 1) ?_ ?_ ?_ ?_
            · exact hR_m_14
            · exact hS1
            · exact hj2
            · omega
    refine jsub [0] rfl ?_
    refine L_5 _ m_2 (unitP (mem 39) (mem 35 11) u (mem 35 12)) 200 ?_ ?_ ?_ (Nat.lt_succ_self _)
    · exact hR_m_2
    · exact hA
    · exact OPJ.start (unitP_gd (mem 39) (mem 35 11) u (mem 35 12) pa0 paL) (by omega) pa0
  · exfalso; omega
set_option maxHeartbeats 4000000 in
set_option maxRecDepth 100000 in
theorem c_X12_part1 {l : Launch} {g : GP} (hG : GH g) {kd : Int → Nat} {ln : Int → Int} {mem : Int → Int → Int} {sz : Nat} (hS : SK kd ln) (hR : SR mem) (h : Int) (hh : h = 1) (u : Nat) (mem0 : Int → Int → Int) (r0 : PR) (hPT0 : PTX mem0) (hPC0 : PC mem0 u) (hps0 : PS mem0 mem u 0 0 r0) (hg0 : GD (mem0 39) (mem0 35 11) (mem0 35 12) r0) (hun : ∀ (mem : Int → Int → Int), SR mem → PTX mem → PC mem u → MT l g yX12_unit cX12_unit 2 none (3 * u + 6) 0 0 [(2, 35)] kd ln mem sz (pMV (fun mem' => SR mem' ∧ (PS mem mem' u 0 0 (unitP (mem 39) (mem 35 11) u (mem 35 12)))) kd ln sz)) : MT l g yX12_part cX12_part 2 none (3 * u + 7) 0 0 [(2, 35), (0, h)] kd ln mem sz (pMV (fun mem' => SR mem' ∧ (PS mem0 mem' u 0 0 (p1P (mem0 39) (mem0 35 11) u r0))) kd ln sz) := by
  refine MT_of hG (by decide +kernel) (Nat.le_of_ble_eq_true rfl) (fun z hF hr hn => ?_)
  obtain ⟨pw, pa0, paL, pd, ps0, ps1, pu0, pu6⟩ := id hPC0
  have hPT1 := hPT0.2.1
  have hPT := hps0.ptx hPT0
  have w13 := hps0.w13
  have hbs := hps0.bds hPT0 hPC0 (by omega) (by omega) (hg0.b200 pa0 (by omega))
  obtain ⟨b39, b11⟩ := hps0.txt
  refine jblk hF [(.iload_n 1, 1)] (by decide +kernel) (pc' := 1) (lo' := [(0, (2, 35)), (1, (0, h))]) (st' := [(0, h)]) rfl ?_
  refine jif_eq hF (off := 10) 11 (by decide +kernel) (by decide) (by omega) (fun h_1 => ?_) (fun h_1 => ?_)
  · exfalso; omega
  · refine jblk hF [(.aload_n 0, 1)] (by decide +kernel) (pc' := 5) (lo' := [(0, (2, 35)), (1, (0, h))]) (st' := [(2, 35)]) rfl ?_
    refine jcallV hF (c_X12_compare hG hS hR (by exact u) (by exact mem0) (by exact r0) (by assumption) (by assumption) (by assumption) (by assumption)) MW_X12_compare 13 (by decide) (by exact hS.k35) wd_1882 wd_1884 wd_p66 (by decide +kernel) [] rfl rfl (rmI (by omega) (by decide)) (Nat.le_of_ble_eq_true rfl) ⟨Nat.le_of_ble_eq_true rfl, Nat.le_of_ble_eq_true rfl⟩ (kMV (fun m_2 h_3 => ?_))
    obtain ⟨hR_m_2, h_3⟩ := h_3
    have hA := h_3
    refine jgoto hF (off := 7) 15 (by decide +kernel) (by decide) ?_
    have L_5 : ∀ (fu_6 : Nat)  (m3 : Int → Int → Int) (rr : PR) (k : Nat), (SR m3) → (PS mem0 m3 u 0 0 rr) → (OPJ (mem0 39) (mem0 35 11) isAnd (unitP (mem0 39) (mem0 35 11) u) (mem0 35 12) (p1P (mem0 39) (mem0 35 11) u r0) k rr) →  k < fu_6 → J z g 2 0 0 (QM z g 0 0 (pMV (fun mem' => SR mem' ∧ (PS mem0 mem' u 0 0 (p1P (mem0 39) (mem0 35 11) u r0))) kd ln sz)) 15 [(0, (2, 35))] [] kd ln m3 sz := by
      intro fu_6
      induction fu_6 with
      | zero => intro m3 rr k _ _ _ hm; omega
      | succ fu_6 ih_4 =>
        intro m3 rr k hR_m3 hps hj hm
        have h13 := hps.w13
        have hb3 := hps.bds hPT0 hPC0 (by omega) (by omega) (hj.1.b200 pa0 (by omega))
        have hPTm := hps.ptx hPT0
        obtain ⟨q39, q11⟩ := hps.txt
        refine jblk hF [(.aload_n 0, 1)] (by decide +kernel) (pc' := 16) (lo' := [(0, (2, 35))]) (st' := [(2, 35)]) rfl ?_
        refine jget hF 13 13 0 13 rfl (by decide) (by decide) rfl wd_1476 (by decide +kernel) (by exact hS.k35) ?_
        refine jblk hF [(.iconst (-1), 1)] (by decide +kernel) (pc' := 20) (lo' := [(0, (2, 35))]) (st' := [(0, (-1)), (0, m3 35 13)]) rfl ?_
        refine jicmp_ne hF (off := 35) 55 (by decide +kernel) (by decide) (by omega) (by decide) (fun h_7 => ?_) (fun h_7 => ?_)
        · refine jvret hF hr (by decide +kernel) ?_
          exact lMV ⟨hR_m3, by first | exact hps.er (show rr.1 ≠ -1 by omega) (hj.fail (by omega)) | (have hrr : rr.1 = -1 := (by omega); rw [← hj.stop hrr (by rw [← hv]; exact fun q => absurd (of_decide_eq_true q) (by omega))]; exact hL)⟩
        · refine jblk hF [(.aload_n 0, 1)] (by decide +kernel) (pc' := 24) (lo' := [(0, (2, 35))]) (st' := [(2, 35)]) rfl ?_
          refine jcallV hF (c_X12_look hG hS hR_m3 (by first | exact hPT | assumption) (by omega)) MW_X12_look 13 (by decide) (by exact hS.k35) wd_1829 wd_1831 wd_p55 (by decide +kernel) [] rfl rfl (rmI (by omega) (by decide)) (Nat.le_of_ble_eq_true rfl) ⟨Nat.le_of_ble_eq_true rfl, Nat.le_of_ble_eq_true rfl⟩ (kMR (fun v_10 m_8 h_9 => ?_))
          obtain ⟨hR_m_8, h_9⟩ := h_9
          obtain ⟨hv, hl⟩ := h_9
          have hrr : rr.1 = -1 := by omega
          have hL := hps.look (by omega) hl
          rw [q39, q11, (hps.2.2.1 hrr).2.1] at hv
          have hsk1 := skp_f (mem0 39) (mem0 35 11) rr.2.1
          have hgl := (hj.1.1 hrr).1
          have hcb : -1 ≤ v_10 ∧ v_10 ≤ 255 := by rw [hv]; unfold chr; split; (have := hPT0.2.2 _ (by omega : 0 ≤ skp (mem0 39) (mem0 35 11) rr.2.1) (by omega); omega); omega
          refine jblk hF [(.bipush 38, 2)] (by decide +kernel) (pc' := 29) (lo' := [(0, (2, 35))]) (st' := [(0, 38), (0, v_10)]) rfl ?_
          refine jicmp_ne hF (off := 26) 55 (by decide +kernel) (by decide) (by omega) (by decide) (fun h_11 => ?_) (fun h_11 => ?_)
          · refine jvret hF hr (by decide +kernel) ?_
            exact lMV ⟨hR_m_8, by first | exact hps.er (show rr.1 ≠ -1 by omega) (hj.fail (by omega)) | (have hrr : rr.1 = -1 := (by omega); rw [← hj.stop hrr (by rw [← hv]; exact fun q => absurd (of_decide_eq_true q) (by omega))]; exact hL)⟩
          · obtain ⟨hk1, hlt, hj2⟩ := hj.next isAnd_op (unitP_gd _ _ u) pa0 hrr (by rw [← hv]; exact decide_eq_true (by omega))
            have hV := (hL.okI hrr).adv hlt
            refine jblk hF [(.aload_n 0, 1), (.dup, 1)] (by decide +kernel) (pc' := 34) (lo' := [(0, (2, 35))]) (st' := [(2, 35), (2, 35)]) rfl ?_
            refine jget hF 13 12 0 12 rfl (by decide) (by decide) rfl wd_1475 (by decide +kernel) (by exact hS.k35) ?_
            refine jblk hF [(.iconst 1, 1), (.iadd, 1)] (by decide +kernel) (pc' := 39) (lo' := [(0, (2, 35))]) (st' := [(0, (m_8 35 12) + 1), (2, 35)]) rfl ?_
            refine jput hF 13 12 0 12 rfl (by decide) (by decide) rfl wd_1475 (by decide +kernel) rfl (Or.inl rfl) (by exact hS.k35) (fun h => by cases h) ?_
            obtain ⟨o39, o11⟩ := hV.txt
            have o12 : (set2 m_8 35 12 ((m_8 35 12) + 1)) 35 12 = skp (mem0 39) (mem0 35 11) rr.2.1 + 1 := (hV.2.2.1 rfl).2.1
            have hPT3 := hV.ptx hPT0
            have hPC3 : PC (set2 m_8 35 12 ((m_8 35 12) + 1)) u := hV.pc rfl hPC0 (by omega) (by omega) (by omega)
            refine jblk hF [(.aload_n 0, 1)] (by decide +kernel) (pc' := 43) (lo' := [(0, (2, 35))]) (st' := [(2, 35)]) rfl ?_
            refine jcallV hF (hun _ (SR.s hR_m_8 (Or.inr (by decide))) (by assumption) (by assumption)) MW_X12_unit 13 (by decide) (by exact hS.k35) wd_1886 wd_1888 wd_p67 (by decide +kernel) [] rfl rfl (rmI (by omega) (by decide)) (Nat.le_of_ble_eq_true rfl) ⟨Nat.le_of_ble_eq_true rfl, Nat.le_of_ble_eq_true rfl⟩ (kMV (fun m_12 h_13 => ?_))
            obtain ⟨hR_m_12, h_13⟩ := h_13
            have hC := hV.call rfl h_13
            rw [o39, o11, o12] at hC
            have hgd2 := unitP_gd (mem0 39) (mem0 35 11) u (skp (mem0 39) (mem0 35 11) rr.2.1 + 1) (by omega) (by omega)
            have hCb := hC.bds hPT0 hPC0 (by omega) (by omega) (fun q => by rw [app_er] at q ⊢; exact hgd2.b200 (by omega) (by omega) q)
            refine jblk hF [(.aload_n 0, 1), (.bipush 38, 2)] (by decide +kernel) (pc' := 49) (lo' := [(0, (2, 35))]) (st' := [(0, 38), (2, 35)]) rfl ?_
            refine jcallV hF (c_X12_say hG hS hR_m_12 38 (by omega)) MW_X12_say 13 (by decide) (by exact hS.k35) wd_1840 wd_1842 wd_p57 (by decide +kernel) [] rfl rfl (rmI (by omega) (by decide)) (Nat.le_of_ble_eq_true rfl) ⟨Nat.le_of_ble_eq_true rfl, Nat.le_of_ble_eq_true rfl⟩ (kMV (fun m_14 h_15 => ?_))
            obtain ⟨hR_m_14, h_15⟩ := h_15
            have hS1 := (hC.weak (d' := 0 + 1) (Int.le_refl _) (by omega)).say 38
            rw [← h_15, app_say, show (38 : Int) = chr (mem0 39) (mem0 35 11) (skp (mem0 39) (mem0 35 11) rr.2.1) by omega] at hS1
            refine jgoto hF (off := (-37)) 15 (by decide +kernel) (by decide) ?_
            refine jsub [0] rfl ?_
            refine ih_4 m_14 (bnd (unitP (mem0 39) (mem0 35 11) u (skp (mem0 39) (mem0 35 11) rr.2.1 + 1)) (fun a' c' => okP a' (rr.2.2 ++ c' ++ [chr (mem0 39) (mem0 35 11) (skp (mem0 39) (mem0 35 11) rr.2.1)]))) (k - 1) ?_ ?_ ?_ ?_
            · exact hR_m_14
            · exact hS1
            · exact hj2
            · omega
    refine jsub [0] rfl ?_
    refine L_5 _ m_2 (bnd r0 (cmpP (mem0 39) (mem0 35 11) u)) 200 ?_ ?_ ?_ (Nat.lt_succ_self _)
    · exact hR_m_2
    · exact hA
    · exact OPJ.start (cm_gd pa0 hg0) (by omega) pa0
set_option maxHeartbeats 4000000 in
set_option maxRecDepth 100000 in
theorem c_X12_cond0 {l : Launch} {g : GP} (hG : GH g) {kd : Int → Nat} {ln : Int → Int} {mem : Int → Int → Int} {sz : Nat} (hS : SK kd ln) (hR : SR mem) (h : Int) (hh : h = 0) (u : Nat) (hPT : PTX mem) (hPC : PC mem u) (hun : ∀ (mem : Int → Int → Int), SR mem → PTX mem → PC mem u → MT l g yX12_unit cX12_unit 2 none (3 * u + 6) 0 0 [(2, 35)] kd ln mem sz (pMV (fun mem' => SR mem' ∧ (PS mem mem' u 0 0 (unitP (mem 39) (mem 35 11) u (mem 35 12)))) kd ln sz)) : MT l g yX12_condition cX12_condition 2 none (3 * u + 8) 0 0 [(2, 35), (0, h)] kd ln mem sz (pMV (fun mem' => SR mem' ∧ (PS mem mem' u 0 0 (condP (mem 39) (mem 35 11) u (mem 35 12)))) kd ln sz) := by
  refine MT_of hG (by decide +kernel) (Nat.le_of_ble_eq_true rfl) (fun z hF hr hn => ?_)
  obtain ⟨pw, pa0, paL, pd, ps0, ps1, pu0, pu6⟩ := id hPC
  have hPT1 := hPT.2.1
  refine jblk hF [(.aload_n 0, 1), (.iload_n 1, 1)] (by decide +kernel) (pc' := 2) (lo' := [(0, (2, 35)), (1, (0, h))]) (st' := [(0, h), (2, 35)]) rfl ?_
  refine jcallV hF (c_X12_part0 hG hS hR h (by first | exact hh | rfl) (by exact u) (by assumption) (by assumption) (by exact hun)) MW_X12_part 13 (by decide) (by exact hS.k35) wd_1878 wd_1880 wd_p65 (by decide +kernel) [] rfl rfl (rmI (by omega) (by decide)) (Nat.le_of_ble_eq_true rfl) ⟨Nat.le_of_ble_eq_true rfl, Nat.le_of_ble_eq_true rfl⟩ (kMV (fun m_1 h_2 => ?_))
  obtain ⟨hR_m_1, h_2⟩ := h_2
  have hA := h_2
  have L_4 : ∀ (fu_5 : Nat)  (m3 : Int → Int → Int) (rr : PR) (k : Nat), (SR m3) → (PS mem m3 u 0 0 rr) → (OPJ (mem 39) (mem 35 11) isOr (partP (mem 39) (mem 35 11) u) (mem 35 12) (condP (mem 39) (mem 35 11) u (mem 35 12)) k rr) →  k < fu_5 → J z g 2 0 0 (QM z g 0 0 (pMV (fun mem' => SR mem' ∧ (PS mem mem' u 0 0 (condP (mem 39) (mem 35 11) u (mem 35 12)))) kd ln sz)) 5 [(0, (2, 35))] [] kd ln m3 sz := by
    intro fu_5
    induction fu_5 with
    | zero => intro m3 rr k _ _ _ hm; omega
    | succ fu_5 ih_3 =>
      intro m3 rr k hR_m3 hps hj hm
      have h13 := hps.w13
      have hb3 := hps.bds hPT hPC (by omega) (by omega) (hj.1.b200 pa0 (by omega))
      have hPTm := hps.ptx hPT
      obtain ⟨q39, q11⟩ := hps.txt
      refine jblk hF [(.aload_n 0, 1)] (by decide +kernel) (pc' := 6) (lo' := [(0, (2, 35))]) (st' := [(2, 35)]) rfl ?_
      refine jget hF 13 13 0 13 rfl (by decide) (by decide) rfl wd_1476 (by decide +kernel) (by exact hS.k35) ?_
      refine jblk hF [(.iconst (-1), 1)] (by decide +kernel) (pc' := 10) (lo' := [(0, (2, 35))]) (st' := [(0, (-1)), (0, m3 35 13)]) rfl ?_
      refine jicmp_ne hF (off := 36) 46 (by decide +kernel) (by decide) (by omega) (by decide) (fun h_6 => ?_) (fun h_6 => ?_)
      · refine jvret hF hr (by decide +kernel) ?_
        exact lMV ⟨hR_m3, by first | exact hps.er (show rr.1 ≠ -1 by omega) (hj.fail (by omega)) | (have hrr : rr.1 = -1 := (by omega); rw [← hj.stop hrr (by rw [← hv]; exact fun q => absurd (of_decide_eq_true q) (by omega))]; exact hL)⟩
      · refine jblk hF [(.aload_n 0, 1)] (by decide +kernel) (pc' := 14) (lo' := [(0, (2, 35))]) (st' := [(2, 35)]) rfl ?_
        refine jcallV hF (c_X12_look hG hS hR_m3 (by first | exact hPT | assumption) (by omega)) MW_X12_look 13 (by decide) (by exact hS.k35) wd_1829 wd_1831 wd_p55 (by decide +kernel) [] rfl rfl (rmI (by omega) (by decide)) (Nat.le_of_ble_eq_true rfl) ⟨Nat.le_of_ble_eq_true rfl, Nat.le_of_ble_eq_true rfl⟩ (kMR (fun v_9 m_7 h_8 => ?_))
        obtain ⟨hR_m_7, h_8⟩ := h_8
        obtain ⟨hv, hl⟩ := h_8
        have hrr : rr.1 = -1 := by omega
        have hL := hps.look (by omega) hl
        rw [q39, q11, (hps.2.2.1 hrr).2.1] at hv
        have hsk1 := skp_f (mem 39) (mem 35 11) rr.2.1
        have hgl := (hj.1.1 hrr).1
        have hcb : -1 ≤ v_9 ∧ v_9 ≤ 255 := by rw [hv]; unfold chr; split; (have := hPT.2.2 _ (by omega : 0 ≤ skp (mem 39) (mem 35 11) rr.2.1) (by omega); omega); omega
        refine jblk hF [(.bipush 124, 2)] (by decide +kernel) (pc' := 19) (lo' := [(0, (2, 35))]) (st' := [(0, 124), (0, v_9)]) rfl ?_
        refine jicmp_ne hF (off := 27) 46 (by decide +kernel) (by decide) (by omega) (by decide) (fun h_10 => ?_) (fun h_10 => ?_)
        · refine jvret hF hr (by decide +kernel) ?_
          exact lMV ⟨hR_m_7, by first | exact hps.er (show rr.1 ≠ -1 by omega) (hj.fail (by omega)) | (have hrr : rr.1 = -1 := (by omega); rw [← hj.stop hrr (by rw [← hv]; exact fun q => absurd (of_decide_eq_true q) (by omega))]; exact hL)⟩
        · obtain ⟨hk1, hlt, hj2⟩ := hj.next isOr_op (partP_gd _ _ u) pa0 hrr (by rw [← hv]; exact decide_eq_true (by omega))
          have hV := (hL.okI hrr).adv hlt
          refine jblk hF [(.aload_n 0, 1), (.dup, 1)] (by decide +kernel) (pc' := 24) (lo' := [(0, (2, 35))]) (st' := [(2, 35), (2, 35)]) rfl ?_
          refine jget hF 13 12 0 12 rfl (by decide) (by decide) rfl wd_1475 (by decide +kernel) (by exact hS.k35) ?_
          refine jblk hF [(.iconst 1, 1), (.iadd, 1)] (by decide +kernel) (pc' := 29) (lo' := [(0, (2, 35))]) (st' := [(0, (m_7 35 12) + 1), (2, 35)]) rfl ?_
          refine jput hF 13 12 0 12 rfl (by decide) (by decide) rfl wd_1475 (by decide +kernel) rfl (Or.inl rfl) (by exact hS.k35) (fun h => by cases h) ?_
          obtain ⟨o39, o11⟩ := hV.txt
          have o12 : (set2 m_7 35 12 ((m_7 35 12) + 1)) 35 12 = skp (mem 39) (mem 35 11) rr.2.1 + 1 := (hV.2.2.1 rfl).2.1
          have hPT3 := hV.ptx hPT
          have hPC3 : PC (set2 m_7 35 12 ((m_7 35 12) + 1)) u := hV.pc rfl hPC (by omega) (by omega) (by omega)
          refine jblk hF [(.aload_n 0, 1), (.iconst 0, 1)] (by decide +kernel) (pc' := 34) (lo' := [(0, (2, 35))]) (st' := [(0, 0), (2, 35)]) rfl ?_
          refine jcallV hF (c_X12_part0 hG hS (SR.s hR_m_7 (Or.inr (by decide))) 0 (by first | exact hh | rfl) (by exact u) (by assumption) (by assumption) (by exact hun)) MW_X12_part 13 (by decide) (by exact hS.k35) wd_1878 wd_1880 wd_p65 (by decide +kernel) [] rfl rfl (rmI (by omega) (by decide)) (Nat.le_of_ble_eq_true rfl) ⟨Nat.le_of_ble_eq_true rfl, Nat.le_of_ble_eq_true rfl⟩ (kMV (fun m_11 h_12 => ?_))
          obtain ⟨hR_m_11, h_12⟩ := h_12
          have hC := hV.call rfl h_12
          rw [o39, o11, o12] at hC
          have hgd2 := partP_gd (mem 39) (mem 35 11) u (skp (mem 39) (mem 35 11) rr.2.1 + 1) (by omega) (by omega)
          have hCb := hC.bds hPT hPC (by omega) (by omega) (fun q => by rw [app_er] at q ⊢; exact hgd2.b200 (by omega) (by omega) q)
          refine jblk hF [(.aload_n 0, 1), (.bipush 124, 2)] (by decide +kernel) (pc' := 40) (lo' := [(0, (2, 35))]) (st' := [(0, 124), (2, 35)]) rfl ?_
          refine jcallV hF (c_X12_say hG hS hR_m_11 124 (by omega)) MW_X12_say 13 (by decide) (by exact hS.k35) wd_1840 wd_1842 wd_p57 (by decide +kernel) [] rfl rfl (rmI (by omega) (by decide)) (Nat.le_of_ble_eq_true rfl) ⟨Nat.le_of_ble_eq_true rfl, Nat.le_of_ble_eq_true rfl⟩ (kMV (fun m_13 h_14 => ?_))
          obtain ⟨hR_m_13, h_14⟩ := h_14
          have hS1 := (hC.weak (d' := 0 + 1) (Int.le_refl _) (by omega)).say 124
          rw [← h_14, app_say, show (124 : Int) = chr (mem 39) (mem 35 11) (skp (mem 39) (mem 35 11) rr.2.1) by omega] at hS1
          refine jgoto hF (off := (-38)) 5 (by decide +kernel) (by decide) ?_
          refine jsub [0] rfl ?_
          refine ih_3 m_13 (bnd (partP (mem 39) (mem 35 11) u (skp (mem 39) (mem 35 11) rr.2.1 + 1)) (fun a' c' => okP a' (rr.2.2 ++ c' ++ [chr (mem 39) (mem 35 11) (skp (mem 39) (mem 35 11) rr.2.1)]))) (k - 1) ?_ ?_ ?_ ?_
          · exact hR_m_13
          · exact hS1
          · exact hj2
          · omega
  refine jsub [0] rfl ?_
  refine L_4 _ m_1 (partP (mem 39) (mem 35 11) u (mem 35 12)) 200 ?_ ?_ ?_ (Nat.lt_succ_self _)
  · exact hR_m_1
  · exact hA
  · rw [condP_eq]; exact OPJ.start (partP_gd (mem 39) (mem 35 11) u (mem 35 12) pa0 paL) (by omega) pa0
set_option maxHeartbeats 4000000 in
set_option maxRecDepth 100000 in
theorem c_X12_cond1 {l : Launch} {g : GP} (hG : GH g) {kd : Int → Nat} {ln : Int → Int} {mem : Int → Int → Int} {sz : Nat} (hS : SK kd ln) (hR : SR mem) (h : Int) (hh : h = 1) (u : Nat) (mem0 : Int → Int → Int) (r0 : PR) (hPT0 : PTX mem0) (hPC0 : PC mem0 u) (hps0 : PS mem0 mem u 0 0 r0) (hg0 : GD (mem0 39) (mem0 35 11) (mem0 35 12) r0) (hun : ∀ (mem : Int → Int → Int), SR mem → PTX mem → PC mem u → MT l g yX12_unit cX12_unit 2 none (3 * u + 6) 0 0 [(2, 35)] kd ln mem sz (pMV (fun mem' => SR mem' ∧ (PS mem mem' u 0 0 (unitP (mem 39) (mem 35 11) u (mem 35 12)))) kd ln sz)) : MT l g yX12_condition cX12_condition 2 none (3 * u + 8) 0 0 [(2, 35), (0, h)] kd ln mem sz (pMV (fun mem' => SR mem' ∧ (PS mem0 mem' u 0 0 (c1P (mem0 39) (mem0 35 11) u r0))) kd ln sz) := by
  refine MT_of hG (by decide +kernel) (Nat.le_of_ble_eq_true rfl) (fun z hF hr hn => ?_)
  obtain ⟨pw, pa0, paL, pd, ps0, ps1, pu0, pu6⟩ := id hPC0
  have hPT1 := hPT0.2.1
  have hPT := hps0.ptx hPT0
  have w13 := hps0.w13
  have hbs := hps0.bds hPT0 hPC0 (by omega) (by omega) (hg0.b200 pa0 (by omega))
  obtain ⟨b39, b11⟩ := hps0.txt
  refine jblk hF [(.aload_n 0, 1), (.iload_n 1, 1)] (by decide +kernel) (pc' := 2) (lo' := [(0, (2, 35)), (1, (0, h))]) (st' := [(0, h), (2, 35)]) rfl ?_
  refine jcallV hF (c_X12_part1 hG hS hR h (by first | exact hh | rfl) (by exact u) (by exact mem0) (by exact r0) (by assumption) (by assumption) (by assumption) (by assumption) (by exact hun)) MW_X12_part 13 (by decide) (by exact hS.k35) wd_1878 wd_1880 wd_p65 (by decide +kernel) [] rfl rfl (rmI (by omega) (by decide)) (Nat.le_of_ble_eq_true rfl) ⟨Nat.le_of_ble_eq_true rfl, Nat.le_of_ble_eq_true rfl⟩ (kMV (fun m_1 h_2 => ?_))
  obtain ⟨hR_m_1, h_2⟩ := h_2
  have hA := h_2
  have L_4 : ∀ (fu_5 : Nat)  (m3 : Int → Int → Int) (rr : PR) (k : Nat), (SR m3) → (PS mem0 m3 u 0 0 rr) → (OPJ (mem0 39) (mem0 35 11) isOr (partP (mem0 39) (mem0 35 11) u) (mem0 35 12) (c1P (mem0 39) (mem0 35 11) u r0) k rr) →  k < fu_5 → J z g 2 0 0 (QM z g 0 0 (pMV (fun mem' => SR mem' ∧ (PS mem0 mem' u 0 0 (c1P (mem0 39) (mem0 35 11) u r0))) kd ln sz)) 5 [(0, (2, 35))] [] kd ln m3 sz := by
    intro fu_5
    induction fu_5 with
    | zero => intro m3 rr k _ _ _ hm; omega
    | succ fu_5 ih_3 =>
      intro m3 rr k hR_m3 hps hj hm
      have h13 := hps.w13
      have hb3 := hps.bds hPT0 hPC0 (by omega) (by omega) (hj.1.b200 pa0 (by omega))
      have hPTm := hps.ptx hPT0
      obtain ⟨q39, q11⟩ := hps.txt
      refine jblk hF [(.aload_n 0, 1)] (by decide +kernel) (pc' := 6) (lo' := [(0, (2, 35))]) (st' := [(2, 35)]) rfl ?_
      refine jget hF 13 13 0 13 rfl (by decide) (by decide) rfl wd_1476 (by decide +kernel) (by exact hS.k35) ?_
      refine jblk hF [(.iconst (-1), 1)] (by decide +kernel) (pc' := 10) (lo' := [(0, (2, 35))]) (st' := [(0, (-1)), (0, m3 35 13)]) rfl ?_
      refine jicmp_ne hF (off := 36) 46 (by decide +kernel) (by decide) (by omega) (by decide) (fun h_6 => ?_) (fun h_6 => ?_)
      · refine jvret hF hr (by decide +kernel) ?_
        exact lMV ⟨hR_m3, by first | exact hps.er (show rr.1 ≠ -1 by omega) (hj.fail (by omega)) | (have hrr : rr.1 = -1 := (by omega); rw [← hj.stop hrr (by rw [← hv]; exact fun q => absurd (of_decide_eq_true q) (by omega))]; exact hL)⟩
      · refine jblk hF [(.aload_n 0, 1)] (by decide +kernel) (pc' := 14) (lo' := [(0, (2, 35))]) (st' := [(2, 35)]) rfl ?_
        refine jcallV hF (c_X12_look hG hS hR_m3 (by first | exact hPT | assumption) (by omega)) MW_X12_look 13 (by decide) (by exact hS.k35) wd_1829 wd_1831 wd_p55 (by decide +kernel) [] rfl rfl (rmI (by omega) (by decide)) (Nat.le_of_ble_eq_true rfl) ⟨Nat.le_of_ble_eq_true rfl, Nat.le_of_ble_eq_true rfl⟩ (kMR (fun v_9 m_7 h_8 => ?_))
        obtain ⟨hR_m_7, h_8⟩ := h_8
        obtain ⟨hv, hl⟩ := h_8
        have hrr : rr.1 = -1 := by omega
        have hL := hps.look (by omega) hl
        rw [q39, q11, (hps.2.2.1 hrr).2.1] at hv
        have hsk1 := skp_f (mem0 39) (mem0 35 11) rr.2.1
        have hgl := (hj.1.1 hrr).1
        have hcb : -1 ≤ v_9 ∧ v_9 ≤ 255 := by rw [hv]; unfold chr; split; (have := hPT0.2.2 _ (by omega : 0 ≤ skp (mem0 39) (mem0 35 11) rr.2.1) (by omega); omega); omega
        refine jblk hF [(.bipush 124, 2)] (by decide +kernel) (pc' := 19) (lo' := [(0, (2, 35))]) (st' := [(0, 124), (0, v_9)]) rfl ?_
        refine jicmp_ne hF (off := 27) 46 (by decide +kernel) (by decide) (by omega) (by decide) (fun h_10 => ?_) (fun h_10 => ?_)
        · refine jvret hF hr (by decide +kernel) ?_
          exact lMV ⟨hR_m_7, by first | exact hps.er (show rr.1 ≠ -1 by omega) (hj.fail (by omega)) | (have hrr : rr.1 = -1 := (by omega); rw [← hj.stop hrr (by rw [← hv]; exact fun q => absurd (of_decide_eq_true q) (by omega))]; exact hL)⟩
        · obtain ⟨hk1, hlt, hj2⟩ := hj.next isOr_op (partP_gd _ _ u) pa0 hrr (by rw [← hv]; exact decide_eq_true (by omega))
          have hV := (hL.okI hrr).adv hlt
          refine jblk hF [(.aload_n 0, 1), (.dup, 1)] (by decide +kernel) (pc' := 24) (lo' := [(0, (2, 35))]) (st' := [(2, 35), (2, 35)]) rfl ?_
          refine jget hF 13 12 0 12 rfl (by decide) (by decide) rfl wd_1475 (by decide +kernel) (by exact hS.k35) ?_
          refine jblk hF [(.iconst 1, 1), (.iadd, 1)] (by decide +kernel) (pc' := 29) (lo' := [(0, (2, 35))]) (st' := [(0, (m_7 35 12) + 1), (2, 35)]) rfl ?_
          refine jput hF 13 12 0 12 rfl (by decide) (by decide) rfl wd_1475 (by decide +kernel) rfl (Or.inl rfl) (by exact hS.k35) (fun h => by cases h) ?_
          obtain ⟨o39, o11⟩ := hV.txt
          have o12 : (set2 m_7 35 12 ((m_7 35 12) + 1)) 35 12 = skp (mem0 39) (mem0 35 11) rr.2.1 + 1 := (hV.2.2.1 rfl).2.1
          have hPT3 := hV.ptx hPT0
          have hPC3 : PC (set2 m_7 35 12 ((m_7 35 12) + 1)) u := hV.pc rfl hPC0 (by omega) (by omega) (by omega)
          refine jblk hF [(.aload_n 0, 1), (.iconst 0, 1)] (by decide +kernel) (pc' := 34) (lo' := [(0, (2, 35))]) (st' := [(0, 0), (2, 35)]) rfl ?_
          refine jcallV hF (c_X12_part0 hG hS (SR.s hR_m_7 (Or.inr (by decide))) 0 (by first | exact hh | rfl) (by exact u) (by assumption) (by assumption) (by exact hun)) MW_X12_part 13 (by decide) (by exact hS.k35) wd_1878 wd_1880 wd_p65 (by decide +kernel) [] rfl rfl (rmI (by omega) (by decide)) (Nat.le_of_ble_eq_true rfl) ⟨Nat.le_of_ble_eq_true rfl, Nat.le_of_ble_eq_true rfl⟩ (kMV (fun m_11 h_12 => ?_))
          obtain ⟨hR_m_11, h_12⟩ := h_12
          have hC := hV.call rfl h_12
          rw [o39, o11, o12] at hC
          have hgd2 := partP_gd (mem0 39) (mem0 35 11) u (skp (mem0 39) (mem0 35 11) rr.2.1 + 1) (by omega) (by omega)
          have hCb := hC.bds hPT0 hPC0 (by omega) (by omega) (fun q => by rw [app_er] at q ⊢; exact hgd2.b200 (by omega) (by omega) q)
          refine jblk hF [(.aload_n 0, 1), (.bipush 124, 2)] (by decide +kernel) (pc' := 40) (lo' := [(0, (2, 35))]) (st' := [(0, 124), (2, 35)]) rfl ?_
          refine jcallV hF (c_X12_say hG hS hR_m_11 124 (by omega)) MW_X12_say 13 (by decide) (by exact hS.k35) wd_1840 wd_1842 wd_p57 (by decide +kernel) [] rfl rfl (rmI (by omega) (by decide)) (Nat.le_of_ble_eq_true rfl) ⟨Nat.le_of_ble_eq_true rfl, Nat.le_of_ble_eq_true rfl⟩ (kMV (fun m_13 h_14 => ?_))
          obtain ⟨hR_m_13, h_14⟩ := h_14
          have hS1 := (hC.weak (d' := 0 + 1) (Int.le_refl _) (by omega)).say 124
          rw [← h_14, app_say, show (124 : Int) = chr (mem0 39) (mem0 35 11) (skp (mem0 39) (mem0 35 11) rr.2.1) by omega] at hS1
          refine jgoto hF (off := (-38)) 5 (by decide +kernel) (by decide) ?_
          refine jsub [0] rfl ?_
          refine ih_3 m_13 (bnd (partP (mem0 39) (mem0 35 11) u (skp (mem0 39) (mem0 35 11) rr.2.1 + 1)) (fun a' c' => okP a' (rr.2.2 ++ c' ++ [chr (mem0 39) (mem0 35 11) (skp (mem0 39) (mem0 35 11) rr.2.1)]))) (k - 1) ?_ ?_ ?_ ?_
          · exact hR_m_13
          · exact hS1
          · exact hj2
          · omega
  refine jsub [0] rfl ?_
  refine L_4 _ m_1 (p1P (mem0 39) (mem0 35 11) u r0) 200 ?_ ?_ ?_ (Nat.lt_succ_self _)
  · exact hR_m_1
  · exact hA
  · exact OPJ.start (p1_gd pa0 hg0) (by omega) pa0
theorem c_X12_unitA {l : Launch} {g : GP} (hG : GH g) {kd : Int → Nat} {ln : Int → Int} {sz : Nat} (hS : SK kd ln) : ∀ (u : Nat) (mem : Int → Int → Int), SR mem → PTX mem → PC mem u → MT l g yX12_unit cX12_unit 2 none (3 * u + 6) 0 0 [(2, 35)] kd ln mem sz (pMV (fun mem' => SR mem' ∧ (PS mem mem' u 0 0 (unitP (mem 39) (mem 35 11) u (mem 35 12)))) kd ln sz) := by
  intro u
  induction u with
  | zero => exact fun mem hR hP hC => c_X12_unitO hG hS hR 0 hP hC (fun v m4 e => by omega) (fun v m4 e => by omega)
  | succ u ih => exact fun mem hR hP hC => c_X12_unitO hG hS hR (u + 1) hP hC (fun v m4 e => by
      have : v = u := by omega
      subst this
      exact ih m4) (fun v m4 e hR4 hP4 hC4 => by
      have : v = u := by omega
      subst this
      exact c_X12_cond0 hG hS hR4 0 rfl v hP4 hC4 ih)
end
