section HELPS
set_option maxHeartbeats 4000000 in
set_option maxRecDepth 100000 in
theorem c_L_worth {l : Launch} {g : GP} (hG : GH g) (hl : l.stackTraces = false) (hTH : THW g) (hTN : TNS g) {kd : Int → Nat} {ln : Int → Int} {mem : Int → Int → Int} {sz : Nat} (hK : HK kd ln) (hR : HR mem) (t lab n b x : Int) (tg : Int → Int) (hI : INV kd ln mem sz tg) (h100 : kd 100 = 21 ∧ ln 100 = 1) (h_t : InI t) (h_lab : InI lab) (h_n : InI n) (h_b : InI b) (h_x : InI x) : MTW l g yL_worth cL_worth 8 (some .int) [(0, 16, 19, 13)] 29 1 6 [(2, 3), (0, t), (0, lab), (0, n), (0, b), (0, x), (2, 100)] kd ln mem sz (pXR 0 (fun v kd' ln' mem' sz' => (HR mem' ∧ kd' = kd ∧ ln' = ln ∧ sz ≤ sz') ∧ (((0 ≤ t ∧ t ≤ mem 35 16 - 1) ∧ isLb lab) → v = 0 ∧ ∃ m : Int → Int → Int, ((∀ b j : Int, b ≠ 7 → m b j = mem b j) ∧ EB m) ∧ mem' = set2 m 100 0 (worV (tTT mem t) (tLL mem t) (envF n b x) lab)) ∧ (¬ ((0 ≤ t ∧ t ≤ mem 35 16 - 1) ∧ isLb lab) → v = 1 ∧ SCF mem mem')) kd ln sz) := by
  refine MTW_of hG (by decide +kernel) (Nat.le_of_ble_eq_true rfl) (fun z hF hr hn hET => ?_)
  refine jblk hF [(.aload 6, 2), (.iconst 0, 1), (.aload_n 0, 1), (.iload_n 1, 1), (.iload_n 2, 1), (.iload_n 3, 1), (.iload 4, 2), (.iload 5, 2)] (by decide +kernel) (pc' := 11) (lo' := [(0, (2, 3)), (1, (0, t)), (2, (0, lab)), (3, (0, n)), (4, (0, b)), (5, (0, x)), (6, (2, 100))]) (st' := [(0, x), (0, b), (0, n), (0, lab), (0, t), (2, 3), (0, 0), (2, 100)]) rfl ?_
  by_cases hc : (0 ≤ t ∧ t ≤ mem 35 16 - 1) ∧ isLb lab
  · refine jcallV hF (c_X11_worth hG hK hR t lab n b x tg hI hc h_t h_lab h_n h_b h_x) MW_X11_worth 12 (by decide) hK.k3 wd_1337 wd_1338 wd_1339 (by decide +kernel) [(0, 0), (2, 100)] rfl rfl (by decide) (Nat.le_of_ble_eq_true rfl) ⟨Nat.le_of_ble_eq_true rfl, Nat.le_of_ble_eq_true rfl⟩ (kMR (fun v m h => ?_))
    obtain ⟨hR1, hv, hm⟩ := h
    refine ji2l hF (by decide +kernel) (by rw [hv]; exact worV_in (envF_in h_n h_b h_x) (hI.plsm.2.2 t hc.1.1 hc.1.2).1.1 (hI.plsm.2.2 t hc.1.1 hc.1.2).2.1) ?_
    refine jlast hF (by decide +kernel) (by decide) h100.1 (by decide) (by rw [h100.2]; decide) ?_
    refine jgoto hF (off := 7) 23 (by decide +kernel) (by decide) ?_
    refine jblk hF [(.iconst 0, 1)] (by decide +kernel) (pc' := 24) (lo' := [(0, (2, 3)), (1, (0, t)), (2, (0, lab)), (3, (0, n)), (4, (0, b)), (5, (0, x)), (6, (2, 100))]) (st' := [(0, 0)]) rfl ?_
    refine jwiden (k := 1) (n := 6) (Nat.le_of_ble_eq_true rfl) (Nat.le_of_ble_eq_true rfl) ?_
    refine jiret hF hr (by decide +kernel) ?_
    exact ⟨_, rfl, EXT.rf, ⟨HR.s hR1 (by omega), rfl, rfl, Nat.le_refl _⟩, fun _ => ⟨rfl, ⟨m, hm, by rw [hv]⟩⟩, fun u => absurd hc u⟩
  · refine jcallX hF (t_X11_worth hG hl hTH hK hR t lab n b x tg hI hc h_t h_lab h_n h_b h_x) MW_X11_worth 12 (by decide) hK.k3 wd_1337 wd_1338 wd_1339 (by decide +kernel) [(0, 0), (2, 100)] rfl rfl (by decide) (Nat.le_of_ble_eq_true rfl) ⟨Nat.le_of_ble_eq_true rfl, Nat.le_of_ble_eq_true rfl⟩ (fun _ _ _ _ _ u => u.elim) (fun kd1 ln1 m1 sz1 hp => ?_)
    obtain ⟨rfl, rfl, hz, hR1, hs⟩ := hp
    exact jcatch (k := 7) hF hET hr (by decide) (by decide) (by decide +kernel) (by decide +kernel) (by decide +kernel) ⟨Nat.le_of_ble_eq_true rfl, Nat.le_of_ble_eq_true rfl⟩ ⟨_, rfl, ⟨hz, fun _ _ => ⟨rfl, rfl⟩⟩, ⟨hR1, rfl, rfl, hz⟩, fun u => absurd u hc, fun _ => ⟨rfl, hs⟩⟩
set_option maxHeartbeats 4000000 in
set_option maxRecDepth 100000 in
theorem c_L_trueOf {l : Launch} {g : GP} (hG : GH g) (hl : l.stackTraces = false) (hTH : THW g) (hTN : TNS g) {kd : Int → Nat} {ln : Int → Int} {mem : Int → Int → Int} {sz : Nat} (hK : HK kd ln) (hR : HR mem) (p n : Int) (tg : Int → Int) (hI : INV kd ln mem sz tg) (h100 : kd 100 = 21 ∧ ln 100 = 1) (h_p : InI p) (h_n : InI n) : MTW l g yL_trueOf cL_trueOf 5 (some .int) [(0, 9, 12, 13)] 7 1 6 [(2, 3), (0, p), (0, n), (2, 100)] kd ln mem sz (pXR 0 (fun v kd' ln' mem' sz' => (HR mem' ∧ kd' = kd ∧ ln' = ln ∧ sz ≤ sz') ∧ ((isLn mem p n) → v = 0 ∧ ∃ m : Int → Int → Int, (m = mem) ∧ mem' = set2 m 100 0 (numT mem p n)) ∧ (¬ (isLn mem p n) → v = 1 ∧ SCF mem mem')) kd ln sz) := by
  refine MTW_of hG (by decide +kernel) (Nat.le_of_ble_eq_true rfl) (fun z hF hr hn hET => ?_)
  refine jblk hF [(.aload_n 3, 1), (.iconst 0, 1), (.aload_n 0, 1), (.iload_n 1, 1), (.iload_n 2, 1)] (by decide +kernel) (pc' := 5) (lo' := [(0, (2, 3)), (1, (0, p)), (2, (0, n)), (3, (2, 100))]) (st' := [(0, n), (0, p), (2, 3), (0, 0), (2, 100)]) rfl ?_
  by_cases hc : isLn mem p n
  · refine jcallV hF (c_X11_trueOf hG hK hR p n tg hI hc h_p h_n) MW_X11_trueOf 12 (by decide) hK.k3 wd_1407 wd_1408 wd_1409 (by decide +kernel) [(0, 0), (2, 100)] rfl rfl (by decide) (Nat.le_of_ble_eq_true rfl) ⟨Nat.le_of_ble_eq_true rfl, Nat.le_of_ble_eq_true rfl⟩ (kV ?_)
    refine jlast hF (by decide +kernel) (by decide) h100.1 (by decide) (by rw [h100.2]; decide) ?_
    refine jgoto hF (off := 7) 16 (by decide +kernel) (by decide) ?_
    refine jblk hF [(.iconst 0, 1)] (by decide +kernel) (pc' := 17) (lo' := [(0, (2, 3)), (1, (0, p)), (2, (0, n)), (3, (2, 100))]) (st' := [(0, 0)]) rfl ?_
    refine jwiden (k := 1) (n := 6) (Nat.le_of_ble_eq_true rfl) (Nat.le_of_ble_eq_true rfl) ?_
    refine jiret hF hr (by decide +kernel) ?_
    exact ⟨_, rfl, EXT.rf, ⟨HR.s hR (by omega), rfl, rfl, Nat.le_refl _⟩, fun _ => ⟨rfl, ⟨mem, rfl, rfl⟩⟩, fun u => absurd hc u⟩
  · refine jcallX hF (t_X11_trueOf hG hl hTH hK hR p n tg hI hc h_p h_n) MW_X11_trueOf 12 (by decide) hK.k3 wd_1407 wd_1408 wd_1409 (by decide +kernel) [(0, 0), (2, 100)] rfl rfl (by decide) (Nat.le_of_ble_eq_true rfl) ⟨Nat.le_of_ble_eq_true rfl, Nat.le_of_ble_eq_true rfl⟩ (fun _ _ _ _ _ u => u.elim) (fun kd1 ln1 m1 sz1 hp => ?_)
    obtain ⟨rfl, rfl, hz, hR1, hs⟩ := hp
    exact jcatch (k := 4) hF hET hr (by decide) (by decide) (by decide +kernel) (by decide +kernel) (by decide +kernel) ⟨Nat.le_of_ble_eq_true rfl, Nat.le_of_ble_eq_true rfl⟩ ⟨_, rfl, ⟨hz, fun _ _ => ⟨rfl, rfl⟩⟩, ⟨hR1, rfl, rfl, hz⟩, fun u => absurd u hc, fun _ => ⟨rfl, hs⟩⟩
set_option maxHeartbeats 4000000 in
set_option maxRecDepth 100000 in
theorem c_L_figure {l : Launch} {g : GP} (hG : GH g) (hl : l.stackTraces = false) (hTH : THW g) (hTN : TNS g) {kd : Int → Nat} {ln : Int → Int} {mem : Int → Int → Int} {sz : Nat} (hK : HK kd ln) (hR : HR mem) (p n c q : Int) (tg : Int → Int) (hI : INV kd ln mem sz tg) (h100 : kd 100 = 21 ∧ ln 100 = 1) (h_p : InI p) (h_n : InI n) (h_c : InI c) (h_q : InI q) : MTW l g yL_figure cL_figure 7 (some .int) [(0, 13, 16, 13)] 7 1 6 [(2, 3), (0, p), (0, n), (0, c), (0, q), (2, 100)] kd ln mem sz (pXR 0 (fun v kd' ln' mem' sz' => (HR mem' ∧ kd' = kd ∧ ln' = ln ∧ sz ≤ sz') ∧ ((figC mem p n c q) → v = 0 ∧ ∃ m : Int → Int → Int, (SCF mem m) ∧ mem' = set2 m 100 0 ((if c = 9 then numQ mem p n q else colQ mem p n c q))) ∧ (¬ (figC mem p n c q) → v = 1 ∧ SCF mem mem')) kd ln sz) := by
  refine MTW_of hG (by decide +kernel) (Nat.le_of_ble_eq_true rfl) (fun z hF hr hn hET => ?_)
  refine jblk hF [(.aload 5, 2), (.iconst 0, 1), (.aload_n 0, 1), (.iload_n 1, 1), (.iload_n 2, 1), (.iload_n 3, 1), (.iload 4, 2)] (by decide +kernel) (pc' := 9) (lo' := [(0, (2, 3)), (1, (0, p)), (2, (0, n)), (3, (0, c)), (4, (0, q)), (5, (2, 100))]) (st' := [(0, q), (0, c), (0, n), (0, p), (2, 3), (0, 0), (2, 100)]) rfl ?_
  by_cases hc : figC mem p n c q
  · refine jcallV hF (c_X11_figure hG hK hR p n c q tg hI hc h_p h_n h_c h_q) MW_X11_figure 12 (by decide) hK.k3 wd_1414 wd_1415 wd_1416 (by decide +kernel) [(0, 0), (2, 100)] rfl rfl (by decide) (Nat.le_of_ble_eq_true rfl) ⟨Nat.le_of_ble_eq_true rfl, Nat.le_of_ble_eq_true rfl⟩ (kMR (fun v m h => ?_))
    obtain ⟨hR1, hv, hm⟩ := h
    refine jlast hF (by decide +kernel) (by decide) h100.1 (by decide) (by rw [h100.2]; decide) ?_
    refine jgoto hF (off := 7) 20 (by decide +kernel) (by decide) ?_
    refine jblk hF [(.iconst 0, 1)] (by decide +kernel) (pc' := 21) (lo' := [(0, (2, 3)), (1, (0, p)), (2, (0, n)), (3, (0, c)), (4, (0, q)), (5, (2, 100))]) (st' := [(0, 0)]) rfl ?_
    refine jwiden (k := 1) (n := 6) (Nat.le_of_ble_eq_true rfl) (Nat.le_of_ble_eq_true rfl) ?_
    refine jiret hF hr (by decide +kernel) ?_
    exact ⟨_, rfl, EXT.rf, ⟨HR.s hR1 (by omega), rfl, rfl, Nat.le_refl _⟩, fun _ => ⟨rfl, ⟨m, hm, by rw [hv]⟩⟩, fun u => absurd hc u⟩
  · refine jcallX hF (t_X11_figure hG hl hTH hK hR p n c q tg hI hc h_p h_n h_c h_q) MW_X11_figure 12 (by decide) hK.k3 wd_1414 wd_1415 wd_1416 (by decide +kernel) [(0, 0), (2, 100)] rfl rfl (by decide) (Nat.le_of_ble_eq_true rfl) ⟨Nat.le_of_ble_eq_true rfl, Nat.le_of_ble_eq_true rfl⟩ (fun _ _ _ _ _ u => u.elim) (fun kd1 ln1 m1 sz1 hp => ?_)
    obtain ⟨rfl, rfl, hz, hR1, hs⟩ := hp
    exact jcatch (k := 6) hF hET hr (by decide) (by decide) (by decide +kernel) (by decide +kernel) (by decide +kernel) ⟨Nat.le_of_ble_eq_true rfl, Nat.le_of_ble_eq_true rfl⟩ ⟨_, rfl, ⟨hz, fun _ _ => ⟨rfl, rfl⟩⟩, ⟨hR1, rfl, rfl, hz⟩, fun u => absurd u hc, fun _ => ⟨rfl, hs⟩⟩
set_option maxHeartbeats 4000000 in
set_option maxRecDepth 100000 in
theorem c_L_kept {l : Launch} {g : GP} (hG : GH g) (hl : l.stackTraces = false) (hTH : THW g) (hTN : TNS g) {kd : Int → Nat} {ln : Int → Int} {mem : Int → Int → Int} {sz : Nat} (hK : HK kd ln) (hR : HR mem) (p n q : Int) (tg : Int → Int) (hI : INV kd ln mem sz tg) (h100 : kd 100 = 21 ∧ ln 100 = 1) (h_p : InI p) (h_n : InI n) (h_q : InI q) : MTW l g yL_kept cL_kept 6 (some .int) [(0, 11, 14, 13)] 7 1 6 [(2, 3), (0, p), (0, n), (0, q), (2, 100)] kd ln mem sz (pXR 0 (fun v kd' ln' mem' sz' => (HR mem' ∧ kd' = kd ∧ ln' = ln ∧ sz ≤ sz') ∧ ((isLn mem p n ∧ isKn mem q) → v = 0 ∧ ∃ m : Int → Int → Int, (SCF mem m) ∧ mem' = set2 m 100 0 (keptV mem p (numQ mem p n q))) ∧ (¬ (isLn mem p n ∧ isKn mem q) → v = 1 ∧ SCF mem mem')) kd ln sz) := by
  refine MTW_of hG (by decide +kernel) (Nat.le_of_ble_eq_true rfl) (fun z hF hr hn hET => ?_)
  refine jblk hF [(.aload 4, 2), (.iconst 0, 1), (.aload_n 0, 1), (.iload_n 1, 1), (.iload_n 2, 1), (.iload_n 3, 1)] (by decide +kernel) (pc' := 7) (lo' := [(0, (2, 3)), (1, (0, p)), (2, (0, n)), (3, (0, q)), (4, (2, 100))]) (st' := [(0, q), (0, n), (0, p), (2, 3), (0, 0), (2, 100)]) rfl ?_
  by_cases hc : isLn mem p n ∧ isKn mem q
  · refine jcallV hF (c_X11_kept hG hK hR p n q tg hI hTN hc h_p h_n h_q) MW_X11_kept 12 (by decide) hK.k3 wd_1425 wd_1426 wd_1427 (by decide +kernel) [(0, 0), (2, 100)] rfl rfl (by decide) (Nat.le_of_ble_eq_true rfl) ⟨Nat.le_of_ble_eq_true rfl, Nat.le_of_ble_eq_true rfl⟩ (kMR (fun v m h => ?_))
    obtain ⟨hR1, hv, hm⟩ := h
    refine jlast hF (by decide +kernel) (by decide) h100.1 (by decide) (by rw [h100.2]; decide) ?_
    refine jgoto hF (off := 7) 18 (by decide +kernel) (by decide) ?_
    refine jblk hF [(.iconst 0, 1)] (by decide +kernel) (pc' := 19) (lo' := [(0, (2, 3)), (1, (0, p)), (2, (0, n)), (3, (0, q)), (4, (2, 100))]) (st' := [(0, 0)]) rfl ?_
    refine jwiden (k := 1) (n := 6) (Nat.le_of_ble_eq_true rfl) (Nat.le_of_ble_eq_true rfl) ?_
    refine jiret hF hr (by decide +kernel) ?_
    exact ⟨_, rfl, EXT.rf, ⟨HR.s hR1 (by omega), rfl, rfl, Nat.le_refl _⟩, fun _ => ⟨rfl, ⟨m, hm, by rw [hv]⟩⟩, fun u => absurd hc u⟩
  · refine jcallX hF (t_X11_kept hG hl hTH hK hR p n q tg hI hc h_p h_n h_q) MW_X11_kept 12 (by decide) hK.k3 wd_1425 wd_1426 wd_1427 (by decide +kernel) [(0, 0), (2, 100)] rfl rfl (by decide) (Nat.le_of_ble_eq_true rfl) ⟨Nat.le_of_ble_eq_true rfl, Nat.le_of_ble_eq_true rfl⟩ (fun _ _ _ _ _ u => u.elim) (fun kd1 ln1 m1 sz1 hp => ?_)
    obtain ⟨rfl, rfl, hz, hR1, hs⟩ := hp
    exact jcatch (k := 5) hF hET hr (by decide) (by decide) (by decide +kernel) (by decide +kernel) (by decide +kernel) ⟨Nat.le_of_ble_eq_true rfl, Nat.le_of_ble_eq_true rfl⟩ ⟨_, rfl, ⟨hz, fun _ _ => ⟨rfl, rfl⟩⟩, ⟨hR1, rfl, rfl, hz⟩, fun u => absurd u hc, fun _ => ⟨rfl, hs⟩⟩
set_option maxHeartbeats 4000000 in
set_option maxRecDepth 100000 in
theorem c_L_right {l : Launch} {g : GP} (hG : GH g) (hl : l.stackTraces = false) (hTH : THW g) (hTN : TNS g) {kd : Int → Nat} {ln : Int → Int} {mem : Int → Int → Int} {sz : Nat} (hK : HK kd ln) (hR : HR mem) (p n : Int) (tg : Int → Int) (hI : INV kd ln mem sz tg) (h100 : kd 100 = 21 ∧ ln 100 = 1) (h_p : InI p) (h_n : InI n) : MTW l g yL_right cL_right 5 (some .int) [(0, 9, 12, 13)] 7 1 6 [(2, 3), (0, p), (0, n), (2, 100)] kd ln mem sz (pXR 0 (fun v kd' ln' mem' sz' => (HR mem' ∧ kd' = kd ∧ ln' = ln ∧ sz ≤ sz') ∧ ((isLn mem p n) → v = 0 ∧ ∃ m : Int → Int → Int, (m = mem) ∧ mem' = set2 m 100 0 (rightV mem p n)) ∧ (¬ (isLn mem p n) → v = 1 ∧ SCF mem mem')) kd ln sz) := by
  refine MTW_of hG (by decide +kernel) (Nat.le_of_ble_eq_true rfl) (fun z hF hr hn hET => ?_)
  refine jblk hF [(.aload_n 3, 1), (.iconst 0, 1), (.aload_n 0, 1), (.iload_n 1, 1), (.iload_n 2, 1)] (by decide +kernel) (pc' := 5) (lo' := [(0, (2, 3)), (1, (0, p)), (2, (0, n)), (3, (2, 100))]) (st' := [(0, n), (0, p), (2, 3), (0, 0), (2, 100)]) rfl ?_
  by_cases hc : isLn mem p n
  · refine jcallV hF (c_X11_right hG hK hR p n tg hI hc h_p h_n) MW_X11_right 12 (by decide) hK.k3 wd_1432 wd_1433 wd_1434 (by decide +kernel) [(0, 0), (2, 100)] rfl rfl (by decide) (Nat.le_of_ble_eq_true rfl) ⟨Nat.le_of_ble_eq_true rfl, Nat.le_of_ble_eq_true rfl⟩ (kV ?_)
    refine jlast hF (by decide +kernel) (by decide) h100.1 (by decide) (by rw [h100.2]; decide) ?_
    refine jgoto hF (off := 7) 16 (by decide +kernel) (by decide) ?_
    refine jblk hF [(.iconst 0, 1)] (by decide +kernel) (pc' := 17) (lo' := [(0, (2, 3)), (1, (0, p)), (2, (0, n)), (3, (2, 100))]) (st' := [(0, 0)]) rfl ?_
    refine jwiden (k := 1) (n := 6) (Nat.le_of_ble_eq_true rfl) (Nat.le_of_ble_eq_true rfl) ?_
    refine jiret hF hr (by decide +kernel) ?_
    exact ⟨_, rfl, EXT.rf, ⟨HR.s hR (by omega), rfl, rfl, Nat.le_refl _⟩, fun _ => ⟨rfl, ⟨mem, rfl, rfl⟩⟩, fun u => absurd hc u⟩
  · refine jcallX hF (t_X11_right hG hl hTH hK hR p n tg hI hc h_p h_n) MW_X11_right 12 (by decide) hK.k3 wd_1432 wd_1433 wd_1434 (by decide +kernel) [(0, 0), (2, 100)] rfl rfl (by decide) (Nat.le_of_ble_eq_true rfl) ⟨Nat.le_of_ble_eq_true rfl, Nat.le_of_ble_eq_true rfl⟩ (fun _ _ _ _ _ u => u.elim) (fun kd1 ln1 m1 sz1 hp => ?_)
    obtain ⟨rfl, rfl, hz, hR1, hs⟩ := hp
    exact jcatch (k := 4) hF hET hr (by decide) (by decide) (by decide +kernel) (by decide +kernel) (by decide +kernel) ⟨Nat.le_of_ble_eq_true rfl, Nat.le_of_ble_eq_true rfl⟩ ⟨_, rfl, ⟨hz, fun _ _ => ⟨rfl, rfl⟩⟩, ⟨hR1, rfl, rfl, hz⟩, fun u => absurd u hc, fun _ => ⟨rfl, hs⟩⟩
set_option maxHeartbeats 4000000 in
set_option maxRecDepth 100000 in
theorem c_L_stray {l : Launch} {g : GP} (hG : GH g) (hl : l.stackTraces = false) (hTH : THW g) (hTN : TNS g) {kd : Int → Nat} {ln : Int → Int} {mem : Int → Int → Int} {sz : Nat} (hK : HK kd ln) (hR : HR mem) (p n : Int) (tg : Int → Int) (hI : INV kd ln mem sz tg) (h100 : kd 100 = 21 ∧ ln 100 = 1) (h_p : InI p) (h_n : InI n) : MTW l g yL_stray cL_stray 5 (some .int) [(0, 9, 12, 13)] 7 1 6 [(2, 3), (0, p), (0, n), (2, 100)] kd ln mem sz (pXR 0 (fun v kd' ln' mem' sz' => (HR mem' ∧ kd' = kd ∧ ln' = ln ∧ sz ≤ sz') ∧ ((isLn mem p n) → v = 0 ∧ ∃ m : Int → Int → Int, (m = mem) ∧ mem' = set2 m 100 0 (numT mem p n - nearP mem p n)) ∧ (¬ (isLn mem p n) → v = 1 ∧ SCF mem mem')) kd ln sz) := by
  refine MTW_of hG (by decide +kernel) (Nat.le_of_ble_eq_true rfl) (fun z hF hr hn hET => ?_)
  refine jblk hF [(.aload_n 3, 1), (.iconst 0, 1), (.aload_n 0, 1), (.iload_n 1, 1), (.iload_n 2, 1)] (by decide +kernel) (pc' := 5) (lo' := [(0, (2, 3)), (1, (0, p)), (2, (0, n)), (3, (2, 100))]) (st' := [(0, n), (0, p), (2, 3), (0, 0), (2, 100)]) rfl ?_
  by_cases hc : isLn mem p n
  · refine jcallV hF (c_X11_stray hG hK hR p n tg hI hc h_p h_n) MW_X11_stray 12 (by decide) hK.k3 wd_1439 wd_1440 wd_1441 (by decide +kernel) [(0, 0), (2, 100)] rfl rfl (by decide) (Nat.le_of_ble_eq_true rfl) ⟨Nat.le_of_ble_eq_true rfl, Nat.le_of_ble_eq_true rfl⟩ (kV ?_)
    refine jlast hF (by decide +kernel) (by decide) h100.1 (by decide) (by rw [h100.2]; decide) ?_
    refine jgoto hF (off := 7) 16 (by decide +kernel) (by decide) ?_
    refine jblk hF [(.iconst 0, 1)] (by decide +kernel) (pc' := 17) (lo' := [(0, (2, 3)), (1, (0, p)), (2, (0, n)), (3, (2, 100))]) (st' := [(0, 0)]) rfl ?_
    refine jwiden (k := 1) (n := 6) (Nat.le_of_ble_eq_true rfl) (Nat.le_of_ble_eq_true rfl) ?_
    refine jiret hF hr (by decide +kernel) ?_
    exact ⟨_, rfl, EXT.rf, ⟨HR.s hR (by omega), rfl, rfl, Nat.le_refl _⟩, fun _ => ⟨rfl, ⟨mem, rfl, rfl⟩⟩, fun u => absurd hc u⟩
  · refine jcallX hF (t_X11_stray hG hl hTH hK hR p n tg hI hc h_p h_n) MW_X11_stray 12 (by decide) hK.k3 wd_1439 wd_1440 wd_1441 (by decide +kernel) [(0, 0), (2, 100)] rfl rfl (by decide) (Nat.le_of_ble_eq_true rfl) ⟨Nat.le_of_ble_eq_true rfl, Nat.le_of_ble_eq_true rfl⟩ (fun _ _ _ _ _ u => u.elim) (fun kd1 ln1 m1 sz1 hp => ?_)
    obtain ⟨rfl, rfl, hz, hR1, hs⟩ := hp
    exact jcatch (k := 4) hF hET hr (by decide) (by decide) (by decide +kernel) (by decide +kernel) (by decide +kernel) ⟨Nat.le_of_ble_eq_true rfl, Nat.le_of_ble_eq_true rfl⟩ ⟨_, rfl, ⟨hz, fun _ _ => ⟨rfl, rfl⟩⟩, ⟨hR1, rfl, rfl, hz⟩, fun u => absurd u hc, fun _ => ⟨rfl, hs⟩⟩
set_option maxHeartbeats 4000000 in
set_option maxRecDepth 100000 in
theorem c_L_printed {l : Launch} {g : GP} (hG : GH g) (hl : l.stackTraces = false) (hTH : THW g) (hTN : TNS g) {kd : Int → Nat} {ln : Int → Int} {mem : Int → Int → Int} {sz : Nat} (hK : HK kd ln) (hR : HR mem) (p n : Int) (tg : Int → Int) (hI : INV kd ln mem sz tg) (h100 : kd 100 = 21 ∧ ln 100 = 1) (h_p : InI p) (h_n : InI n) : MTW l g yL_printed cL_printed 5 (some .int) [(0, 9, 12, 13)] 7 1 6 [(2, 3), (0, p), (0, n), (2, 100)] kd ln mem sz (pXR 0 (fun v kd' ln' mem' sz' => (HR mem' ∧ kd' = kd ∧ ln' = ln ∧ sz ≤ sz') ∧ ((isLn mem p n ∧ mem 82 p = 1) → v = 0 ∧ ∃ m : Int → Int → Int, (m = mem) ∧ mem' = set2 m 100 0 (prtV mem p n)) ∧ (¬ (isLn mem p n ∧ mem 82 p = 1) → v = 1 ∧ SCF mem mem')) kd ln sz) := by
  refine MTW_of hG (by decide +kernel) (Nat.le_of_ble_eq_true rfl) (fun z hF hr hn hET => ?_)
  refine jblk hF [(.aload_n 3, 1), (.iconst 0, 1), (.aload_n 0, 1), (.iload_n 1, 1), (.iload_n 2, 1)] (by decide +kernel) (pc' := 5) (lo' := [(0, (2, 3)), (1, (0, p)), (2, (0, n)), (3, (2, 100))]) (st' := [(0, n), (0, p), (2, 3), (0, 0), (2, 100)]) rfl ?_
  by_cases hc : isLn mem p n ∧ mem 82 p = 1
  · refine jcallV hF (c_X11_printed hG hK hR p n tg hI hTN hc h_p h_n) MW_X11_printed 12 (by decide) hK.k3 wd_1446 wd_1447 wd_1448 (by decide +kernel) [(0, 0), (2, 100)] rfl rfl (by decide) (Nat.le_of_ble_eq_true rfl) ⟨Nat.le_of_ble_eq_true rfl, Nat.le_of_ble_eq_true rfl⟩ (kV ?_)
    refine jlast hF (by decide +kernel) (by decide) h100.1 (by decide) (by rw [h100.2]; decide) ?_
    refine jgoto hF (off := 7) 16 (by decide +kernel) (by decide) ?_
    refine jblk hF [(.iconst 0, 1)] (by decide +kernel) (pc' := 17) (lo' := [(0, (2, 3)), (1, (0, p)), (2, (0, n)), (3, (2, 100))]) (st' := [(0, 0)]) rfl ?_
    refine jwiden (k := 1) (n := 6) (Nat.le_of_ble_eq_true rfl) (Nat.le_of_ble_eq_true rfl) ?_
    refine jiret hF hr (by decide +kernel) ?_
    exact ⟨_, rfl, EXT.rf, ⟨HR.s hR (by omega), rfl, rfl, Nat.le_refl _⟩, fun _ => ⟨rfl, ⟨mem, rfl, rfl⟩⟩, fun u => absurd hc u⟩
  · refine jcallX hF (t_X11_printed hG hl hTH hK hR p n tg hI hc h_p h_n) MW_X11_printed 12 (by decide) hK.k3 wd_1446 wd_1447 wd_1448 (by decide +kernel) [(0, 0), (2, 100)] rfl rfl (by decide) (Nat.le_of_ble_eq_true rfl) ⟨Nat.le_of_ble_eq_true rfl, Nat.le_of_ble_eq_true rfl⟩ (fun _ _ _ _ _ u => u.elim) (fun kd1 ln1 m1 sz1 hp => ?_)
    obtain ⟨rfl, rfl, hz, hR1, hs⟩ := hp
    exact jcatch (k := 4) hF hET hr (by decide) (by decide) (by decide +kernel) (by decide +kernel) (by decide +kernel) ⟨Nat.le_of_ble_eq_true rfl, Nat.le_of_ble_eq_true rfl⟩ ⟨_, rfl, ⟨hz, fun _ _ => ⟨rfl, rfl⟩⟩, ⟨hR1, rfl, rfl, hz⟩, fun u => absurd u hc, fun _ => ⟨rfl, hs⟩⟩
set_option maxHeartbeats 4000000 in
set_option maxRecDepth 100000 in
theorem c_L_copied {l : Launch} {g : GP} (hG : GH g) (hl : l.stackTraces = false) (hTH : THW g) (hTN : TNS g) {kd : Int → Nat} {ln : Int → Int} {mem : Int → Int → Int} {sz : Nat} (hK : HK kd ln) (hR : HR mem) (c n : Int) (tg : Int → Int) (hI : INV kd ln mem sz tg) (h100 : kd 100 = 21 ∧ ln 100 = 1) (h_c : InI c) (h_n : InI n) : MTW l g yL_copied cL_copied 5 (some .int) [(0, 9, 12, 13)] 7 1 6 [(2, 3), (0, c), (0, n), (2, 100)] kd ln mem sz (pXR 0 (fun v kd' ln' mem' sz' => (HR mem' ∧ kd' = kd ∧ ln' = ln ∧ sz ≤ sz') ∧ ((isCp mem c ∧ 0 ≤ n ∧ n ≤ mem 47 (mem 88 c) - 1) → v = 0 ∧ ∃ m : Int → Int → Int, (m = mem) ∧ mem' = set2 m 100 0 (mem 89 (40 * c + n))) ∧ (¬ (isCp mem c ∧ 0 ≤ n ∧ n ≤ mem 47 (mem 88 c) - 1) → v = 1 ∧ SCF mem mem')) kd ln sz) := by
  refine MTW_of hG (by decide +kernel) (Nat.le_of_ble_eq_true rfl) (fun z hF hr hn hET => ?_)
  refine jblk hF [(.aload_n 3, 1), (.iconst 0, 1), (.aload_n 0, 1), (.iload_n 1, 1), (.iload_n 2, 1)] (by decide +kernel) (pc' := 5) (lo' := [(0, (2, 3)), (1, (0, c)), (2, (0, n)), (3, (2, 100))]) (st' := [(0, n), (0, c), (2, 3), (0, 0), (2, 100)]) rfl ?_
  by_cases hc : isCp mem c ∧ 0 ≤ n ∧ n ≤ mem 47 (mem 88 c) - 1
  · refine jcallV hF (c_X11_copied hG hK hR c n tg hI hc h_c h_n) MW_X11_copied 12 (by decide) hK.k3 wd_1453 wd_1454 wd_1455 (by decide +kernel) [(0, 0), (2, 100)] rfl rfl (by decide) (Nat.le_of_ble_eq_true rfl) ⟨Nat.le_of_ble_eq_true rfl, Nat.le_of_ble_eq_true rfl⟩ (kV ?_)
    refine jlast hF (by decide +kernel) (by decide) h100.1 (by decide) (by rw [h100.2]; decide) ?_
    refine jgoto hF (off := 7) 16 (by decide +kernel) (by decide) ?_
    refine jblk hF [(.iconst 0, 1)] (by decide +kernel) (pc' := 17) (lo' := [(0, (2, 3)), (1, (0, c)), (2, (0, n)), (3, (2, 100))]) (st' := [(0, 0)]) rfl ?_
    refine jwiden (k := 1) (n := 6) (Nat.le_of_ble_eq_true rfl) (Nat.le_of_ble_eq_true rfl) ?_
    refine jiret hF hr (by decide +kernel) ?_
    exact ⟨_, rfl, EXT.rf, ⟨HR.s hR (by omega), rfl, rfl, Nat.le_refl _⟩, fun _ => ⟨rfl, ⟨mem, rfl, rfl⟩⟩, fun u => absurd hc u⟩
  · refine jcallX hF (t_X11_copied hG hl hTH hK hR c n tg hI hc h_c h_n) MW_X11_copied 12 (by decide) hK.k3 wd_1453 wd_1454 wd_1455 (by decide +kernel) [(0, 0), (2, 100)] rfl rfl (by decide) (Nat.le_of_ble_eq_true rfl) ⟨Nat.le_of_ble_eq_true rfl, Nat.le_of_ble_eq_true rfl⟩ (fun _ _ _ _ _ u => u.elim) (fun kd1 ln1 m1 sz1 hp => ?_)
    obtain ⟨rfl, rfl, hz, hR1, hs⟩ := hp
    exact jcatch (k := 4) hF hET hr (by decide) (by decide) (by decide +kernel) (by decide +kernel) (by decide +kernel) ⟨Nat.le_of_ble_eq_true rfl, Nat.le_of_ble_eq_true rfl⟩ ⟨_, rfl, ⟨hz, fun _ _ => ⟨rfl, rfl⟩⟩, ⟨hR1, rfl, rfl, hz⟩, fun u => absurd u hc, fun _ => ⟨rfl, hs⟩⟩
end HELPS
