section THROWS
/-- thrown: the figures may have changed, cells lie on top -/
def PXF (kd : Int → Nat) (ln : Int → Int) (mem : Int → Int → Int) (sz : Nat) : PX := fun kd' ln' mem' sz' => kd' = kd ∧ ln' = ln ∧ sz ≤ sz' ∧ HR mem' ∧ SCF mem mem'
set_option maxHeartbeats 4000000 in
set_option maxRecDepth 100000 in
theorem t_X11_trueOf {l : Launch} {g : GP} (hG : GH g) (hl : l.stackTraces = false) (hTH : THW g) {kd : Int → Nat} {ln : Int → Int} {mem : Int → Int → Int} {sz : Nat} (hK : HK kd ln) (hR : HR mem) (p n : Int) (tg : Int → Int) (hI : INV kd ln mem sz tg) (hno : ¬ (isLn mem p n)) (h_p : InI p) (h_n : InI n) : MX l g yX11_trueOf cX11_trueOf 4 (some .long) 6 1 6 [(2, 3), (0, p), (0, n)] kd ln mem sz (fun _ _ _ _ _ => False) (PXF kd ln mem sz) := by
  refine MX_of hG (by decide +kernel) (Nat.le_of_ble_eq_true rfl) (fun z hF hr hn hET => ?_)
  obtain ⟨⟨q0, q1, q2, q3, q4, q5⟩, u0, u2, u46, u89, usz⟩ := hI.num
  have n29 : 0 ≤ mem 35 33 ∧ mem 35 33 ≤ 12 := ⟨hI.pgs.1, hI.pgs.2.1⟩
  obtain ⟨e29, k29, r29, b29, c29⟩ := hI.g29.ls
  refine jblk hF [(.aload_n 0, 1), (.iload_n 1, 1), (.iload_n 2, 1)] (by decide +kernel) (pc' := 3) (lo' := [(0, (2, 3)), (1, (0, p)), (2, (0, n))]) (st' := [(0, n), (0, p), (2, 3)]) rfl ?_
  refine jcallV hF (c_X11_pageWith hG hK hR p n (by exact tg) (by assumption) (by omega) (by omega)) MW_X11_pageWith 12 (by decide) (by exact hK.k3) wd_869 wd_871 wd_p25 (by decide +kernel) [] rfl rfl (by decide) (Nat.le_of_ble_eq_true rfl) (by decide) (kR (fun v_1 h_2 => ?_))
  have hv := h_2
  refine jblk hF [(.astore_n 3, 1), (.aload_n 3, 1)] (by decide +kernel) (pc' := 8) (lo' := [(3, (2, v_1)), (0, (2, 3)), (1, (0, p)), (2, (0, n))]) (st' := [(2, v_1)]) rfl ?_
  refine jnonnull hF (off := 11) 19 (by decide +kernel) (by decide) (fun h_3 => ?_) (fun h_3 => ?_)
  · exact absurd (hv.1 (by omega)).1 hno
  · exact jthrow hF hET hl hTH (by decide +kernel) (by decide +kernel) (by decide +kernel) (by decide +kernel) (by decide) (by decide) (fun sz' hz => ⟨rfl, rfl, hz, by assumption, by first | exact SCF.rf | exact hw.1⟩)
set_option maxHeartbeats 4000000 in
set_option maxRecDepth 100000 in
theorem t_X11_right {l : Launch} {g : GP} (hG : GH g) (hl : l.stackTraces = false) (hTH : THW g) {kd : Int → Nat} {ln : Int → Int} {mem : Int → Int → Int} {sz : Nat} (hK : HK kd ln) (hR : HR mem) (p n : Int) (tg : Int → Int) (hI : INV kd ln mem sz tg) (hno : ¬ (isLn mem p n)) (h_p : InI p) (h_n : InI n) : MX l g yX11_right cX11_right 4 (some .long) 6 1 6 [(2, 3), (0, p), (0, n)] kd ln mem sz (fun _ _ _ _ _ => False) (PXF kd ln mem sz) := by
  refine MX_of hG (by decide +kernel) (Nat.le_of_ble_eq_true rfl) (fun z hF hr hn hET => ?_)
  obtain ⟨⟨q0, q1, q2, q3, q4, q5⟩, u0, u2, u46, u89, usz⟩ := hI.num
  have n29 : 0 ≤ mem 35 33 ∧ mem 35 33 ≤ 12 := ⟨hI.pgs.1, hI.pgs.2.1⟩
  obtain ⟨e29, k29, r29, b29, c29⟩ := hI.g29.ls
  refine jblk hF [(.aload_n 0, 1), (.iload_n 1, 1), (.iload_n 2, 1)] (by decide +kernel) (pc' := 3) (lo' := [(0, (2, 3)), (1, (0, p)), (2, (0, n))]) (st' := [(0, n), (0, p), (2, 3)]) rfl ?_
  refine jcallV hF (c_X11_pageWith hG hK hR p n (by exact tg) (by assumption) (by omega) (by omega)) MW_X11_pageWith 12 (by decide) (by exact hK.k3) wd_869 wd_871 wd_p25 (by decide +kernel) [] rfl rfl (by decide) (Nat.le_of_ble_eq_true rfl) (by decide) (kR (fun v_1 h_2 => ?_))
  have hv := h_2
  refine jblk hF [(.astore_n 3, 1), (.aload_n 3, 1)] (by decide +kernel) (pc' := 8) (lo' := [(3, (2, v_1)), (0, (2, 3)), (1, (0, p)), (2, (0, n))]) (st' := [(2, v_1)]) rfl ?_
  refine jnonnull hF (off := 11) 19 (by decide +kernel) (by decide) (fun h_3 => ?_) (fun h_3 => ?_)
  · exact absurd (hv.1 (by omega)).1 hno
  · exact jthrow hF hET hl hTH (by decide +kernel) (by decide +kernel) (by decide +kernel) (by decide +kernel) (by decide) (by decide) (fun sz' hz => ⟨rfl, rfl, hz, by assumption, by first | exact SCF.rf | exact hw.1⟩)
set_option maxHeartbeats 4000000 in
set_option maxRecDepth 100000 in
theorem t_X11_stray {l : Launch} {g : GP} (hG : GH g) (hl : l.stackTraces = false) (hTH : THW g) {kd : Int → Nat} {ln : Int → Int} {mem : Int → Int → Int} {sz : Nat} (hK : HK kd ln) (hR : HR mem) (p n : Int) (tg : Int → Int) (hI : INV kd ln mem sz tg) (hno : ¬ (isLn mem p n)) (h_p : InI p) (h_n : InI n) : MX l g yX11_stray cX11_stray 4 (some .long) 6 1 6 [(2, 3), (0, p), (0, n)] kd ln mem sz (fun _ _ _ _ _ => False) (PXF kd ln mem sz) := by
  refine MX_of hG (by decide +kernel) (Nat.le_of_ble_eq_true rfl) (fun z hF hr hn hET => ?_)
  obtain ⟨⟨q0, q1, q2, q3, q4, q5⟩, u0, u2, u46, u89, usz⟩ := hI.num
  have n29 : 0 ≤ mem 35 33 ∧ mem 35 33 ≤ 12 := ⟨hI.pgs.1, hI.pgs.2.1⟩
  obtain ⟨e29, k29, r29, b29, c29⟩ := hI.g29.ls
  refine jblk hF [(.aload_n 0, 1), (.iload_n 1, 1), (.iload_n 2, 1)] (by decide +kernel) (pc' := 3) (lo' := [(0, (2, 3)), (1, (0, p)), (2, (0, n))]) (st' := [(0, n), (0, p), (2, 3)]) rfl ?_
  refine jcallV hF (c_X11_pageWith hG hK hR p n (by exact tg) (by assumption) (by omega) (by omega)) MW_X11_pageWith 12 (by decide) (by exact hK.k3) wd_869 wd_871 wd_p25 (by decide +kernel) [] rfl rfl (by decide) (Nat.le_of_ble_eq_true rfl) (by decide) (kR (fun v_1 h_2 => ?_))
  have hv := h_2
  refine jblk hF [(.astore_n 3, 1), (.aload_n 3, 1)] (by decide +kernel) (pc' := 8) (lo' := [(3, (2, v_1)), (0, (2, 3)), (1, (0, p)), (2, (0, n))]) (st' := [(2, v_1)]) rfl ?_
  refine jnonnull hF (off := 11) 19 (by decide +kernel) (by decide) (fun h_3 => ?_) (fun h_3 => ?_)
  · exact absurd (hv.1 (by omega)).1 hno
  · exact jthrow hF hET hl hTH (by decide +kernel) (by decide +kernel) (by decide +kernel) (by decide +kernel) (by decide) (by decide) (fun sz' hz => ⟨rfl, rfl, hz, by assumption, by first | exact SCF.rf | exact hw.1⟩)
set_option maxHeartbeats 4000000 in
set_option maxRecDepth 100000 in
theorem t_X11_printed {l : Launch} {g : GP} (hG : GH g) (hl : l.stackTraces = false) (hTH : THW g) {kd : Int → Nat} {ln : Int → Int} {mem : Int → Int → Int} {sz : Nat} (hK : HK kd ln) (hR : HR mem) (p n : Int) (tg : Int → Int) (hI : INV kd ln mem sz tg) (hno : ¬ (isLn mem p n ∧ mem 82 p = 1)) (h_p : InI p) (h_n : InI n) : MX l g yX11_printed cX11_printed 4 (some .long) 6 1 6 [(2, 3), (0, p), (0, n)] kd ln mem sz (fun _ _ _ _ _ => False) (PXF kd ln mem sz) := by
  refine MX_of hG (by decide +kernel) (Nat.le_of_ble_eq_true rfl) (fun z hF hr hn hET => ?_)
  obtain ⟨⟨q0, q1, q2, q3, q4, q5⟩, u0, u2, u46, u89, usz⟩ := hI.num
  have n29 : 0 ≤ mem 35 33 ∧ mem 35 33 ≤ 12 := ⟨hI.pgs.1, hI.pgs.2.1⟩
  obtain ⟨e29, k29, r29, b29, c29⟩ := hI.g29.ls
  refine jblk hF [(.aload_n 0, 1), (.iload_n 1, 1), (.iload_n 2, 1)] (by decide +kernel) (pc' := 3) (lo' := [(0, (2, 3)), (1, (0, p)), (2, (0, n))]) (st' := [(0, n), (0, p), (2, 3)]) rfl ?_
  refine jcallV hF (c_X11_plateWith hG hK hR p n (by exact tg) (by assumption) (by omega) (by omega)) MW_X11_plateWith 12 (by decide) (by exact hK.k3) wd_1135 wd_1137 wd_p37 (by decide +kernel) [] rfl rfl (by decide) (Nat.le_of_ble_eq_true rfl) (by decide) (kR (fun v_1 h_2 => ?_))
  have hv := h_2
  refine jblk hF [(.astore_n 3, 1), (.aload_n 3, 1)] (by decide +kernel) (pc' := 8) (lo' := [(3, (2, v_1)), (0, (2, 3)), (1, (0, p)), (2, (0, n))]) (st' := [(2, v_1)]) rfl ?_
  refine jnonnull hF (off := 11) 19 (by decide +kernel) (by decide) (fun h_3 => ?_) (fun h_3 => ?_)
  · exact absurd (hv.1 (by omega)).1 hno
  · exact jthrow hF hET hl hTH (by decide +kernel) (by decide +kernel) (by decide +kernel) (by decide +kernel) (by decide) (by decide) (fun sz' hz => ⟨rfl, rfl, hz, by assumption, by first | exact SCF.rf | exact hw.1⟩)
set_option maxHeartbeats 4000000 in
set_option maxRecDepth 100000 in
theorem t_X11_kept {l : Launch} {g : GP} (hG : GH g) (hl : l.stackTraces = false) (hTH : THW g) {kd : Int → Nat} {ln : Int → Int} {mem : Int → Int → Int} {sz : Nat} (hK : HK kd ln) (hR : HR mem) (p n q : Int) (tg : Int → Int) (hI : INV kd ln mem sz tg) (hno : ¬ (isLn mem p n ∧ isKn mem q)) (h_p : InI p) (h_n : InI n) (h_q : InI q) : MX l g yX11_kept cX11_kept 5 (some .long) 6 1 6 [(2, 3), (0, p), (0, n), (0, q)] kd ln mem sz (fun _ _ _ _ _ => False) (PXF kd ln mem sz) := by
  refine MX_of hG (by decide +kernel) (Nat.le_of_ble_eq_true rfl) (fun z hF hr hn hET => ?_)
  obtain ⟨⟨q0, q1, q2, q3, q4, q5⟩, u0, u2, u46, u89, usz⟩ := hI.num
  have n29 : 0 ≤ mem 35 33 ∧ mem 35 33 ≤ 12 := ⟨hI.pgs.1, hI.pgs.2.1⟩
  obtain ⟨e29, k29, r29, b29, c29⟩ := hI.g29.ls
  refine jblk hF [(.aload_n 0, 1), (.iload_n 1, 1), (.iload_n 2, 1), (.iload_n 3, 1)] (by decide +kernel) (pc' := 4) (lo' := [(0, (2, 3)), (1, (0, p)), (2, (0, n)), (3, (0, q))]) (st' := [(0, q), (0, n), (0, p), (2, 3)]) rfl ?_
  refine jcallV hF (c_X11_madeWith hG hK hR p n q (by exact tg) (by assumption) (by omega) (by omega) (by omega)) MW_X11_madeWith 12 (by decide) (by exact hK.k3) wd_936 wd_938 wd_p26 (by decide +kernel) [] rfl rfl (by decide) (Nat.le_of_ble_eq_true rfl) (by decide) (kMR (fun v_3 m_1 h_2 => ?_))
  obtain ⟨hR_m_1, h_2⟩ := h_2
  have hw := h_2
  refine jblk hF [(.astore 4, 2), (.aload 4, 2)] (by decide +kernel) (pc' := 11) (lo' := [(4, (2, v_3)), (0, (2, 3)), (1, (0, p)), (2, (0, n)), (3, (0, q))]) (st' := [(2, v_3)]) rfl ?_
  refine jnonnull hF (off := 11) 22 (by decide +kernel) (by decide) (fun h_4 => ?_) (fun h_4 => ?_)
  · exact absurd (hw.2.1 (by omega)).1 hno
  · exact jthrow hF hET hl hTH (by decide +kernel) (by decide +kernel) (by decide +kernel) (by decide +kernel) (by decide) (by decide) (fun sz' hz => ⟨rfl, rfl, hz, by assumption, by first | exact SCF.rf | exact hw.1⟩)
set_option maxHeartbeats 4000000 in
set_option maxRecDepth 100000 in
theorem t_X11_figure {l : Launch} {g : GP} (hG : GH g) (hl : l.stackTraces = false) (hTH : THW g) {kd : Int → Nat} {ln : Int → Int} {mem : Int → Int → Int} {sz : Nat} (hK : HK kd ln) (hR : HR mem) (p n c q : Int) (tg : Int → Int) (hI : INV kd ln mem sz tg) (hno : ¬ (figC mem p n c q)) (h_p : InI p) (h_n : InI n) (h_c : InI c) (h_q : InI q) : MX l g yX11_figure cX11_figure 6 (some .long) 6 1 6 [(2, 3), (0, p), (0, n), (0, c), (0, q)] kd ln mem sz (fun _ _ _ _ _ => False) (PXF kd ln mem sz) := by
  refine MX_of hG (by decide +kernel) (Nat.le_of_ble_eq_true rfl) (fun z hF hr hn hET => ?_)
  obtain ⟨⟨q0, q1, q2, q3, q4, q5⟩, u0, u2, u46, u89, usz⟩ := hI.num
  have n29 : 0 ≤ mem 35 33 ∧ mem 35 33 ≤ 12 := ⟨hI.pgs.1, hI.pgs.2.1⟩
  obtain ⟨e29, k29, r29, b29, c29⟩ := hI.g29.ls
  refine jblk hF [(.aload_n 0, 1), (.iload_n 1, 1), (.iload_n 2, 1), (.iload 4, 2)] (by decide +kernel) (pc' := 5) (lo' := [(0, (2, 3)), (1, (0, p)), (2, (0, n)), (3, (0, c)), (4, (0, q))]) (st' := [(0, q), (0, n), (0, p), (2, 3)]) rfl ?_
  refine jcallV hF (c_X11_madeWith hG hK hR p n q (by exact tg) (by assumption) (by omega) (by omega) (by omega)) MW_X11_madeWith 12 (by decide) (by exact hK.k3) wd_936 wd_938 wd_p26 (by decide +kernel) [] rfl rfl (by decide) (Nat.le_of_ble_eq_true rfl) (by decide) (kMR (fun v_3 m_1 h_2 => ?_))
  obtain ⟨hR_m_1, h_2⟩ := h_2
  have hw := h_2
  have hIm := hI.scf hw.1
  refine jblk hF [(.astore 5, 2), (.aload 5, 2)] (by decide +kernel) (pc' := 12) (lo' := [(5, (2, v_3)), (0, (2, 3)), (1, (0, p)), (2, (0, n)), (3, (0, c)), (4, (0, q))]) (st' := [(2, v_3)]) rfl ?_
  refine jnull hF (off := 13) 25 (by decide +kernel) (by decide) (fun h_4 => ?_) (fun h_4 => ?_)
  · exact jthrow hF hET hl hTH (by decide +kernel) (by decide +kernel) (by decide +kernel) (by decide +kernel) (by decide) (by decide) (fun sz' hz => ⟨rfl, rfl, hz, by assumption, by first | exact SCF.rf | exact hw.1⟩)
  · obtain ⟨hpg, hpo, hmd⟩ := hw.2.1 (by omega)
    have hk := hpo.at
    have hpm := hpo.scf hw.1 hI
    have hpb := hpm.pb
    have hgn := hpm.nm
    have hn2 := hgn.2.2.1
    have hn4 := hgn.2.2.2.2.1
    have hn7 := hgn.2.2.2.2.2.2.2.1
    have hc47 := hw.1.c47 p
    have hc49 := hw.1.c49 p
    have hc52 := hw.1.c52 p
    have hmo : n % m_1 v_3 7 = n % mem 52 p := by rw [hn7, hc52]
    refine jblk hF [(.aload 5, 2), (.iload_n 2, 1), (.iload_n 3, 1)] (by decide +kernel) (pc' := 19) (lo' := [(5, (2, v_3)), (0, (2, 3)), (1, (0, p)), (2, (0, n)), (3, (0, c)), (4, (0, q))]) (st' := [(0, c), (0, n), (2, v_3)]) rfl ?_
    refine jcallV hF (c_X3_hasColumn hG v_3 n c (by exact hk.1) (by omega) (by assumption) (by omega) (by omega)) MW_X3_hasColumn 4 (by decide) (by first | assumption | omega) wd_1418 wd_1419 wd_1420 (by decide +kernel) [] rfl rfl (by decide) (Nat.le_of_ble_eq_true rfl) (by decide) (kB (fun h_5 => ?_) (fun h_5 => ?_))
    · refine jif_ne hF (off := 11) 33 (by decide +kernel) (by decide) (by decide) (fun _ => ?_) (fun h => absurd h (by decide))
      exact absurd ⟨hpg.1, hpg.2, by omega⟩ hno
    · refine jif_ne hF (off := 11) 33 (by decide +kernel) (by decide) (by decide) (fun h => absurd h (by decide)) (fun _ => ?_)
      exact jthrow hF hET hl hTH (by decide +kernel) (by decide +kernel) (by decide +kernel) (by decide +kernel) (by decide) (by decide) (fun sz' hz => ⟨rfl, rfl, hz, by assumption, by first | exact SCF.rf | exact hw.1⟩)
set_option maxHeartbeats 4000000 in
set_option maxRecDepth 100000 in
theorem t_X11_worth {l : Launch} {g : GP} (hG : GH g) (hl : l.stackTraces = false) (hTH : THW g) {kd : Int → Nat} {ln : Int → Int} {mem : Int → Int → Int} {sz : Nat} (hK : HK kd ln) (hR : HR mem) (t lab n b x : Int) (tg : Int → Int) (hI : INV kd ln mem sz tg) (hno : ¬ ((0 ≤ t ∧ t ≤ mem 35 16 - 1) ∧ isLb lab)) (h_t : InI t) (h_lab : InI lab) (h_n : InI n) (h_b : InI b) (h_x : InI x) : MX l g yX11_worth cX11_worth 7 (some .int) 6 1 6 [(2, 3), (0, t), (0, lab), (0, n), (0, b), (0, x)] kd ln mem sz (fun _ _ _ _ _ => False) (PXF kd ln mem sz) := by
  refine MX_of hG (by decide +kernel) (Nat.le_of_ble_eq_true rfl) (fun z hF hr hn hET => ?_)
  obtain ⟨⟨q0, q1, q2, q3, q4, q5⟩, u0, u2, u46, u89, usz⟩ := hI.num
  have n28 : 0 ≤ mem 35 16 ∧ mem 35 16 ≤ 12 := ⟨hI.pls.1, hI.pls.2⟩
  obtain ⟨e28, k28, r28, b28, c28⟩ := hI.g28.ls
  refine jblk hF [(.aload_n 0, 1), (.iload_n 1, 1)] (by decide +kernel) (pc' := 2) (lo' := [(0, (2, 3)), (1, (0, t)), (2, (0, lab)), (3, (0, n)), (4, (0, b)), (5, (0, x))]) (st' := [(0, t), (2, 3)]) rfl ?_
  refine jcallV hF (c_X11_planAt hG hK hR t (by exact tg) (by assumption) (by omega)) MW_X11_planAt 12 (by decide) (by exact hK.k3) wd_684 wd_686 wd_p20 (by decide +kernel) [] rfl rfl (by decide) (Nat.le_of_ble_eq_true rfl) (by decide) (kR (fun v_1 h_2 => ?_))
  have hv := h_2
  refine jblk hF [(.astore 6, 2), (.aload 6, 2)] (by decide +kernel) (pc' := 9) (lo' := [(6, (2, v_1)), (0, (2, 3)), (1, (0, t)), (2, (0, lab)), (3, (0, n)), (4, (0, b)), (5, (0, x))]) (st' := [(2, v_1)]) rfl ?_
  refine jnull hF (off := 10) 19 (by decide +kernel) (by decide) (fun h_3 => ?_) (fun h_3 => ?_)
  · exact jthrow hF hET hl hTH (by decide +kernel) (by decide +kernel) (by decide +kernel) (by decide +kernel) (by decide) (by decide) (fun sz' hz => ⟨rfl, rfl, hz, by assumption, by first | exact SCF.rf | exact hw.1⟩)
  · refine jblk hF [(.iload_n 2, 1)] (by decide +kernel) (pc' := 13) (lo' := [(6, (2, v_1)), (0, (2, 3)), (1, (0, t)), (2, (0, lab)), (3, (0, n)), (4, (0, b)), (5, (0, x))]) (st' := [(0, lab)]) rfl ?_
    refine jcallS hF (c_X11_isLabel hG lab (by omega)) MW_X11_isLabel wd_1341 wd_585 (by decide +kernel) [] rfl rfl (by decide) (Nat.le_of_ble_eq_true rfl) (by decide) (kB (fun h_4 => ?_) (fun h_4 => ?_))
    · refine jif_ne hF (off := 11) 27 (by decide +kernel) (by decide) (by decide) (fun _ => ?_) (fun h => absurd h (by decide))
      exact absurd ⟨(hv.1 (by omega)).1, by assumption⟩ hno
    · refine jif_ne hF (off := 11) 27 (by decide +kernel) (by decide) (by decide) (fun h => absurd h (by decide)) (fun _ => ?_)
      exact jthrow hF hET hl hTH (by decide +kernel) (by decide +kernel) (by decide +kernel) (by decide +kernel) (by decide) (by decide) (fun sz' hz => ⟨rfl, rfl, hz, by assumption, by first | exact SCF.rf | exact hw.1⟩)
set_option maxHeartbeats 4000000 in
set_option maxRecDepth 100000 in
theorem t_X11_copied {l : Launch} {g : GP} (hG : GH g) (hl : l.stackTraces = false) (hTH : THW g) {kd : Int → Nat} {ln : Int → Int} {mem : Int → Int → Int} {sz : Nat} (hK : HK kd ln) (hR : HR mem) (c n : Int) (tg : Int → Int) (hI : INV kd ln mem sz tg) (hno : ¬ (isCp mem c ∧ 0 ≤ n ∧ n ≤ mem 47 (mem 88 c) - 1)) (h_c : InI c) (h_n : InI n) : MX l g yX11_copied cX11_copied 3 (some .long) 6 1 6 [(2, 3), (0, c), (0, n)] kd ln mem sz (fun _ _ _ _ _ => False) (PXF kd ln mem sz) := by
  refine MX_of hG (by decide +kernel) (Nat.le_of_ble_eq_true rfl) (fun z hF hr hn hET => ?_)
  obtain ⟨⟨q0, q1, q2, q3, q4, q5⟩, u0, u2, u46, u89, usz⟩ := hI.num
  have n31 : 0 ≤ mem 35 79 ∧ mem 35 79 ≤ 8 := ⟨hI.cps.1, hI.cps.2.1⟩
  have n29 : 0 ≤ mem 35 33 ∧ mem 35 33 ≤ 12 := ⟨hI.pgs.1, hI.pgs.2.1⟩
  obtain ⟨e31, k31, r31, b31, c31⟩ := hI.g31.ls
  obtain ⟨e29, k29, r29, b29, c29⟩ := hI.g29.ls
  refine jblk hF [(.iload_n 1, 1), (.iconst 0, 1), (.aload_n 0, 1)] (by decide +kernel) (pc' := 3) (lo' := [(0, (2, 3)), (1, (0, c)), (2, (0, n))]) (st' := [(2, 3), (0, 0), (0, c)]) rfl ?_
  refine jget hF 12 16 2 16 rfl (by decide) (by decide) rfl wd_342 (by decide +kernel) (by exact hK.k3) ?_
  rw [HR.r3_16 hR]
  refine jcallV hF (c_Jx4a65c_size_8abf5 hG 31 (by first | assumption | omega)) MW_Jx4a65c_size_8abf5 0 (by decide) (by exact hK.k31) wd_410 wd_411 wd_412 (by decide +kernel) [(0, 0), (0, c)] rfl rfl (by decide) (Nat.le_of_ble_eq_true rfl) (by decide) (kV ?_)
  rw [e31]
  refine jblk hF [(.iconst 1, 1), (.isub, 1)] (by decide +kernel) (pc' := 11) (lo' := [(0, (2, 3)), (1, (0, c)), (2, (0, n))]) (st' := [(0, (mem 35 79) - 1), (0, 0), (0, c)]) rfl ?_
  refine jcallS hF (c_X11_within hG c 0 ((mem 35 79) - 1) (by omega) (by decide) (by omega)) MW_X11_within wd_391 wd_392 (by decide +kernel) [] rfl rfl (by decide) (Nat.le_of_ble_eq_true rfl) (by decide) (kB (fun h_1 => ?_) (fun h_1 => ?_))
  · refine jif_eq hF (off := 25) 39 (by decide +kernel) (by decide) (by decide) (fun h => absurd h (by decide)) (fun _ => ?_)
    refine jblk hF [(.aload_n 0, 1), (.aload_n 0, 1)] (by decide +kernel) (pc' := 19) (lo' := [(0, (2, 3)), (1, (0, c)), (2, (0, n))]) (st' := [(2, 3), (2, 3)]) rfl ?_
    refine jget hF 12 16 2 16 rfl (by decide) (by decide) rfl wd_342 (by decide +kernel) (by exact hK.k3) ?_
    rw [HR.r3_16 hR]
    refine jblk hF [(.iload_n 1, 1)] (by decide +kernel) (pc' := 23) (lo' := [(0, (2, 3)), (1, (0, c)), (2, (0, n))]) (st' := [(0, c), (2, 31), (2, 3)]) rfl ?_
    refine jcallV hF (c_Jx4a65c_get_915e3 hG 31 c (by first | assumption | omega) (by first | assumption | omega) (by omega)) MW_Jx4a65c_get_915e3 0 (by decide) (by exact hK.k31) wd_498 wd_499 wd_500 (by decide +kernel) [(2, 3)] rfl rfl (by decide) (Nat.le_of_ble_eq_true rfl) (by decide) (kV ?_)
    obtain ⟨cc, hcc⟩ : ∃ y : Int, y = mem (mem 31 1) c := ⟨_, rfl⟩
    have hob := hI.cop (c := c) (by omega) (by omega)
    rw [← hcc] at hob
    rw [← hcc]
    have hk := hob.1
    have ho := hob.2.1.1
    obtain ⟨o1, o2, o3⟩ := hob.2.2
    have hcp := hI.cps.2.2 c (by omega) (by omega)
    have hpgc := hI.pgs.2.2 (mem 88 c) (by omega) (by omega)
    refine jcast hF 10 (by decide) wd_1164 (by decide +kernel) (by first | exact hk | assumption | omega) ?_
    refine jget hF 10 0 0 0 rfl (by decide) (by decide) rfl wd_1171 (by decide +kernel) (by first | exact hk | assumption | omega) ?_
    rw [o1]
    refine jblk hF [(.iload_n 2, 1)] (by decide +kernel) (pc' := 33) (lo' := [(0, (2, 3)), (1, (0, c)), (2, (0, n))]) (st' := [(0, n), (0, mem 88 c), (2, 3)]) rfl ?_
    refine jcallV hF (c_X11_pageWith hG hK hR (mem 88 c) n (by exact tg) (by assumption) (by omega) (by omega)) MW_X11_pageWith 12 (by decide) (by exact hK.k3) wd_869 wd_871 wd_p25 (by decide +kernel) [] rfl rfl (by decide) (Nat.le_of_ble_eq_true rfl) (by decide) (kR (fun v_3 h_4 => ?_))
    have hv := h_4
    refine jnonnull hF (off := 11) 47 (by decide +kernel) (by decide) (fun h_5 => ?_) (fun h_5 => ?_)
    · exact absurd ⟨by omega, (hv.1 (by omega)).1.2⟩ hno
    · exact jthrow hF hET hl hTH (by decide +kernel) (by decide +kernel) (by decide +kernel) (by decide +kernel) (by decide) (by decide) (fun sz' hz => ⟨rfl, rfl, hz, by assumption, by first | exact SCF.rf | exact hw.1⟩)
  · refine jif_eq hF (off := 25) 39 (by decide +kernel) (by decide) (by decide) (fun _ => ?_) (fun h => absurd h (by decide))
    exact jthrow hF hET hl hTH (by decide +kernel) (by decide +kernel) (by decide +kernel) (by decide +kernel) (by decide) (by decide) (fun sz' hz => ⟨rfl, rfl, hz, by assumption, by first | exact SCF.rf | exact hw.1⟩)
end THROWS
